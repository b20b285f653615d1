section
-- ===== PART A: goes FIRST, ahead of the names: the tables' words, and 'selects' of the private methods out of them =====
/-- a private method of a class that the tables say can be made, by its rows of tables_1 -/
def lw_okq (q : MethodName × Nat) : Prop := (q.1.cls ≠ "java/lang/invoke/MethodHandle" ∧ q.1.cls ≠ "java/lang/invoke/VarHandle") ∧ Cond.instantiable q.1.cls q.2 ∈ tables_1 ∧ Cond.privateMethod q.1 ∈ tables_1 ∧ Cond.instanceMethod q.1 ∈ tables_1
theorem lw_p0 : lw_okq (⟨"RunLaws$Facts", "begin", "(II)V"⟩, 13) := ⟨⟨by decide, by decide⟩, List.mem_append_left _ (List.mem_of_getElem? (i := 164) rfl), List.mem_append_right _ (List.mem_append_left _ (List.mem_of_getElem? (i := 65) rfl)), List.mem_append_right _ (List.mem_append_left _ (List.mem_of_getElem? (i := 66) rfl))⟩
theorem lw_p1 : lw_okq (⟨"RunLaws$Facts", "goOn", "(II)V"⟩, 13) := ⟨⟨by decide, by decide⟩, List.mem_append_left _ (List.mem_of_getElem? (i := 164) rfl), List.mem_append_right _ (List.mem_append_left _ (List.mem_of_getElem? (i := 69) rfl)), List.mem_append_right _ (List.mem_append_left _ (List.mem_of_getElem? (i := 70) rfl))⟩
theorem lw_p2 : lw_okq (⟨"RunLaws$Facts", "noteNumber", "(II)V"⟩, 13) := ⟨⟨by decide, by decide⟩, List.mem_append_left _ (List.mem_of_getElem? (i := 164) rfl), List.mem_append_right _ (List.mem_append_left _ (List.mem_of_getElem? (i := 85) rfl)), List.mem_append_right _ (List.mem_append_left _ (List.mem_of_getElem? (i := 86) rfl))⟩
theorem lw_p3 : lw_okq (⟨"RunLaws$Facts", "isAmongFew", "(II)Z"⟩, 13) := ⟨⟨by decide, by decide⟩, List.mem_append_left _ (List.mem_of_getElem? (i := 164) rfl), List.mem_append_right _ (List.mem_append_left _ (List.mem_of_getElem? (i := 89) rfl)), List.mem_append_right _ (List.mem_append_left _ (List.mem_of_getElem? (i := 90) rfl))⟩
theorem lw_p4 : lw_okq (⟨"RunLaws$Table", "clearPlace", "([J[JI)V"⟩, 6) := ⟨⟨by decide, by decide⟩, List.mem_append_left _ (List.mem_of_getElem? (i := 170) rfl), List.mem_append_right _ (List.mem_append_left _ (List.mem_of_getElem? (i := 100) rfl)), List.mem_append_right _ (List.mem_append_left _ (List.mem_of_getElem? (i := 101) rfl))⟩
theorem lw_p5 : lw_okq (⟨"RunLaws$Table", "shorten", "([J)V"⟩, 6) := ⟨⟨by decide, by decide⟩, List.mem_append_left _ (List.mem_of_getElem? (i := 170) rfl), List.mem_append_right _ (List.mem_append_left _ (List.mem_of_getElem? (i := 104) rfl)), List.mem_append_right _ (List.mem_append_left _ (List.mem_of_getElem? (i := 105) rfl))⟩
theorem lw_p6 : lw_okq (⟨"RunLaws$Table", "leadOf", "([J)I"⟩, 6) := ⟨⟨by decide, by decide⟩, List.mem_append_left _ (List.mem_of_getElem? (i := 170) rfl), List.mem_append_right _ (List.mem_append_left _ (List.mem_of_getElem? (i := 109) rfl)), List.mem_append_right _ (List.mem_append_left _ (List.mem_of_getElem? (i := 110) rfl))⟩
theorem lw_p7 : lw_okq (⟨"RunLaws$Table", "insertFresh", "(I)I"⟩, 6) := ⟨⟨by decide, by decide⟩, List.mem_append_left _ (List.mem_of_getElem? (i := 170) rfl), List.mem_append_right _ (List.mem_append_left _ (List.mem_of_getElem? (i := 113) rfl)), List.mem_append_right _ (List.mem_append_left _ (List.mem_of_getElem? (i := 114) rfl))⟩
theorem lw_p8 : lw_okq (⟨"RunLaws", "takeReading", "(LRunLaws$Point;[I)I"⟩, 7) := ⟨⟨by decide, by decide⟩, List.mem_append_left _ (List.mem_of_getElem? (i := 12) rfl), List.mem_append_right _ (List.mem_append_left _ (List.mem_of_getElem? (i := 127) rfl)), List.mem_append_right _ (List.mem_append_left _ (List.mem_of_getElem? (i := 128) rfl))⟩
theorem lw_p9 : lw_okq (⟨"RunLaws$Facts", "isTold", "(III)Z"⟩, 13) := ⟨⟨by decide, by decide⟩, List.mem_append_left _ (List.mem_of_getElem? (i := 164) rfl), List.mem_append_right _ (List.mem_append_left _ (List.mem_of_getElem? (i := 139) rfl)), List.mem_append_right _ (List.mem_append_left _ (List.mem_of_getElem? (i := 140) rfl))⟩
theorem lw_p10 : lw_okq (⟨"RunLaws", "noteDead", "(ILRunLaws$Facts;I)V"⟩, 7) := ⟨⟨by decide, by decide⟩, List.mem_append_left _ (List.mem_of_getElem? (i := 12) rfl), List.mem_append_right _ (List.mem_append_left _ (List.mem_of_getElem? (i := 161) rfl)), List.mem_append_right _ (List.mem_append_left _ (List.mem_of_getElem? (i := 162) rfl))⟩
theorem lw_p11 : lw_okq (⟨"RunLaws$Table", "freePlace", "(I)I"⟩, 6) := ⟨⟨by decide, by decide⟩, List.mem_append_left _ (List.mem_of_getElem? (i := 170) rfl), List.mem_append_right _ (List.mem_append_right _ (List.mem_append_left _ (List.mem_of_getElem? (i := 9) rfl))), List.mem_append_right _ (List.mem_append_right _ (List.mem_append_left _ (List.mem_of_getElem? (i := 10) rfl)))⟩
theorem lw_p12 : lw_okq (⟨"RunLaws$Table", "shortLead", "(II)J"⟩, 6) := ⟨⟨by decide, by decide⟩, List.mem_append_left _ (List.mem_of_getElem? (i := 170) rfl), List.mem_append_right _ (List.mem_append_right _ (List.mem_append_left _ (List.mem_of_getElem? (i := 13) rfl))), List.mem_append_right _ (List.mem_append_right _ (List.mem_append_left _ (List.mem_of_getElem? (i := 14) rfl)))⟩
theorem lw_p13 : lw_okq (⟨"RunLaws$Search", "goThrough", "(II)Z"⟩, 14) := ⟨⟨by decide, by decide⟩, List.mem_append_left _ (List.mem_of_getElem? (i := 63) rfl), List.mem_append_right _ (List.mem_append_right _ (List.mem_append_left _ (List.mem_of_getElem? (i := 133) rfl))), List.mem_append_right _ (List.mem_append_right _ (List.mem_append_left _ (List.mem_of_getElem? (i := 134) rfl)))⟩
theorem lw_p14 : lw_okq (⟨"RunLaws$Search", "breaksAt", "(I)Z"⟩, 14) := ⟨⟨by decide, by decide⟩, List.mem_append_left _ (List.mem_of_getElem? (i := 63) rfl), List.mem_append_right _ (List.mem_append_right _ (List.mem_append_left _ (List.mem_of_getElem? (i := 137) rfl))), List.mem_append_right _ (List.mem_append_right _ (List.mem_append_left _ (List.mem_of_getElem? (i := 138) rfl)))⟩
theorem lw_p15 : lw_okq (⟨"RunLaws$Search", "noteFound", "(IIII)V"⟩, 14) := ⟨⟨by decide, by decide⟩, List.mem_append_left _ (List.mem_of_getElem? (i := 63) rfl), List.mem_append_right _ (List.mem_append_right _ (List.mem_append_left _ (List.mem_of_getElem? (i := 148) rfl))), List.mem_append_right _ (List.mem_append_right _ (List.mem_append_left _ (List.mem_of_getElem? (i := 149) rfl)))⟩
def lw_privs_1 : List (MethodName × Nat) := [(⟨"RunLaws$Facts", "begin", "(II)V"⟩, 13), (⟨"RunLaws$Facts", "goOn", "(II)V"⟩, 13), (⟨"RunLaws$Facts", "noteNumber", "(II)V"⟩, 13), (⟨"RunLaws$Facts", "isAmongFew", "(II)Z"⟩, 13), (⟨"RunLaws$Table", "clearPlace", "([J[JI)V"⟩, 6), (⟨"RunLaws$Table", "shorten", "([J)V"⟩, 6), (⟨"RunLaws$Table", "leadOf", "([J)I"⟩, 6), (⟨"RunLaws$Table", "insertFresh", "(I)I"⟩, 6), (⟨"RunLaws", "takeReading", "(LRunLaws$Point;[I)I"⟩, 7), (⟨"RunLaws$Facts", "isTold", "(III)Z"⟩, 13), (⟨"RunLaws", "noteDead", "(ILRunLaws$Facts;I)V"⟩, 7), (⟨"RunLaws$Table", "freePlace", "(I)I"⟩, 6), (⟨"RunLaws$Table", "shortLead", "(II)J"⟩, 6), (⟨"RunLaws$Search", "goThrough", "(II)Z"⟩, 14), (⟨"RunLaws$Search", "breaksAt", "(I)Z"⟩, 14), (⟨"RunLaws$Search", "noteFound", "(IIII)V"⟩, 14)]
theorem lw_r1 : ∀ q ∈ lw_privs_1, lw_okq q := List.forall_mem_cons.mpr ⟨lw_p0, List.forall_mem_cons.mpr ⟨lw_p1, List.forall_mem_cons.mpr ⟨lw_p2, List.forall_mem_cons.mpr ⟨lw_p3, List.forall_mem_cons.mpr ⟨lw_p4, List.forall_mem_cons.mpr ⟨lw_p5, List.forall_mem_cons.mpr ⟨lw_p6, List.forall_mem_cons.mpr ⟨lw_p7, List.forall_mem_cons.mpr ⟨lw_p8, List.forall_mem_cons.mpr ⟨lw_p9, List.forall_mem_cons.mpr ⟨lw_p10, List.forall_mem_cons.mpr ⟨lw_p11, List.forall_mem_cons.mpr ⟨lw_p12, List.forall_mem_cons.mpr ⟨lw_p13, List.forall_mem_cons.mpr ⟨lw_p14, List.forall_mem_cons.mpr ⟨lw_p15, fun _ h => absurd h List.not_mem_nil⟩⟩⟩⟩⟩⟩⟩⟩⟩⟩⟩⟩⟩⟩⟩⟩
theorem lw_p16 : lw_okq (⟨"RunLaws$Search", "keyOf", "(II)I"⟩, 14) := ⟨⟨by decide, by decide⟩, List.mem_append_left _ (List.mem_of_getElem? (i := 63) rfl), List.mem_append_right _ (List.mem_append_right _ (List.mem_append_left _ (List.mem_of_getElem? (i := 152) rfl))), List.mem_append_right _ (List.mem_append_right _ (List.mem_append_left _ (List.mem_of_getElem? (i := 153) rfl)))⟩
theorem lw_p17 : lw_okq (⟨"RunLawsModel", "noVariable", "(II)Z"⟩, 47) := ⟨⟨by decide, by decide⟩, List.mem_append_right _ (List.mem_append_right _ (List.mem_append_left _ (List.mem_of_getElem? (i := 198) rfl))), List.mem_append_right _ (List.mem_append_right _ (List.mem_append_right _ (List.mem_append_left _ (List.mem_of_getElem? (i := 117) rfl)))), List.mem_append_right _ (List.mem_append_right _ (List.mem_append_right _ (List.mem_append_left _ (List.mem_of_getElem? (i := 118) rfl))))⟩
theorem lw_p18 : lw_okq (⟨"RunLawsModel", "noPoint", "(I)Z"⟩, 47) := ⟨⟨by decide, by decide⟩, List.mem_append_right _ (List.mem_append_right _ (List.mem_append_left _ (List.mem_of_getElem? (i := 198) rfl))), List.mem_append_right _ (List.mem_append_right _ (List.mem_append_right _ (List.mem_append_left _ (List.mem_of_getElem? (i := 121) rfl)))), List.mem_append_right _ (List.mem_append_right _ (List.mem_append_right _ (List.mem_append_left _ (List.mem_of_getElem? (i := 122) rfl))))⟩
theorem lw_p19 : lw_okq (⟨"RunLawsModel", "triedOf", "(II)I"⟩, 47) := ⟨⟨by decide, by decide⟩, List.mem_append_right _ (List.mem_append_right _ (List.mem_append_left _ (List.mem_of_getElem? (i := 198) rfl))), List.mem_append_right _ (List.mem_append_right _ (List.mem_append_right _ (List.mem_append_left _ (List.mem_of_getElem? (i := 125) rfl)))), List.mem_append_right _ (List.mem_append_right _ (List.mem_append_right _ (List.mem_append_left _ (List.mem_of_getElem? (i := 126) rfl))))⟩
theorem lw_p20 : lw_okq (⟨"RunLawsModel", "isOf", "(III)Z"⟩, 47) := ⟨⟨by decide, by decide⟩, List.mem_append_right _ (List.mem_append_right _ (List.mem_append_left _ (List.mem_of_getElem? (i := 198) rfl))), List.mem_append_right _ (List.mem_append_right _ (List.mem_append_right _ (List.mem_append_left _ (List.mem_of_getElem? (i := 129) rfl)))), List.mem_append_right _ (List.mem_append_right _ (List.mem_append_right _ (List.mem_append_left _ (List.mem_of_getElem? (i := 130) rfl))))⟩
theorem lw_p21 : lw_okq (⟨"RunLawsModel", "at", "(III)I"⟩, 47) := ⟨⟨by decide, by decide⟩, List.mem_append_right _ (List.mem_append_right _ (List.mem_append_left _ (List.mem_of_getElem? (i := 198) rfl))), List.mem_append_right _ (List.mem_append_right _ (List.mem_append_right _ (List.mem_append_left _ (List.mem_of_getElem? (i := 133) rfl)))), List.mem_append_right _ (List.mem_append_right _ (List.mem_append_right _ (List.mem_append_left _ (List.mem_of_getElem? (i := 134) rfl))))⟩
theorem lw_p22 : lw_okq (⟨"RunLawsModel", "noSide", "(II)Z"⟩, 47) := ⟨⟨by decide, by decide⟩, List.mem_append_right _ (List.mem_append_right _ (List.mem_append_left _ (List.mem_of_getElem? (i := 198) rfl))), List.mem_append_right _ (List.mem_append_right _ (List.mem_append_right _ (List.mem_append_left _ (List.mem_of_getElem? (i := 145) rfl)))), List.mem_append_right _ (List.mem_append_right _ (List.mem_append_right _ (List.mem_append_left _ (List.mem_of_getElem? (i := 146) rfl))))⟩
theorem lw_p23 : lw_okq (⟨"RunLawsModel", "isSo", "(IIIII)Z"⟩, 47) := ⟨⟨by decide, by decide⟩, List.mem_append_right _ (List.mem_append_right _ (List.mem_append_left _ (List.mem_of_getElem? (i := 198) rfl))), List.mem_append_right _ (List.mem_append_right _ (List.mem_append_right _ (List.mem_append_left _ (List.mem_of_getElem? (i := 163) rfl)))), List.mem_append_right _ (List.mem_append_right _ (List.mem_append_right _ (List.mem_append_left _ (List.mem_of_getElem? (i := 164) rfl))))⟩
theorem lw_p24 : lw_okq (⟨"RunLawsModel", "gather", "(III)V"⟩, 47) := ⟨⟨by decide, by decide⟩, List.mem_append_right _ (List.mem_append_right _ (List.mem_append_left _ (List.mem_of_getElem? (i := 198) rfl))), List.mem_append_right _ (List.mem_append_right _ (List.mem_append_right _ (List.mem_append_left _ (List.mem_of_getElem? (i := 167) rfl)))), List.mem_append_right _ (List.mem_append_right _ (List.mem_append_right _ (List.mem_append_left _ (List.mem_of_getElem? (i := 168) rfl))))⟩
theorem lw_p25 : lw_okq (⟨"RunLawsModel", "addFew", "(I)V"⟩, 47) := ⟨⟨by decide, by decide⟩, List.mem_append_right _ (List.mem_append_right _ (List.mem_append_left _ (List.mem_of_getElem? (i := 198) rfl))), List.mem_append_right _ (List.mem_append_right _ (List.mem_append_right _ (List.mem_append_left _ (List.mem_of_getElem? (i := 171) rfl)))), List.mem_append_right _ (List.mem_append_right _ (List.mem_append_right _ (List.mem_append_left _ (List.mem_of_getElem? (i := 172) rfl))))⟩
theorem lw_p26 : lw_okq (⟨"RunLawsModel", "modulus", "(III)I"⟩, 47) := ⟨⟨by decide, by decide⟩, List.mem_append_right _ (List.mem_append_right _ (List.mem_append_left _ (List.mem_of_getElem? (i := 198) rfl))), List.mem_append_right _ (List.mem_append_right _ (List.mem_append_right _ (List.mem_append_left _ (List.mem_of_getElem? (i := 175) rfl)))), List.mem_append_right _ (List.mem_append_right _ (List.mem_append_right _ (List.mem_append_left _ (List.mem_of_getElem? (i := 176) rfl))))⟩
theorem lw_p27 : lw_okq (⟨"RunLawsModel", "isRising", "(III)Z"⟩, 47) := ⟨⟨by decide, by decide⟩, List.mem_append_right _ (List.mem_append_right _ (List.mem_append_left _ (List.mem_of_getElem? (i := 198) rfl))), List.mem_append_right _ (List.mem_append_right _ (List.mem_append_right _ (List.mem_append_left _ (List.mem_of_getElem? (i := 182) rfl)))), List.mem_append_right _ (List.mem_append_right _ (List.mem_append_right _ (List.mem_append_left _ (List.mem_of_getElem? (i := 183) rfl))))⟩
theorem lw_p28 : lw_okq (⟨"RunLawsModel", "isTwo", "(IIIII)Z"⟩, 47) := ⟨⟨by decide, by decide⟩, List.mem_append_right _ (List.mem_append_right _ (List.mem_append_left _ (List.mem_of_getElem? (i := 198) rfl))), List.mem_append_right _ (List.mem_append_right _ (List.mem_append_right _ (List.mem_append_left _ (List.mem_of_getElem? (i := 186) rfl)))), List.mem_append_right _ (List.mem_append_right _ (List.mem_append_right _ (List.mem_append_left _ (List.mem_of_getElem? (i := 187) rfl))))⟩
theorem lw_p29 : lw_okq (⟨"RunLawsModel", "extreme", "(IIIZ)I"⟩, 47) := ⟨⟨by decide, by decide⟩, List.mem_append_right _ (List.mem_append_right _ (List.mem_append_left _ (List.mem_of_getElem? (i := 198) rfl))), List.mem_append_right _ (List.mem_append_right _ (List.mem_append_right _ (List.mem_append_left _ (List.mem_of_getElem? (i := 197) rfl)))), List.mem_append_right _ (List.mem_append_right _ (List.mem_append_right _ (List.mem_append_left _ (List.mem_of_getElem? (i := 198) rfl))))⟩
theorem lw_p30 : lw_okq (⟨"RunLawsModel", "findGuesses", "(IIZ)V"⟩, 47) := ⟨⟨by decide, by decide⟩, List.mem_append_right _ (List.mem_append_right _ (List.mem_append_left _ (List.mem_of_getElem? (i := 198) rfl))), List.mem_append_right _ (List.mem_append_right _ (List.mem_append_right _ (List.mem_append_left _ (List.mem_of_getElem? (i := 205) rfl)))), List.mem_append_right _ (List.mem_append_right _ (List.mem_append_right _ (List.mem_append_left _ (List.mem_of_getElem? (i := 206) rfl))))⟩
theorem lw_p31 : lw_okq (⟨"RunLawsModel", "isSaid", "(IIIII)Z"⟩, 47) := ⟨⟨by decide, by decide⟩, List.mem_append_right _ (List.mem_append_right _ (List.mem_append_left _ (List.mem_of_getElem? (i := 198) rfl))), List.mem_append_right _ (List.mem_append_right _ (List.mem_append_right _ (List.mem_append_left _ (List.mem_of_getElem? (i := 209) rfl)))), List.mem_append_right _ (List.mem_append_right _ (List.mem_append_right _ (List.mem_append_left _ (List.mem_of_getElem? (i := 210) rfl))))⟩
def lw_privs_2 : List (MethodName × Nat) := [(⟨"RunLaws$Search", "keyOf", "(II)I"⟩, 14), (⟨"RunLawsModel", "noVariable", "(II)Z"⟩, 47), (⟨"RunLawsModel", "noPoint", "(I)Z"⟩, 47), (⟨"RunLawsModel", "triedOf", "(II)I"⟩, 47), (⟨"RunLawsModel", "isOf", "(III)Z"⟩, 47), (⟨"RunLawsModel", "at", "(III)I"⟩, 47), (⟨"RunLawsModel", "noSide", "(II)Z"⟩, 47), (⟨"RunLawsModel", "isSo", "(IIIII)Z"⟩, 47), (⟨"RunLawsModel", "gather", "(III)V"⟩, 47), (⟨"RunLawsModel", "addFew", "(I)V"⟩, 47), (⟨"RunLawsModel", "modulus", "(III)I"⟩, 47), (⟨"RunLawsModel", "isRising", "(III)Z"⟩, 47), (⟨"RunLawsModel", "isTwo", "(IIIII)Z"⟩, 47), (⟨"RunLawsModel", "extreme", "(IIIZ)I"⟩, 47), (⟨"RunLawsModel", "findGuesses", "(IIZ)V"⟩, 47), (⟨"RunLawsModel", "isSaid", "(IIIII)Z"⟩, 47)]
theorem lw_r2 : ∀ q ∈ lw_privs_2, lw_okq q := List.forall_mem_cons.mpr ⟨lw_p16, List.forall_mem_cons.mpr ⟨lw_p17, List.forall_mem_cons.mpr ⟨lw_p18, List.forall_mem_cons.mpr ⟨lw_p19, List.forall_mem_cons.mpr ⟨lw_p20, List.forall_mem_cons.mpr ⟨lw_p21, List.forall_mem_cons.mpr ⟨lw_p22, List.forall_mem_cons.mpr ⟨lw_p23, List.forall_mem_cons.mpr ⟨lw_p24, List.forall_mem_cons.mpr ⟨lw_p25, List.forall_mem_cons.mpr ⟨lw_p26, List.forall_mem_cons.mpr ⟨lw_p27, List.forall_mem_cons.mpr ⟨lw_p28, List.forall_mem_cons.mpr ⟨lw_p29, List.forall_mem_cons.mpr ⟨lw_p30, List.forall_mem_cons.mpr ⟨lw_p31, fun _ h => absurd h List.not_mem_nil⟩⟩⟩⟩⟩⟩⟩⟩⟩⟩⟩⟩⟩⟩⟩⟩
theorem lw_p32 : lw_okq (⟨"RunLawsModel", "areIn", "(IIIII)Z"⟩, 47) := ⟨⟨by decide, by decide⟩, List.mem_append_right _ (List.mem_append_right _ (List.mem_append_left _ (List.mem_of_getElem? (i := 198) rfl))), List.mem_append_right _ (List.mem_append_right _ (List.mem_append_right _ (List.mem_append_left _ (List.mem_of_getElem? (i := 221) rfl)))), List.mem_append_right _ (List.mem_append_right _ (List.mem_append_right _ (List.mem_append_left _ (List.mem_of_getElem? (i := 222) rfl))))⟩
theorem lw_p33 : lw_okq (⟨"RunLawsModel", "readRow", "(IIIII)I"⟩, 47) := ⟨⟨by decide, by decide⟩, List.mem_append_right _ (List.mem_append_right _ (List.mem_append_left _ (List.mem_of_getElem? (i := 198) rfl))), List.mem_append_right _ (List.mem_append_right _ (List.mem_append_right _ (List.mem_append_left _ (List.mem_of_getElem? (i := 225) rfl)))), List.mem_append_right _ (List.mem_append_right _ (List.mem_append_right _ (List.mem_append_left _ (List.mem_of_getElem? (i := 226) rfl))))⟩
theorem lw_p34 : lw_okq (⟨"RunLawsModel", "noteHeld", "(I)V"⟩, 47) := ⟨⟨by decide, by decide⟩, List.mem_append_right _ (List.mem_append_right _ (List.mem_append_left _ (List.mem_of_getElem? (i := 198) rfl))), List.mem_append_right _ (List.mem_append_right _ (List.mem_append_right _ (List.mem_append_left _ (List.mem_of_getElem? (i := 229) rfl)))), List.mem_append_right _ (List.mem_append_right _ (List.mem_append_right _ (List.mem_append_left _ (List.mem_of_getElem? (i := 230) rfl))))⟩
theorem lw_p35 : lw_okq (⟨"RunLawsModel", "findBasis", "(II)V"⟩, 47) := ⟨⟨by decide, by decide⟩, List.mem_append_right _ (List.mem_append_right _ (List.mem_append_left _ (List.mem_of_getElem? (i := 198) rfl))), List.mem_append_right _ (List.mem_append_right _ (List.mem_append_right _ (List.mem_append_right _ (List.mem_of_getElem? (i := 1) rfl)))), List.mem_append_right _ (List.mem_append_right _ (List.mem_append_right _ (List.mem_append_right _ (List.mem_of_getElem? (i := 2) rfl))))⟩
theorem lw_p36 : lw_okq (⟨"RunLawsModel", "layTable", "(II)V"⟩, 47) := ⟨⟨by decide, by decide⟩, List.mem_append_right _ (List.mem_append_right _ (List.mem_append_left _ (List.mem_of_getElem? (i := 198) rfl))), List.mem_append_right _ (List.mem_append_right _ (List.mem_append_right _ (List.mem_append_right _ (List.mem_of_getElem? (i := 5) rfl)))), List.mem_append_right _ (List.mem_append_right _ (List.mem_append_right _ (List.mem_append_right _ (List.mem_of_getElem? (i := 6) rfl))))⟩
theorem lw_p37 : lw_okq (⟨"RunLawsModel", "bring", "()V"⟩, 47) := ⟨⟨by decide, by decide⟩, List.mem_append_right _ (List.mem_append_right _ (List.mem_append_left _ (List.mem_of_getElem? (i := 198) rfl))), List.mem_append_right _ (List.mem_append_right _ (List.mem_append_right _ (List.mem_append_right _ (List.mem_of_getElem? (i := 9) rfl)))), List.mem_append_right _ (List.mem_append_right _ (List.mem_append_right _ (List.mem_append_right _ (List.mem_of_getElem? (i := 10) rfl))))⟩
theorem lw_p38 : lw_okq (⟨"RunLawsModel", "exchange", "(II)V"⟩, 47) := ⟨⟨by decide, by decide⟩, List.mem_append_right _ (List.mem_append_right _ (List.mem_append_left _ (List.mem_of_getElem? (i := 198) rfl))), List.mem_append_right _ (List.mem_append_right _ (List.mem_append_right _ (List.mem_append_right _ (List.mem_of_getElem? (i := 13) rfl)))), List.mem_append_right _ (List.mem_append_right _ (List.mem_append_right _ (List.mem_append_right _ (List.mem_of_getElem? (i := 14) rfl))))⟩
theorem lw_p39 : lw_okq (⟨"RunLawsModel", "shorten", "(II)V"⟩, 47) := ⟨⟨by decide, by decide⟩, List.mem_append_right _ (List.mem_append_right _ (List.mem_append_left _ (List.mem_of_getElem? (i := 198) rfl))), List.mem_append_right _ (List.mem_append_right _ (List.mem_append_right _ (List.mem_append_right _ (List.mem_of_getElem? (i := 17) rfl)))), List.mem_append_right _ (List.mem_append_right _ (List.mem_append_right _ (List.mem_append_right _ (List.mem_of_getElem? (i := 18) rfl))))⟩
theorem lw_p40 : lw_okq (⟨"RunLawsModel", "noMade", "(II)Z"⟩, 47) := ⟨⟨by decide, by decide⟩, List.mem_append_right _ (List.mem_append_right _ (List.mem_append_left _ (List.mem_of_getElem? (i := 198) rfl))), List.mem_append_right _ (List.mem_append_right _ (List.mem_append_right _ (List.mem_append_right _ (List.mem_of_getElem? (i := 38) rfl)))), List.mem_append_right _ (List.mem_append_right _ (List.mem_append_right _ (List.mem_append_right _ (List.mem_of_getElem? (i := 39) rfl))))⟩
theorem lw_p41 : lw_okq (⟨"RunLawsModel", "layRow", "(II)V"⟩, 47) := ⟨⟨by decide, by decide⟩, List.mem_append_right _ (List.mem_append_right _ (List.mem_append_left _ (List.mem_of_getElem? (i := 198) rfl))), List.mem_append_right _ (List.mem_append_right _ (List.mem_append_right _ (List.mem_append_right _ (List.mem_of_getElem? (i := 50) rfl)))), List.mem_append_right _ (List.mem_append_right _ (List.mem_append_right _ (List.mem_append_right _ (List.mem_of_getElem? (i := 51) rfl))))⟩
theorem lw_p42 : lw_okq (⟨"RunLawsModel", "isSum", "(I)Z"⟩, 47) := ⟨⟨by decide, by decide⟩, List.mem_append_right _ (List.mem_append_right _ (List.mem_append_left _ (List.mem_of_getElem? (i := 198) rfl))), List.mem_append_right _ (List.mem_append_right _ (List.mem_append_right _ (List.mem_append_right _ (List.mem_of_getElem? (i := 54) rfl)))), List.mem_append_right _ (List.mem_append_right _ (List.mem_append_right _ (List.mem_append_right _ (List.mem_of_getElem? (i := 55) rfl))))⟩
theorem lw_p43 : lw_okq (⟨"RunLawsModel", "noteTold", "()V"⟩, 47) := ⟨⟨by decide, by decide⟩, List.mem_append_right _ (List.mem_append_right _ (List.mem_append_left _ (List.mem_of_getElem? (i := 198) rfl))), List.mem_append_right _ (List.mem_append_right _ (List.mem_append_right _ (List.mem_append_right _ (List.mem_of_getElem? (i := 62) rfl)))), List.mem_append_right _ (List.mem_append_right _ (List.mem_append_right _ (List.mem_append_right _ (List.mem_of_getElem? (i := 63) rfl))))⟩
theorem lw_p44 : lw_okq (⟨"RunLawsModel", "begin", "()V"⟩, 47) := ⟨⟨by decide, by decide⟩, List.mem_append_right _ (List.mem_append_right _ (List.mem_append_left _ (List.mem_of_getElem? (i := 198) rfl))), List.mem_append_right _ (List.mem_append_right _ (List.mem_append_right _ (List.mem_append_right _ (List.mem_of_getElem? (i := 67) rfl)))), List.mem_append_right _ (List.mem_append_right _ (List.mem_append_right _ (List.mem_append_right _ (List.mem_of_getElem? (i := 68) rfl))))⟩
theorem lw_p45 : lw_okq (⟨"RunLawsModel", "broken", "(I)I"⟩, 47) := ⟨⟨by decide, by decide⟩, List.mem_append_right _ (List.mem_append_right _ (List.mem_append_left _ (List.mem_of_getElem? (i := 198) rfl))), List.mem_append_right _ (List.mem_append_right _ (List.mem_append_right _ (List.mem_append_right _ (List.mem_of_getElem? (i := 71) rfl)))), List.mem_append_right _ (List.mem_append_right _ (List.mem_append_right _ (List.mem_append_right _ (List.mem_of_getElem? (i := 72) rfl))))⟩
theorem lw_p46 : lw_okq (⟨"RunLawsModel", "isBroken", "(II)Z"⟩, 47) := ⟨⟨by decide, by decide⟩, List.mem_append_right _ (List.mem_append_right _ (List.mem_append_left _ (List.mem_of_getElem? (i := 198) rfl))), List.mem_append_right _ (List.mem_append_right _ (List.mem_append_right _ (List.mem_append_right _ (List.mem_of_getElem? (i := 75) rfl)))), List.mem_append_right _ (List.mem_append_right _ (List.mem_append_right _ (List.mem_append_right _ (List.mem_of_getElem? (i := 76) rfl))))⟩
theorem lw_p47 : lw_okq (⟨"RunLawsModel", "note", "(II)V"⟩, 47) := ⟨⟨by decide, by decide⟩, List.mem_append_right _ (List.mem_append_right _ (List.mem_append_left _ (List.mem_of_getElem? (i := 198) rfl))), List.mem_append_right _ (List.mem_append_right _ (List.mem_append_right _ (List.mem_append_right _ (List.mem_of_getElem? (i := 79) rfl)))), List.mem_append_right _ (List.mem_append_right _ (List.mem_append_right _ (List.mem_append_right _ (List.mem_of_getElem? (i := 80) rfl))))⟩
def lw_privs_3 : List (MethodName × Nat) := [(⟨"RunLawsModel", "areIn", "(IIIII)Z"⟩, 47), (⟨"RunLawsModel", "readRow", "(IIIII)I"⟩, 47), (⟨"RunLawsModel", "noteHeld", "(I)V"⟩, 47), (⟨"RunLawsModel", "findBasis", "(II)V"⟩, 47), (⟨"RunLawsModel", "layTable", "(II)V"⟩, 47), (⟨"RunLawsModel", "bring", "()V"⟩, 47), (⟨"RunLawsModel", "exchange", "(II)V"⟩, 47), (⟨"RunLawsModel", "shorten", "(II)V"⟩, 47), (⟨"RunLawsModel", "noMade", "(II)Z"⟩, 47), (⟨"RunLawsModel", "layRow", "(II)V"⟩, 47), (⟨"RunLawsModel", "isSum", "(I)Z"⟩, 47), (⟨"RunLawsModel", "noteTold", "()V"⟩, 47), (⟨"RunLawsModel", "begin", "()V"⟩, 47), (⟨"RunLawsModel", "broken", "(I)I"⟩, 47), (⟨"RunLawsModel", "isBroken", "(II)Z"⟩, 47), (⟨"RunLawsModel", "note", "(II)V"⟩, 47)]
theorem lw_r3 : ∀ q ∈ lw_privs_3, lw_okq q := List.forall_mem_cons.mpr ⟨lw_p32, List.forall_mem_cons.mpr ⟨lw_p33, List.forall_mem_cons.mpr ⟨lw_p34, List.forall_mem_cons.mpr ⟨lw_p35, List.forall_mem_cons.mpr ⟨lw_p36, List.forall_mem_cons.mpr ⟨lw_p37, List.forall_mem_cons.mpr ⟨lw_p38, List.forall_mem_cons.mpr ⟨lw_p39, List.forall_mem_cons.mpr ⟨lw_p40, List.forall_mem_cons.mpr ⟨lw_p41, List.forall_mem_cons.mpr ⟨lw_p42, List.forall_mem_cons.mpr ⟨lw_p43, List.forall_mem_cons.mpr ⟨lw_p44, List.forall_mem_cons.mpr ⟨lw_p45, List.forall_mem_cons.mpr ⟨lw_p46, List.forall_mem_cons.mpr ⟨lw_p47, fun _ h => absurd h List.not_mem_nil⟩⟩⟩⟩⟩⟩⟩⟩⟩⟩⟩⟩⟩⟩⟩⟩
theorem lw_p48 : lw_okq (⟨"RunLawsModel", "goThrough", "(I)Z"⟩, 47) := ⟨⟨by decide, by decide⟩, List.mem_append_right _ (List.mem_append_right _ (List.mem_append_left _ (List.mem_of_getElem? (i := 198) rfl))), List.mem_append_right _ (List.mem_append_right _ (List.mem_append_right _ (List.mem_append_right _ (List.mem_of_getElem? (i := 83) rfl)))), List.mem_append_right _ (List.mem_append_right _ (List.mem_append_right _ (List.mem_append_right _ (List.mem_of_getElem? (i := 84) rfl))))⟩
theorem lw_p49 : lw_okq (⟨"RunLawsModel", "leads", "(II)Z"⟩, 47) := ⟨⟨by decide, by decide⟩, List.mem_append_right _ (List.mem_append_right _ (List.mem_append_left _ (List.mem_of_getElem? (i := 198) rfl))), List.mem_append_right _ (List.mem_append_right _ (List.mem_append_right _ (List.mem_append_right _ (List.mem_of_getElem? (i := 87) rfl)))), List.mem_append_right _ (List.mem_append_right _ (List.mem_append_right _ (List.mem_append_right _ (List.mem_of_getElem? (i := 88) rfl))))⟩
def lw_privs_4 : List (MethodName × Nat) := [(⟨"RunLawsModel", "goThrough", "(I)Z"⟩, 47), (⟨"RunLawsModel", "leads", "(II)Z"⟩, 47)]
theorem lw_r4 : ∀ q ∈ lw_privs_4, lw_okq q := List.forall_mem_cons.mpr ⟨lw_p48, List.forall_mem_cons.mpr ⟨lw_p49, fun _ h => absurd h List.not_mem_nil⟩⟩
def lw_privs : List (MethodName × Nat) := lw_privs_1 ++ (lw_privs_2 ++ (lw_privs_3 ++ (lw_privs_4)))
def lw_tbl : List Cond := k2_sels lw_privs ++ tables_1
theorem lw_privs_ok : ∀ q ∈ lw_privs, lw_okq q := by
  show ∀ q ∈ lw_privs_1 ++ (lw_privs_2 ++ (lw_privs_3 ++ (lw_privs_4))), lw_okq q
  exact List.forall_mem_append.mpr ⟨lw_r1, List.forall_mem_append.mpr ⟨lw_r2, List.forall_mem_append.mpr ⟨lw_r3, lw_r4⟩⟩⟩
end
section
def RX0 : String := "RunLaws$Act"
def TX0 : u_T := fun k => match k with
  | 0 => ("RunLaws$Act", "from", "I", true)
  | 1 => ("RunLaws$Act", "to", "I", true)
  | 2 => ("RunLaws$Act", "fromSize", "I", true)
  | 3 => ("RunLaws$Act", "toSize", "I", true)
  | _ => ("RunLaws$Act", "parts", "[[I", true)
def tyX0 : Nat → FieldType := fun k => match k with
  | 0 => .int
  | 1 => .int
  | 2 => .int
  | 3 => .int
  | _ => .array (.array .int)
abbrev wsX00 : List Cond := u_ws RX0 TX0 5
theorem nmX0 : ∀ a, a < 5 → ∀ b, b < 5 → a ≠ b → (TX0 a).2.1 ≠ (TX0 b).2.1 := by decide +kernel
theorem tyX0_ok : ∀ k, k < 5 → parseFieldDescriptor (TX0 k).2.2.1 = some (tyX0 k) := by decide +kernel
abbrev cX0_init : ByteArray := prog_2_method_1_code
def yX0_init : MethodName := ⟨RX0, "<init>", "(IIII)V"⟩
abbrev cX0_hasVariable : ByteArray := prog_2_method_2_code
def yX0_hasVariable : MethodName := ⟨RX0, "hasVariable", "(I)Z"⟩
abbrev cX0_set : ByteArray := prog_2_method_3_code
def yX0_set : MethodName := ⟨RX0, "set", "(I[II)V"⟩
abbrev cX0_leads : ByteArray := prog_2_method_4_code
def yX0_leads : MethodName := ⟨RX0, "leads", "([I[I)Z"⟩
abbrev cX0_putIn : ByteArray := prog_2_method_5_code
def yX0_putIn : MethodName := ⟨RX0, "putIn", "([J[J)V"⟩
def RX1 : String := "RunLaws$Facts"
def TX1 : u_T := fun k => match k with
  | 0 => ("RunLaws$Facts", "size", "I", true)
  | 1 => ("RunLaws$Facts", "table", "LRunLaws$Table;", true)
  | 2 => ("RunLaws$Facts", "count", "I", false)
  | 3 => ("RunLaws$Facts", "first", "[I", true)
  | 4 => ("RunLaws$Facts", "last", "[I", true)
  | 5 => ("RunLaws$Facts", "least", "[I", true)
  | 6 => ("RunLaws$Facts", "greatest", "[I", true)
  | 7 => ("RunLaws$Facts", "fell", "[Z", true)
  | 8 => ("RunLaws$Facts", "step", "[J", true)
  | 9 => ("RunLaws$Facts", "modulus", "[I", true)
  | 10 => ("RunLaws$Facts", "unlike", "[I", true)
  | 11 => ("RunLaws$Facts", "few", "[[I", true)
  | _ => ("RunLaws$Facts", "orders", "[[I", true)
def tyX1 : Nat → FieldType := fun k => match k with
  | 0 => .int
  | 1 => .object "RunLaws$Table"
  | 2 => .int
  | 3 => .array .int
  | 4 => .array .int
  | 5 => .array .int
  | 6 => .array .int
  | 7 => .array .boolean
  | 8 => .array .long
  | 9 => .array .int
  | 10 => .array .int
  | 11 => .array (.array .int)
  | _ => .array (.array .int)
abbrev wsX10 : List Cond := u_ws RX1 TX1 13
theorem nmX1 : ∀ a, a < 13 → ∀ b, b < 13 → a ≠ b → (TX1 a).2.1 ≠ (TX1 b).2.1 := by decide +kernel
theorem tyX1_ok : ∀ k, k < 13 → parseFieldDescriptor (TX1 k).2.2.1 = some (tyX1 k) := by decide +kernel
abbrev cX1_init : ByteArray := prog_3_method_1_code
def yX1_init : MethodName := ⟨RX1, "<init>", "(I)V"⟩
abbrev cX1_hasVariable : ByteArray := prog_3_method_2_code
def yX1_hasVariable : MethodName := ⟨RX1, "hasVariable", "(I)Z"⟩
abbrev cX1_clear : ByteArray := prog_3_method_3_code
def yX1_clear : MethodName := ⟨RX1, "clear", "()V"⟩
abbrev cX1_add : ByteArray := prog_3_method_4_code
def yX1_add : MethodName := ⟨RX1, "add", "([I)V"⟩
abbrev cX1_begin : ByteArray := prog_3_method_5_code
def yX1_begin : MethodName := ⟨RX1, "begin", "(II)V"⟩
abbrev cX1_goOn : ByteArray := prog_3_method_6_code
def yX1_goOn : MethodName := ⟨RX1, "goOn", "(II)V"⟩
abbrev cX1_greatestModulus : ByteArray := prog_3_method_7_code
def yX1_greatestModulus : MethodName := ⟨RX1, "greatestModulus", "(J)I"⟩
abbrev cX1_noteNumber : ByteArray := prog_3_method_8_code
def yX1_noteNumber : MethodName := ⟨RX1, "noteNumber", "(II)V"⟩
abbrev cX1_isAmongFew : ByteArray := prog_3_method_9_code
def yX1_isAmongFew : MethodName := ⟨RX1, "isAmongFew", "(II)Z"⟩
abbrev cX1_stands : ByteArray := prog_3_method_10_code
def yX1_stands : MethodName := ⟨RX1, "stands", "(III)Z"⟩
abbrev cX1_numberOf : ByteArray := prog_3_method_11_code
def yX1_numberOf : MethodName := ⟨RX1, "numberOf", "(III)I"⟩
abbrev cX1_restOf : ByteArray := prog_3_method_12_code
def yX1_restOf : MethodName := ⟨RX1, "restOf", "(II)I"⟩
abbrev cX1_list : ByteArray := prog_3_method_13_code
def yX1_list : MethodName := ⟨RX1, "list", "(Z[I)I"⟩
abbrev cX1_isTold : ByteArray := prog_3_method_14_code
def yX1_isTold : MethodName := ⟨RX1, "isTold", "(III)Z"⟩
abbrev cX1_isBrokenBy : ByteArray := prog_3_method_15_code
def yX1_isBrokenBy : MethodName := ⟨RX1, "isBrokenBy", "([IIII)Z"⟩
abbrev cX1_basisSize : ByteArray := prog_3_method_16_code
def yX1_basisSize : MethodName := ⟨RX1, "basisSize", "()I"⟩
abbrev cX1_spans : ByteArray := prog_3_method_17_code
def yX1_spans : MethodName := ⟨RX1, "spans", "([J)Z"⟩
def RX2 : String := "RunLaws$Passed"
def TX2 : u_T := fun k => match k with
  | 0 => ("RunLaws$Passed", "keys", "[I", true)
  | _ => ("RunLaws$Passed", "rows", "[I", true)
def tyX2 : Nat → FieldType := fun k => match k with
  | 0 => .array .int
  | _ => .array .int
abbrev wsX20 : List Cond := u_ws RX2 TX2 2
theorem nmX2 : ∀ a, a < 2 → ∀ b, b < 2 → a ≠ b → (TX2 a).2.1 ≠ (TX2 b).2.1 := by decide +kernel
theorem tyX2_ok : ∀ k, k < 2 → parseFieldDescriptor (TX2 k).2.2.1 = some (tyX2 k) := by decide +kernel
abbrev cX2_init : ByteArray := prog_4_method_1_code
def yX2_init : MethodName := ⟨RX2, "<init>", "()V"⟩
abbrev cX2_forget : ByteArray := prog_4_method_2_code
def yX2_forget : MethodName := ⟨RX2, "forget", "()V"⟩
abbrev cX2_rowsOf : ByteArray := prog_4_method_3_code
def yX2_rowsOf : MethodName := ⟨RX2, "rowsOf", "(I)I"⟩
abbrev cX2_keep : ByteArray := prog_4_method_4_code
def yX2_keep : MethodName := ⟨RX2, "keep", "(II)V"⟩
abbrev cX2_slotOf : ByteArray := prog_4_method_5_code
def yX2_slotOf : MethodName := ⟨RX2, "slotOf", "(I)I"⟩
def RX3 : String := "RunLaws$Point"
def TX3 : u_T := fun k => match k with
  | 0 => ("RunLaws$Point", "size", "I", true)
  | 1 => ("RunLaws$Point", "readings", "[[I", true)
  | 2 => ("RunLaws$Point", "sides", "[LRunLaws$Facts;", true)
  | 3 => ("RunLaws$Point", "count", "I", false)
  | 4 => ("RunLaws$Point", "splitVariable", "I", false)
  | _ => ("RunLaws$Point", "splitBound", "I", false)
def tyX3 : Nat → FieldType := fun k => match k with
  | 0 => .int
  | 1 => .array (.array .int)
  | 2 => .array (.object "RunLaws$Facts")
  | 3 => .int
  | 4 => .int
  | _ => .int
abbrev wsX30 : List Cond := u_ws RX3 TX3 6
theorem nmX3 : ∀ a, a < 6 → ∀ b, b < 6 → a ≠ b → (TX3 a).2.1 ≠ (TX3 b).2.1 := by decide +kernel
theorem tyX3_ok : ∀ k, k < 6 → parseFieldDescriptor (TX3 k).2.2.1 = some (tyX3 k) := by decide +kernel
abbrev cX3_init : ByteArray := prog_5_method_1_code
def yX3_init : MethodName := ⟨RX3, "<init>", "(I)V"⟩
abbrev cX3_hasVariable : ByteArray := prog_5_method_2_code
def yX3_hasVariable : MethodName := ⟨RX3, "hasVariable", "(I)Z"⟩
abbrev cX3_sideOf : ByteArray := prog_5_method_3_code
def yX3_sideOf : MethodName := ⟨RX3, "sideOf", "([I)I"⟩
abbrev cX3_keep : ByteArray := prog_5_method_4_code
def yX3_keep : MethodName := ⟨RX3, "keep", "([I)V"⟩
abbrev cX3_part : ByteArray := prog_5_method_5_code
def yX3_part : MethodName := ⟨RX3, "part", "(II)V"⟩
def RX4 : String := "RunLaws$Program"
def TX4 : u_T := fun k => match k with
  | 0 => ("RunLaws$Program", "points", "[LRunLaws$Point;", true)
  | 1 => ("RunLaws$Program", "acts", "[LRunLaws$Act;", true)
  | 2 => ("RunLaws$Program", "startNumbers", "[I", true)
  | 3 => ("RunLaws$Program", "pulled", "[J", true)
  | 4 => ("RunLaws$Program", "pointCount", "I", false)
  | 5 => ("RunLaws$Program", "actCount", "I", false)
  | _ => ("RunLaws$Program", "startPoint", "I", false)
def tyX4 : Nat → FieldType := fun k => match k with
  | 0 => .array (.object "RunLaws$Point")
  | 1 => .array (.object "RunLaws$Act")
  | 2 => .array .int
  | 3 => .array .long
  | 4 => .int
  | 5 => .int
  | _ => .int
abbrev wsX40 : List Cond := u_ws RX4 TX4 7
theorem nmX4 : ∀ a, a < 7 → ∀ b, b < 7 → a ≠ b → (TX4 a).2.1 ≠ (TX4 b).2.1 := by decide +kernel
theorem tyX4_ok : ∀ k, k < 7 → parseFieldDescriptor (TX4 k).2.2.1 = some (tyX4 k) := by decide +kernel
abbrev cX4_init : ByteArray := prog_6_method_1_code
def yX4_init : MethodName := ⟨RX4, "<init>", "()V"⟩
abbrev cX4_addPoint : ByteArray := prog_6_method_2_code
def yX4_addPoint : MethodName := ⟨RX4, "addPoint", "(I)I"⟩
abbrev cX4_addAct : ByteArray := prog_6_method_3_code
def yX4_addAct : MethodName := ⟨RX4, "addAct", "(IIII)I"⟩
abbrev cX4_pointAt : ByteArray := prog_6_method_4_code
def yX4_pointAt : MethodName := ⟨RX4, "pointAt", "(I)LRunLaws$Point;"⟩
abbrev cX4_factsAt : ByteArray := prog_6_method_5_code
def yX4_factsAt : MethodName := ⟨RX4, "factsAt", "(II)LRunLaws$Facts;"⟩
abbrev cX4_actAt : ByteArray := prog_6_method_6_code
def yX4_actAt : MethodName := ⟨RX4, "actAt", "(I)LRunLaws$Act;"⟩
abbrev cX4_hasStart : ByteArray := prog_6_method_7_code
def yX4_hasStart : MethodName := ⟨RX4, "hasStart", "()Z"⟩
abbrev cX4_setStart : ByteArray := prog_6_method_8_code
def yX4_setStart : MethodName := ⟨RX4, "setStart", "(I[I)V"⟩
abbrev cX4_sumWrongAtStart : ByteArray := prog_6_method_9_code
def yX4_sumWrongAtStart : MethodName := ⟨RX4, "sumWrongAtStart", "()I"⟩
abbrev cX4_sumLostBy : ByteArray := prog_6_method_10_code
def yX4_sumLostBy : MethodName := ⟨RX4, "sumLostBy", "(LRunLaws$Act;)I"⟩
def RX5 : String := "RunLaws$Search"
def TX5 : u_T := fun k => match k with
  | 0 => ("RunLaws$Search", "program", "LRunLaws$Program;", true)
  | 1 => ("RunLaws$Search", "passed", "LRunLaws$Passed;", true)
  | 2 => ("RunLaws$Search", "toldCodes", "[[I", true)
  | 3 => ("RunLaws$Search", "toldCounts", "[I", true)
  | 4 => ("RunLaws$Search", "states", "[[I", true)
  | 5 => ("RunLaws$Search", "at", "[I", true)
  | 6 => ("RunLaws$Search", "row", "[I", true)
  | 7 => ("RunLaws$Search", "rows", "I", false)
  | 8 => ("RunLaws$Search", "foundNumbers", "[I", true)
  | 9 => ("RunLaws$Search", "foundRow", "[I", true)
  | 10 => ("RunLaws$Search", "foundPoint", "I", false)
  | 11 => ("RunLaws$Search", "foundCode", "I", false)
  | 12 => ("RunLaws$Search", "foundLength", "I", false)
  | _ => ("RunLaws$Search", "foundSize", "I", false)
def tyX5 : Nat → FieldType := fun k => match k with
  | 0 => .object "RunLaws$Program"
  | 1 => .object "RunLaws$Passed"
  | 2 => .array (.array .int)
  | 3 => .array .int
  | 4 => .array (.array .int)
  | 5 => .array .int
  | 6 => .array .int
  | 7 => .int
  | 8 => .array .int
  | 9 => .array .int
  | 10 => .int
  | 11 => .int
  | 12 => .int
  | _ => .int
abbrev wsX50 : List Cond := u_ws RX5 TX5 14
theorem nmX5 : ∀ a, a < 14 → ∀ b, b < 14 → a ≠ b → (TX5 a).2.1 ≠ (TX5 b).2.1 := by decide +kernel
theorem tyX5_ok : ∀ k, k < 14 → parseFieldDescriptor (TX5 k).2.2.1 = some (tyX5 k) := by decide +kernel
abbrev cX5_init : ByteArray := prog_7_method_1_code
def yX5_init : MethodName := ⟨RX5, "<init>", "(LRunLaws$Program;)V"⟩
abbrev cX5_find : ByteArray := prog_7_method_2_code
def yX5_find : MethodName := ⟨RX5, "find", "(I)I"⟩
abbrev cX5_goThrough : ByteArray := prog_7_method_3_code
def yX5_goThrough : MethodName := ⟨RX5, "goThrough", "(II)Z"⟩
abbrev cX5_keyOf : ByteArray := prog_7_method_4_code
def yX5_keyOf : MethodName := ⟨RX5, "keyOf", "(II)I"⟩
abbrev cX5_breaksAt : ByteArray := prog_7_method_5_code
def yX5_breaksAt : MethodName := ⟨RX5, "breaksAt", "(I)Z"⟩
abbrev cX5_noteFound : ByteArray := prog_7_method_6_code
def yX5_noteFound : MethodName := ⟨RX5, "noteFound", "(IIII)V"⟩
abbrev cX5_tell : ByteArray := prog_7_method_7_code
def yX5_tell : MethodName := ⟨RX5, "tell", "(I)I"⟩
def RX6 : String := "RunLaws$Table"
def TX6 : u_T := fun k => match k with
  | 0 => ("RunLaws$Table", "places", "I", true)
  | 1 => ("RunLaws$Table", "rows", "[[J", true)
  | 2 => ("RunLaws$Table", "leads", "[I", true)
  | 3 => ("RunLaws$Table", "fresh", "[J", true)
  | 4 => ("RunLaws$Table", "basis", "[J", true)
  | _ => ("RunLaws$Table", "rank", "I", false)
def tyX6 : Nat → FieldType := fun k => match k with
  | 0 => .int
  | 1 => .array (.array .long)
  | 2 => .array .int
  | 3 => .array .long
  | 4 => .array .long
  | _ => .int
abbrev wsX60 : List Cond := u_ws RX6 TX6 6
theorem nmX6 : ∀ a, a < 6 → ∀ b, b < 6 → a ≠ b → (TX6 a).2.1 ≠ (TX6 b).2.1 := by decide +kernel
theorem tyX6_ok : ∀ k, k < 6 → parseFieldDescriptor (TX6 k).2.2.1 = some (tyX6 k) := by decide +kernel
abbrev cX6_init : ByteArray := prog_8_method_1_code
def yX6_init : MethodName := ⟨RX6, "<init>", "(I)V"⟩
abbrev cX6_clear : ByteArray := prog_8_method_2_code
def yX6_clear : MethodName := ⟨RX6, "clear", "()V"⟩
abbrev cX6_add : ByteArray := prog_8_method_3_code
def yX6_add : MethodName := ⟨RX6, "add", "([I)V"⟩
abbrev cX6_leadOf : ByteArray := prog_8_method_4_code
def yX6_leadOf : MethodName := ⟨RX6, "leadOf", "([J)I"⟩
abbrev cX6_clearPlace : ByteArray := prog_8_method_5_code
def yX6_clearPlace : MethodName := ⟨RX6, "clearPlace", "([J[JI)V"⟩
abbrev cX6_shorten : ByteArray := prog_8_method_6_code
def yX6_shorten : MethodName := ⟨RX6, "shorten", "([J)V"⟩
abbrev cX6_insertFresh : ByteArray := prog_8_method_7_code
def yX6_insertFresh : MethodName := ⟨RX6, "insertFresh", "(I)I"⟩
abbrev cX6_freeCount : ByteArray := prog_8_method_8_code
def yX6_freeCount : MethodName := ⟨RX6, "freeCount", "()I"⟩
abbrev cX6_freePlace : ByteArray := prog_8_method_9_code
def yX6_freePlace : MethodName := ⟨RX6, "freePlace", "(I)I"⟩
abbrev cX6_basisRow : ByteArray := prog_8_method_10_code
def yX6_basisRow : MethodName := ⟨RX6, "basisRow", "(I)[J"⟩
abbrev cX6_shortLead : ByteArray := prog_8_method_11_code
def yX6_shortLead : MethodName := ⟨RX6, "shortLead", "(II)J"⟩
abbrev cX6_commonMultiple : ByteArray := prog_8_method_12_code
def yX6_commonMultiple : MethodName := ⟨RX6, "commonMultiple", "(JJ)J"⟩
abbrev cX6_isZeroOnAll : ByteArray := prog_8_method_13_code
def yX6_isZeroOnAll : MethodName := ⟨RX6, "isZeroOnAll", "([J)Z"⟩
def RX7 : String := "RunLaws"
def TX7 : u_T := fun k => match k with
  | 0 => ("RunLaws", "program", "LRunLaws$Program;", true)
  | 1 => ("RunLaws", "searcher", "LRunLaws$Search;", true)
  | 2 => ("RunLaws", "given", "[I", true)
  | 3 => ("RunLaws", "next", "[I", true)
  | 4 => ("RunLaws", "codes", "[I", true)
  | 5 => ("RunLaws", "dead", "[I", true)
  | _ => ("RunLaws", "deadCount", "I", false)
def tyX7 : Nat → FieldType := fun k => match k with
  | 0 => .object "RunLaws$Program"
  | 1 => .object "RunLaws$Search"
  | 2 => .array .int
  | 3 => .array .int
  | 4 => .array .int
  | 5 => .array .int
  | _ => .int
abbrev wsX70 : List Cond := u_ws RX7 TX7 7
theorem nmX7 : ∀ a, a < 7 → ∀ b, b < 7 → a ≠ b → (TX7 a).2.1 ≠ (TX7 b).2.1 := by decide +kernel
theorem tyX7_ok : ∀ k, k < 7 → parseFieldDescriptor (TX7 k).2.2.1 = some (tyX7 k) := by decide +kernel
abbrev cX7_init : ByteArray := prog_1_method_1_code
def yX7_init : MethodName := ⟨RX7, "<init>", "()V"⟩
abbrev cX7_point : ByteArray := prog_1_method_2_code
def yX7_point : MethodName := ⟨RX7, "point", "(I)I"⟩
abbrev cX7_split : ByteArray := prog_1_method_3_code
def yX7_split : MethodName := ⟨RX7, "split", "(III)I"⟩
abbrev cX7_read : ByteArray := prog_1_method_4_code
def yX7_read : MethodName := ⟨RX7, "read", "(IIIII)I"⟩
abbrev cX7_died : ByteArray := prog_1_method_5_code
def yX7_died : MethodName := ⟨RX7, "died", "(I)I"⟩
abbrev cX7_reading : ByteArray := prog_1_method_6_code
def yX7_reading : MethodName := ⟨RX7, "reading", "(III)I"⟩
abbrev cX7_tried : ByteArray := prog_1_method_7_code
def yX7_tried : MethodName := ⟨RX7, "tried", "(II)I"⟩
abbrev cX7_holds : ByteArray := prog_1_method_8_code
def yX7_holds : MethodName := ⟨RX7, "holds", "(IIIII)I"⟩
abbrev cX7_number : ByteArray := prog_1_method_9_code
def yX7_number : MethodName := ⟨RX7, "number", "(IIIII)I"⟩
abbrev cX7_guesses : ByteArray := prog_1_method_10_code
def yX7_guesses : MethodName := ⟨RX7, "guesses", "(II)I"⟩
abbrev cX7_guess : ByteArray := prog_1_method_11_code
def yX7_guess : MethodName := ⟨RX7, "guess", "(III)I"⟩
abbrev cX7_sums : ByteArray := prog_1_method_12_code
def yX7_sums : MethodName := ⟨RX7, "sums", "(II)I"⟩
abbrev cX7_sum : ByteArray := prog_1_method_13_code
def yX7_sum : MethodName := ⟨RX7, "sum", "(IIII)J"⟩
abbrev cX7_start : ByteArray := prog_1_method_14_code
def yX7_start : MethodName := ⟨RX7, "start", "(IIIII)I"⟩
abbrev cX7_act : ByteArray := prog_1_method_15_code
def yX7_act : MethodName := ⟨RX7, "act", "(II)I"⟩
abbrev cX7_makes : ByteArray := prog_1_method_16_code
def yX7_makes : MethodName := ⟨RX7, "makes", "(IIIIIII)I"⟩
abbrev cX7_made : ByteArray := prog_1_method_17_code
def yX7_made : MethodName := ⟨RX7, "made", "(III)I"⟩
abbrev cX7_kept : ByteArray := prog_1_method_18_code
def yX7_kept : MethodName := ⟨RX7, "kept", "()I"⟩
abbrev cX7_search : ByteArray := prog_1_method_19_code
def yX7_search : MethodName := ⟨RX7, "search", "(I)I"⟩
abbrev cX7_broke : ByteArray := prog_1_method_20_code
def yX7_broke : MethodName := ⟨RX7, "broke", "(I)I"⟩
abbrev cX7_run : ByteArray := prog_1_method_21_code
def yX7_run : MethodName := ⟨RX7, "run", "(II)I"⟩
abbrev cX7_told : ByteArray := prog_1_method_22_code
def yX7_told : MethodName := ⟨RX7, "told", "(I)I"⟩
abbrev cX7_variables : ByteArray := prog_1_method_23_code
def yX7_variables : MethodName := ⟨RX7, "variables", "(I)I"⟩
abbrev cX7_takeReading : ByteArray := prog_1_method_24_code
def yX7_takeReading : MethodName := ⟨RX7, "takeReading", "(LRunLaws$Point;[I)I"⟩
abbrev cX7_noteDead : ByteArray := prog_1_method_25_code
def yX7_noteDead : MethodName := ⟨RX7, "noteDead", "(ILRunLaws$Facts;I)V"⟩
abbrev cX7_isWithin : ByteArray := prog_1_method_26_code
def yX7_isWithin : MethodName := ⟨RX7, "isWithin", "(II)Z"⟩
abbrev cX7_areWithin : ByteArray := prog_1_method_27_code
def yX7_areWithin : MethodName := ⟨RX7, "areWithin", "([III)Z"⟩
abbrev cX7_fill : ByteArray := prog_1_method_28_code
def yX7_fill : MethodName := ⟨RX7, "fill", "([IIIII)V"⟩
abbrev cX7_copy : ByteArray := prog_1_method_29_code
def yX7_copy : MethodName := ⟨RX7, "copy", "([I[I)V"⟩
abbrev cX7_codeOf : ByteArray := prog_1_method_30_code
def yX7_codeOf : MethodName := ⟨RX7, "codeOf", "(III)I"⟩
abbrev cX7_shapeOf : ByteArray := prog_1_method_31_code
def yX7_shapeOf : MethodName := ⟨RX7, "shapeOf", "(I)I"⟩
abbrev cX7_firstOf : ByteArray := prog_1_method_32_code
def yX7_firstOf : MethodName := ⟨RX7, "firstOf", "(I)I"⟩
abbrev cX7_secondOf : ByteArray := prog_1_method_33_code
def yX7_secondOf : MethodName := ⟨RX7, "secondOf", "(I)I"⟩
abbrev cX7_isOfTwo : ByteArray := prog_1_method_34_code
def yX7_isOfTwo : MethodName := ⟨RX7, "isOfTwo", "(I)Z"⟩
abbrev cX7_isGuess : ByteArray := prog_1_method_35_code
def yX7_isGuess : MethodName := ⟨RX7, "isGuess", "(III)Z"⟩
abbrev cX7_orderOf : ByteArray := prog_1_method_36_code
def yX7_orderOf : MethodName := ⟨RX7, "orderOf", "(II)I"⟩
abbrev cX7_fitsOrders : ByteArray := prog_1_method_37_code
def yX7_fitsOrders : MethodName := ⟨RX7, "fitsOrders", "(II)Z"⟩
abbrev cX7_divisorOf : ByteArray := prog_1_method_38_code
def yX7_divisorOf : MethodName := ⟨RX7, "divisorOf", "(JJ)J"⟩
def RX8 : String := "RunLawsModel"
def TX8 : u_T := fun k => match k with
  | 0 => ("RunLawsModel", "points", "I", false)
  | 1 => ("RunLawsModel", "size", "[I", true)
  | 2 => ("RunLawsModel", "many", "[I", true)
  | 3 => ("RunLawsModel", "isSplit", "[Z", true)
  | 4 => ("RunLawsModel", "splitBy", "[I", true)
  | 5 => ("RunLawsModel", "splitAt", "[I", true)
  | 6 => ("RunLawsModel", "numbers", "[I", true)
  | 7 => ("RunLawsModel", "unlike", "I", false)
  | 8 => ("RunLawsModel", "few", "[I", true)
  | 9 => ("RunLawsModel", "told", "I", false)
  | 10 => ("RunLawsModel", "code", "[I", true)
  | 11 => ("RunLawsModel", "held", "I", false)
  | 12 => ("RunLawsModel", "heldSide", "[I", true)
  | 13 => ("RunLawsModel", "heldCode", "[I", true)
  | 14 => ("RunLawsModel", "deaths", "I", false)
  | 15 => ("RunLawsModel", "death", "[I", true)
  | 16 => ("RunLawsModel", "rows", "I", false)
  | 17 => ("RunLawsModel", "columns", "I", false)
  | 18 => ("RunLawsModel", "rank", "I", false)
  | 19 => ("RunLawsModel", "table", "[J", true)
  | 20 => ("RunLawsModel", "first", "[I", true)
  | 21 => ("RunLawsModel", "isFree", "[Z", true)
  | 22 => ("RunLawsModel", "by", "J", false)
  | 23 => ("RunLawsModel", "basis", "I", false)
  | 24 => ("RunLawsModel", "base", "[J", true)
  | 25 => ("RunLawsModel", "startAt", "I", false)
  | 26 => ("RunLawsModel", "start", "[I", true)
  | 27 => ("RunLawsModel", "acts", "I", false)
  | 28 => ("RunLawsModel", "from", "[I", true)
  | 29 => ("RunLawsModel", "to", "[I", true)
  | 30 => ("RunLawsModel", "made", "[I", true)
  | 31 => ("RunLawsModel", "row", "[J", true)
  | 32 => ("RunLawsModel", "kept", "[J", true)
  | 33 => ("RunLawsModel", "wayPoint", "[I", true)
  | 34 => ("RunLawsModel", "wayNumber", "[I", true)
  | 35 => ("RunLawsModel", "wayAct", "[I", true)
  | 36 => ("RunLawsModel", "toldMany", "[I", true)
  | 37 => ("RunLawsModel", "toldCode", "[I", true)
  | 38 => ("RunLawsModel", "toldA", "[I", true)
  | 39 => ("RunLawsModel", "toldB", "[I", true)
  | 40 => ("RunLawsModel", "toldC", "[I", true)
  | 41 => ("RunLawsModel", "breaks", "I", false)
  | 42 => ("RunLawsModel", "breakPoint", "I", false)
  | 43 => ("RunLawsModel", "breakLength", "I", false)
  | 44 => ("RunLawsModel", "breakNumber", "[I", true)
  | 45 => ("RunLawsModel", "breakAct", "[I", true)
  | _ => ("RunLawsModel", "gone", "I", false)
def tyX8 : Nat → FieldType := fun k => match k with
  | 0 => .int
  | 1 => .array .int
  | 2 => .array .int
  | 3 => .array .boolean
  | 4 => .array .int
  | 5 => .array .int
  | 6 => .array .int
  | 7 => .int
  | 8 => .array .int
  | 9 => .int
  | 10 => .array .int
  | 11 => .int
  | 12 => .array .int
  | 13 => .array .int
  | 14 => .int
  | 15 => .array .int
  | 16 => .int
  | 17 => .int
  | 18 => .int
  | 19 => .array .long
  | 20 => .array .int
  | 21 => .array .boolean
  | 22 => .long
  | 23 => .int
  | 24 => .array .long
  | 25 => .int
  | 26 => .array .int
  | 27 => .int
  | 28 => .array .int
  | 29 => .array .int
  | 30 => .array .int
  | 31 => .array .long
  | 32 => .array .long
  | 33 => .array .int
  | 34 => .array .int
  | 35 => .array .int
  | 36 => .array .int
  | 37 => .array .int
  | 38 => .array .int
  | 39 => .array .int
  | 40 => .array .int
  | 41 => .int
  | 42 => .int
  | 43 => .int
  | 44 => .array .int
  | 45 => .array .int
  | _ => .int
abbrev wsX80 : List Cond := u_ws RX8 TX8 47
theorem nmX8 : ∀ a, a < 47 → ∀ b, b < 47 → a ≠ b → (TX8 a).2.1 ≠ (TX8 b).2.1 := by decide +kernel
theorem tyX8_ok : ∀ k, k < 47 → parseFieldDescriptor (TX8 k).2.2.1 = some (tyX8 k) := by decide +kernel
abbrev cX8_init : ByteArray := prog_10_method_1_code
def yX8_init : MethodName := ⟨RX8, "<init>", "()V"⟩
abbrev cX8_in : ByteArray := prog_10_method_2_code
def yX8_in : MethodName := ⟨RX8, "in", "(III)Z"⟩
abbrev cX8_noPoint : ByteArray := prog_10_method_3_code
def yX8_noPoint : MethodName := ⟨RX8, "noPoint", "(I)Z"⟩
abbrev cX8_noVariable : ByteArray := prog_10_method_4_code
def yX8_noVariable : MethodName := ⟨RX8, "noVariable", "(II)Z"⟩
abbrev cX8_point : ByteArray := prog_10_method_5_code
def yX8_point : MethodName := ⟨RX8, "point", "(I)I"⟩
abbrev cX8_at : ByteArray := prog_10_method_6_code
def yX8_at : MethodName := ⟨RX8, "at", "(III)I"⟩
abbrev cX8_isOf : ByteArray := prog_10_method_7_code
def yX8_isOf : MethodName := ⟨RX8, "isOf", "(III)Z"⟩
abbrev cX8_triedOf : ByteArray := prog_10_method_8_code
def yX8_triedOf : MethodName := ⟨RX8, "triedOf", "(II)I"⟩
abbrev cX8_split : ByteArray := prog_10_method_9_code
def yX8_split : MethodName := ⟨RX8, "split", "(III)I"⟩
abbrev cX8_reading : ByteArray := prog_10_method_10_code
def yX8_reading : MethodName := ⟨RX8, "reading", "(III)I"⟩
abbrev cX8_noSide : ByteArray := prog_10_method_11_code
def yX8_noSide : MethodName := ⟨RX8, "noSide", "(II)Z"⟩
abbrev cX8_tried : ByteArray := prog_10_method_12_code
def yX8_tried : MethodName := ⟨RX8, "tried", "(II)I"⟩
abbrev cX8_variables : ByteArray := prog_10_method_13_code
def yX8_variables : MethodName := ⟨RX8, "variables", "(I)I"⟩
abbrev cX8_gather : ByteArray := prog_10_method_14_code
def yX8_gather : MethodName := ⟨RX8, "gather", "(III)V"⟩
abbrev cX8_addFew : ByteArray := prog_10_method_15_code
def yX8_addFew : MethodName := ⟨RX8, "addFew", "(I)V"⟩
abbrev cX8_extreme : ByteArray := prog_10_method_16_code
def yX8_extreme : MethodName := ⟨RX8, "extreme", "(IIIZ)I"⟩
abbrev cX8_restOf : ByteArray := prog_10_method_17_code
def yX8_restOf : MethodName := ⟨RX8, "restOf", "(II)I"⟩
abbrev cX8_modulus : ByteArray := prog_10_method_18_code
def yX8_modulus : MethodName := ⟨RX8, "modulus", "(III)I"⟩
abbrev cX8_goes : ByteArray := prog_10_method_19_code
def yX8_goes : MethodName := ⟨RX8, "goes", "(III)Z"⟩
abbrev cX8_isTwo : ByteArray := prog_10_method_20_code
def yX8_isTwo : MethodName := ⟨RX8, "isTwo", "(IIIII)Z"⟩
abbrev cX8_isRising : ByteArray := prog_10_method_21_code
def yX8_isRising : MethodName := ⟨RX8, "isRising", "(III)Z"⟩
abbrev cX8_isSo : ByteArray := prog_10_method_22_code
def yX8_isSo : MethodName := ⟨RX8, "isSo", "(IIIII)Z"⟩
abbrev cX8_isOfTwo : ByteArray := prog_10_method_23_code
def yX8_isOfTwo : MethodName := ⟨RX8, "isOfTwo", "(I)Z"⟩
abbrev cX8_hasSuch : ByteArray := prog_10_method_24_code
def yX8_hasSuch : MethodName := ⟨RX8, "hasSuch", "(III)Z"⟩
abbrev cX8_holds : ByteArray := prog_10_method_25_code
def yX8_holds : MethodName := ⟨RX8, "holds", "(IIIII)I"⟩
abbrev cX8_number : ByteArray := prog_10_method_26_code
def yX8_number : MethodName := ⟨RX8, "number", "(IIIII)I"⟩
abbrev cX8_isSaid : ByteArray := prog_10_method_27_code
def yX8_isSaid : MethodName := ⟨RX8, "isSaid", "(IIIII)Z"⟩
abbrev cX8_findGuesses : ByteArray := prog_10_method_28_code
def yX8_findGuesses : MethodName := ⟨RX8, "findGuesses", "(IIZ)V"⟩
abbrev cX8_guesses : ByteArray := prog_10_method_29_code
def yX8_guesses : MethodName := ⟨RX8, "guesses", "(II)I"⟩
abbrev cX8_guess : ByteArray := prog_10_method_30_code
def yX8_guess : MethodName := ⟨RX8, "guess", "(III)I"⟩
abbrev cX8_noteHeld : ByteArray := prog_10_method_31_code
def yX8_noteHeld : MethodName := ⟨RX8, "noteHeld", "(I)V"⟩
abbrev cX8_readRow : ByteArray := prog_10_method_32_code
def yX8_readRow : MethodName := ⟨RX8, "readRow", "(IIIII)I"⟩
abbrev cX8_areIn : ByteArray := prog_10_method_33_code
def yX8_areIn : MethodName := ⟨RX8, "areIn", "(IIIII)Z"⟩
abbrev cX8_read : ByteArray := prog_10_method_34_code
def yX8_read : MethodName := ⟨RX8, "read", "(IIIII)I"⟩
abbrev cX8_died : ByteArray := prog_10_method_35_code
def yX8_died : MethodName := ⟨RX8, "died", "(I)I"⟩
abbrev cX8_bring : ByteArray := prog_10_method_36_code
def yX8_bring : MethodName := ⟨RX8, "bring", "()V"⟩
abbrev cX8_exchange : ByteArray := prog_10_method_37_code
def yX8_exchange : MethodName := ⟨RX8, "exchange", "(II)V"⟩
abbrev cX8_layTable : ByteArray := prog_10_method_38_code
def yX8_layTable : MethodName := ⟨RX8, "layTable", "(II)V"⟩
abbrev cX8_findBasis : ByteArray := prog_10_method_39_code
def yX8_findBasis : MethodName := ⟨RX8, "findBasis", "(II)V"⟩
abbrev cX8_shorten : ByteArray := prog_10_method_40_code
def yX8_shorten : MethodName := ⟨RX8, "shorten", "(II)V"⟩
abbrev cX8_sums : ByteArray := prog_10_method_41_code
def yX8_sums : MethodName := ⟨RX8, "sums", "(II)I"⟩
abbrev cX8_sum : ByteArray := prog_10_method_42_code
def yX8_sum : MethodName := ⟨RX8, "sum", "(IIII)J"⟩
abbrev cX8_start : ByteArray := prog_10_method_43_code
def yX8_start : MethodName := ⟨RX8, "start", "(IIIII)I"⟩
abbrev cX8_act : ByteArray := prog_10_method_44_code
def yX8_act : MethodName := ⟨RX8, "act", "(II)I"⟩
abbrev cX8_noMade : ByteArray := prog_10_method_45_code
def yX8_noMade : MethodName := ⟨RX8, "noMade", "(II)Z"⟩
abbrev cX8_makes : ByteArray := prog_10_method_46_code
def yX8_makes : MethodName := ⟨RX8, "makes", "(IIIIIII)I"⟩
abbrev cX8_made : ByteArray := prog_10_method_47_code
def yX8_made : MethodName := ⟨RX8, "made", "(III)I"⟩
abbrev cX8_isSum : ByteArray := prog_10_method_48_code
def yX8_isSum : MethodName := ⟨RX8, "isSum", "(I)Z"⟩
abbrev cX8_layRow : ByteArray := prog_10_method_49_code
def yX8_layRow : MethodName := ⟨RX8, "layRow", "(II)V"⟩
abbrev cX8_kept : ByteArray := prog_10_method_50_code
def yX8_kept : MethodName := ⟨RX8, "kept", "()I"⟩
abbrev cX8_begin : ByteArray := prog_10_method_51_code
def yX8_begin : MethodName := ⟨RX8, "begin", "()V"⟩
abbrev cX8_leads : ByteArray := prog_10_method_52_code
def yX8_leads : MethodName := ⟨RX8, "leads", "(II)Z"⟩
abbrev cX8_noteTold : ByteArray := prog_10_method_53_code
def yX8_noteTold : MethodName := ⟨RX8, "noteTold", "()V"⟩
abbrev cX8_isBroken : ByteArray := prog_10_method_54_code
def yX8_isBroken : MethodName := ⟨RX8, "isBroken", "(II)Z"⟩
abbrev cX8_broken : ByteArray := prog_10_method_55_code
def yX8_broken : MethodName := ⟨RX8, "broken", "(I)I"⟩
abbrev cX8_note : ByteArray := prog_10_method_56_code
def yX8_note : MethodName := ⟨RX8, "note", "(II)V"⟩
abbrev cX8_goThrough : ByteArray := prog_10_method_57_code
def yX8_goThrough : MethodName := ⟨RX8, "goThrough", "(I)Z"⟩
abbrev cX8_search : ByteArray := prog_10_method_58_code
def yX8_search : MethodName := ⟨RX8, "search", "(I)I"⟩
abbrev cX8_broke : ByteArray := prog_10_method_59_code
def yX8_broke : MethodName := ⟨RX8, "broke", "(I)I"⟩
abbrev cX8_run : ByteArray := prog_10_method_60_code
def yX8_run : MethodName := ⟨RX8, "run", "(II)I"⟩
abbrev cX8_told : ByteArray := prog_10_method_61_code
def yX8_told : MethodName := ⟨RX8, "told", "(I)I"⟩
def RJ9 : String := "java/lang/Math"
def TJ9 : u_T := fun k => match k with
  | _ => ("", "", "", false)
def tyJ9 : Nat → FieldType := fun k => match k with
  | _ => .int
abbrev wsJ90 : List Cond := u_ws RJ9 TJ9 0
theorem nmJ9 : ∀ a, a < 0 → ∀ b, b < 0 → a ≠ b → (TJ9 a).2.1 ≠ (TJ9 b).2.1 := by decide +kernel
theorem tyJ9_ok : ∀ k, k < 0 → parseFieldDescriptor (TJ9 k).2.2.1 = some (tyJ9 k) := by decide +kernel
abbrev cJ9_floorMod_7cf53 : ByteArray := prog_11_method_50_code
def yJ9_floorMod_7cf53 : MethodName := ⟨RJ9, "floorMod", "(II)I"⟩
abbrev cJ9_max_7cf53 : ByteArray := prog_11_method_65_code
def yJ9_max_7cf53 : MethodName := ⟨RJ9, "max", "(II)I"⟩
abbrev cJ9_min_7cf53 : ByteArray := prog_11_method_69_code
def yJ9_min_7cf53 : MethodName := ⟨RJ9, "min", "(II)I"⟩
def RL : String := "RunLawsLaw"
abbrev cL_law : ByteArray := code
def yL_law : MethodName := ⟨RL, "law", "([I)Z"⟩
abbrev vwCl : List vw_C := [(RX0, TX0, 5), (RX1, TX1, 13), (RX2, TX2, 2), (RX3, TX3, 6), (RX4, TX4, 7), (RX5, TX5, 14), (RX6, TX6, 6), (RX7, TX7, 7), (RX8, TX8, 47)]
def gwl : List Cond := lw_tbl.filter goodWord
theorem gwl_of {w : Cond} (h : w ∈ lw_tbl) (g : goodWord w = true) : w ∈ gwl := List.mem_filter.mpr ⟨h, g⟩
end
section
theorem dX0_init_0 : decode cX0_init 0 = .ok (.aload_n 0, 1) := by decide +kernel
theorem dX0_init_1 : decode cX0_init 1 = .ok (.invokespecial 3, 3) := by decide +kernel
theorem dX0_init_4 : decode cX0_init 4 = .ok (.aload_n 0, 1) := by decide +kernel
theorem dX0_init_5 : decode cX0_init 5 = .ok (.iload_n 1, 1) := by decide +kernel
theorem dX0_init_6 : decode cX0_init 6 = .ok (.putfield 9, 3) := by decide +kernel
theorem dX0_init_9 : decode cX0_init 9 = .ok (.aload_n 0, 1) := by decide +kernel
theorem dX0_init_10 : decode cX0_init 10 = .ok (.iload_n 2, 1) := by decide +kernel
theorem dX0_init_11 : decode cX0_init 11 = .ok (.putfield 15, 3) := by decide +kernel
theorem dX0_init_14 : decode cX0_init 14 = .ok (.aload_n 0, 1) := by decide +kernel
theorem dX0_init_15 : decode cX0_init 15 = .ok (.iload_n 3, 1) := by decide +kernel
theorem dX0_init_16 : decode cX0_init 16 = .ok (.putfield 18, 3) := by decide +kernel
theorem dX0_init_19 : decode cX0_init 19 = .ok (.aload_n 0, 1) := by decide +kernel
theorem dX0_init_20 : decode cX0_init 20 = .ok (.iload 4, 2) := by decide +kernel
theorem dX0_init_22 : decode cX0_init 22 = .ok (.putfield 21, 3) := by decide +kernel
theorem dX0_init_25 : decode cX0_init 25 = .ok (.aload_n 0, 1) := by decide +kernel
theorem dX0_init_26 : decode cX0_init 26 = .ok (.iload 4, 2) := by decide +kernel
theorem dX0_init_28 : decode cX0_init 28 = .ok (.iconst 5, 1) := by decide +kernel
theorem dX0_init_29 : decode cX0_init 29 = .ok (.multianewarray 24 2, 4) := by decide +kernel
theorem dX0_init_33 : decode cX0_init 33 = .ok (.putfield 26, 3) := by decide +kernel
theorem dX0_init_36 : decode cX0_init 36 = .ok (.return_, 1) := by decide +kernel
theorem dX0_hasVariable_0 : decode cX0_hasVariable 0 = .ok (.iload_n 1, 1) := by decide +kernel
theorem dX0_hasVariable_1 : decode cX0_hasVariable 1 = .ok (.ifCond .lt 15, 3) := by decide +kernel
theorem dX0_hasVariable_4 : decode cX0_hasVariable 4 = .ok (.iload_n 1, 1) := by decide +kernel
theorem dX0_hasVariable_5 : decode cX0_hasVariable 5 = .ok (.aload_n 0, 1) := by decide +kernel
theorem dX0_hasVariable_6 : decode cX0_hasVariable 6 = .ok (.getfield 21, 3) := by decide +kernel
theorem dX0_hasVariable_9 : decode cX0_hasVariable 9 = .ok (.if_icmp .ge 7, 3) := by decide +kernel
theorem dX0_hasVariable_12 : decode cX0_hasVariable 12 = .ok (.iconst 1, 1) := by decide +kernel
theorem dX0_hasVariable_13 : decode cX0_hasVariable 13 = .ok (.goto 4, 3) := by decide +kernel
theorem dX0_hasVariable_16 : decode cX0_hasVariable 16 = .ok (.iconst 0, 1) := by decide +kernel
theorem dX0_hasVariable_17 : decode cX0_hasVariable 17 = .ok (.ireturn, 1) := by decide +kernel
theorem dX0_set_0 : decode cX0_set 0 = .ok (.iconst 0, 1) := by decide +kernel
theorem dX0_set_1 : decode cX0_set 1 = .ok (.istore 4, 2) := by decide +kernel
theorem dX0_set_3 : decode cX0_set 3 = .ok (.iload 4, 2) := by decide +kernel
theorem dX0_set_5 : decode cX0_set 5 = .ok (.aload_n 0, 1) := by decide +kernel
theorem dX0_set_6 : decode cX0_set 6 = .ok (.getfield 18, 3) := by decide +kernel
theorem dX0_set_9 : decode cX0_set 9 = .ok (.if_icmp .ge 22, 3) := by decide +kernel
theorem dX0_set_12 : decode cX0_set 12 = .ok (.aload_n 0, 1) := by decide +kernel
theorem dX0_set_13 : decode cX0_set 13 = .ok (.getfield 26, 3) := by decide +kernel
theorem dX0_set_16 : decode cX0_set 16 = .ok (.iload_n 1, 1) := by decide +kernel
theorem dX0_set_17 : decode cX0_set 17 = .ok (.aaload, 1) := by decide +kernel
theorem dX0_set_18 : decode cX0_set 18 = .ok (.iload 4, 2) := by decide +kernel
theorem dX0_set_20 : decode cX0_set 20 = .ok (.aload_n 2, 1) := by decide +kernel
theorem dX0_set_21 : decode cX0_set 21 = .ok (.iload 4, 2) := by decide +kernel
theorem dX0_set_23 : decode cX0_set 23 = .ok (.iaload, 1) := by decide +kernel
theorem dX0_set_24 : decode cX0_set 24 = .ok (.iastore, 1) := by decide +kernel
theorem dX0_set_25 : decode cX0_set 25 = .ok (.iinc 4 1, 3) := by decide +kernel
theorem dX0_set_28 : decode cX0_set 28 = .ok (.goto (-25), 3) := by decide +kernel
theorem dX0_set_31 : decode cX0_set 31 = .ok (.aload_n 0, 1) := by decide +kernel
theorem dX0_set_32 : decode cX0_set 32 = .ok (.getfield 26, 3) := by decide +kernel
theorem dX0_set_35 : decode cX0_set 35 = .ok (.iload_n 1, 1) := by decide +kernel
theorem dX0_set_36 : decode cX0_set 36 = .ok (.aaload, 1) := by decide +kernel
theorem dX0_set_37 : decode cX0_set 37 = .ok (.iconst 4, 1) := by decide +kernel
theorem dX0_set_38 : decode cX0_set 38 = .ok (.iload_n 3, 1) := by decide +kernel
theorem dX0_set_39 : decode cX0_set 39 = .ok (.iastore, 1) := by decide +kernel
theorem dX0_set_40 : decode cX0_set 40 = .ok (.return_, 1) := by decide +kernel
theorem dX0_leads_0 : decode cX0_leads 0 = .ok (.iconst 0, 1) := by decide +kernel
theorem dX0_leads_1 : decode cX0_leads 1 = .ok (.istore_n 3, 1) := by decide +kernel
theorem dX0_leads_2 : decode cX0_leads 2 = .ok (.iload_n 3, 1) := by decide +kernel
theorem dX0_leads_3 : decode cX0_leads 3 = .ok (.aload_n 0, 1) := by decide +kernel
theorem dX0_leads_4 : decode cX0_leads 4 = .ok (.getfield 21, 3) := by decide +kernel
theorem dX0_leads_7 : decode cX0_leads 7 = .ok (.if_icmp .ge 73, 3) := by decide +kernel
theorem dX0_leads_10 : decode cX0_leads 10 = .ok (.aload_n 0, 1) := by decide +kernel
theorem dX0_leads_11 : decode cX0_leads 11 = .ok (.getfield 26, 3) := by decide +kernel
theorem dX0_leads_14 : decode cX0_leads 14 = .ok (.iload_n 3, 1) := by decide +kernel
theorem dX0_leads_15 : decode cX0_leads 15 = .ok (.aaload, 1) := by decide +kernel
theorem dX0_leads_16 : decode cX0_leads 16 = .ok (.astore 4, 2) := by decide +kernel
theorem dX0_leads_18 : decode cX0_leads 18 = .ok (.aload 4, 2) := by decide +kernel
theorem dX0_leads_20 : decode cX0_leads 20 = .ok (.iconst 4, 1) := by decide +kernel
theorem dX0_leads_21 : decode cX0_leads 21 = .ok (.iaload, 1) := by decide +kernel
theorem dX0_leads_22 : decode cX0_leads 22 = .ok (.istore 5, 2) := by decide +kernel
theorem dX0_leads_24 : decode cX0_leads 24 = .ok (.iconst 0, 1) := by decide +kernel
theorem dX0_leads_25 : decode cX0_leads 25 = .ok (.istore 6, 2) := by decide +kernel
theorem dX0_leads_27 : decode cX0_leads 27 = .ok (.iload 6, 2) := by decide +kernel
theorem dX0_leads_29 : decode cX0_leads 29 = .ok (.aload_n 0, 1) := by decide +kernel
theorem dX0_leads_30 : decode cX0_leads 30 = .ok (.getfield 18, 3) := by decide +kernel
theorem dX0_leads_33 : decode cX0_leads 33 = .ok (.if_icmp .ge 24, 3) := by decide +kernel
theorem dX0_leads_36 : decode cX0_leads 36 = .ok (.iload 5, 2) := by decide +kernel
theorem dX0_leads_38 : decode cX0_leads 38 = .ok (.aload 4, 2) := by decide +kernel
theorem dX0_leads_40 : decode cX0_leads 40 = .ok (.iload 6, 2) := by decide +kernel
theorem dX0_leads_42 : decode cX0_leads 42 = .ok (.iaload, 1) := by decide +kernel
theorem dX0_leads_43 : decode cX0_leads 43 = .ok (.aload_n 1, 1) := by decide +kernel
theorem dX0_leads_44 : decode cX0_leads 44 = .ok (.iload 6, 2) := by decide +kernel
theorem dX0_leads_46 : decode cX0_leads 46 = .ok (.iaload, 1) := by decide +kernel
theorem dX0_leads_47 : decode cX0_leads 47 = .ok (.imul, 1) := by decide +kernel
theorem dX0_leads_48 : decode cX0_leads 48 = .ok (.iadd, 1) := by decide +kernel
theorem dX0_leads_49 : decode cX0_leads 49 = .ok (.istore 5, 2) := by decide +kernel
theorem dX0_leads_51 : decode cX0_leads 51 = .ok (.iinc 6 1, 3) := by decide +kernel
theorem dX0_leads_54 : decode cX0_leads 54 = .ok (.goto (-27), 3) := by decide +kernel
theorem dX0_leads_57 : decode cX0_leads 57 = .ok (.iload 5, 2) := by decide +kernel
theorem dX0_leads_59 : decode cX0_leads 59 = .ok (.bipush 30, 2) := by decide +kernel
theorem dX0_leads_61 : decode cX0_leads 61 = .ok (.invokestatic 29, 3) := by decide +kernel
theorem dX0_leads_64 : decode cX0_leads 64 = .ok (.ifCond .ne 5, 3) := by decide +kernel
theorem dX0_leads_67 : decode cX0_leads 67 = .ok (.iconst 0, 1) := by decide +kernel
theorem dX0_leads_68 : decode cX0_leads 68 = .ok (.ireturn, 1) := by decide +kernel
theorem dX0_leads_69 : decode cX0_leads 69 = .ok (.aload_n 2, 1) := by decide +kernel
theorem dX0_leads_70 : decode cX0_leads 70 = .ok (.iload_n 3, 1) := by decide +kernel
theorem dX0_leads_71 : decode cX0_leads 71 = .ok (.iload 5, 2) := by decide +kernel
theorem dX0_leads_73 : decode cX0_leads 73 = .ok (.iastore, 1) := by decide +kernel
theorem dX0_leads_74 : decode cX0_leads 74 = .ok (.iinc 3 1, 3) := by decide +kernel
theorem dX0_leads_77 : decode cX0_leads 77 = .ok (.goto (-75), 3) := by decide +kernel
theorem dX0_leads_80 : decode cX0_leads 80 = .ok (.iconst 1, 1) := by decide +kernel
theorem dX0_leads_81 : decode cX0_leads 81 = .ok (.ireturn, 1) := by decide +kernel
theorem dX0_putIn_0 : decode cX0_putIn 0 = .ok (.iconst 0, 1) := by decide +kernel
theorem dX0_putIn_1 : decode cX0_putIn 1 = .ok (.istore_n 3, 1) := by decide +kernel
theorem dX0_putIn_2 : decode cX0_putIn 2 = .ok (.iload_n 3, 1) := by decide +kernel
theorem dX0_putIn_3 : decode cX0_putIn 3 = .ok (.aload_n 0, 1) := by decide +kernel
theorem dX0_putIn_4 : decode cX0_putIn 4 = .ok (.getfield 18, 3) := by decide +kernel
theorem dX0_putIn_7 : decode cX0_putIn 7 = .ok (.if_icmp .gt 88, 3) := by decide +kernel
theorem dX0_putIn_10 : decode cX0_putIn 10 = .ok (.iload_n 3, 1) := by decide +kernel
theorem dX0_putIn_11 : decode cX0_putIn 11 = .ok (.aload_n 0, 1) := by decide +kernel
theorem dX0_putIn_12 : decode cX0_putIn 12 = .ok (.getfield 18, 3) := by decide +kernel
theorem dX0_putIn_15 : decode cX0_putIn 15 = .ok (.if_icmp .ge 7, 3) := by decide +kernel
theorem dX0_putIn_18 : decode cX0_putIn 18 = .ok (.iload_n 3, 1) := by decide +kernel
theorem dX0_putIn_19 : decode cX0_putIn 19 = .ok (.goto 4, 3) := by decide +kernel
theorem dX0_putIn_22 : decode cX0_putIn 22 = .ok (.iconst 4, 1) := by decide +kernel
theorem dX0_putIn_23 : decode cX0_putIn 23 = .ok (.istore 4, 2) := by decide +kernel
theorem dX0_putIn_25 : decode cX0_putIn 25 = .ok (.iload_n 3, 1) := by decide +kernel
theorem dX0_putIn_26 : decode cX0_putIn 26 = .ok (.aload_n 0, 1) := by decide +kernel
theorem dX0_putIn_27 : decode cX0_putIn 27 = .ok (.getfield 18, 3) := by decide +kernel
theorem dX0_putIn_30 : decode cX0_putIn 30 = .ok (.if_icmp .ge 7, 3) := by decide +kernel
theorem dX0_putIn_33 : decode cX0_putIn 33 = .ok (.lconst 0, 1) := by decide +kernel
theorem dX0_putIn_34 : decode cX0_putIn 34 = .ok (.goto 9, 3) := by decide +kernel
theorem dX0_putIn_37 : decode cX0_putIn 37 = .ok (.aload_n 1, 1) := by decide +kernel
theorem dX0_putIn_38 : decode cX0_putIn 38 = .ok (.aload_n 0, 1) := by decide +kernel
theorem dX0_putIn_39 : decode cX0_putIn 39 = .ok (.getfield 21, 3) := by decide +kernel
theorem dX0_putIn_42 : decode cX0_putIn 42 = .ok (.laload, 1) := by decide +kernel
theorem dX0_putIn_43 : decode cX0_putIn 43 = .ok (.lstore 5, 2) := by decide +kernel
theorem dX0_putIn_45 : decode cX0_putIn 45 = .ok (.iconst 0, 1) := by decide +kernel
theorem dX0_putIn_46 : decode cX0_putIn 46 = .ok (.istore 7, 2) := by decide +kernel
theorem dX0_putIn_48 : decode cX0_putIn 48 = .ok (.iload 7, 2) := by decide +kernel
theorem dX0_putIn_50 : decode cX0_putIn 50 = .ok (.aload_n 0, 1) := by decide +kernel
theorem dX0_putIn_51 : decode cX0_putIn 51 = .ok (.getfield 21, 3) := by decide +kernel
theorem dX0_putIn_54 : decode cX0_putIn 54 = .ok (.if_icmp .ge 30, 3) := by decide +kernel
theorem dX0_putIn_57 : decode cX0_putIn 57 = .ok (.lload 5, 2) := by decide +kernel
theorem dX0_putIn_59 : decode cX0_putIn 59 = .ok (.aload_n 1, 1) := by decide +kernel
theorem dX0_putIn_60 : decode cX0_putIn 60 = .ok (.iload 7, 2) := by decide +kernel
theorem dX0_putIn_62 : decode cX0_putIn 62 = .ok (.laload, 1) := by decide +kernel
theorem dX0_putIn_63 : decode cX0_putIn 63 = .ok (.aload_n 0, 1) := by decide +kernel
theorem dX0_putIn_64 : decode cX0_putIn 64 = .ok (.getfield 26, 3) := by decide +kernel
theorem dX0_putIn_67 : decode cX0_putIn 67 = .ok (.iload 7, 2) := by decide +kernel
theorem dX0_putIn_69 : decode cX0_putIn 69 = .ok (.aaload, 1) := by decide +kernel
theorem dX0_putIn_70 : decode cX0_putIn 70 = .ok (.iload 4, 2) := by decide +kernel
theorem dX0_putIn_72 : decode cX0_putIn 72 = .ok (.iaload, 1) := by decide +kernel
theorem dX0_putIn_73 : decode cX0_putIn 73 = .ok (.i2l, 1) := by decide +kernel
theorem dX0_putIn_74 : decode cX0_putIn 74 = .ok (.lmul, 1) := by decide +kernel
theorem dX0_putIn_75 : decode cX0_putIn 75 = .ok (.ladd, 1) := by decide +kernel
theorem dX0_putIn_76 : decode cX0_putIn 76 = .ok (.lstore 5, 2) := by decide +kernel
theorem dX0_putIn_78 : decode cX0_putIn 78 = .ok (.iinc 7 1, 3) := by decide +kernel
theorem dX0_putIn_81 : decode cX0_putIn 81 = .ok (.goto (-33), 3) := by decide +kernel
theorem dX0_putIn_84 : decode cX0_putIn 84 = .ok (.aload_n 2, 1) := by decide +kernel
theorem dX0_putIn_85 : decode cX0_putIn 85 = .ok (.iload_n 3, 1) := by decide +kernel
theorem dX0_putIn_86 : decode cX0_putIn 86 = .ok (.lload 5, 2) := by decide +kernel
theorem dX0_putIn_88 : decode cX0_putIn 88 = .ok (.lastore, 1) := by decide +kernel
theorem dX0_putIn_89 : decode cX0_putIn 89 = .ok (.iinc 3 1, 3) := by decide +kernel
theorem dX0_putIn_92 : decode cX0_putIn 92 = .ok (.goto (-90), 3) := by decide +kernel
theorem dX0_putIn_95 : decode cX0_putIn 95 = .ok (.return_, 1) := by decide +kernel
theorem dX1_init_0 : decode cX1_init 0 = .ok (.aload_n 0, 1) := by decide +kernel
theorem dX1_init_1 : decode cX1_init 1 = .ok (.invokespecial 3, 3) := by decide +kernel
theorem dX1_init_4 : decode cX1_init 4 = .ok (.aload_n 0, 1) := by decide +kernel
theorem dX1_init_5 : decode cX1_init 5 = .ok (.iload_n 1, 1) := by decide +kernel
theorem dX1_init_6 : decode cX1_init 6 = .ok (.putfield 9, 3) := by decide +kernel
theorem dX1_init_9 : decode cX1_init 9 = .ok (.aload_n 0, 1) := by decide +kernel
theorem dX1_init_10 : decode cX1_init 10 = .ok (.new 15, 3) := by decide +kernel
theorem dX1_init_13 : decode cX1_init 13 = .ok (.dup, 1) := by decide +kernel
theorem dX1_init_14 : decode cX1_init 14 = .ok (.iload_n 1, 1) := by decide +kernel
theorem dX1_init_15 : decode cX1_init 15 = .ok (.iconst 1, 1) := by decide +kernel
theorem dX1_init_16 : decode cX1_init 16 = .ok (.iadd, 1) := by decide +kernel
theorem dX1_init_17 : decode cX1_init 17 = .ok (.invokespecial 17, 3) := by decide +kernel
theorem dX1_init_20 : decode cX1_init 20 = .ok (.putfield 20, 3) := by decide +kernel
theorem dX1_init_23 : decode cX1_init 23 = .ok (.aload_n 0, 1) := by decide +kernel
theorem dX1_init_24 : decode cX1_init 24 = .ok (.iload_n 1, 1) := by decide +kernel
theorem dX1_init_25 : decode cX1_init 25 = .ok (.newarray .int, 2) := by decide +kernel
theorem dX1_init_27 : decode cX1_init 27 = .ok (.putfield 24, 3) := by decide +kernel
theorem dX1_init_30 : decode cX1_init 30 = .ok (.aload_n 0, 1) := by decide +kernel
theorem dX1_init_31 : decode cX1_init 31 = .ok (.iload_n 1, 1) := by decide +kernel
theorem dX1_init_32 : decode cX1_init 32 = .ok (.newarray .int, 2) := by decide +kernel
theorem dX1_init_34 : decode cX1_init 34 = .ok (.putfield 28, 3) := by decide +kernel
theorem dX1_init_37 : decode cX1_init 37 = .ok (.aload_n 0, 1) := by decide +kernel
theorem dX1_init_38 : decode cX1_init 38 = .ok (.iload_n 1, 1) := by decide +kernel
theorem dX1_init_39 : decode cX1_init 39 = .ok (.newarray .int, 2) := by decide +kernel
theorem dX1_init_41 : decode cX1_init 41 = .ok (.putfield 31, 3) := by decide +kernel
theorem dX1_init_44 : decode cX1_init 44 = .ok (.aload_n 0, 1) := by decide +kernel
theorem dX1_init_45 : decode cX1_init 45 = .ok (.iload_n 1, 1) := by decide +kernel
theorem dX1_init_46 : decode cX1_init 46 = .ok (.newarray .int, 2) := by decide +kernel
theorem dX1_init_48 : decode cX1_init 48 = .ok (.putfield 34, 3) := by decide +kernel
theorem dX1_init_51 : decode cX1_init 51 = .ok (.aload_n 0, 1) := by decide +kernel
theorem dX1_init_52 : decode cX1_init 52 = .ok (.iload_n 1, 1) := by decide +kernel
theorem dX1_init_53 : decode cX1_init 53 = .ok (.newarray .boolean, 2) := by decide +kernel
theorem dX1_init_55 : decode cX1_init 55 = .ok (.putfield 37, 3) := by decide +kernel
theorem dX1_init_58 : decode cX1_init 58 = .ok (.aload_n 0, 1) := by decide +kernel
theorem dX1_init_59 : decode cX1_init 59 = .ok (.iload_n 1, 1) := by decide +kernel
theorem dX1_init_60 : decode cX1_init 60 = .ok (.newarray .long, 2) := by decide +kernel
theorem dX1_init_62 : decode cX1_init 62 = .ok (.putfield 41, 3) := by decide +kernel
theorem dX1_init_65 : decode cX1_init 65 = .ok (.aload_n 0, 1) := by decide +kernel
theorem dX1_init_66 : decode cX1_init 66 = .ok (.iload_n 1, 1) := by decide +kernel
theorem dX1_init_67 : decode cX1_init 67 = .ok (.newarray .int, 2) := by decide +kernel
theorem dX1_init_69 : decode cX1_init 69 = .ok (.putfield 45, 3) := by decide +kernel
theorem dX1_init_72 : decode cX1_init 72 = .ok (.aload_n 0, 1) := by decide +kernel
theorem dX1_init_73 : decode cX1_init 73 = .ok (.iload_n 1, 1) := by decide +kernel
theorem dX1_init_74 : decode cX1_init 74 = .ok (.newarray .int, 2) := by decide +kernel
theorem dX1_init_76 : decode cX1_init 76 = .ok (.putfield 48, 3) := by decide +kernel
theorem dX1_init_79 : decode cX1_init 79 = .ok (.aload_n 0, 1) := by decide +kernel
theorem dX1_init_80 : decode cX1_init 80 = .ok (.iload_n 1, 1) := by decide +kernel
theorem dX1_init_81 : decode cX1_init 81 = .ok (.iconst 3, 1) := by decide +kernel
theorem dX1_init_82 : decode cX1_init 82 = .ok (.multianewarray 51 2, 4) := by decide +kernel
theorem dX1_init_86 : decode cX1_init 86 = .ok (.putfield 53, 3) := by decide +kernel
theorem dX1_init_89 : decode cX1_init 89 = .ok (.aload_n 0, 1) := by decide +kernel
theorem dX1_init_90 : decode cX1_init 90 = .ok (.iload_n 1, 1) := by decide +kernel
theorem dX1_init_91 : decode cX1_init 91 = .ok (.iload_n 1, 1) := by decide +kernel
theorem dX1_init_92 : decode cX1_init 92 = .ok (.multianewarray 51 2, 4) := by decide +kernel
theorem dX1_init_96 : decode cX1_init 96 = .ok (.putfield 56, 3) := by decide +kernel
theorem dX1_init_99 : decode cX1_init 99 = .ok (.aload_n 0, 1) := by decide +kernel
theorem dX1_init_100 : decode cX1_init 100 = .ok (.iconst 0, 1) := by decide +kernel
theorem dX1_init_101 : decode cX1_init 101 = .ok (.putfield 59, 3) := by decide +kernel
theorem dX1_init_104 : decode cX1_init 104 = .ok (.return_, 1) := by decide +kernel
theorem dX1_hasVariable_0 : decode cX1_hasVariable 0 = .ok (.iload_n 1, 1) := by decide +kernel
theorem dX1_hasVariable_1 : decode cX1_hasVariable 1 = .ok (.ifCond .lt 15, 3) := by decide +kernel
theorem dX1_hasVariable_4 : decode cX1_hasVariable 4 = .ok (.iload_n 1, 1) := by decide +kernel
theorem dX1_hasVariable_5 : decode cX1_hasVariable 5 = .ok (.aload_n 0, 1) := by decide +kernel
theorem dX1_hasVariable_6 : decode cX1_hasVariable 6 = .ok (.getfield 9, 3) := by decide +kernel
theorem dX1_hasVariable_9 : decode cX1_hasVariable 9 = .ok (.if_icmp .ge 7, 3) := by decide +kernel
theorem dX1_hasVariable_12 : decode cX1_hasVariable 12 = .ok (.iconst 1, 1) := by decide +kernel
theorem dX1_hasVariable_13 : decode cX1_hasVariable 13 = .ok (.goto 4, 3) := by decide +kernel
theorem dX1_hasVariable_16 : decode cX1_hasVariable 16 = .ok (.iconst 0, 1) := by decide +kernel
theorem dX1_hasVariable_17 : decode cX1_hasVariable 17 = .ok (.ireturn, 1) := by decide +kernel
theorem dX1_clear_0 : decode cX1_clear 0 = .ok (.aload_n 0, 1) := by decide +kernel
theorem dX1_clear_1 : decode cX1_clear 1 = .ok (.iconst 0, 1) := by decide +kernel
theorem dX1_clear_2 : decode cX1_clear 2 = .ok (.putfield 59, 3) := by decide +kernel
theorem dX1_clear_5 : decode cX1_clear 5 = .ok (.aload_n 0, 1) := by decide +kernel
theorem dX1_clear_6 : decode cX1_clear 6 = .ok (.getfield 20, 3) := by decide +kernel
theorem dX1_clear_9 : decode cX1_clear 9 = .ok (.invokevirtual 62, 3) := by decide +kernel
theorem dX1_clear_12 : decode cX1_clear 12 = .ok (.return_, 1) := by decide +kernel
theorem dX1_add_0 : decode cX1_add 0 = .ok (.iconst 0, 1) := by decide +kernel
theorem dX1_add_1 : decode cX1_add 1 = .ok (.istore_n 2, 1) := by decide +kernel
theorem dX1_add_2 : decode cX1_add 2 = .ok (.iload_n 2, 1) := by decide +kernel
theorem dX1_add_3 : decode cX1_add 3 = .ok (.aload_n 0, 1) := by decide +kernel
theorem dX1_add_4 : decode cX1_add 4 = .ok (.getfield 9, 3) := by decide +kernel
theorem dX1_add_7 : decode cX1_add 7 = .ok (.if_icmp .ge 71, 3) := by decide +kernel
theorem dX1_add_10 : decode cX1_add 10 = .ok (.aload_n 0, 1) := by decide +kernel
theorem dX1_add_11 : decode cX1_add 11 = .ok (.getfield 59, 3) := by decide +kernel
theorem dX1_add_14 : decode cX1_add 14 = .ok (.ifCond .ne 14, 3) := by decide +kernel
theorem dX1_add_17 : decode cX1_add 17 = .ok (.aload_n 0, 1) := by decide +kernel
theorem dX1_add_18 : decode cX1_add 18 = .ok (.iload_n 2, 1) := by decide +kernel
theorem dX1_add_19 : decode cX1_add 19 = .ok (.aload_n 1, 1) := by decide +kernel
theorem dX1_add_20 : decode cX1_add 20 = .ok (.iload_n 2, 1) := by decide +kernel
theorem dX1_add_21 : decode cX1_add 21 = .ok (.iaload, 1) := by decide +kernel
theorem dX1_add_22 : decode cX1_add 22 = .ok (.invokevirtual 65, 3) := by decide +kernel
theorem dX1_add_25 : decode cX1_add 25 = .ok (.goto 11, 3) := by decide +kernel
theorem dX1_add_28 : decode cX1_add 28 = .ok (.aload_n 0, 1) := by decide +kernel
theorem dX1_add_29 : decode cX1_add 29 = .ok (.iload_n 2, 1) := by decide +kernel
theorem dX1_add_30 : decode cX1_add 30 = .ok (.aload_n 1, 1) := by decide +kernel
theorem dX1_add_31 : decode cX1_add 31 = .ok (.iload_n 2, 1) := by decide +kernel
theorem dX1_add_32 : decode cX1_add 32 = .ok (.iaload, 1) := by decide +kernel
theorem dX1_add_33 : decode cX1_add 33 = .ok (.invokevirtual 69, 3) := by decide +kernel
theorem dX1_add_36 : decode cX1_add 36 = .ok (.iconst 0, 1) := by decide +kernel
theorem dX1_add_37 : decode cX1_add 37 = .ok (.istore_n 3, 1) := by decide +kernel
theorem dX1_add_38 : decode cX1_add 38 = .ok (.iload_n 3, 1) := by decide +kernel
theorem dX1_add_39 : decode cX1_add 39 = .ok (.aload_n 0, 1) := by decide +kernel
theorem dX1_add_40 : decode cX1_add 40 = .ok (.getfield 9, 3) := by decide +kernel
theorem dX1_add_43 : decode cX1_add 43 = .ok (.if_icmp .ge 29, 3) := by decide +kernel
theorem dX1_add_46 : decode cX1_add 46 = .ok (.aload_n 0, 1) := by decide +kernel
theorem dX1_add_47 : decode cX1_add 47 = .ok (.getfield 56, 3) := by decide +kernel
theorem dX1_add_50 : decode cX1_add 50 = .ok (.iload_n 2, 1) := by decide +kernel
theorem dX1_add_51 : decode cX1_add 51 = .ok (.aaload, 1) := by decide +kernel
theorem dX1_add_52 : decode cX1_add 52 = .ok (.iload_n 3, 1) := by decide +kernel
theorem dX1_add_53 : decode cX1_add 53 = .ok (.dup2, 1) := by decide +kernel
theorem dX1_add_54 : decode cX1_add 54 = .ok (.iaload, 1) := by decide +kernel
theorem dX1_add_55 : decode cX1_add 55 = .ok (.aload_n 1, 1) := by decide +kernel
theorem dX1_add_56 : decode cX1_add 56 = .ok (.iload_n 2, 1) := by decide +kernel
theorem dX1_add_57 : decode cX1_add 57 = .ok (.iaload, 1) := by decide +kernel
theorem dX1_add_58 : decode cX1_add 58 = .ok (.aload_n 1, 1) := by decide +kernel
theorem dX1_add_59 : decode cX1_add 59 = .ok (.iload_n 3, 1) := by decide +kernel
theorem dX1_add_60 : decode cX1_add 60 = .ok (.iaload, 1) := by decide +kernel
theorem dX1_add_61 : decode cX1_add 61 = .ok (.invokestatic 72, 3) := by decide +kernel
theorem dX1_add_64 : decode cX1_add 64 = .ok (.ior, 1) := by decide +kernel
theorem dX1_add_65 : decode cX1_add 65 = .ok (.iastore, 1) := by decide +kernel
theorem dX1_add_66 : decode cX1_add 66 = .ok (.iinc 3 1, 3) := by decide +kernel
theorem dX1_add_69 : decode cX1_add 69 = .ok (.goto (-31), 3) := by decide +kernel
theorem dX1_add_72 : decode cX1_add 72 = .ok (.iinc 2 1, 3) := by decide +kernel
theorem dX1_add_75 : decode cX1_add 75 = .ok (.goto (-73), 3) := by decide +kernel
theorem dX1_add_78 : decode cX1_add 78 = .ok (.aload_n 0, 1) := by decide +kernel
theorem dX1_add_79 : decode cX1_add 79 = .ok (.getfield 20, 3) := by decide +kernel
theorem dX1_add_82 : decode cX1_add 82 = .ok (.aload_n 1, 1) := by decide +kernel
theorem dX1_add_83 : decode cX1_add 83 = .ok (.invokevirtual 76, 3) := by decide +kernel
theorem dX1_add_86 : decode cX1_add 86 = .ok (.aload_n 0, 1) := by decide +kernel
theorem dX1_add_87 : decode cX1_add 87 = .ok (.dup, 1) := by decide +kernel
theorem dX1_add_88 : decode cX1_add 88 = .ok (.getfield 59, 3) := by decide +kernel
theorem dX1_add_91 : decode cX1_add 91 = .ok (.iconst 1, 1) := by decide +kernel
theorem dX1_add_92 : decode cX1_add 92 = .ok (.iadd, 1) := by decide +kernel
theorem dX1_add_93 : decode cX1_add 93 = .ok (.putfield 59, 3) := by decide +kernel
theorem dX1_add_96 : decode cX1_add 96 = .ok (.return_, 1) := by decide +kernel
theorem dX1_begin_0 : decode cX1_begin 0 = .ok (.aload_n 0, 1) := by decide +kernel
theorem dX1_begin_1 : decode cX1_begin 1 = .ok (.getfield 24, 3) := by decide +kernel
theorem dX1_begin_4 : decode cX1_begin 4 = .ok (.iload_n 1, 1) := by decide +kernel
theorem dX1_begin_5 : decode cX1_begin 5 = .ok (.iload_n 2, 1) := by decide +kernel
theorem dX1_begin_6 : decode cX1_begin 6 = .ok (.iastore, 1) := by decide +kernel
theorem dX1_begin_7 : decode cX1_begin 7 = .ok (.aload_n 0, 1) := by decide +kernel
theorem dX1_begin_8 : decode cX1_begin 8 = .ok (.getfield 28, 3) := by decide +kernel
theorem dX1_begin_11 : decode cX1_begin 11 = .ok (.iload_n 1, 1) := by decide +kernel
theorem dX1_begin_12 : decode cX1_begin 12 = .ok (.iload_n 2, 1) := by decide +kernel
theorem dX1_begin_13 : decode cX1_begin 13 = .ok (.iastore, 1) := by decide +kernel
theorem dX1_begin_14 : decode cX1_begin 14 = .ok (.aload_n 0, 1) := by decide +kernel
theorem dX1_begin_15 : decode cX1_begin 15 = .ok (.getfield 31, 3) := by decide +kernel
theorem dX1_begin_18 : decode cX1_begin 18 = .ok (.iload_n 1, 1) := by decide +kernel
theorem dX1_begin_19 : decode cX1_begin 19 = .ok (.iload_n 2, 1) := by decide +kernel
theorem dX1_begin_20 : decode cX1_begin 20 = .ok (.iastore, 1) := by decide +kernel
theorem dX1_begin_21 : decode cX1_begin 21 = .ok (.aload_n 0, 1) := by decide +kernel
theorem dX1_begin_22 : decode cX1_begin 22 = .ok (.getfield 34, 3) := by decide +kernel
theorem dX1_begin_25 : decode cX1_begin 25 = .ok (.iload_n 1, 1) := by decide +kernel
theorem dX1_begin_26 : decode cX1_begin 26 = .ok (.iload_n 2, 1) := by decide +kernel
theorem dX1_begin_27 : decode cX1_begin 27 = .ok (.iastore, 1) := by decide +kernel
theorem dX1_begin_28 : decode cX1_begin 28 = .ok (.aload_n 0, 1) := by decide +kernel
theorem dX1_begin_29 : decode cX1_begin 29 = .ok (.getfield 37, 3) := by decide +kernel
theorem dX1_begin_32 : decode cX1_begin 32 = .ok (.iload_n 1, 1) := by decide +kernel
theorem dX1_begin_33 : decode cX1_begin 33 = .ok (.iconst 0, 1) := by decide +kernel
theorem dX1_begin_34 : decode cX1_begin 34 = .ok (.bastore, 1) := by decide +kernel
theorem dX1_begin_35 : decode cX1_begin 35 = .ok (.aload_n 0, 1) := by decide +kernel
theorem dX1_begin_36 : decode cX1_begin 36 = .ok (.getfield 41, 3) := by decide +kernel
theorem dX1_begin_39 : decode cX1_begin 39 = .ok (.iload_n 1, 1) := by decide +kernel
theorem dX1_begin_40 : decode cX1_begin 40 = .ok (.lconst 0, 1) := by decide +kernel
theorem dX1_begin_41 : decode cX1_begin 41 = .ok (.lastore, 1) := by decide +kernel
theorem dX1_begin_42 : decode cX1_begin 42 = .ok (.aload_n 0, 1) := by decide +kernel
theorem dX1_begin_43 : decode cX1_begin 43 = .ok (.getfield 45, 3) := by decide +kernel
theorem dX1_begin_46 : decode cX1_begin 46 = .ok (.iload_n 1, 1) := by decide +kernel
theorem dX1_begin_47 : decode cX1_begin 47 = .ok (.bipush 12, 2) := by decide +kernel
theorem dX1_begin_49 : decode cX1_begin 49 = .ok (.iastore, 1) := by decide +kernel
theorem dX1_begin_50 : decode cX1_begin 50 = .ok (.aload_n 0, 1) := by decide +kernel
theorem dX1_begin_51 : decode cX1_begin 51 = .ok (.getfield 48, 3) := by decide +kernel
theorem dX1_begin_54 : decode cX1_begin 54 = .ok (.iload_n 1, 1) := by decide +kernel
theorem dX1_begin_55 : decode cX1_begin 55 = .ok (.iconst 1, 1) := by decide +kernel
theorem dX1_begin_56 : decode cX1_begin 56 = .ok (.iastore, 1) := by decide +kernel
theorem dX1_begin_57 : decode cX1_begin 57 = .ok (.aload_n 0, 1) := by decide +kernel
theorem dX1_begin_58 : decode cX1_begin 58 = .ok (.getfield 53, 3) := by decide +kernel
theorem dX1_begin_61 : decode cX1_begin 61 = .ok (.iload_n 1, 1) := by decide +kernel
theorem dX1_begin_62 : decode cX1_begin 62 = .ok (.aaload, 1) := by decide +kernel
theorem dX1_begin_63 : decode cX1_begin 63 = .ok (.iconst 0, 1) := by decide +kernel
theorem dX1_begin_64 : decode cX1_begin 64 = .ok (.iload_n 2, 1) := by decide +kernel
theorem dX1_begin_65 : decode cX1_begin 65 = .ok (.iastore, 1) := by decide +kernel
theorem dX1_begin_66 : decode cX1_begin 66 = .ok (.iconst 0, 1) := by decide +kernel
theorem dX1_begin_67 : decode cX1_begin 67 = .ok (.istore_n 3, 1) := by decide +kernel
theorem dX1_begin_68 : decode cX1_begin 68 = .ok (.iload_n 3, 1) := by decide +kernel
theorem dX1_begin_69 : decode cX1_begin 69 = .ok (.aload_n 0, 1) := by decide +kernel
theorem dX1_begin_70 : decode cX1_begin 70 = .ok (.getfield 9, 3) := by decide +kernel
theorem dX1_begin_73 : decode cX1_begin 73 = .ok (.if_icmp .ge 18, 3) := by decide +kernel
theorem dX1_begin_76 : decode cX1_begin 76 = .ok (.aload_n 0, 1) := by decide +kernel
theorem dX1_begin_77 : decode cX1_begin 77 = .ok (.getfield 56, 3) := by decide +kernel
theorem dX1_begin_80 : decode cX1_begin 80 = .ok (.iload_n 1, 1) := by decide +kernel
theorem dX1_begin_81 : decode cX1_begin 81 = .ok (.aaload, 1) := by decide +kernel
theorem dX1_begin_82 : decode cX1_begin 82 = .ok (.iload_n 3, 1) := by decide +kernel
theorem dX1_begin_83 : decode cX1_begin 83 = .ok (.iconst 0, 1) := by decide +kernel
theorem dX1_begin_84 : decode cX1_begin 84 = .ok (.iastore, 1) := by decide +kernel
theorem dX1_begin_85 : decode cX1_begin 85 = .ok (.iinc 3 1, 3) := by decide +kernel
theorem dX1_begin_88 : decode cX1_begin 88 = .ok (.goto (-20), 3) := by decide +kernel
theorem dX1_begin_91 : decode cX1_begin 91 = .ok (.return_, 1) := by decide +kernel
theorem dX1_goOn_0 : decode cX1_goOn 0 = .ok (.iload_n 2, 1) := by decide +kernel
theorem dX1_goOn_1 : decode cX1_goOn 1 = .ok (.aload_n 0, 1) := by decide +kernel
theorem dX1_goOn_2 : decode cX1_goOn 2 = .ok (.getfield 28, 3) := by decide +kernel
theorem dX1_goOn_5 : decode cX1_goOn 5 = .ok (.iload_n 1, 1) := by decide +kernel
theorem dX1_goOn_6 : decode cX1_goOn 6 = .ok (.iaload, 1) := by decide +kernel
theorem dX1_goOn_7 : decode cX1_goOn 7 = .ok (.if_icmp .ge 10, 3) := by decide +kernel
theorem dX1_goOn_10 : decode cX1_goOn 10 = .ok (.aload_n 0, 1) := by decide +kernel
theorem dX1_goOn_11 : decode cX1_goOn 11 = .ok (.getfield 37, 3) := by decide +kernel
theorem dX1_goOn_14 : decode cX1_goOn 14 = .ok (.iload_n 1, 1) := by decide +kernel
theorem dX1_goOn_15 : decode cX1_goOn 15 = .ok (.iconst 1, 1) := by decide +kernel
theorem dX1_goOn_16 : decode cX1_goOn 16 = .ok (.bastore, 1) := by decide +kernel
theorem dX1_goOn_17 : decode cX1_goOn 17 = .ok (.aload_n 0, 1) := by decide +kernel
theorem dX1_goOn_18 : decode cX1_goOn 18 = .ok (.getfield 28, 3) := by decide +kernel
theorem dX1_goOn_21 : decode cX1_goOn 21 = .ok (.iload_n 1, 1) := by decide +kernel
theorem dX1_goOn_22 : decode cX1_goOn 22 = .ok (.iload_n 2, 1) := by decide +kernel
theorem dX1_goOn_23 : decode cX1_goOn 23 = .ok (.iastore, 1) := by decide +kernel
theorem dX1_goOn_24 : decode cX1_goOn 24 = .ok (.aload_n 0, 1) := by decide +kernel
theorem dX1_goOn_25 : decode cX1_goOn 25 = .ok (.getfield 31, 3) := by decide +kernel
theorem dX1_goOn_28 : decode cX1_goOn 28 = .ok (.iload_n 1, 1) := by decide +kernel
theorem dX1_goOn_29 : decode cX1_goOn 29 = .ok (.aload_n 0, 1) := by decide +kernel
theorem dX1_goOn_30 : decode cX1_goOn 30 = .ok (.getfield 31, 3) := by decide +kernel
theorem dX1_goOn_33 : decode cX1_goOn 33 = .ok (.iload_n 1, 1) := by decide +kernel
theorem dX1_goOn_34 : decode cX1_goOn 34 = .ok (.iaload, 1) := by decide +kernel
theorem dX1_goOn_35 : decode cX1_goOn 35 = .ok (.iload_n 2, 1) := by decide +kernel
theorem dX1_goOn_36 : decode cX1_goOn 36 = .ok (.invokestatic 80, 3) := by decide +kernel
theorem dX1_goOn_39 : decode cX1_goOn 39 = .ok (.iastore, 1) := by decide +kernel
theorem dX1_goOn_40 : decode cX1_goOn 40 = .ok (.aload_n 0, 1) := by decide +kernel
theorem dX1_goOn_41 : decode cX1_goOn 41 = .ok (.getfield 34, 3) := by decide +kernel
theorem dX1_goOn_44 : decode cX1_goOn 44 = .ok (.iload_n 1, 1) := by decide +kernel
theorem dX1_goOn_45 : decode cX1_goOn 45 = .ok (.aload_n 0, 1) := by decide +kernel
theorem dX1_goOn_46 : decode cX1_goOn 46 = .ok (.getfield 34, 3) := by decide +kernel
theorem dX1_goOn_49 : decode cX1_goOn 49 = .ok (.iload_n 1, 1) := by decide +kernel
theorem dX1_goOn_50 : decode cX1_goOn 50 = .ok (.iaload, 1) := by decide +kernel
theorem dX1_goOn_51 : decode cX1_goOn 51 = .ok (.iload_n 2, 1) := by decide +kernel
theorem dX1_goOn_52 : decode cX1_goOn 52 = .ok (.invokestatic 85, 3) := by decide +kernel
theorem dX1_goOn_55 : decode cX1_goOn 55 = .ok (.iastore, 1) := by decide +kernel
theorem dX1_goOn_56 : decode cX1_goOn 56 = .ok (.aload_n 0, 1) := by decide +kernel
theorem dX1_goOn_57 : decode cX1_goOn 57 = .ok (.getfield 41, 3) := by decide +kernel
theorem dX1_goOn_60 : decode cX1_goOn 60 = .ok (.iload_n 1, 1) := by decide +kernel
theorem dX1_goOn_61 : decode cX1_goOn 61 = .ok (.aload_n 0, 1) := by decide +kernel
theorem dX1_goOn_62 : decode cX1_goOn 62 = .ok (.getfield 41, 3) := by decide +kernel
theorem dX1_goOn_65 : decode cX1_goOn 65 = .ok (.iload_n 1, 1) := by decide +kernel
theorem dX1_goOn_66 : decode cX1_goOn 66 = .ok (.laload, 1) := by decide +kernel
theorem dX1_goOn_67 : decode cX1_goOn 67 = .ok (.iload_n 2, 1) := by decide +kernel
theorem dX1_goOn_68 : decode cX1_goOn 68 = .ok (.aload_n 0, 1) := by decide +kernel
theorem dX1_goOn_69 : decode cX1_goOn 69 = .ok (.getfield 24, 3) := by decide +kernel
theorem dX1_goOn_72 : decode cX1_goOn 72 = .ok (.iload_n 1, 1) := by decide +kernel
theorem dX1_goOn_73 : decode cX1_goOn 73 = .ok (.iaload, 1) := by decide +kernel
theorem dX1_goOn_74 : decode cX1_goOn 74 = .ok (.isub, 1) := by decide +kernel
theorem dX1_goOn_75 : decode cX1_goOn 75 = .ok (.i2l, 1) := by decide +kernel
theorem dX1_goOn_76 : decode cX1_goOn 76 = .ok (.invokestatic 88, 3) := by decide +kernel
theorem dX1_goOn_79 : decode cX1_goOn 79 = .ok (.lastore, 1) := by decide +kernel
theorem dX1_goOn_80 : decode cX1_goOn 80 = .ok (.aload_n 0, 1) := by decide +kernel
theorem dX1_goOn_81 : decode cX1_goOn 81 = .ok (.getfield 45, 3) := by decide +kernel
theorem dX1_goOn_84 : decode cX1_goOn 84 = .ok (.iload_n 1, 1) := by decide +kernel
theorem dX1_goOn_85 : decode cX1_goOn 85 = .ok (.aload_n 0, 1) := by decide +kernel
theorem dX1_goOn_86 : decode cX1_goOn 86 = .ok (.getfield 41, 3) := by decide +kernel
theorem dX1_goOn_89 : decode cX1_goOn 89 = .ok (.iload_n 1, 1) := by decide +kernel
theorem dX1_goOn_90 : decode cX1_goOn 90 = .ok (.laload, 1) := by decide +kernel
theorem dX1_goOn_91 : decode cX1_goOn 91 = .ok (.invokestatic 92, 3) := by decide +kernel
theorem dX1_goOn_94 : decode cX1_goOn 94 = .ok (.iastore, 1) := by decide +kernel
theorem dX1_goOn_95 : decode cX1_goOn 95 = .ok (.aload_n 0, 1) := by decide +kernel
theorem dX1_goOn_96 : decode cX1_goOn 96 = .ok (.iload_n 1, 1) := by decide +kernel
theorem dX1_goOn_97 : decode cX1_goOn 97 = .ok (.iload_n 2, 1) := by decide +kernel
theorem dX1_goOn_98 : decode cX1_goOn 98 = .ok (.invokevirtual 96, 3) := by decide +kernel
theorem dX1_goOn_101 : decode cX1_goOn 101 = .ok (.return_, 1) := by decide +kernel
theorem dX1_greatestModulus_0 : decode cX1_greatestModulus 0 = .ok (.bipush 12, 2) := by decide +kernel
theorem dX1_greatestModulus_2 : decode cX1_greatestModulus 2 = .ok (.istore_n 2, 1) := by decide +kernel
theorem dX1_greatestModulus_3 : decode cX1_greatestModulus 3 = .ok (.iload_n 2, 1) := by decide +kernel
theorem dX1_greatestModulus_4 : decode cX1_greatestModulus 4 = .ok (.iconst 2, 1) := by decide +kernel
theorem dX1_greatestModulus_5 : decode cX1_greatestModulus 5 = .ok (.if_icmp .lt 20, 3) := by decide +kernel
theorem dX1_greatestModulus_8 : decode cX1_greatestModulus 8 = .ok (.lload_n 0, 1) := by decide +kernel
theorem dX1_greatestModulus_9 : decode cX1_greatestModulus 9 = .ok (.iload_n 2, 1) := by decide +kernel
theorem dX1_greatestModulus_10 : decode cX1_greatestModulus 10 = .ok (.i2l, 1) := by decide +kernel
theorem dX1_greatestModulus_11 : decode cX1_greatestModulus 11 = .ok (.lrem, 1) := by decide +kernel
theorem dX1_greatestModulus_12 : decode cX1_greatestModulus 12 = .ok (.lconst 0, 1) := by decide +kernel
theorem dX1_greatestModulus_13 : decode cX1_greatestModulus 13 = .ok (.lcmp, 1) := by decide +kernel
theorem dX1_greatestModulus_14 : decode cX1_greatestModulus 14 = .ok (.ifCond .ne 5, 3) := by decide +kernel
theorem dX1_greatestModulus_17 : decode cX1_greatestModulus 17 = .ok (.iload_n 2, 1) := by decide +kernel
theorem dX1_greatestModulus_18 : decode cX1_greatestModulus 18 = .ok (.ireturn, 1) := by decide +kernel
theorem dX1_greatestModulus_19 : decode cX1_greatestModulus 19 = .ok (.iinc 2 (-1), 3) := by decide +kernel
theorem dX1_greatestModulus_22 : decode cX1_greatestModulus 22 = .ok (.goto (-19), 3) := by decide +kernel
theorem dX1_greatestModulus_25 : decode cX1_greatestModulus 25 = .ok (.iconst 0, 1) := by decide +kernel
theorem dX1_greatestModulus_26 : decode cX1_greatestModulus 26 = .ok (.ireturn, 1) := by decide +kernel
theorem dX1_noteNumber_0 : decode cX1_noteNumber 0 = .ok (.aload_n 0, 1) := by decide +kernel
theorem dX1_noteNumber_1 : decode cX1_noteNumber 1 = .ok (.getfield 48, 3) := by decide +kernel
theorem dX1_noteNumber_4 : decode cX1_noteNumber 4 = .ok (.iload_n 1, 1) := by decide +kernel
theorem dX1_noteNumber_5 : decode cX1_noteNumber 5 = .ok (.iaload, 1) := by decide +kernel
theorem dX1_noteNumber_6 : decode cX1_noteNumber 6 = .ok (.iconst 3, 1) := by decide +kernel
theorem dX1_noteNumber_7 : decode cX1_noteNumber 7 = .ok (.if_icmp .gt 12, 3) := by decide +kernel
theorem dX1_noteNumber_10 : decode cX1_noteNumber 10 = .ok (.aload_n 0, 1) := by decide +kernel
theorem dX1_noteNumber_11 : decode cX1_noteNumber 11 = .ok (.iload_n 1, 1) := by decide +kernel
theorem dX1_noteNumber_12 : decode cX1_noteNumber 12 = .ok (.iload_n 2, 1) := by decide +kernel
theorem dX1_noteNumber_13 : decode cX1_noteNumber 13 = .ok (.invokevirtual 99, 3) := by decide +kernel
theorem dX1_noteNumber_16 : decode cX1_noteNumber 16 = .ok (.ifCond .eq 4, 3) := by decide +kernel
theorem dX1_noteNumber_19 : decode cX1_noteNumber 19 = .ok (.return_, 1) := by decide +kernel
theorem dX1_noteNumber_20 : decode cX1_noteNumber 20 = .ok (.aload_n 0, 1) := by decide +kernel
theorem dX1_noteNumber_21 : decode cX1_noteNumber 21 = .ok (.getfield 48, 3) := by decide +kernel
theorem dX1_noteNumber_24 : decode cX1_noteNumber 24 = .ok (.iload_n 1, 1) := by decide +kernel
theorem dX1_noteNumber_25 : decode cX1_noteNumber 25 = .ok (.iaload, 1) := by decide +kernel
theorem dX1_noteNumber_26 : decode cX1_noteNumber 26 = .ok (.istore_n 3, 1) := by decide +kernel
theorem dX1_noteNumber_27 : decode cX1_noteNumber 27 = .ok (.aload_n 0, 1) := by decide +kernel
theorem dX1_noteNumber_28 : decode cX1_noteNumber 28 = .ok (.getfield 48, 3) := by decide +kernel
theorem dX1_noteNumber_31 : decode cX1_noteNumber 31 = .ok (.iload_n 1, 1) := by decide +kernel
theorem dX1_noteNumber_32 : decode cX1_noteNumber 32 = .ok (.dup2, 1) := by decide +kernel
theorem dX1_noteNumber_33 : decode cX1_noteNumber 33 = .ok (.iaload, 1) := by decide +kernel
theorem dX1_noteNumber_34 : decode cX1_noteNumber 34 = .ok (.iconst 1, 1) := by decide +kernel
theorem dX1_noteNumber_35 : decode cX1_noteNumber 35 = .ok (.iadd, 1) := by decide +kernel
theorem dX1_noteNumber_36 : decode cX1_noteNumber 36 = .ok (.iastore, 1) := by decide +kernel
theorem dX1_noteNumber_37 : decode cX1_noteNumber 37 = .ok (.iload_n 3, 1) := by decide +kernel
theorem dX1_noteNumber_38 : decode cX1_noteNumber 38 = .ok (.iconst 3, 1) := by decide +kernel
theorem dX1_noteNumber_39 : decode cX1_noteNumber 39 = .ok (.if_icmp .lt 4, 3) := by decide +kernel
theorem dX1_noteNumber_42 : decode cX1_noteNumber 42 = .ok (.return_, 1) := by decide +kernel
theorem dX1_noteNumber_43 : decode cX1_noteNumber 43 = .ok (.aload_n 0, 1) := by decide +kernel
theorem dX1_noteNumber_44 : decode cX1_noteNumber 44 = .ok (.getfield 53, 3) := by decide +kernel
theorem dX1_noteNumber_47 : decode cX1_noteNumber 47 = .ok (.iload_n 1, 1) := by decide +kernel
theorem dX1_noteNumber_48 : decode cX1_noteNumber 48 = .ok (.aaload, 1) := by decide +kernel
theorem dX1_noteNumber_49 : decode cX1_noteNumber 49 = .ok (.astore 4, 2) := by decide +kernel
theorem dX1_noteNumber_51 : decode cX1_noteNumber 51 = .ok (.iload_n 3, 1) := by decide +kernel
theorem dX1_noteNumber_52 : decode cX1_noteNumber 52 = .ok (.ifCond .le 29, 3) := by decide +kernel
theorem dX1_noteNumber_55 : decode cX1_noteNumber 55 = .ok (.aload 4, 2) := by decide +kernel
theorem dX1_noteNumber_57 : decode cX1_noteNumber 57 = .ok (.iload_n 3, 1) := by decide +kernel
theorem dX1_noteNumber_58 : decode cX1_noteNumber 58 = .ok (.iconst 1, 1) := by decide +kernel
theorem dX1_noteNumber_59 : decode cX1_noteNumber 59 = .ok (.isub, 1) := by decide +kernel
theorem dX1_noteNumber_60 : decode cX1_noteNumber 60 = .ok (.iaload, 1) := by decide +kernel
theorem dX1_noteNumber_61 : decode cX1_noteNumber 61 = .ok (.iload_n 2, 1) := by decide +kernel
theorem dX1_noteNumber_62 : decode cX1_noteNumber 62 = .ok (.if_icmp .le 19, 3) := by decide +kernel
theorem dX1_noteNumber_65 : decode cX1_noteNumber 65 = .ok (.aload 4, 2) := by decide +kernel
theorem dX1_noteNumber_67 : decode cX1_noteNumber 67 = .ok (.iload_n 3, 1) := by decide +kernel
theorem dX1_noteNumber_68 : decode cX1_noteNumber 68 = .ok (.aload 4, 2) := by decide +kernel
theorem dX1_noteNumber_70 : decode cX1_noteNumber 70 = .ok (.iload_n 3, 1) := by decide +kernel
theorem dX1_noteNumber_71 : decode cX1_noteNumber 71 = .ok (.iconst 1, 1) := by decide +kernel
theorem dX1_noteNumber_72 : decode cX1_noteNumber 72 = .ok (.isub, 1) := by decide +kernel
theorem dX1_noteNumber_73 : decode cX1_noteNumber 73 = .ok (.iaload, 1) := by decide +kernel
theorem dX1_noteNumber_74 : decode cX1_noteNumber 74 = .ok (.iastore, 1) := by decide +kernel
theorem dX1_noteNumber_75 : decode cX1_noteNumber 75 = .ok (.iinc 3 (-1), 3) := by decide +kernel
theorem dX1_noteNumber_78 : decode cX1_noteNumber 78 = .ok (.goto (-27), 3) := by decide +kernel
theorem dX1_noteNumber_81 : decode cX1_noteNumber 81 = .ok (.aload 4, 2) := by decide +kernel
theorem dX1_noteNumber_83 : decode cX1_noteNumber 83 = .ok (.iload_n 3, 1) := by decide +kernel
theorem dX1_noteNumber_84 : decode cX1_noteNumber 84 = .ok (.iload_n 2, 1) := by decide +kernel
theorem dX1_noteNumber_85 : decode cX1_noteNumber 85 = .ok (.iastore, 1) := by decide +kernel
theorem dX1_noteNumber_86 : decode cX1_noteNumber 86 = .ok (.return_, 1) := by decide +kernel
theorem dX1_isAmongFew_0 : decode cX1_isAmongFew 0 = .ok (.iconst 0, 1) := by decide +kernel
theorem dX1_isAmongFew_1 : decode cX1_isAmongFew 1 = .ok (.istore_n 3, 1) := by decide +kernel
theorem dX1_isAmongFew_2 : decode cX1_isAmongFew 2 = .ok (.iload_n 3, 1) := by decide +kernel
theorem dX1_isAmongFew_3 : decode cX1_isAmongFew 3 = .ok (.aload_n 0, 1) := by decide +kernel
theorem dX1_isAmongFew_4 : decode cX1_isAmongFew 4 = .ok (.getfield 48, 3) := by decide +kernel
theorem dX1_isAmongFew_7 : decode cX1_isAmongFew 7 = .ok (.iload_n 1, 1) := by decide +kernel
theorem dX1_isAmongFew_8 : decode cX1_isAmongFew 8 = .ok (.iaload, 1) := by decide +kernel
theorem dX1_isAmongFew_9 : decode cX1_isAmongFew 9 = .ok (.if_icmp .ge 28, 3) := by decide +kernel
theorem dX1_isAmongFew_12 : decode cX1_isAmongFew 12 = .ok (.iload_n 3, 1) := by decide +kernel
theorem dX1_isAmongFew_13 : decode cX1_isAmongFew 13 = .ok (.iconst 3, 1) := by decide +kernel
theorem dX1_isAmongFew_14 : decode cX1_isAmongFew 14 = .ok (.if_icmp .ge 23, 3) := by decide +kernel
theorem dX1_isAmongFew_17 : decode cX1_isAmongFew 17 = .ok (.aload_n 0, 1) := by decide +kernel
theorem dX1_isAmongFew_18 : decode cX1_isAmongFew 18 = .ok (.getfield 53, 3) := by decide +kernel
theorem dX1_isAmongFew_21 : decode cX1_isAmongFew 21 = .ok (.iload_n 1, 1) := by decide +kernel
theorem dX1_isAmongFew_22 : decode cX1_isAmongFew 22 = .ok (.aaload, 1) := by decide +kernel
theorem dX1_isAmongFew_23 : decode cX1_isAmongFew 23 = .ok (.iload_n 3, 1) := by decide +kernel
theorem dX1_isAmongFew_24 : decode cX1_isAmongFew 24 = .ok (.iaload, 1) := by decide +kernel
theorem dX1_isAmongFew_25 : decode cX1_isAmongFew 25 = .ok (.iload_n 2, 1) := by decide +kernel
theorem dX1_isAmongFew_26 : decode cX1_isAmongFew 26 = .ok (.if_icmp .ne 5, 3) := by decide +kernel
theorem dX1_isAmongFew_29 : decode cX1_isAmongFew 29 = .ok (.iconst 1, 1) := by decide +kernel
theorem dX1_isAmongFew_30 : decode cX1_isAmongFew 30 = .ok (.ireturn, 1) := by decide +kernel
theorem dX1_isAmongFew_31 : decode cX1_isAmongFew 31 = .ok (.iinc 3 1, 3) := by decide +kernel
theorem dX1_isAmongFew_34 : decode cX1_isAmongFew 34 = .ok (.goto (-32), 3) := by decide +kernel
theorem dX1_isAmongFew_37 : decode cX1_isAmongFew 37 = .ok (.iconst 0, 1) := by decide +kernel
theorem dX1_isAmongFew_38 : decode cX1_isAmongFew 38 = .ok (.ireturn, 1) := by decide +kernel
theorem dX1_stands_0 : decode cX1_stands 0 = .ok (.aload_n 0, 1) := by decide +kernel
theorem dX1_stands_1 : decode cX1_stands 1 = .ok (.getfield 59, 3) := by decide +kernel
theorem dX1_stands_4 : decode cX1_stands 4 = .ok (.ifCond .eq 19, 3) := by decide +kernel
theorem dX1_stands_7 : decode cX1_stands 7 = .ok (.aload_n 0, 1) := by decide +kernel
theorem dX1_stands_8 : decode cX1_stands 8 = .ok (.iload_n 2, 1) := by decide +kernel
theorem dX1_stands_9 : decode cX1_stands 9 = .ok (.invokevirtual 103, 3) := by decide +kernel
theorem dX1_stands_12 : decode cX1_stands 12 = .ok (.ifCond .eq 11, 3) := by decide +kernel
theorem dX1_stands_15 : decode cX1_stands 15 = .ok (.aload_n 0, 1) := by decide +kernel
theorem dX1_stands_16 : decode cX1_stands 16 = .ok (.iload_n 3, 1) := by decide +kernel
theorem dX1_stands_17 : decode cX1_stands 17 = .ok (.invokevirtual 103, 3) := by decide +kernel
theorem dX1_stands_20 : decode cX1_stands 20 = .ok (.ifCond .ne 5, 3) := by decide +kernel
theorem dX1_stands_23 : decode cX1_stands 23 = .ok (.iconst 0, 1) := by decide +kernel
theorem dX1_stands_24 : decode cX1_stands 24 = .ok (.ireturn, 1) := by decide +kernel
theorem dX1_stands_25 : decode cX1_stands 25 = .ok (.iload_n 1, 1) := by decide +kernel
theorem dX1_stands_26 : decode cX1_stands 26 = .ok (.tableswitch 128 0 9 #[54, 70, 96, 96, 98, 128, 128, 128, 128, 113], 54) := by decide +kernel
theorem dX1_stands_80 : decode cX1_stands 80 = .ok (.aload_n 0, 1) := by decide +kernel
theorem dX1_stands_81 : decode cX1_stands 81 = .ok (.getfield 48, 3) := by decide +kernel
theorem dX1_stands_84 : decode cX1_stands 84 = .ok (.iload_n 2, 1) := by decide +kernel
theorem dX1_stands_85 : decode cX1_stands 85 = .ok (.iaload, 1) := by decide +kernel
theorem dX1_stands_86 : decode cX1_stands 86 = .ok (.iconst 1, 1) := by decide +kernel
theorem dX1_stands_87 : decode cX1_stands 87 = .ok (.if_icmp .ne 7, 3) := by decide +kernel
theorem dX1_stands_90 : decode cX1_stands 90 = .ok (.iconst 1, 1) := by decide +kernel
theorem dX1_stands_91 : decode cX1_stands 91 = .ok (.goto 4, 3) := by decide +kernel
theorem dX1_stands_94 : decode cX1_stands 94 = .ok (.iconst 0, 1) := by decide +kernel
theorem dX1_stands_95 : decode cX1_stands 95 = .ok (.ireturn, 1) := by decide +kernel
theorem dX1_stands_96 : decode cX1_stands 96 = .ok (.aload_n 0, 1) := by decide +kernel
theorem dX1_stands_97 : decode cX1_stands 97 = .ok (.getfield 48, 3) := by decide +kernel
theorem dX1_stands_100 : decode cX1_stands 100 = .ok (.iload_n 2, 1) := by decide +kernel
theorem dX1_stands_101 : decode cX1_stands 101 = .ok (.iaload, 1) := by decide +kernel
theorem dX1_stands_102 : decode cX1_stands 102 = .ok (.iconst 1, 1) := by decide +kernel
theorem dX1_stands_103 : decode cX1_stands 103 = .ok (.if_icmp .le 17, 3) := by decide +kernel
theorem dX1_stands_106 : decode cX1_stands 106 = .ok (.aload_n 0, 1) := by decide +kernel
theorem dX1_stands_107 : decode cX1_stands 107 = .ok (.getfield 48, 3) := by decide +kernel
theorem dX1_stands_110 : decode cX1_stands 110 = .ok (.iload_n 2, 1) := by decide +kernel
theorem dX1_stands_111 : decode cX1_stands 111 = .ok (.iaload, 1) := by decide +kernel
theorem dX1_stands_112 : decode cX1_stands 112 = .ok (.iconst 3, 1) := by decide +kernel
theorem dX1_stands_113 : decode cX1_stands 113 = .ok (.if_icmp .gt 7, 3) := by decide +kernel
theorem dX1_stands_116 : decode cX1_stands 116 = .ok (.iconst 1, 1) := by decide +kernel
theorem dX1_stands_117 : decode cX1_stands 117 = .ok (.goto 4, 3) := by decide +kernel
theorem dX1_stands_120 : decode cX1_stands 120 = .ok (.iconst 0, 1) := by decide +kernel
theorem dX1_stands_121 : decode cX1_stands 121 = .ok (.ireturn, 1) := by decide +kernel
theorem dX1_stands_122 : decode cX1_stands 122 = .ok (.iconst 1, 1) := by decide +kernel
theorem dX1_stands_123 : decode cX1_stands 123 = .ok (.ireturn, 1) := by decide +kernel
theorem dX1_stands_124 : decode cX1_stands 124 = .ok (.aload_n 0, 1) := by decide +kernel
theorem dX1_stands_125 : decode cX1_stands 125 = .ok (.getfield 45, 3) := by decide +kernel
theorem dX1_stands_128 : decode cX1_stands 128 = .ok (.iload_n 2, 1) := by decide +kernel
theorem dX1_stands_129 : decode cX1_stands 129 = .ok (.iaload, 1) := by decide +kernel
theorem dX1_stands_130 : decode cX1_stands 130 = .ok (.ifCond .le 7, 3) := by decide +kernel
theorem dX1_stands_133 : decode cX1_stands 133 = .ok (.iconst 1, 1) := by decide +kernel
theorem dX1_stands_134 : decode cX1_stands 134 = .ok (.goto 4, 3) := by decide +kernel
theorem dX1_stands_137 : decode cX1_stands 137 = .ok (.iconst 0, 1) := by decide +kernel
theorem dX1_stands_138 : decode cX1_stands 138 = .ok (.ireturn, 1) := by decide +kernel
theorem dX1_stands_139 : decode cX1_stands 139 = .ok (.aload_n 0, 1) := by decide +kernel
theorem dX1_stands_140 : decode cX1_stands 140 = .ok (.getfield 37, 3) := by decide +kernel
theorem dX1_stands_143 : decode cX1_stands 143 = .ok (.iload_n 2, 1) := by decide +kernel
theorem dX1_stands_144 : decode cX1_stands 144 = .ok (.baload, 1) := by decide +kernel
theorem dX1_stands_145 : decode cX1_stands 145 = .ok (.ifCond .ne 7, 3) := by decide +kernel
theorem dX1_stands_148 : decode cX1_stands 148 = .ok (.iconst 1, 1) := by decide +kernel
theorem dX1_stands_149 : decode cX1_stands 149 = .ok (.goto 4, 3) := by decide +kernel
theorem dX1_stands_152 : decode cX1_stands 152 = .ok (.iconst 0, 1) := by decide +kernel
theorem dX1_stands_153 : decode cX1_stands 153 = .ok (.ireturn, 1) := by decide +kernel
theorem dX1_stands_154 : decode cX1_stands 154 = .ok (.iload_n 1, 1) := by decide +kernel
theorem dX1_stands_155 : decode cX1_stands 155 = .ok (.aload_n 0, 1) := by decide +kernel
theorem dX1_stands_156 : decode cX1_stands 156 = .ok (.getfield 56, 3) := by decide +kernel
theorem dX1_stands_159 : decode cX1_stands 159 = .ok (.iload_n 2, 1) := by decide +kernel
theorem dX1_stands_160 : decode cX1_stands 160 = .ok (.aaload, 1) := by decide +kernel
theorem dX1_stands_161 : decode cX1_stands 161 = .ok (.iload_n 3, 1) := by decide +kernel
theorem dX1_stands_162 : decode cX1_stands 162 = .ok (.iaload, 1) := by decide +kernel
theorem dX1_stands_163 : decode cX1_stands 163 = .ok (.invokestatic 107, 3) := by decide +kernel
theorem dX1_stands_166 : decode cX1_stands 166 = .ok (.ireturn, 1) := by decide +kernel
theorem dX1_numberOf_0 : decode cX1_numberOf 0 = .ok (.iload_n 1, 1) := by decide +kernel
theorem dX1_numberOf_1 : decode cX1_numberOf 1 = .ok (.iconst 1, 1) := by decide +kernel
theorem dX1_numberOf_2 : decode cX1_numberOf 2 = .ok (.if_icmp .ne 44, 3) := by decide +kernel
theorem dX1_numberOf_5 : decode cX1_numberOf 5 = .ok (.iload_n 3, 1) := by decide +kernel
theorem dX1_numberOf_6 : decode cX1_numberOf 6 = .ok (.iconst 2, 1) := by decide +kernel
theorem dX1_numberOf_7 : decode cX1_numberOf 7 = .ok (.if_icmp .lt 39, 3) := by decide +kernel
theorem dX1_numberOf_10 : decode cX1_numberOf 10 = .ok (.iload_n 3, 1) := by decide +kernel
theorem dX1_numberOf_11 : decode cX1_numberOf 11 = .ok (.iconst 2, 1) := by decide +kernel
theorem dX1_numberOf_12 : decode cX1_numberOf 12 = .ok (.isub, 1) := by decide +kernel
theorem dX1_numberOf_13 : decode cX1_numberOf 13 = .ok (.aload_n 0, 1) := by decide +kernel
theorem dX1_numberOf_14 : decode cX1_numberOf 14 = .ok (.getfield 48, 3) := by decide +kernel
theorem dX1_numberOf_17 : decode cX1_numberOf 17 = .ok (.iload_n 2, 1) := by decide +kernel
theorem dX1_numberOf_18 : decode cX1_numberOf 18 = .ok (.iaload, 1) := by decide +kernel
theorem dX1_numberOf_19 : decode cX1_numberOf 19 = .ok (.if_icmp .ge 23, 3) := by decide +kernel
theorem dX1_numberOf_22 : decode cX1_numberOf 22 = .ok (.iload_n 3, 1) := by decide +kernel
theorem dX1_numberOf_23 : decode cX1_numberOf 23 = .ok (.iconst 2, 1) := by decide +kernel
theorem dX1_numberOf_24 : decode cX1_numberOf 24 = .ok (.isub, 1) := by decide +kernel
theorem dX1_numberOf_25 : decode cX1_numberOf 25 = .ok (.iconst 3, 1) := by decide +kernel
theorem dX1_numberOf_26 : decode cX1_numberOf 26 = .ok (.if_icmp .ge 16, 3) := by decide +kernel
theorem dX1_numberOf_29 : decode cX1_numberOf 29 = .ok (.aload_n 0, 1) := by decide +kernel
theorem dX1_numberOf_30 : decode cX1_numberOf 30 = .ok (.getfield 53, 3) := by decide +kernel
theorem dX1_numberOf_33 : decode cX1_numberOf 33 = .ok (.iload_n 2, 1) := by decide +kernel
theorem dX1_numberOf_34 : decode cX1_numberOf 34 = .ok (.aaload, 1) := by decide +kernel
theorem dX1_numberOf_35 : decode cX1_numberOf 35 = .ok (.iload_n 3, 1) := by decide +kernel
theorem dX1_numberOf_36 : decode cX1_numberOf 36 = .ok (.iconst 2, 1) := by decide +kernel
theorem dX1_numberOf_37 : decode cX1_numberOf 37 = .ok (.isub, 1) := by decide +kernel
theorem dX1_numberOf_38 : decode cX1_numberOf 38 = .ok (.iaload, 1) := by decide +kernel
theorem dX1_numberOf_39 : decode cX1_numberOf 39 = .ok (.goto 6, 3) := by decide +kernel
theorem dX1_numberOf_42 : decode cX1_numberOf 42 = .ok (.sipush (-1000), 3) := by decide +kernel
theorem dX1_numberOf_45 : decode cX1_numberOf 45 = .ok (.ireturn, 1) := by decide +kernel
theorem dX1_numberOf_46 : decode cX1_numberOf 46 = .ok (.iload_n 1, 1) := by decide +kernel
theorem dX1_numberOf_47 : decode cX1_numberOf 47 = .ok (.iconst 4, 1) := by decide +kernel
theorem dX1_numberOf_48 : decode cX1_numberOf 48 = .ok (.if_icmp .ne 24, 3) := by decide +kernel
theorem dX1_numberOf_51 : decode cX1_numberOf 51 = .ok (.iload_n 3, 1) := by decide +kernel
theorem dX1_numberOf_52 : decode cX1_numberOf 52 = .ok (.iconst 1, 1) := by decide +kernel
theorem dX1_numberOf_53 : decode cX1_numberOf 53 = .ok (.if_icmp .ne 19, 3) := by decide +kernel
theorem dX1_numberOf_56 : decode cX1_numberOf 56 = .ok (.aload_n 0, 1) := by decide +kernel
theorem dX1_numberOf_57 : decode cX1_numberOf 57 = .ok (.getfield 24, 3) := by decide +kernel
theorem dX1_numberOf_60 : decode cX1_numberOf 60 = .ok (.iload_n 2, 1) := by decide +kernel
theorem dX1_numberOf_61 : decode cX1_numberOf 61 = .ok (.iaload, 1) := by decide +kernel
theorem dX1_numberOf_62 : decode cX1_numberOf 62 = .ok (.aload_n 0, 1) := by decide +kernel
theorem dX1_numberOf_63 : decode cX1_numberOf 63 = .ok (.getfield 45, 3) := by decide +kernel
theorem dX1_numberOf_66 : decode cX1_numberOf 66 = .ok (.iload_n 2, 1) := by decide +kernel
theorem dX1_numberOf_67 : decode cX1_numberOf 67 = .ok (.iaload, 1) := by decide +kernel
theorem dX1_numberOf_68 : decode cX1_numberOf 68 = .ok (.invokestatic 110, 3) := by decide +kernel
theorem dX1_numberOf_71 : decode cX1_numberOf 71 = .ok (.ireturn, 1) := by decide +kernel
theorem dX1_numberOf_72 : decode cX1_numberOf 72 = .ok (.iload_n 3, 1) := by decide +kernel
theorem dX1_numberOf_73 : decode cX1_numberOf 73 = .ok (.ifCond .eq 7, 3) := by decide +kernel
theorem dX1_numberOf_76 : decode cX1_numberOf 76 = .ok (.sipush (-1000), 3) := by decide +kernel
theorem dX1_numberOf_79 : decode cX1_numberOf 79 = .ok (.ireturn, 1) := by decide +kernel
theorem dX1_numberOf_80 : decode cX1_numberOf 80 = .ok (.iload_n 1, 1) := by decide +kernel
theorem dX1_numberOf_81 : decode cX1_numberOf 81 = .ok (.tableswitch 63 0 4 #[35, 49, 35, 42, 56], 35) := by decide +kernel
theorem dX1_numberOf_116 : decode cX1_numberOf 116 = .ok (.aload_n 0, 1) := by decide +kernel
theorem dX1_numberOf_117 : decode cX1_numberOf 117 = .ok (.getfield 31, 3) := by decide +kernel
theorem dX1_numberOf_120 : decode cX1_numberOf 120 = .ok (.iload_n 2, 1) := by decide +kernel
theorem dX1_numberOf_121 : decode cX1_numberOf 121 = .ok (.iaload, 1) := by decide +kernel
theorem dX1_numberOf_122 : decode cX1_numberOf 122 = .ok (.ireturn, 1) := by decide +kernel
theorem dX1_numberOf_123 : decode cX1_numberOf 123 = .ok (.aload_n 0, 1) := by decide +kernel
theorem dX1_numberOf_124 : decode cX1_numberOf 124 = .ok (.getfield 34, 3) := by decide +kernel
theorem dX1_numberOf_127 : decode cX1_numberOf 127 = .ok (.iload_n 2, 1) := by decide +kernel
theorem dX1_numberOf_128 : decode cX1_numberOf 128 = .ok (.iaload, 1) := by decide +kernel
theorem dX1_numberOf_129 : decode cX1_numberOf 129 = .ok (.ireturn, 1) := by decide +kernel
theorem dX1_numberOf_130 : decode cX1_numberOf 130 = .ok (.aload_n 0, 1) := by decide +kernel
theorem dX1_numberOf_131 : decode cX1_numberOf 131 = .ok (.getfield 48, 3) := by decide +kernel
theorem dX1_numberOf_134 : decode cX1_numberOf 134 = .ok (.iload_n 2, 1) := by decide +kernel
theorem dX1_numberOf_135 : decode cX1_numberOf 135 = .ok (.iaload, 1) := by decide +kernel
theorem dX1_numberOf_136 : decode cX1_numberOf 136 = .ok (.ireturn, 1) := by decide +kernel
theorem dX1_numberOf_137 : decode cX1_numberOf 137 = .ok (.aload_n 0, 1) := by decide +kernel
theorem dX1_numberOf_138 : decode cX1_numberOf 138 = .ok (.getfield 45, 3) := by decide +kernel
theorem dX1_numberOf_141 : decode cX1_numberOf 141 = .ok (.iload_n 2, 1) := by decide +kernel
theorem dX1_numberOf_142 : decode cX1_numberOf 142 = .ok (.iaload, 1) := by decide +kernel
theorem dX1_numberOf_143 : decode cX1_numberOf 143 = .ok (.ireturn, 1) := by decide +kernel
theorem dX1_numberOf_144 : decode cX1_numberOf 144 = .ok (.sipush (-1000), 3) := by decide +kernel
theorem dX1_numberOf_147 : decode cX1_numberOf 147 = .ok (.ireturn, 1) := by decide +kernel
theorem dX1_restOf_0 : decode cX1_restOf 0 = .ok (.iload_n 1, 1) := by decide +kernel
theorem dX1_restOf_1 : decode cX1_restOf 1 = .ok (.ifCond .le 11, 3) := by decide +kernel
theorem dX1_restOf_4 : decode cX1_restOf 4 = .ok (.iload_n 0, 1) := by decide +kernel
theorem dX1_restOf_5 : decode cX1_restOf 5 = .ok (.iload_n 1, 1) := by decide +kernel
theorem dX1_restOf_6 : decode cX1_restOf 6 = .ok (.invokestatic 113, 3) := by decide +kernel
theorem dX1_restOf_9 : decode cX1_restOf 9 = .ok (.goto 6, 3) := by decide +kernel
theorem dX1_restOf_12 : decode cX1_restOf 12 = .ok (.sipush (-1000), 3) := by decide +kernel
theorem dX1_restOf_15 : decode cX1_restOf 15 = .ok (.ireturn, 1) := by decide +kernel
theorem dX1_list_0 : decode cX1_list 0 = .ok (.iconst 0, 1) := by decide +kernel
theorem dX1_list_1 : decode cX1_list 1 = .ok (.istore_n 3, 1) := by decide +kernel
theorem dX1_list_2 : decode cX1_list 2 = .ok (.iconst 0, 1) := by decide +kernel
theorem dX1_list_3 : decode cX1_list 3 = .ok (.istore 4, 2) := by decide +kernel
theorem dX1_list_5 : decode cX1_list 5 = .ok (.iload 4, 2) := by decide +kernel
theorem dX1_list_7 : decode cX1_list 7 = .ok (.bipush 9, 2) := by decide +kernel
theorem dX1_list_9 : decode cX1_list 9 = .ok (.if_icmp .gt 111, 3) := by decide +kernel
theorem dX1_list_12 : decode cX1_list 12 = .ok (.iconst 0, 1) := by decide +kernel
theorem dX1_list_13 : decode cX1_list 13 = .ok (.istore 5, 2) := by decide +kernel
theorem dX1_list_15 : decode cX1_list 15 = .ok (.iload 5, 2) := by decide +kernel
theorem dX1_list_17 : decode cX1_list 17 = .ok (.aload_n 0, 1) := by decide +kernel
theorem dX1_list_18 : decode cX1_list 18 = .ok (.getfield 9, 3) := by decide +kernel
theorem dX1_list_21 : decode cX1_list 21 = .ok (.if_icmp .ge 93, 3) := by decide +kernel
theorem dX1_list_24 : decode cX1_list 24 = .ok (.iconst 0, 1) := by decide +kernel
theorem dX1_list_25 : decode cX1_list 25 = .ok (.istore 6, 2) := by decide +kernel
theorem dX1_list_27 : decode cX1_list 27 = .ok (.iload 6, 2) := by decide +kernel
theorem dX1_list_29 : decode cX1_list 29 = .ok (.aload_n 0, 1) := by decide +kernel
theorem dX1_list_30 : decode cX1_list 30 = .ok (.getfield 9, 3) := by decide +kernel
theorem dX1_list_33 : decode cX1_list 33 = .ok (.if_icmp .ge 75, 3) := by decide +kernel
theorem dX1_list_36 : decode cX1_list 36 = .ok (.iload 4, 2) := by decide +kernel
theorem dX1_list_38 : decode cX1_list 38 = .ok (.iload 5, 2) := by decide +kernel
theorem dX1_list_40 : decode cX1_list 40 = .ok (.iload 6, 2) := by decide +kernel
theorem dX1_list_42 : decode cX1_list 42 = .ok (.invokestatic 116, 3) := by decide +kernel
theorem dX1_list_45 : decode cX1_list 45 = .ok (.ifCond .eq 57, 3) := by decide +kernel
theorem dX1_list_48 : decode cX1_list 48 = .ok (.iload_n 3, 1) := by decide +kernel
theorem dX1_list_49 : decode cX1_list 49 = .ok (.aload_n 2, 1) := by decide +kernel
theorem dX1_list_50 : decode cX1_list 50 = .ok (.arraylength, 1) := by decide +kernel
theorem dX1_list_51 : decode cX1_list 51 = .ok (.if_icmp .ge 51, 3) := by decide +kernel
theorem dX1_list_54 : decode cX1_list 54 = .ok (.iload_n 1, 1) := by decide +kernel
theorem dX1_list_55 : decode cX1_list 55 = .ok (.ifCond .eq 19, 3) := by decide +kernel
theorem dX1_list_58 : decode cX1_list 58 = .ok (.aload_n 0, 1) := by decide +kernel
theorem dX1_list_59 : decode cX1_list 59 = .ok (.iload 4, 2) := by decide +kernel
theorem dX1_list_61 : decode cX1_list 61 = .ok (.iload 5, 2) := by decide +kernel
theorem dX1_list_63 : decode cX1_list 63 = .ok (.iload 6, 2) := by decide +kernel
theorem dX1_list_65 : decode cX1_list 65 = .ok (.invokevirtual 120, 3) := by decide +kernel
theorem dX1_list_68 : decode cX1_list 68 = .ok (.ifCond .eq 34, 3) := by decide +kernel
theorem dX1_list_71 : decode cX1_list 71 = .ok (.goto 16, 3) := by decide +kernel
theorem dX1_list_74 : decode cX1_list 74 = .ok (.aload_n 0, 1) := by decide +kernel
theorem dX1_list_75 : decode cX1_list 75 = .ok (.iload 4, 2) := by decide +kernel
theorem dX1_list_77 : decode cX1_list 77 = .ok (.iload 5, 2) := by decide +kernel
theorem dX1_list_79 : decode cX1_list 79 = .ok (.iload 6, 2) := by decide +kernel
theorem dX1_list_81 : decode cX1_list 81 = .ok (.invokevirtual 123, 3) := by decide +kernel
theorem dX1_list_84 : decode cX1_list 84 = .ok (.ifCond .eq 18, 3) := by decide +kernel
theorem dX1_list_87 : decode cX1_list 87 = .ok (.aload_n 2, 1) := by decide +kernel
theorem dX1_list_88 : decode cX1_list 88 = .ok (.iload_n 3, 1) := by decide +kernel
theorem dX1_list_89 : decode cX1_list 89 = .ok (.iload 4, 2) := by decide +kernel
theorem dX1_list_91 : decode cX1_list 91 = .ok (.iload 5, 2) := by decide +kernel
theorem dX1_list_93 : decode cX1_list 93 = .ok (.iload 6, 2) := by decide +kernel
theorem dX1_list_95 : decode cX1_list 95 = .ok (.invokestatic 126, 3) := by decide +kernel
theorem dX1_list_98 : decode cX1_list 98 = .ok (.iastore, 1) := by decide +kernel
theorem dX1_list_99 : decode cX1_list 99 = .ok (.iinc 3 1, 3) := by decide +kernel
theorem dX1_list_102 : decode cX1_list 102 = .ok (.iinc 6 1, 3) := by decide +kernel
theorem dX1_list_105 : decode cX1_list 105 = .ok (.goto (-78), 3) := by decide +kernel
theorem dX1_list_108 : decode cX1_list 108 = .ok (.iinc 5 1, 3) := by decide +kernel
theorem dX1_list_111 : decode cX1_list 111 = .ok (.goto (-96), 3) := by decide +kernel
theorem dX1_list_114 : decode cX1_list 114 = .ok (.iinc 4 1, 3) := by decide +kernel
theorem dX1_list_117 : decode cX1_list 117 = .ok (.goto (-112), 3) := by decide +kernel
theorem dX1_list_120 : decode cX1_list 120 = .ok (.iload_n 3, 1) := by decide +kernel
theorem dX1_list_121 : decode cX1_list 121 = .ok (.ireturn, 1) := by decide +kernel
theorem dX1_isTold_0 : decode cX1_isTold 0 = .ok (.aload_n 0, 1) := by decide +kernel
theorem dX1_isTold_1 : decode cX1_isTold 1 = .ok (.iload_n 1, 1) := by decide +kernel
theorem dX1_isTold_2 : decode cX1_isTold 2 = .ok (.iload_n 2, 1) := by decide +kernel
theorem dX1_isTold_3 : decode cX1_isTold 3 = .ok (.iload_n 3, 1) := by decide +kernel
theorem dX1_isTold_4 : decode cX1_isTold 4 = .ok (.invokevirtual 123, 3) := by decide +kernel
theorem dX1_isTold_7 : decode cX1_isTold 7 = .ok (.ifCond .ne 5, 3) := by decide +kernel
theorem dX1_isTold_10 : decode cX1_isTold 10 = .ok (.iconst 0, 1) := by decide +kernel
theorem dX1_isTold_11 : decode cX1_isTold 11 = .ok (.ireturn, 1) := by decide +kernel
theorem dX1_isTold_12 : decode cX1_isTold 12 = .ok (.iload_n 1, 1) := by decide +kernel
theorem dX1_isTold_13 : decode cX1_isTold 13 = .ok (.ifCond .ne 5, 3) := by decide +kernel
theorem dX1_isTold_16 : decode cX1_isTold 16 = .ok (.iconst 1, 1) := by decide +kernel
theorem dX1_isTold_17 : decode cX1_isTold 17 = .ok (.ireturn, 1) := by decide +kernel
theorem dX1_isTold_18 : decode cX1_isTold 18 = .ok (.aload_n 0, 1) := by decide +kernel
theorem dX1_isTold_19 : decode cX1_isTold 19 = .ok (.iconst 0, 1) := by decide +kernel
theorem dX1_isTold_20 : decode cX1_isTold 20 = .ok (.iload_n 2, 1) := by decide +kernel
theorem dX1_isTold_21 : decode cX1_isTold 21 = .ok (.iconst 0, 1) := by decide +kernel
theorem dX1_isTold_22 : decode cX1_isTold 22 = .ok (.invokevirtual 123, 3) := by decide +kernel
theorem dX1_isTold_25 : decode cX1_isTold 25 = .ok (.istore 4, 2) := by decide +kernel
theorem dX1_isTold_27 : decode cX1_isTold 27 = .ok (.iload_n 1, 1) := by decide +kernel
theorem dX1_isTold_28 : decode cX1_isTold 28 = .ok (.invokestatic 130, 3) := by decide +kernel
theorem dX1_isTold_31 : decode cX1_isTold 31 = .ok (.ifCond .ne 14, 3) := by decide +kernel
theorem dX1_isTold_34 : decode cX1_isTold 34 = .ok (.iload 4, 2) := by decide +kernel
theorem dX1_isTold_36 : decode cX1_isTold 36 = .ok (.ifCond .ne 7, 3) := by decide +kernel
theorem dX1_isTold_39 : decode cX1_isTold 39 = .ok (.iconst 1, 1) := by decide +kernel
theorem dX1_isTold_40 : decode cX1_isTold 40 = .ok (.goto 4, 3) := by decide +kernel
theorem dX1_isTold_43 : decode cX1_isTold 43 = .ok (.iconst 0, 1) := by decide +kernel
theorem dX1_isTold_44 : decode cX1_isTold 44 = .ok (.ireturn, 1) := by decide +kernel
theorem dX1_isTold_45 : decode cX1_isTold 45 = .ok (.iload 4, 2) := by decide +kernel
theorem dX1_isTold_47 : decode cX1_isTold 47 = .ok (.ifCond .eq 15, 3) := by decide +kernel
theorem dX1_isTold_50 : decode cX1_isTold 50 = .ok (.aload_n 0, 1) := by decide +kernel
theorem dX1_isTold_51 : decode cX1_isTold 51 = .ok (.iconst 0, 1) := by decide +kernel
theorem dX1_isTold_52 : decode cX1_isTold 52 = .ok (.iload_n 3, 1) := by decide +kernel
theorem dX1_isTold_53 : decode cX1_isTold 53 = .ok (.iconst 0, 1) := by decide +kernel
theorem dX1_isTold_54 : decode cX1_isTold 54 = .ok (.invokevirtual 123, 3) := by decide +kernel
theorem dX1_isTold_57 : decode cX1_isTold 57 = .ok (.ifCond .eq 5, 3) := by decide +kernel
theorem dX1_isTold_60 : decode cX1_isTold 60 = .ok (.iconst 0, 1) := by decide +kernel
theorem dX1_isTold_61 : decode cX1_isTold 61 = .ok (.ireturn, 1) := by decide +kernel
theorem dX1_isTold_62 : decode cX1_isTold 62 = .ok (.iload_n 1, 1) := by decide +kernel
theorem dX1_isTold_63 : decode cX1_isTold 63 = .ok (.bipush 7, 2) := by decide +kernel
theorem dX1_isTold_65 : decode cX1_isTold 65 = .ok (.if_icmp .ne 30, 3) := by decide +kernel
theorem dX1_isTold_68 : decode cX1_isTold 68 = .ok (.aload_n 0, 1) := by decide +kernel
theorem dX1_isTold_69 : decode cX1_isTold 69 = .ok (.iconst 5, 1) := by decide +kernel
theorem dX1_isTold_70 : decode cX1_isTold 70 = .ok (.iload_n 2, 1) := by decide +kernel
theorem dX1_isTold_71 : decode cX1_isTold 71 = .ok (.iload_n 3, 1) := by decide +kernel
theorem dX1_isTold_72 : decode cX1_isTold 72 = .ok (.invokevirtual 123, 3) := by decide +kernel
theorem dX1_isTold_75 : decode cX1_isTold 75 = .ok (.ifCond .ne 18, 3) := by decide +kernel
theorem dX1_isTold_78 : decode cX1_isTold 78 = .ok (.aload_n 0, 1) := by decide +kernel
theorem dX1_isTold_79 : decode cX1_isTold 79 = .ok (.bipush 6, 2) := by decide +kernel
theorem dX1_isTold_81 : decode cX1_isTold 81 = .ok (.iload_n 2, 1) := by decide +kernel
theorem dX1_isTold_82 : decode cX1_isTold 82 = .ok (.iload_n 3, 1) := by decide +kernel
theorem dX1_isTold_83 : decode cX1_isTold 83 = .ok (.invokevirtual 123, 3) := by decide +kernel
theorem dX1_isTold_86 : decode cX1_isTold 86 = .ok (.ifCond .ne 7, 3) := by decide +kernel
theorem dX1_isTold_89 : decode cX1_isTold 89 = .ok (.iconst 1, 1) := by decide +kernel
theorem dX1_isTold_90 : decode cX1_isTold 90 = .ok (.goto 4, 3) := by decide +kernel
theorem dX1_isTold_93 : decode cX1_isTold 93 = .ok (.iconst 0, 1) := by decide +kernel
theorem dX1_isTold_94 : decode cX1_isTold 94 = .ok (.ireturn, 1) := by decide +kernel
theorem dX1_isTold_95 : decode cX1_isTold 95 = .ok (.iload_n 1, 1) := by decide +kernel
theorem dX1_isTold_96 : decode cX1_isTold 96 = .ok (.bipush 8, 2) := by decide +kernel
theorem dX1_isTold_98 : decode cX1_isTold 98 = .ok (.if_icmp .ne 25, 3) := by decide +kernel
theorem dX1_isTold_101 : decode cX1_isTold 101 = .ok (.aload_n 0, 1) := by decide +kernel
theorem dX1_isTold_102 : decode cX1_isTold 102 = .ok (.bipush 6, 2) := by decide +kernel
theorem dX1_isTold_104 : decode cX1_isTold 104 = .ok (.iload_n 2, 1) := by decide +kernel
theorem dX1_isTold_105 : decode cX1_isTold 105 = .ok (.iload_n 3, 1) := by decide +kernel
theorem dX1_isTold_106 : decode cX1_isTold 106 = .ok (.invokevirtual 123, 3) := by decide +kernel
theorem dX1_isTold_109 : decode cX1_isTold 109 = .ok (.ifCond .ne 18, 3) := by decide +kernel
theorem dX1_isTold_112 : decode cX1_isTold 112 = .ok (.aload_n 0, 1) := by decide +kernel
theorem dX1_isTold_113 : decode cX1_isTold 113 = .ok (.bipush 6, 2) := by decide +kernel
theorem dX1_isTold_115 : decode cX1_isTold 115 = .ok (.iload_n 3, 1) := by decide +kernel
theorem dX1_isTold_116 : decode cX1_isTold 116 = .ok (.iload_n 2, 1) := by decide +kernel
theorem dX1_isTold_117 : decode cX1_isTold 117 = .ok (.invokevirtual 123, 3) := by decide +kernel
theorem dX1_isTold_120 : decode cX1_isTold 120 = .ok (.ifCond .ne 7, 3) := by decide +kernel
theorem dX1_isTold_123 : decode cX1_isTold 123 = .ok (.iconst 1, 1) := by decide +kernel
theorem dX1_isTold_124 : decode cX1_isTold 124 = .ok (.goto 4, 3) := by decide +kernel
theorem dX1_isTold_127 : decode cX1_isTold 127 = .ok (.iconst 0, 1) := by decide +kernel
theorem dX1_isTold_128 : decode cX1_isTold 128 = .ok (.ireturn, 1) := by decide +kernel
theorem dX1_isBrokenBy_0 : decode cX1_isBrokenBy 0 = .ok (.aload_n 0, 1) := by decide +kernel
theorem dX1_isBrokenBy_1 : decode cX1_isBrokenBy 1 = .ok (.iload_n 3, 1) := by decide +kernel
theorem dX1_isBrokenBy_2 : decode cX1_isBrokenBy 2 = .ok (.invokevirtual 103, 3) := by decide +kernel
theorem dX1_isBrokenBy_5 : decode cX1_isBrokenBy 5 = .ok (.ifCond .eq 12, 3) := by decide +kernel
theorem dX1_isBrokenBy_8 : decode cX1_isBrokenBy 8 = .ok (.aload_n 0, 1) := by decide +kernel
theorem dX1_isBrokenBy_9 : decode cX1_isBrokenBy 9 = .ok (.iload 4, 2) := by decide +kernel
theorem dX1_isBrokenBy_11 : decode cX1_isBrokenBy 11 = .ok (.invokevirtual 103, 3) := by decide +kernel
theorem dX1_isBrokenBy_14 : decode cX1_isBrokenBy 14 = .ok (.ifCond .ne 5, 3) := by decide +kernel
theorem dX1_isBrokenBy_17 : decode cX1_isBrokenBy 17 = .ok (.iconst 0, 1) := by decide +kernel
theorem dX1_isBrokenBy_18 : decode cX1_isBrokenBy 18 = .ok (.ireturn, 1) := by decide +kernel
theorem dX1_isBrokenBy_19 : decode cX1_isBrokenBy 19 = .ok (.aload_n 1, 1) := by decide +kernel
theorem dX1_isBrokenBy_20 : decode cX1_isBrokenBy 20 = .ok (.iload_n 3, 1) := by decide +kernel
theorem dX1_isBrokenBy_21 : decode cX1_isBrokenBy 21 = .ok (.iaload, 1) := by decide +kernel
theorem dX1_isBrokenBy_22 : decode cX1_isBrokenBy 22 = .ok (.istore 5, 2) := by decide +kernel
theorem dX1_isBrokenBy_24 : decode cX1_isBrokenBy 24 = .ok (.iload_n 2, 1) := by decide +kernel
theorem dX1_isBrokenBy_25 : decode cX1_isBrokenBy 25 = .ok (.tableswitch 159 0 9 #[55, 72, 88, 105, 122, 159, 159, 159, 159, 157], 55) := by decide +kernel
theorem dX1_isBrokenBy_80 : decode cX1_isBrokenBy 80 = .ok (.iload 5, 2) := by decide +kernel
theorem dX1_isBrokenBy_82 : decode cX1_isBrokenBy 82 = .ok (.aload_n 0, 1) := by decide +kernel
theorem dX1_isBrokenBy_83 : decode cX1_isBrokenBy 83 = .ok (.getfield 24, 3) := by decide +kernel
theorem dX1_isBrokenBy_86 : decode cX1_isBrokenBy 86 = .ok (.iload_n 3, 1) := by decide +kernel
theorem dX1_isBrokenBy_87 : decode cX1_isBrokenBy 87 = .ok (.iaload, 1) := by decide +kernel
theorem dX1_isBrokenBy_88 : decode cX1_isBrokenBy 88 = .ok (.if_icmp .eq 7, 3) := by decide +kernel
theorem dX1_isBrokenBy_91 : decode cX1_isBrokenBy 91 = .ok (.iconst 1, 1) := by decide +kernel
theorem dX1_isBrokenBy_92 : decode cX1_isBrokenBy 92 = .ok (.goto 4, 3) := by decide +kernel
theorem dX1_isBrokenBy_95 : decode cX1_isBrokenBy 95 = .ok (.iconst 0, 1) := by decide +kernel
theorem dX1_isBrokenBy_96 : decode cX1_isBrokenBy 96 = .ok (.ireturn, 1) := by decide +kernel
theorem dX1_isBrokenBy_97 : decode cX1_isBrokenBy 97 = .ok (.aload_n 0, 1) := by decide +kernel
theorem dX1_isBrokenBy_98 : decode cX1_isBrokenBy 98 = .ok (.iload_n 3, 1) := by decide +kernel
theorem dX1_isBrokenBy_99 : decode cX1_isBrokenBy 99 = .ok (.iload 5, 2) := by decide +kernel
theorem dX1_isBrokenBy_101 : decode cX1_isBrokenBy 101 = .ok (.invokevirtual 99, 3) := by decide +kernel
theorem dX1_isBrokenBy_104 : decode cX1_isBrokenBy 104 = .ok (.ifCond .ne 7, 3) := by decide +kernel
theorem dX1_isBrokenBy_107 : decode cX1_isBrokenBy 107 = .ok (.iconst 1, 1) := by decide +kernel
theorem dX1_isBrokenBy_108 : decode cX1_isBrokenBy 108 = .ok (.goto 4, 3) := by decide +kernel
theorem dX1_isBrokenBy_111 : decode cX1_isBrokenBy 111 = .ok (.iconst 0, 1) := by decide +kernel
theorem dX1_isBrokenBy_112 : decode cX1_isBrokenBy 112 = .ok (.ireturn, 1) := by decide +kernel
theorem dX1_isBrokenBy_113 : decode cX1_isBrokenBy 113 = .ok (.iload 5, 2) := by decide +kernel
theorem dX1_isBrokenBy_115 : decode cX1_isBrokenBy 115 = .ok (.aload_n 0, 1) := by decide +kernel
theorem dX1_isBrokenBy_116 : decode cX1_isBrokenBy 116 = .ok (.getfield 31, 3) := by decide +kernel
theorem dX1_isBrokenBy_119 : decode cX1_isBrokenBy 119 = .ok (.iload_n 3, 1) := by decide +kernel
theorem dX1_isBrokenBy_120 : decode cX1_isBrokenBy 120 = .ok (.iaload, 1) := by decide +kernel
theorem dX1_isBrokenBy_121 : decode cX1_isBrokenBy 121 = .ok (.if_icmp .ge 7, 3) := by decide +kernel
theorem dX1_isBrokenBy_124 : decode cX1_isBrokenBy 124 = .ok (.iconst 1, 1) := by decide +kernel
theorem dX1_isBrokenBy_125 : decode cX1_isBrokenBy 125 = .ok (.goto 4, 3) := by decide +kernel
theorem dX1_isBrokenBy_128 : decode cX1_isBrokenBy 128 = .ok (.iconst 0, 1) := by decide +kernel
theorem dX1_isBrokenBy_129 : decode cX1_isBrokenBy 129 = .ok (.ireturn, 1) := by decide +kernel
theorem dX1_isBrokenBy_130 : decode cX1_isBrokenBy 130 = .ok (.iload 5, 2) := by decide +kernel
theorem dX1_isBrokenBy_132 : decode cX1_isBrokenBy 132 = .ok (.aload_n 0, 1) := by decide +kernel
theorem dX1_isBrokenBy_133 : decode cX1_isBrokenBy 133 = .ok (.getfield 34, 3) := by decide +kernel
theorem dX1_isBrokenBy_136 : decode cX1_isBrokenBy 136 = .ok (.iload_n 3, 1) := by decide +kernel
theorem dX1_isBrokenBy_137 : decode cX1_isBrokenBy 137 = .ok (.iaload, 1) := by decide +kernel
theorem dX1_isBrokenBy_138 : decode cX1_isBrokenBy 138 = .ok (.if_icmp .le 7, 3) := by decide +kernel
theorem dX1_isBrokenBy_141 : decode cX1_isBrokenBy 141 = .ok (.iconst 1, 1) := by decide +kernel
theorem dX1_isBrokenBy_142 : decode cX1_isBrokenBy 142 = .ok (.goto 4, 3) := by decide +kernel
theorem dX1_isBrokenBy_145 : decode cX1_isBrokenBy 145 = .ok (.iconst 0, 1) := by decide +kernel
theorem dX1_isBrokenBy_146 : decode cX1_isBrokenBy 146 = .ok (.ireturn, 1) := by decide +kernel
theorem dX1_isBrokenBy_147 : decode cX1_isBrokenBy 147 = .ok (.iload 5, 2) := by decide +kernel
theorem dX1_isBrokenBy_149 : decode cX1_isBrokenBy 149 = .ok (.aload_n 0, 1) := by decide +kernel
theorem dX1_isBrokenBy_150 : decode cX1_isBrokenBy 150 = .ok (.getfield 45, 3) := by decide +kernel
theorem dX1_isBrokenBy_153 : decode cX1_isBrokenBy 153 = .ok (.iload_n 3, 1) := by decide +kernel
theorem dX1_isBrokenBy_154 : decode cX1_isBrokenBy 154 = .ok (.iaload, 1) := by decide +kernel
theorem dX1_isBrokenBy_155 : decode cX1_isBrokenBy 155 = .ok (.invokestatic 110, 3) := by decide +kernel
theorem dX1_isBrokenBy_158 : decode cX1_isBrokenBy 158 = .ok (.aload_n 0, 1) := by decide +kernel
theorem dX1_isBrokenBy_159 : decode cX1_isBrokenBy 159 = .ok (.getfield 24, 3) := by decide +kernel
theorem dX1_isBrokenBy_162 : decode cX1_isBrokenBy 162 = .ok (.iload_n 3, 1) := by decide +kernel
theorem dX1_isBrokenBy_163 : decode cX1_isBrokenBy 163 = .ok (.iaload, 1) := by decide +kernel
theorem dX1_isBrokenBy_164 : decode cX1_isBrokenBy 164 = .ok (.aload_n 0, 1) := by decide +kernel
theorem dX1_isBrokenBy_165 : decode cX1_isBrokenBy 165 = .ok (.getfield 45, 3) := by decide +kernel
theorem dX1_isBrokenBy_168 : decode cX1_isBrokenBy 168 = .ok (.iload_n 3, 1) := by decide +kernel
theorem dX1_isBrokenBy_169 : decode cX1_isBrokenBy 169 = .ok (.iaload, 1) := by decide +kernel
theorem dX1_isBrokenBy_170 : decode cX1_isBrokenBy 170 = .ok (.invokestatic 110, 3) := by decide +kernel
theorem dX1_isBrokenBy_173 : decode cX1_isBrokenBy 173 = .ok (.if_icmp .eq 7, 3) := by decide +kernel
theorem dX1_isBrokenBy_176 : decode cX1_isBrokenBy 176 = .ok (.iconst 1, 1) := by decide +kernel
theorem dX1_isBrokenBy_177 : decode cX1_isBrokenBy 177 = .ok (.goto 4, 3) := by decide +kernel
theorem dX1_isBrokenBy_180 : decode cX1_isBrokenBy 180 = .ok (.iconst 0, 1) := by decide +kernel
theorem dX1_isBrokenBy_181 : decode cX1_isBrokenBy 181 = .ok (.ireturn, 1) := by decide +kernel
theorem dX1_isBrokenBy_182 : decode cX1_isBrokenBy 182 = .ok (.iconst 0, 1) := by decide +kernel
theorem dX1_isBrokenBy_183 : decode cX1_isBrokenBy 183 = .ok (.ireturn, 1) := by decide +kernel
theorem dX1_isBrokenBy_184 : decode cX1_isBrokenBy 184 = .ok (.iload_n 2, 1) := by decide +kernel
theorem dX1_isBrokenBy_185 : decode cX1_isBrokenBy 185 = .ok (.iload 5, 2) := by decide +kernel
theorem dX1_isBrokenBy_187 : decode cX1_isBrokenBy 187 = .ok (.aload_n 1, 1) := by decide +kernel
theorem dX1_isBrokenBy_188 : decode cX1_isBrokenBy 188 = .ok (.iload 4, 2) := by decide +kernel
theorem dX1_isBrokenBy_190 : decode cX1_isBrokenBy 190 = .ok (.iaload, 1) := by decide +kernel
theorem dX1_isBrokenBy_191 : decode cX1_isBrokenBy 191 = .ok (.invokestatic 72, 3) := by decide +kernel
theorem dX1_isBrokenBy_194 : decode cX1_isBrokenBy 194 = .ok (.invokestatic 107, 3) := by decide +kernel
theorem dX1_isBrokenBy_197 : decode cX1_isBrokenBy 197 = .ok (.ifCond .ne 7, 3) := by decide +kernel
theorem dX1_isBrokenBy_200 : decode cX1_isBrokenBy 200 = .ok (.iconst 1, 1) := by decide +kernel
theorem dX1_isBrokenBy_201 : decode cX1_isBrokenBy 201 = .ok (.goto 4, 3) := by decide +kernel
theorem dX1_isBrokenBy_204 : decode cX1_isBrokenBy 204 = .ok (.iconst 0, 1) := by decide +kernel
theorem dX1_isBrokenBy_205 : decode cX1_isBrokenBy 205 = .ok (.ireturn, 1) := by decide +kernel
theorem dX1_basisSize_0 : decode cX1_basisSize 0 = .ok (.aload_n 0, 1) := by decide +kernel
theorem dX1_basisSize_1 : decode cX1_basisSize 1 = .ok (.getfield 59, 3) := by decide +kernel
theorem dX1_basisSize_4 : decode cX1_basisSize 4 = .ok (.ifCond .ne 7, 3) := by decide +kernel
theorem dX1_basisSize_7 : decode cX1_basisSize 7 = .ok (.iconst 0, 1) := by decide +kernel
theorem dX1_basisSize_8 : decode cX1_basisSize 8 = .ok (.goto 10, 3) := by decide +kernel
theorem dX1_basisSize_11 : decode cX1_basisSize 11 = .ok (.aload_n 0, 1) := by decide +kernel
theorem dX1_basisSize_12 : decode cX1_basisSize 12 = .ok (.getfield 20, 3) := by decide +kernel
theorem dX1_basisSize_15 : decode cX1_basisSize 15 = .ok (.invokevirtual 133, 3) := by decide +kernel
theorem dX1_basisSize_18 : decode cX1_basisSize 18 = .ok (.ireturn, 1) := by decide +kernel
theorem dX1_spans_0 : decode cX1_spans 0 = .ok (.aload_n 0, 1) := by decide +kernel
theorem dX1_spans_1 : decode cX1_spans 1 = .ok (.getfield 59, 3) := by decide +kernel
theorem dX1_spans_4 : decode cX1_spans 4 = .ok (.ifCond .le 12, 3) := by decide +kernel
theorem dX1_spans_7 : decode cX1_spans 7 = .ok (.aload_n 0, 1) := by decide +kernel
theorem dX1_spans_8 : decode cX1_spans 8 = .ok (.getfield 20, 3) := by decide +kernel
theorem dX1_spans_11 : decode cX1_spans 11 = .ok (.aload_n 1, 1) := by decide +kernel
theorem dX1_spans_12 : decode cX1_spans 12 = .ok (.invokevirtual 137, 3) := by decide +kernel
theorem dX1_spans_15 : decode cX1_spans 15 = .ok (.ireturn, 1) := by decide +kernel
theorem dX1_spans_16 : decode cX1_spans 16 = .ok (.iconst 0, 1) := by decide +kernel
theorem dX1_spans_17 : decode cX1_spans 17 = .ok (.istore_n 2, 1) := by decide +kernel
theorem dX1_spans_18 : decode cX1_spans 18 = .ok (.iload_n 2, 1) := by decide +kernel
theorem dX1_spans_19 : decode cX1_spans 19 = .ok (.aload_n 0, 1) := by decide +kernel
theorem dX1_spans_20 : decode cX1_spans 20 = .ok (.getfield 9, 3) := by decide +kernel
theorem dX1_spans_23 : decode cX1_spans 23 = .ok (.if_icmp .gt 25, 3) := by decide +kernel
theorem dX1_spans_26 : decode cX1_spans 26 = .ok (.iload_n 2, 1) := by decide +kernel
theorem dX1_spans_27 : decode cX1_spans 27 = .ok (.aload_n 1, 1) := by decide +kernel
theorem dX1_spans_28 : decode cX1_spans 28 = .ok (.arraylength, 1) := by decide +kernel
theorem dX1_spans_29 : decode cX1_spans 29 = .ok (.if_icmp .ge 19, 3) := by decide +kernel
theorem dX1_spans_32 : decode cX1_spans 32 = .ok (.aload_n 1, 1) := by decide +kernel
theorem dX1_spans_33 : decode cX1_spans 33 = .ok (.iload_n 2, 1) := by decide +kernel
theorem dX1_spans_34 : decode cX1_spans 34 = .ok (.laload, 1) := by decide +kernel
theorem dX1_spans_35 : decode cX1_spans 35 = .ok (.lconst 0, 1) := by decide +kernel
theorem dX1_spans_36 : decode cX1_spans 36 = .ok (.lcmp, 1) := by decide +kernel
theorem dX1_spans_37 : decode cX1_spans 37 = .ok (.ifCond .eq 5, 3) := by decide +kernel
theorem dX1_spans_40 : decode cX1_spans 40 = .ok (.iconst 0, 1) := by decide +kernel
theorem dX1_spans_41 : decode cX1_spans 41 = .ok (.ireturn, 1) := by decide +kernel
theorem dX1_spans_42 : decode cX1_spans 42 = .ok (.iinc 2 1, 3) := by decide +kernel
theorem dX1_spans_45 : decode cX1_spans 45 = .ok (.goto (-27), 3) := by decide +kernel
theorem dX1_spans_48 : decode cX1_spans 48 = .ok (.iconst 1, 1) := by decide +kernel
theorem dX1_spans_49 : decode cX1_spans 49 = .ok (.ireturn, 1) := by decide +kernel
theorem dX2_init_0 : decode cX2_init 0 = .ok (.aload_n 0, 1) := by decide +kernel
theorem dX2_init_1 : decode cX2_init 1 = .ok (.invokespecial 1, 3) := by decide +kernel
theorem dX2_init_4 : decode cX2_init 4 = .ok (.aload_n 0, 1) := by decide +kernel
theorem dX2_init_5 : decode cX2_init 5 = .ok (.sipush 1024, 3) := by decide +kernel
theorem dX2_init_8 : decode cX2_init 8 = .ok (.newarray .int, 2) := by decide +kernel
theorem dX2_init_10 : decode cX2_init 10 = .ok (.putfield 9, 3) := by decide +kernel
theorem dX2_init_13 : decode cX2_init 13 = .ok (.aload_n 0, 1) := by decide +kernel
theorem dX2_init_14 : decode cX2_init 14 = .ok (.sipush 1024, 3) := by decide +kernel
theorem dX2_init_17 : decode cX2_init 17 = .ok (.newarray .int, 2) := by decide +kernel
theorem dX2_init_19 : decode cX2_init 19 = .ok (.putfield 13, 3) := by decide +kernel
theorem dX2_init_22 : decode cX2_init 22 = .ok (.return_, 1) := by decide +kernel
theorem dX2_forget_0 : decode cX2_forget 0 = .ok (.iconst 0, 1) := by decide +kernel
theorem dX2_forget_1 : decode cX2_forget 1 = .ok (.istore_n 1, 1) := by decide +kernel
theorem dX2_forget_2 : decode cX2_forget 2 = .ok (.iload_n 1, 1) := by decide +kernel
theorem dX2_forget_3 : decode cX2_forget 3 = .ok (.aload_n 0, 1) := by decide +kernel
theorem dX2_forget_4 : decode cX2_forget 4 = .ok (.getfield 9, 3) := by decide +kernel
theorem dX2_forget_7 : decode cX2_forget 7 = .ok (.arraylength, 1) := by decide +kernel
theorem dX2_forget_8 : decode cX2_forget 8 = .ok (.if_icmp .ge 16, 3) := by decide +kernel
theorem dX2_forget_11 : decode cX2_forget 11 = .ok (.aload_n 0, 1) := by decide +kernel
theorem dX2_forget_12 : decode cX2_forget 12 = .ok (.getfield 9, 3) := by decide +kernel
theorem dX2_forget_15 : decode cX2_forget 15 = .ok (.iload_n 1, 1) := by decide +kernel
theorem dX2_forget_16 : decode cX2_forget 16 = .ok (.iconst (-1), 1) := by decide +kernel
theorem dX2_forget_17 : decode cX2_forget 17 = .ok (.iastore, 1) := by decide +kernel
theorem dX2_forget_18 : decode cX2_forget 18 = .ok (.iinc 1 1, 3) := by decide +kernel
theorem dX2_forget_21 : decode cX2_forget 21 = .ok (.goto (-19), 3) := by decide +kernel
theorem dX2_forget_24 : decode cX2_forget 24 = .ok (.return_, 1) := by decide +kernel
theorem dX2_rowsOf_0 : decode cX2_rowsOf 0 = .ok (.iload_n 1, 1) := by decide +kernel
theorem dX2_rowsOf_1 : decode cX2_rowsOf 1 = .ok (.invokestatic 16, 3) := by decide +kernel
theorem dX2_rowsOf_4 : decode cX2_rowsOf 4 = .ok (.istore_n 2, 1) := by decide +kernel
theorem dX2_rowsOf_5 : decode cX2_rowsOf 5 = .ok (.aload_n 0, 1) := by decide +kernel
theorem dX2_rowsOf_6 : decode cX2_rowsOf 6 = .ok (.getfield 9, 3) := by decide +kernel
theorem dX2_rowsOf_9 : decode cX2_rowsOf 9 = .ok (.iload_n 2, 1) := by decide +kernel
theorem dX2_rowsOf_10 : decode cX2_rowsOf 10 = .ok (.iaload, 1) := by decide +kernel
theorem dX2_rowsOf_11 : decode cX2_rowsOf 11 = .ok (.iload_n 1, 1) := by decide +kernel
theorem dX2_rowsOf_12 : decode cX2_rowsOf 12 = .ok (.if_icmp .ne 12, 3) := by decide +kernel
theorem dX2_rowsOf_15 : decode cX2_rowsOf 15 = .ok (.aload_n 0, 1) := by decide +kernel
theorem dX2_rowsOf_16 : decode cX2_rowsOf 16 = .ok (.getfield 13, 3) := by decide +kernel
theorem dX2_rowsOf_19 : decode cX2_rowsOf 19 = .ok (.iload_n 2, 1) := by decide +kernel
theorem dX2_rowsOf_20 : decode cX2_rowsOf 20 = .ok (.iaload, 1) := by decide +kernel
theorem dX2_rowsOf_21 : decode cX2_rowsOf 21 = .ok (.goto 4, 3) := by decide +kernel
theorem dX2_rowsOf_24 : decode cX2_rowsOf 24 = .ok (.iconst (-1), 1) := by decide +kernel
theorem dX2_rowsOf_25 : decode cX2_rowsOf 25 = .ok (.ireturn, 1) := by decide +kernel
theorem dX2_keep_0 : decode cX2_keep 0 = .ok (.iload_n 1, 1) := by decide +kernel
theorem dX2_keep_1 : decode cX2_keep 1 = .ok (.invokestatic 16, 3) := by decide +kernel
theorem dX2_keep_4 : decode cX2_keep 4 = .ok (.istore_n 3, 1) := by decide +kernel
theorem dX2_keep_5 : decode cX2_keep 5 = .ok (.aload_n 0, 1) := by decide +kernel
theorem dX2_keep_6 : decode cX2_keep 6 = .ok (.getfield 9, 3) := by decide +kernel
theorem dX2_keep_9 : decode cX2_keep 9 = .ok (.iload_n 3, 1) := by decide +kernel
theorem dX2_keep_10 : decode cX2_keep 10 = .ok (.iload_n 1, 1) := by decide +kernel
theorem dX2_keep_11 : decode cX2_keep 11 = .ok (.iastore, 1) := by decide +kernel
theorem dX2_keep_12 : decode cX2_keep 12 = .ok (.aload_n 0, 1) := by decide +kernel
theorem dX2_keep_13 : decode cX2_keep 13 = .ok (.getfield 13, 3) := by decide +kernel
theorem dX2_keep_16 : decode cX2_keep 16 = .ok (.iload_n 3, 1) := by decide +kernel
theorem dX2_keep_17 : decode cX2_keep 17 = .ok (.iload_n 2, 1) := by decide +kernel
theorem dX2_keep_18 : decode cX2_keep 18 = .ok (.iastore, 1) := by decide +kernel
theorem dX2_keep_19 : decode cX2_keep 19 = .ok (.return_, 1) := by decide +kernel
theorem dX2_slotOf_0 : decode cX2_slotOf 0 = .ok (.iload_n 0, 1) := by decide +kernel
theorem dX2_slotOf_1 : decode cX2_slotOf 1 = .ok (.ldc 20, 2) := by decide +kernel
theorem dX2_slotOf_3 : decode cX2_slotOf 3 = .ok (.imul, 1) := by decide +kernel
theorem dX2_slotOf_4 : decode cX2_slotOf 4 = .ok (.bipush 22, 2) := by decide +kernel
theorem dX2_slotOf_6 : decode cX2_slotOf 6 = .ok (.iushr, 1) := by decide +kernel
theorem dX2_slotOf_7 : decode cX2_slotOf 7 = .ok (.ireturn, 1) := by decide +kernel
theorem dX3_init_0 : decode cX3_init 0 = .ok (.aload_n 0, 1) := by decide +kernel
theorem dX3_init_1 : decode cX3_init 1 = .ok (.invokespecial 3, 3) := by decide +kernel
theorem dX3_init_4 : decode cX3_init 4 = .ok (.aload_n 0, 1) := by decide +kernel
theorem dX3_init_5 : decode cX3_init 5 = .ok (.iload_n 1, 1) := by decide +kernel
theorem dX3_init_6 : decode cX3_init 6 = .ok (.putfield 9, 3) := by decide +kernel
theorem dX3_init_9 : decode cX3_init 9 = .ok (.aload_n 0, 1) := by decide +kernel
theorem dX3_init_10 : decode cX3_init 10 = .ok (.bipush 40, 2) := by decide +kernel
theorem dX3_init_12 : decode cX3_init 12 = .ok (.iload_n 1, 1) := by decide +kernel
theorem dX3_init_13 : decode cX3_init 13 = .ok (.multianewarray 15 2, 4) := by decide +kernel
theorem dX3_init_17 : decode cX3_init 17 = .ok (.putfield 17, 3) := by decide +kernel
theorem dX3_init_20 : decode cX3_init 20 = .ok (.aload_n 0, 1) := by decide +kernel
theorem dX3_init_21 : decode cX3_init 21 = .ok (.iconst 3, 1) := by decide +kernel
theorem dX3_init_22 : decode cX3_init 22 = .ok (.anewarray 20, 3) := by decide +kernel
theorem dX3_init_25 : decode cX3_init 25 = .ok (.putfield 22, 3) := by decide +kernel
theorem dX3_init_28 : decode cX3_init 28 = .ok (.iconst 0, 1) := by decide +kernel
theorem dX3_init_29 : decode cX3_init 29 = .ok (.istore_n 2, 1) := by decide +kernel
theorem dX3_init_30 : decode cX3_init 30 = .ok (.iload_n 2, 1) := by decide +kernel
theorem dX3_init_31 : decode cX3_init 31 = .ok (.iconst 3, 1) := by decide +kernel
theorem dX3_init_32 : decode cX3_init 32 = .ok (.if_icmp .ge 23, 3) := by decide +kernel
theorem dX3_init_35 : decode cX3_init 35 = .ok (.aload_n 0, 1) := by decide +kernel
theorem dX3_init_36 : decode cX3_init 36 = .ok (.getfield 22, 3) := by decide +kernel
theorem dX3_init_39 : decode cX3_init 39 = .ok (.iload_n 2, 1) := by decide +kernel
theorem dX3_init_40 : decode cX3_init 40 = .ok (.new 20, 3) := by decide +kernel
theorem dX3_init_43 : decode cX3_init 43 = .ok (.dup, 1) := by decide +kernel
theorem dX3_init_44 : decode cX3_init 44 = .ok (.iload_n 1, 1) := by decide +kernel
theorem dX3_init_45 : decode cX3_init 45 = .ok (.invokespecial 26, 3) := by decide +kernel
theorem dX3_init_48 : decode cX3_init 48 = .ok (.aastore, 1) := by decide +kernel
theorem dX3_init_49 : decode cX3_init 49 = .ok (.iinc 2 1, 3) := by decide +kernel
theorem dX3_init_52 : decode cX3_init 52 = .ok (.goto (-22), 3) := by decide +kernel
theorem dX3_init_55 : decode cX3_init 55 = .ok (.aload_n 0, 1) := by decide +kernel
theorem dX3_init_56 : decode cX3_init 56 = .ok (.iconst 0, 1) := by decide +kernel
theorem dX3_init_57 : decode cX3_init 57 = .ok (.putfield 29, 3) := by decide +kernel
theorem dX3_init_60 : decode cX3_init 60 = .ok (.aload_n 0, 1) := by decide +kernel
theorem dX3_init_61 : decode cX3_init 61 = .ok (.bipush (-9), 2) := by decide +kernel
theorem dX3_init_63 : decode cX3_init 63 = .ok (.putfield 32, 3) := by decide +kernel
theorem dX3_init_66 : decode cX3_init 66 = .ok (.aload_n 0, 1) := by decide +kernel
theorem dX3_init_67 : decode cX3_init 67 = .ok (.iconst 0, 1) := by decide +kernel
theorem dX3_init_68 : decode cX3_init 68 = .ok (.putfield 35, 3) := by decide +kernel
theorem dX3_init_71 : decode cX3_init 71 = .ok (.return_, 1) := by decide +kernel
theorem dX3_hasVariable_0 : decode cX3_hasVariable 0 = .ok (.iload_n 1, 1) := by decide +kernel
theorem dX3_hasVariable_1 : decode cX3_hasVariable 1 = .ok (.ifCond .lt 15, 3) := by decide +kernel
theorem dX3_hasVariable_4 : decode cX3_hasVariable 4 = .ok (.iload_n 1, 1) := by decide +kernel
theorem dX3_hasVariable_5 : decode cX3_hasVariable 5 = .ok (.aload_n 0, 1) := by decide +kernel
theorem dX3_hasVariable_6 : decode cX3_hasVariable 6 = .ok (.getfield 9, 3) := by decide +kernel
theorem dX3_hasVariable_9 : decode cX3_hasVariable 9 = .ok (.if_icmp .ge 7, 3) := by decide +kernel
theorem dX3_hasVariable_12 : decode cX3_hasVariable 12 = .ok (.iconst 1, 1) := by decide +kernel
theorem dX3_hasVariable_13 : decode cX3_hasVariable 13 = .ok (.goto 4, 3) := by decide +kernel
theorem dX3_hasVariable_16 : decode cX3_hasVariable 16 = .ok (.iconst 0, 1) := by decide +kernel
theorem dX3_hasVariable_17 : decode cX3_hasVariable 17 = .ok (.ireturn, 1) := by decide +kernel
theorem dX3_sideOf_0 : decode cX3_sideOf 0 = .ok (.aload_n 0, 1) := by decide +kernel
theorem dX3_sideOf_1 : decode cX3_sideOf 1 = .ok (.aload_n 0, 1) := by decide +kernel
theorem dX3_sideOf_2 : decode cX3_sideOf 2 = .ok (.getfield 32, 3) := by decide +kernel
theorem dX3_sideOf_5 : decode cX3_sideOf 5 = .ok (.invokevirtual 38, 3) := by decide +kernel
theorem dX3_sideOf_8 : decode cX3_sideOf 8 = .ok (.ifCond .ne 5, 3) := by decide +kernel
theorem dX3_sideOf_11 : decode cX3_sideOf 11 = .ok (.iconst 0, 1) := by decide +kernel
theorem dX3_sideOf_12 : decode cX3_sideOf 12 = .ok (.ireturn, 1) := by decide +kernel
theorem dX3_sideOf_13 : decode cX3_sideOf 13 = .ok (.aload_n 1, 1) := by decide +kernel
theorem dX3_sideOf_14 : decode cX3_sideOf 14 = .ok (.aload_n 0, 1) := by decide +kernel
theorem dX3_sideOf_15 : decode cX3_sideOf 15 = .ok (.getfield 32, 3) := by decide +kernel
theorem dX3_sideOf_18 : decode cX3_sideOf 18 = .ok (.iaload, 1) := by decide +kernel
theorem dX3_sideOf_19 : decode cX3_sideOf 19 = .ok (.aload_n 0, 1) := by decide +kernel
theorem dX3_sideOf_20 : decode cX3_sideOf 20 = .ok (.getfield 35, 3) := by decide +kernel
theorem dX3_sideOf_23 : decode cX3_sideOf 23 = .ok (.if_icmp .lt 7, 3) := by decide +kernel
theorem dX3_sideOf_26 : decode cX3_sideOf 26 = .ok (.iconst 1, 1) := by decide +kernel
theorem dX3_sideOf_27 : decode cX3_sideOf 27 = .ok (.goto 4, 3) := by decide +kernel
theorem dX3_sideOf_30 : decode cX3_sideOf 30 = .ok (.iconst 2, 1) := by decide +kernel
theorem dX3_sideOf_31 : decode cX3_sideOf 31 = .ok (.ireturn, 1) := by decide +kernel
theorem dX3_keep_0 : decode cX3_keep 0 = .ok (.aload_n 0, 1) := by decide +kernel
theorem dX3_keep_1 : decode cX3_keep 1 = .ok (.getfield 29, 3) := by decide +kernel
theorem dX3_keep_4 : decode cX3_keep 4 = .ok (.bipush 40, 2) := by decide +kernel
theorem dX3_keep_6 : decode cX3_keep 6 = .ok (.if_icmp .ge 26, 3) := by decide +kernel
theorem dX3_keep_9 : decode cX3_keep 9 = .ok (.aload_n 1, 1) := by decide +kernel
theorem dX3_keep_10 : decode cX3_keep 10 = .ok (.aload_n 0, 1) := by decide +kernel
theorem dX3_keep_11 : decode cX3_keep 11 = .ok (.getfield 17, 3) := by decide +kernel
theorem dX3_keep_14 : decode cX3_keep 14 = .ok (.aload_n 0, 1) := by decide +kernel
theorem dX3_keep_15 : decode cX3_keep 15 = .ok (.getfield 29, 3) := by decide +kernel
theorem dX3_keep_18 : decode cX3_keep 18 = .ok (.aaload, 1) := by decide +kernel
theorem dX3_keep_19 : decode cX3_keep 19 = .ok (.invokestatic 42, 3) := by decide +kernel
theorem dX3_keep_22 : decode cX3_keep 22 = .ok (.aload_n 0, 1) := by decide +kernel
theorem dX3_keep_23 : decode cX3_keep 23 = .ok (.dup, 1) := by decide +kernel
theorem dX3_keep_24 : decode cX3_keep 24 = .ok (.getfield 29, 3) := by decide +kernel
theorem dX3_keep_27 : decode cX3_keep 27 = .ok (.iconst 1, 1) := by decide +kernel
theorem dX3_keep_28 : decode cX3_keep 28 = .ok (.iadd, 1) := by decide +kernel
theorem dX3_keep_29 : decode cX3_keep 29 = .ok (.putfield 29, 3) := by decide +kernel
theorem dX3_keep_32 : decode cX3_keep 32 = .ok (.return_, 1) := by decide +kernel
theorem dX3_part_0 : decode cX3_part 0 = .ok (.aload_n 0, 1) := by decide +kernel
theorem dX3_part_1 : decode cX3_part 1 = .ok (.iload_n 1, 1) := by decide +kernel
theorem dX3_part_2 : decode cX3_part 2 = .ok (.putfield 32, 3) := by decide +kernel
theorem dX3_part_5 : decode cX3_part 5 = .ok (.aload_n 0, 1) := by decide +kernel
theorem dX3_part_6 : decode cX3_part 6 = .ok (.iload_n 2, 1) := by decide +kernel
theorem dX3_part_7 : decode cX3_part 7 = .ok (.putfield 35, 3) := by decide +kernel
theorem dX3_part_10 : decode cX3_part 10 = .ok (.aload_n 0, 1) := by decide +kernel
theorem dX3_part_11 : decode cX3_part 11 = .ok (.getfield 22, 3) := by decide +kernel
theorem dX3_part_14 : decode cX3_part 14 = .ok (.iconst 1, 1) := by decide +kernel
theorem dX3_part_15 : decode cX3_part 15 = .ok (.aaload, 1) := by decide +kernel
theorem dX3_part_16 : decode cX3_part 16 = .ok (.invokevirtual 46, 3) := by decide +kernel
theorem dX3_part_19 : decode cX3_part 19 = .ok (.aload_n 0, 1) := by decide +kernel
theorem dX3_part_20 : decode cX3_part 20 = .ok (.getfield 22, 3) := by decide +kernel
theorem dX3_part_23 : decode cX3_part 23 = .ok (.iconst 2, 1) := by decide +kernel
theorem dX3_part_24 : decode cX3_part 24 = .ok (.aaload, 1) := by decide +kernel
theorem dX3_part_25 : decode cX3_part 25 = .ok (.invokevirtual 46, 3) := by decide +kernel
theorem dX3_part_28 : decode cX3_part 28 = .ok (.iconst 0, 1) := by decide +kernel
theorem dX3_part_29 : decode cX3_part 29 = .ok (.istore_n 3, 1) := by decide +kernel
theorem dX3_part_30 : decode cX3_part 30 = .ok (.iload_n 3, 1) := by decide +kernel
theorem dX3_part_31 : decode cX3_part 31 = .ok (.aload_n 0, 1) := by decide +kernel
theorem dX3_part_32 : decode cX3_part 32 = .ok (.getfield 29, 3) := by decide +kernel
theorem dX3_part_35 : decode cX3_part 35 = .ok (.if_icmp .ge 33, 3) := by decide +kernel
theorem dX3_part_38 : decode cX3_part 38 = .ok (.aload_n 0, 1) := by decide +kernel
theorem dX3_part_39 : decode cX3_part 39 = .ok (.getfield 22, 3) := by decide +kernel
theorem dX3_part_42 : decode cX3_part 42 = .ok (.aload_n 0, 1) := by decide +kernel
theorem dX3_part_43 : decode cX3_part 43 = .ok (.aload_n 0, 1) := by decide +kernel
theorem dX3_part_44 : decode cX3_part 44 = .ok (.getfield 17, 3) := by decide +kernel
theorem dX3_part_47 : decode cX3_part 47 = .ok (.iload_n 3, 1) := by decide +kernel
theorem dX3_part_48 : decode cX3_part 48 = .ok (.aaload, 1) := by decide +kernel
theorem dX3_part_49 : decode cX3_part 49 = .ok (.invokevirtual 49, 3) := by decide +kernel
theorem dX3_part_52 : decode cX3_part 52 = .ok (.aaload, 1) := by decide +kernel
theorem dX3_part_53 : decode cX3_part 53 = .ok (.aload_n 0, 1) := by decide +kernel
theorem dX3_part_54 : decode cX3_part 54 = .ok (.getfield 17, 3) := by decide +kernel
theorem dX3_part_57 : decode cX3_part 57 = .ok (.iload_n 3, 1) := by decide +kernel
theorem dX3_part_58 : decode cX3_part 58 = .ok (.aaload, 1) := by decide +kernel
theorem dX3_part_59 : decode cX3_part 59 = .ok (.invokevirtual 53, 3) := by decide +kernel
theorem dX3_part_62 : decode cX3_part 62 = .ok (.iinc 3 1, 3) := by decide +kernel
theorem dX3_part_65 : decode cX3_part 65 = .ok (.goto (-35), 3) := by decide +kernel
theorem dX3_part_68 : decode cX3_part 68 = .ok (.return_, 1) := by decide +kernel
theorem dX4_init_0 : decode cX4_init 0 = .ok (.aload_n 0, 1) := by decide +kernel
theorem dX4_init_1 : decode cX4_init 1 = .ok (.invokespecial 3, 3) := by decide +kernel
theorem dX4_init_4 : decode cX4_init 4 = .ok (.aload_n 0, 1) := by decide +kernel
theorem dX4_init_5 : decode cX4_init 5 = .ok (.bipush 6, 2) := by decide +kernel
theorem dX4_init_7 : decode cX4_init 7 = .ok (.anewarray 9, 3) := by decide +kernel
theorem dX4_init_10 : decode cX4_init 10 = .ok (.putfield 11, 3) := by decide +kernel
theorem dX4_init_13 : decode cX4_init 13 = .ok (.aload_n 0, 1) := by decide +kernel
theorem dX4_init_14 : decode cX4_init 14 = .ok (.bipush 10, 2) := by decide +kernel
theorem dX4_init_16 : decode cX4_init 16 = .ok (.anewarray 17, 3) := by decide +kernel
theorem dX4_init_19 : decode cX4_init 19 = .ok (.putfield 19, 3) := by decide +kernel
theorem dX4_init_22 : decode cX4_init 22 = .ok (.aload_n 0, 1) := by decide +kernel
theorem dX4_init_23 : decode cX4_init 23 = .ok (.iconst 4, 1) := by decide +kernel
theorem dX4_init_24 : decode cX4_init 24 = .ok (.newarray .int, 2) := by decide +kernel
theorem dX4_init_26 : decode cX4_init 26 = .ok (.putfield 23, 3) := by decide +kernel
theorem dX4_init_29 : decode cX4_init 29 = .ok (.aload_n 0, 1) := by decide +kernel
theorem dX4_init_30 : decode cX4_init 30 = .ok (.iconst 5, 1) := by decide +kernel
theorem dX4_init_31 : decode cX4_init 31 = .ok (.newarray .long, 2) := by decide +kernel
theorem dX4_init_33 : decode cX4_init 33 = .ok (.putfield 27, 3) := by decide +kernel
theorem dX4_init_36 : decode cX4_init 36 = .ok (.aload_n 0, 1) := by decide +kernel
theorem dX4_init_37 : decode cX4_init 37 = .ok (.iconst 0, 1) := by decide +kernel
theorem dX4_init_38 : decode cX4_init 38 = .ok (.putfield 31, 3) := by decide +kernel
theorem dX4_init_41 : decode cX4_init 41 = .ok (.aload_n 0, 1) := by decide +kernel
theorem dX4_init_42 : decode cX4_init 42 = .ok (.iconst 0, 1) := by decide +kernel
theorem dX4_init_43 : decode cX4_init 43 = .ok (.putfield 35, 3) := by decide +kernel
theorem dX4_init_46 : decode cX4_init 46 = .ok (.aload_n 0, 1) := by decide +kernel
theorem dX4_init_47 : decode cX4_init 47 = .ok (.bipush (-9), 2) := by decide +kernel
theorem dX4_init_49 : decode cX4_init 49 = .ok (.putfield 38, 3) := by decide +kernel
theorem dX4_init_52 : decode cX4_init 52 = .ok (.return_, 1) := by decide +kernel
theorem dX4_addPoint_0 : decode cX4_addPoint 0 = .ok (.aload_n 0, 1) := by decide +kernel
theorem dX4_addPoint_1 : decode cX4_addPoint 1 = .ok (.getfield 31, 3) := by decide +kernel
theorem dX4_addPoint_4 : decode cX4_addPoint 4 = .ok (.bipush 6, 2) := by decide +kernel
theorem dX4_addPoint_6 : decode cX4_addPoint 6 = .ok (.if_icmp .lt 6, 3) := by decide +kernel
theorem dX4_addPoint_9 : decode cX4_addPoint 9 = .ok (.bipush (-4), 2) := by decide +kernel
theorem dX4_addPoint_11 : decode cX4_addPoint 11 = .ok (.ireturn, 1) := by decide +kernel
theorem dX4_addPoint_12 : decode cX4_addPoint 12 = .ok (.aload_n 0, 1) := by decide +kernel
theorem dX4_addPoint_13 : decode cX4_addPoint 13 = .ok (.getfield 11, 3) := by decide +kernel
theorem dX4_addPoint_16 : decode cX4_addPoint 16 = .ok (.aload_n 0, 1) := by decide +kernel
theorem dX4_addPoint_17 : decode cX4_addPoint 17 = .ok (.getfield 31, 3) := by decide +kernel
theorem dX4_addPoint_20 : decode cX4_addPoint 20 = .ok (.new 9, 3) := by decide +kernel
theorem dX4_addPoint_23 : decode cX4_addPoint 23 = .ok (.dup, 1) := by decide +kernel
theorem dX4_addPoint_24 : decode cX4_addPoint 24 = .ok (.iload_n 1, 1) := by decide +kernel
theorem dX4_addPoint_25 : decode cX4_addPoint 25 = .ok (.invokespecial 41, 3) := by decide +kernel
theorem dX4_addPoint_28 : decode cX4_addPoint 28 = .ok (.aastore, 1) := by decide +kernel
theorem dX4_addPoint_29 : decode cX4_addPoint 29 = .ok (.aload_n 0, 1) := by decide +kernel
theorem dX4_addPoint_30 : decode cX4_addPoint 30 = .ok (.dup, 1) := by decide +kernel
theorem dX4_addPoint_31 : decode cX4_addPoint 31 = .ok (.getfield 31, 3) := by decide +kernel
theorem dX4_addPoint_34 : decode cX4_addPoint 34 = .ok (.iconst 1, 1) := by decide +kernel
theorem dX4_addPoint_35 : decode cX4_addPoint 35 = .ok (.iadd, 1) := by decide +kernel
theorem dX4_addPoint_36 : decode cX4_addPoint 36 = .ok (.putfield 31, 3) := by decide +kernel
theorem dX4_addPoint_39 : decode cX4_addPoint 39 = .ok (.aload_n 0, 1) := by decide +kernel
theorem dX4_addPoint_40 : decode cX4_addPoint 40 = .ok (.getfield 31, 3) := by decide +kernel
theorem dX4_addPoint_43 : decode cX4_addPoint 43 = .ok (.iconst 1, 1) := by decide +kernel
theorem dX4_addPoint_44 : decode cX4_addPoint 44 = .ok (.isub, 1) := by decide +kernel
theorem dX4_addPoint_45 : decode cX4_addPoint 45 = .ok (.ireturn, 1) := by decide +kernel
theorem dX4_addAct_0 : decode cX4_addAct 0 = .ok (.aload_n 0, 1) := by decide +kernel
theorem dX4_addAct_1 : decode cX4_addAct 1 = .ok (.getfield 35, 3) := by decide +kernel
theorem dX4_addAct_4 : decode cX4_addAct 4 = .ok (.bipush 10, 2) := by decide +kernel
theorem dX4_addAct_6 : decode cX4_addAct 6 = .ok (.if_icmp .lt 6, 3) := by decide +kernel
theorem dX4_addAct_9 : decode cX4_addAct 9 = .ok (.bipush (-4), 2) := by decide +kernel
theorem dX4_addAct_11 : decode cX4_addAct 11 = .ok (.ireturn, 1) := by decide +kernel
theorem dX4_addAct_12 : decode cX4_addAct 12 = .ok (.aload_n 0, 1) := by decide +kernel
theorem dX4_addAct_13 : decode cX4_addAct 13 = .ok (.getfield 19, 3) := by decide +kernel
theorem dX4_addAct_16 : decode cX4_addAct 16 = .ok (.aload_n 0, 1) := by decide +kernel
theorem dX4_addAct_17 : decode cX4_addAct 17 = .ok (.getfield 35, 3) := by decide +kernel
theorem dX4_addAct_20 : decode cX4_addAct 20 = .ok (.new 17, 3) := by decide +kernel
theorem dX4_addAct_23 : decode cX4_addAct 23 = .ok (.dup, 1) := by decide +kernel
theorem dX4_addAct_24 : decode cX4_addAct 24 = .ok (.iload_n 1, 1) := by decide +kernel
theorem dX4_addAct_25 : decode cX4_addAct 25 = .ok (.iload_n 2, 1) := by decide +kernel
theorem dX4_addAct_26 : decode cX4_addAct 26 = .ok (.iload_n 3, 1) := by decide +kernel
theorem dX4_addAct_27 : decode cX4_addAct 27 = .ok (.iload 4, 2) := by decide +kernel
theorem dX4_addAct_29 : decode cX4_addAct 29 = .ok (.invokespecial 44, 3) := by decide +kernel
theorem dX4_addAct_32 : decode cX4_addAct 32 = .ok (.aastore, 1) := by decide +kernel
theorem dX4_addAct_33 : decode cX4_addAct 33 = .ok (.aload_n 0, 1) := by decide +kernel
theorem dX4_addAct_34 : decode cX4_addAct 34 = .ok (.dup, 1) := by decide +kernel
theorem dX4_addAct_35 : decode cX4_addAct 35 = .ok (.getfield 35, 3) := by decide +kernel
theorem dX4_addAct_38 : decode cX4_addAct 38 = .ok (.iconst 1, 1) := by decide +kernel
theorem dX4_addAct_39 : decode cX4_addAct 39 = .ok (.iadd, 1) := by decide +kernel
theorem dX4_addAct_40 : decode cX4_addAct 40 = .ok (.putfield 35, 3) := by decide +kernel
theorem dX4_addAct_43 : decode cX4_addAct 43 = .ok (.aload_n 0, 1) := by decide +kernel
theorem dX4_addAct_44 : decode cX4_addAct 44 = .ok (.getfield 35, 3) := by decide +kernel
theorem dX4_addAct_47 : decode cX4_addAct 47 = .ok (.iconst 1, 1) := by decide +kernel
theorem dX4_addAct_48 : decode cX4_addAct 48 = .ok (.isub, 1) := by decide +kernel
theorem dX4_addAct_49 : decode cX4_addAct 49 = .ok (.ireturn, 1) := by decide +kernel
theorem dX4_pointAt_0 : decode cX4_pointAt 0 = .ok (.iload_n 1, 1) := by decide +kernel
theorem dX4_pointAt_1 : decode cX4_pointAt 1 = .ok (.ifCond .lt 20, 3) := by decide +kernel
theorem dX4_pointAt_4 : decode cX4_pointAt 4 = .ok (.iload_n 1, 1) := by decide +kernel
theorem dX4_pointAt_5 : decode cX4_pointAt 5 = .ok (.aload_n 0, 1) := by decide +kernel
theorem dX4_pointAt_6 : decode cX4_pointAt 6 = .ok (.getfield 31, 3) := by decide +kernel
theorem dX4_pointAt_9 : decode cX4_pointAt 9 = .ok (.if_icmp .ge 12, 3) := by decide +kernel
theorem dX4_pointAt_12 : decode cX4_pointAt 12 = .ok (.aload_n 0, 1) := by decide +kernel
theorem dX4_pointAt_13 : decode cX4_pointAt 13 = .ok (.getfield 11, 3) := by decide +kernel
theorem dX4_pointAt_16 : decode cX4_pointAt 16 = .ok (.iload_n 1, 1) := by decide +kernel
theorem dX4_pointAt_17 : decode cX4_pointAt 17 = .ok (.aaload, 1) := by decide +kernel
theorem dX4_pointAt_18 : decode cX4_pointAt 18 = .ok (.goto 4, 3) := by decide +kernel
theorem dX4_pointAt_21 : decode cX4_pointAt 21 = .ok (.aconst_null, 1) := by decide +kernel
theorem dX4_pointAt_22 : decode cX4_pointAt 22 = .ok (.areturn, 1) := by decide +kernel
theorem dX4_factsAt_0 : decode cX4_factsAt 0 = .ok (.aload_n 0, 1) := by decide +kernel
theorem dX4_factsAt_1 : decode cX4_factsAt 1 = .ok (.iload_n 1, 1) := by decide +kernel
theorem dX4_factsAt_2 : decode cX4_factsAt 2 = .ok (.invokevirtual 47, 3) := by decide +kernel
theorem dX4_factsAt_5 : decode cX4_factsAt 5 = .ok (.astore_n 3, 1) := by decide +kernel
theorem dX4_factsAt_6 : decode cX4_factsAt 6 = .ok (.aload_n 3, 1) := by decide +kernel
theorem dX4_factsAt_7 : decode cX4_factsAt 7 = .ok (.ifnull 12, 3) := by decide +kernel
theorem dX4_factsAt_10 : decode cX4_factsAt 10 = .ok (.iload_n 2, 1) := by decide +kernel
theorem dX4_factsAt_11 : decode cX4_factsAt 11 = .ok (.ifCond .lt 8, 3) := by decide +kernel
theorem dX4_factsAt_14 : decode cX4_factsAt 14 = .ok (.iload_n 2, 1) := by decide +kernel
theorem dX4_factsAt_15 : decode cX4_factsAt 15 = .ok (.iconst 3, 1) := by decide +kernel
theorem dX4_factsAt_16 : decode cX4_factsAt 16 = .ok (.if_icmp .lt 7, 3) := by decide +kernel
theorem dX4_factsAt_19 : decode cX4_factsAt 19 = .ok (.aconst_null, 1) := by decide +kernel
theorem dX4_factsAt_20 : decode cX4_factsAt 20 = .ok (.goto 9, 3) := by decide +kernel
theorem dX4_factsAt_23 : decode cX4_factsAt 23 = .ok (.aload_n 3, 1) := by decide +kernel
theorem dX4_factsAt_24 : decode cX4_factsAt 24 = .ok (.getfield 51, 3) := by decide +kernel
theorem dX4_factsAt_27 : decode cX4_factsAt 27 = .ok (.iload_n 2, 1) := by decide +kernel
theorem dX4_factsAt_28 : decode cX4_factsAt 28 = .ok (.aaload, 1) := by decide +kernel
theorem dX4_factsAt_29 : decode cX4_factsAt 29 = .ok (.areturn, 1) := by decide +kernel
theorem dX4_actAt_0 : decode cX4_actAt 0 = .ok (.iload_n 1, 1) := by decide +kernel
theorem dX4_actAt_1 : decode cX4_actAt 1 = .ok (.ifCond .lt 20, 3) := by decide +kernel
theorem dX4_actAt_4 : decode cX4_actAt 4 = .ok (.iload_n 1, 1) := by decide +kernel
theorem dX4_actAt_5 : decode cX4_actAt 5 = .ok (.aload_n 0, 1) := by decide +kernel
theorem dX4_actAt_6 : decode cX4_actAt 6 = .ok (.getfield 35, 3) := by decide +kernel
theorem dX4_actAt_9 : decode cX4_actAt 9 = .ok (.if_icmp .ge 12, 3) := by decide +kernel
theorem dX4_actAt_12 : decode cX4_actAt 12 = .ok (.aload_n 0, 1) := by decide +kernel
theorem dX4_actAt_13 : decode cX4_actAt 13 = .ok (.getfield 19, 3) := by decide +kernel
theorem dX4_actAt_16 : decode cX4_actAt 16 = .ok (.iload_n 1, 1) := by decide +kernel
theorem dX4_actAt_17 : decode cX4_actAt 17 = .ok (.aaload, 1) := by decide +kernel
theorem dX4_actAt_18 : decode cX4_actAt 18 = .ok (.goto 4, 3) := by decide +kernel
theorem dX4_actAt_21 : decode cX4_actAt 21 = .ok (.aconst_null, 1) := by decide +kernel
theorem dX4_actAt_22 : decode cX4_actAt 22 = .ok (.areturn, 1) := by decide +kernel
theorem dX4_hasStart_0 : decode cX4_hasStart 0 = .ok (.aload_n 0, 1) := by decide +kernel
theorem dX4_hasStart_1 : decode cX4_hasStart 1 = .ok (.getfield 38, 3) := by decide +kernel
theorem dX4_hasStart_4 : decode cX4_hasStart 4 = .ok (.ifCond .lt 7, 3) := by decide +kernel
theorem dX4_hasStart_7 : decode cX4_hasStart 7 = .ok (.iconst 1, 1) := by decide +kernel
theorem dX4_hasStart_8 : decode cX4_hasStart 8 = .ok (.goto 4, 3) := by decide +kernel
theorem dX4_hasStart_11 : decode cX4_hasStart 11 = .ok (.iconst 0, 1) := by decide +kernel
theorem dX4_hasStart_12 : decode cX4_hasStart 12 = .ok (.ireturn, 1) := by decide +kernel
theorem dX4_setStart_0 : decode cX4_setStart 0 = .ok (.aload_n 0, 1) := by decide +kernel
theorem dX4_setStart_1 : decode cX4_setStart 1 = .ok (.iload_n 1, 1) := by decide +kernel
theorem dX4_setStart_2 : decode cX4_setStart 2 = .ok (.putfield 38, 3) := by decide +kernel
theorem dX4_setStart_5 : decode cX4_setStart 5 = .ok (.aload_n 2, 1) := by decide +kernel
theorem dX4_setStart_6 : decode cX4_setStart 6 = .ok (.aload_n 0, 1) := by decide +kernel
theorem dX4_setStart_7 : decode cX4_setStart 7 = .ok (.getfield 23, 3) := by decide +kernel
theorem dX4_setStart_10 : decode cX4_setStart 10 = .ok (.invokestatic 55, 3) := by decide +kernel
theorem dX4_setStart_13 : decode cX4_setStart 13 = .ok (.return_, 1) := by decide +kernel
theorem dX4_sumWrongAtStart_0 : decode cX4_sumWrongAtStart 0 = .ok (.aload_n 0, 1) := by decide +kernel
theorem dX4_sumWrongAtStart_1 : decode cX4_sumWrongAtStart 1 = .ok (.aload_n 0, 1) := by decide +kernel
theorem dX4_sumWrongAtStart_2 : decode cX4_sumWrongAtStart 2 = .ok (.getfield 38, 3) := by decide +kernel
theorem dX4_sumWrongAtStart_5 : decode cX4_sumWrongAtStart 5 = .ok (.iconst 0, 1) := by decide +kernel
theorem dX4_sumWrongAtStart_6 : decode cX4_sumWrongAtStart 6 = .ok (.invokevirtual 59, 3) := by decide +kernel
theorem dX4_sumWrongAtStart_9 : decode cX4_sumWrongAtStart 9 = .ok (.astore_n 1, 1) := by decide +kernel
theorem dX4_sumWrongAtStart_10 : decode cX4_sumWrongAtStart 10 = .ok (.aload_n 1, 1) := by decide +kernel
theorem dX4_sumWrongAtStart_11 : decode cX4_sumWrongAtStart 11 = .ok (.ifnonnull 5, 3) := by decide +kernel
theorem dX4_sumWrongAtStart_14 : decode cX4_sumWrongAtStart 14 = .ok (.iconst (-1), 1) := by decide +kernel
theorem dX4_sumWrongAtStart_15 : decode cX4_sumWrongAtStart 15 = .ok (.ireturn, 1) := by decide +kernel
theorem dX4_sumWrongAtStart_16 : decode cX4_sumWrongAtStart 16 = .ok (.iconst 0, 1) := by decide +kernel
theorem dX4_sumWrongAtStart_17 : decode cX4_sumWrongAtStart 17 = .ok (.istore_n 2, 1) := by decide +kernel
theorem dX4_sumWrongAtStart_18 : decode cX4_sumWrongAtStart 18 = .ok (.iload_n 2, 1) := by decide +kernel
theorem dX4_sumWrongAtStart_19 : decode cX4_sumWrongAtStart 19 = .ok (.aload_n 1, 1) := by decide +kernel
theorem dX4_sumWrongAtStart_20 : decode cX4_sumWrongAtStart 20 = .ok (.invokevirtual 63, 3) := by decide +kernel
theorem dX4_sumWrongAtStart_23 : decode cX4_sumWrongAtStart 23 = .ok (.if_icmp .ge 71, 3) := by decide +kernel
theorem dX4_sumWrongAtStart_26 : decode cX4_sumWrongAtStart 26 = .ok (.aload_n 1, 1) := by decide +kernel
theorem dX4_sumWrongAtStart_27 : decode cX4_sumWrongAtStart 27 = .ok (.getfield 69, 3) := by decide +kernel
theorem dX4_sumWrongAtStart_30 : decode cX4_sumWrongAtStart 30 = .ok (.iload_n 2, 1) := by decide +kernel
theorem dX4_sumWrongAtStart_31 : decode cX4_sumWrongAtStart 31 = .ok (.invokevirtual 73, 3) := by decide +kernel
theorem dX4_sumWrongAtStart_34 : decode cX4_sumWrongAtStart 34 = .ok (.astore_n 3, 1) := by decide +kernel
theorem dX4_sumWrongAtStart_35 : decode cX4_sumWrongAtStart 35 = .ok (.aload_n 3, 1) := by decide +kernel
theorem dX4_sumWrongAtStart_36 : decode cX4_sumWrongAtStart 36 = .ok (.aload_n 1, 1) := by decide +kernel
theorem dX4_sumWrongAtStart_37 : decode cX4_sumWrongAtStart 37 = .ok (.getfield 79, 3) := by decide +kernel
theorem dX4_sumWrongAtStart_40 : decode cX4_sumWrongAtStart 40 = .ok (.laload, 1) := by decide +kernel
theorem dX4_sumWrongAtStart_41 : decode cX4_sumWrongAtStart 41 = .ok (.lstore 4, 2) := by decide +kernel
theorem dX4_sumWrongAtStart_43 : decode cX4_sumWrongAtStart 43 = .ok (.iconst 0, 1) := by decide +kernel
theorem dX4_sumWrongAtStart_44 : decode cX4_sumWrongAtStart 44 = .ok (.istore 6, 2) := by decide +kernel
theorem dX4_sumWrongAtStart_46 : decode cX4_sumWrongAtStart 46 = .ok (.iload 6, 2) := by decide +kernel
theorem dX4_sumWrongAtStart_48 : decode cX4_sumWrongAtStart 48 = .ok (.aload_n 1, 1) := by decide +kernel
theorem dX4_sumWrongAtStart_49 : decode cX4_sumWrongAtStart 49 = .ok (.getfield 79, 3) := by decide +kernel
theorem dX4_sumWrongAtStart_52 : decode cX4_sumWrongAtStart 52 = .ok (.if_icmp .ge 27, 3) := by decide +kernel
theorem dX4_sumWrongAtStart_55 : decode cX4_sumWrongAtStart 55 = .ok (.lload 4, 2) := by decide +kernel
theorem dX4_sumWrongAtStart_57 : decode cX4_sumWrongAtStart 57 = .ok (.aload_n 3, 1) := by decide +kernel
theorem dX4_sumWrongAtStart_58 : decode cX4_sumWrongAtStart 58 = .ok (.iload 6, 2) := by decide +kernel
theorem dX4_sumWrongAtStart_60 : decode cX4_sumWrongAtStart 60 = .ok (.laload, 1) := by decide +kernel
theorem dX4_sumWrongAtStart_61 : decode cX4_sumWrongAtStart 61 = .ok (.aload_n 0, 1) := by decide +kernel
end
section
theorem dX4_sumWrongAtStart_62 : decode cX4_sumWrongAtStart 62 = .ok (.getfield 23, 3) := by decide +kernel
theorem dX4_sumWrongAtStart_65 : decode cX4_sumWrongAtStart 65 = .ok (.iload 6, 2) := by decide +kernel
theorem dX4_sumWrongAtStart_67 : decode cX4_sumWrongAtStart 67 = .ok (.iaload, 1) := by decide +kernel
theorem dX4_sumWrongAtStart_68 : decode cX4_sumWrongAtStart 68 = .ok (.i2l, 1) := by decide +kernel
theorem dX4_sumWrongAtStart_69 : decode cX4_sumWrongAtStart 69 = .ok (.lmul, 1) := by decide +kernel
theorem dX4_sumWrongAtStart_70 : decode cX4_sumWrongAtStart 70 = .ok (.ladd, 1) := by decide +kernel
theorem dX4_sumWrongAtStart_71 : decode cX4_sumWrongAtStart 71 = .ok (.lstore 4, 2) := by decide +kernel
theorem dX4_sumWrongAtStart_73 : decode cX4_sumWrongAtStart 73 = .ok (.iinc 6 1, 3) := by decide +kernel
theorem dX4_sumWrongAtStart_76 : decode cX4_sumWrongAtStart 76 = .ok (.goto (-30), 3) := by decide +kernel
theorem dX4_sumWrongAtStart_79 : decode cX4_sumWrongAtStart 79 = .ok (.lload 4, 2) := by decide +kernel
theorem dX4_sumWrongAtStart_81 : decode cX4_sumWrongAtStart 81 = .ok (.lconst 0, 1) := by decide +kernel
theorem dX4_sumWrongAtStart_82 : decode cX4_sumWrongAtStart 82 = .ok (.lcmp, 1) := by decide +kernel
theorem dX4_sumWrongAtStart_83 : decode cX4_sumWrongAtStart 83 = .ok (.ifCond .eq 5, 3) := by decide +kernel
theorem dX4_sumWrongAtStart_86 : decode cX4_sumWrongAtStart 86 = .ok (.iload_n 2, 1) := by decide +kernel
theorem dX4_sumWrongAtStart_87 : decode cX4_sumWrongAtStart 87 = .ok (.ireturn, 1) := by decide +kernel
theorem dX4_sumWrongAtStart_88 : decode cX4_sumWrongAtStart 88 = .ok (.iinc 2 1, 3) := by decide +kernel
theorem dX4_sumWrongAtStart_91 : decode cX4_sumWrongAtStart 91 = .ok (.goto (-73), 3) := by decide +kernel
theorem dX4_sumWrongAtStart_94 : decode cX4_sumWrongAtStart 94 = .ok (.iconst (-1), 1) := by decide +kernel
theorem dX4_sumWrongAtStart_95 : decode cX4_sumWrongAtStart 95 = .ok (.ireturn, 1) := by decide +kernel
theorem dX4_sumLostBy_0 : decode cX4_sumLostBy 0 = .ok (.aload_n 1, 1) := by decide +kernel
theorem dX4_sumLostBy_1 : decode cX4_sumLostBy 1 = .ok (.ifnonnull 7, 3) := by decide +kernel
theorem dX4_sumLostBy_4 : decode cX4_sumLostBy 4 = .ok (.aconst_null, 1) := by decide +kernel
theorem dX4_sumLostBy_5 : decode cX4_sumLostBy 5 = .ok (.goto 12, 3) := by decide +kernel
theorem dX4_sumLostBy_8 : decode cX4_sumLostBy 8 = .ok (.aload_n 0, 1) := by decide +kernel
theorem dX4_sumLostBy_9 : decode cX4_sumLostBy 9 = .ok (.aload_n 1, 1) := by decide +kernel
theorem dX4_sumLostBy_10 : decode cX4_sumLostBy 10 = .ok (.getfield 82, 3) := by decide +kernel
theorem dX4_sumLostBy_13 : decode cX4_sumLostBy 13 = .ok (.iconst 0, 1) := by decide +kernel
theorem dX4_sumLostBy_14 : decode cX4_sumLostBy 14 = .ok (.invokevirtual 59, 3) := by decide +kernel
theorem dX4_sumLostBy_17 : decode cX4_sumLostBy 17 = .ok (.astore_n 2, 1) := by decide +kernel
theorem dX4_sumLostBy_18 : decode cX4_sumLostBy 18 = .ok (.aload_n 1, 1) := by decide +kernel
theorem dX4_sumLostBy_19 : decode cX4_sumLostBy 19 = .ok (.ifnonnull 7, 3) := by decide +kernel
theorem dX4_sumLostBy_22 : decode cX4_sumLostBy 22 = .ok (.aconst_null, 1) := by decide +kernel
theorem dX4_sumLostBy_23 : decode cX4_sumLostBy 23 = .ok (.goto 12, 3) := by decide +kernel
theorem dX4_sumLostBy_26 : decode cX4_sumLostBy 26 = .ok (.aload_n 0, 1) := by decide +kernel
theorem dX4_sumLostBy_27 : decode cX4_sumLostBy 27 = .ok (.aload_n 1, 1) := by decide +kernel
theorem dX4_sumLostBy_28 : decode cX4_sumLostBy 28 = .ok (.getfield 85, 3) := by decide +kernel
theorem dX4_sumLostBy_31 : decode cX4_sumLostBy 31 = .ok (.iconst 0, 1) := by decide +kernel
theorem dX4_sumLostBy_32 : decode cX4_sumLostBy 32 = .ok (.invokevirtual 59, 3) := by decide +kernel
theorem dX4_sumLostBy_35 : decode cX4_sumLostBy 35 = .ok (.astore_n 3, 1) := by decide +kernel
theorem dX4_sumLostBy_36 : decode cX4_sumLostBy 36 = .ok (.aload_n 2, 1) := by decide +kernel
theorem dX4_sumLostBy_37 : decode cX4_sumLostBy 37 = .ok (.ifnull 7, 3) := by decide +kernel
theorem dX4_sumLostBy_40 : decode cX4_sumLostBy 40 = .ok (.aload_n 3, 1) := by decide +kernel
theorem dX4_sumLostBy_41 : decode cX4_sumLostBy 41 = .ok (.ifnonnull 5, 3) := by decide +kernel
theorem dX4_sumLostBy_44 : decode cX4_sumLostBy 44 = .ok (.iconst (-1), 1) := by decide +kernel
theorem dX4_sumLostBy_45 : decode cX4_sumLostBy 45 = .ok (.ireturn, 1) := by decide +kernel
theorem dX4_sumLostBy_46 : decode cX4_sumLostBy 46 = .ok (.iconst 0, 1) := by decide +kernel
theorem dX4_sumLostBy_47 : decode cX4_sumLostBy 47 = .ok (.istore 4, 2) := by decide +kernel
theorem dX4_sumLostBy_49 : decode cX4_sumLostBy 49 = .ok (.iload 4, 2) := by decide +kernel
theorem dX4_sumLostBy_51 : decode cX4_sumLostBy 51 = .ok (.aload_n 3, 1) := by decide +kernel
theorem dX4_sumLostBy_52 : decode cX4_sumLostBy 52 = .ok (.invokevirtual 63, 3) := by decide +kernel
theorem dX4_sumLostBy_55 : decode cX4_sumLostBy 55 = .ok (.if_icmp .ge 40, 3) := by decide +kernel
theorem dX4_sumLostBy_58 : decode cX4_sumLostBy 58 = .ok (.aload_n 1, 1) := by decide +kernel
theorem dX4_sumLostBy_59 : decode cX4_sumLostBy 59 = .ok (.aload_n 3, 1) := by decide +kernel
theorem dX4_sumLostBy_60 : decode cX4_sumLostBy 60 = .ok (.getfield 69, 3) := by decide +kernel
theorem dX4_sumLostBy_63 : decode cX4_sumLostBy 63 = .ok (.iload 4, 2) := by decide +kernel
theorem dX4_sumLostBy_65 : decode cX4_sumLostBy 65 = .ok (.invokevirtual 73, 3) := by decide +kernel
theorem dX4_sumLostBy_68 : decode cX4_sumLostBy 68 = .ok (.aload_n 0, 1) := by decide +kernel
theorem dX4_sumLostBy_69 : decode cX4_sumLostBy 69 = .ok (.getfield 27, 3) := by decide +kernel
theorem dX4_sumLostBy_72 : decode cX4_sumLostBy 72 = .ok (.invokevirtual 88, 3) := by decide +kernel
theorem dX4_sumLostBy_75 : decode cX4_sumLostBy 75 = .ok (.aload_n 2, 1) := by decide +kernel
theorem dX4_sumLostBy_76 : decode cX4_sumLostBy 76 = .ok (.aload_n 0, 1) := by decide +kernel
theorem dX4_sumLostBy_77 : decode cX4_sumLostBy 77 = .ok (.getfield 27, 3) := by decide +kernel
theorem dX4_sumLostBy_80 : decode cX4_sumLostBy 80 = .ok (.invokevirtual 92, 3) := by decide +kernel
theorem dX4_sumLostBy_83 : decode cX4_sumLostBy 83 = .ok (.ifCond .ne 6, 3) := by decide +kernel
theorem dX4_sumLostBy_86 : decode cX4_sumLostBy 86 = .ok (.iload 4, 2) := by decide +kernel
theorem dX4_sumLostBy_88 : decode cX4_sumLostBy 88 = .ok (.ireturn, 1) := by decide +kernel
theorem dX4_sumLostBy_89 : decode cX4_sumLostBy 89 = .ok (.iinc 4 1, 3) := by decide +kernel
theorem dX4_sumLostBy_92 : decode cX4_sumLostBy 92 = .ok (.goto (-43), 3) := by decide +kernel
theorem dX4_sumLostBy_95 : decode cX4_sumLostBy 95 = .ok (.iconst (-1), 1) := by decide +kernel
theorem dX4_sumLostBy_96 : decode cX4_sumLostBy 96 = .ok (.ireturn, 1) := by decide +kernel
theorem dX5_init_0 : decode cX5_init 0 = .ok (.aload_n 0, 1) := by decide +kernel
theorem dX5_init_1 : decode cX5_init 1 = .ok (.invokespecial 3, 3) := by decide +kernel
theorem dX5_init_4 : decode cX5_init 4 = .ok (.aload_n 0, 1) := by decide +kernel
theorem dX5_init_5 : decode cX5_init 5 = .ok (.aload_n 1, 1) := by decide +kernel
theorem dX5_init_6 : decode cX5_init 6 = .ok (.putfield 9, 3) := by decide +kernel
theorem dX5_init_9 : decode cX5_init 9 = .ok (.aload_n 0, 1) := by decide +kernel
theorem dX5_init_10 : decode cX5_init 10 = .ok (.new 15, 3) := by decide +kernel
theorem dX5_init_13 : decode cX5_init 13 = .ok (.dup, 1) := by decide +kernel
theorem dX5_init_14 : decode cX5_init 14 = .ok (.invokespecial 17, 3) := by decide +kernel
theorem dX5_init_17 : decode cX5_init 17 = .ok (.putfield 18, 3) := by decide +kernel
theorem dX5_init_20 : decode cX5_init 20 = .ok (.aload_n 0, 1) := by decide +kernel
theorem dX5_init_21 : decode cX5_init 21 = .ok (.bipush 6, 2) := by decide +kernel
theorem dX5_init_23 : decode cX5_init 23 = .ok (.bipush 60, 2) := by decide +kernel
theorem dX5_init_25 : decode cX5_init 25 = .ok (.multianewarray 22 2, 4) := by decide +kernel
theorem dX5_init_29 : decode cX5_init 29 = .ok (.putfield 24, 3) := by decide +kernel
theorem dX5_init_32 : decode cX5_init 32 = .ok (.aload_n 0, 1) := by decide +kernel
theorem dX5_init_33 : decode cX5_init 33 = .ok (.bipush 6, 2) := by decide +kernel
theorem dX5_init_35 : decode cX5_init 35 = .ok (.newarray .int, 2) := by decide +kernel
theorem dX5_init_37 : decode cX5_init 37 = .ok (.putfield 27, 3) := by decide +kernel
theorem dX5_init_40 : decode cX5_init 40 = .ok (.aload_n 0, 1) := by decide +kernel
theorem dX5_init_41 : decode cX5_init 41 = .ok (.bipush 6, 2) := by decide +kernel
theorem dX5_init_43 : decode cX5_init 43 = .ok (.iconst 4, 1) := by decide +kernel
theorem dX5_init_44 : decode cX5_init 44 = .ok (.multianewarray 22 2, 4) := by decide +kernel
theorem dX5_init_48 : decode cX5_init 48 = .ok (.putfield 31, 3) := by decide +kernel
theorem dX5_init_51 : decode cX5_init 51 = .ok (.aload_n 0, 1) := by decide +kernel
theorem dX5_init_52 : decode cX5_init 52 = .ok (.bipush 6, 2) := by decide +kernel
theorem dX5_init_54 : decode cX5_init 54 = .ok (.newarray .int, 2) := by decide +kernel
theorem dX5_init_56 : decode cX5_init 56 = .ok (.putfield 34, 3) := by decide +kernel
theorem dX5_init_59 : decode cX5_init 59 = .ok (.aload_n 0, 1) := by decide +kernel
theorem dX5_init_60 : decode cX5_init 60 = .ok (.iconst 5, 1) := by decide +kernel
theorem dX5_init_61 : decode cX5_init 61 = .ok (.newarray .int, 2) := by decide +kernel
theorem dX5_init_63 : decode cX5_init 63 = .ok (.putfield 37, 3) := by decide +kernel
theorem dX5_init_66 : decode cX5_init 66 = .ok (.aload_n 0, 1) := by decide +kernel
theorem dX5_init_67 : decode cX5_init 67 = .ok (.iconst 4, 1) := by decide +kernel
theorem dX5_init_68 : decode cX5_init 68 = .ok (.newarray .int, 2) := by decide +kernel
theorem dX5_init_70 : decode cX5_init 70 = .ok (.putfield 40, 3) := by decide +kernel
theorem dX5_init_73 : decode cX5_init 73 = .ok (.aload_n 0, 1) := by decide +kernel
theorem dX5_init_74 : decode cX5_init 74 = .ok (.iconst 5, 1) := by decide +kernel
theorem dX5_init_75 : decode cX5_init 75 = .ok (.newarray .int, 2) := by decide +kernel
theorem dX5_init_77 : decode cX5_init 77 = .ok (.putfield 43, 3) := by decide +kernel
theorem dX5_init_80 : decode cX5_init 80 = .ok (.aload_n 0, 1) := by decide +kernel
theorem dX5_init_81 : decode cX5_init 81 = .ok (.bipush (-9), 2) := by decide +kernel
theorem dX5_init_83 : decode cX5_init 83 = .ok (.putfield 46, 3) := by decide +kernel
theorem dX5_init_86 : decode cX5_init 86 = .ok (.return_, 1) := by decide +kernel
theorem dX5_find_0 : decode cX5_find 0 = .ok (.aload_n 0, 1) := by decide +kernel
theorem dX5_find_1 : decode cX5_find 1 = .ok (.getfield 18, 3) := by decide +kernel
theorem dX5_find_4 : decode cX5_find 4 = .ok (.invokevirtual 50, 3) := by decide +kernel
theorem dX5_find_7 : decode cX5_find 7 = .ok (.iconst 0, 1) := by decide +kernel
theorem dX5_find_8 : decode cX5_find 8 = .ok (.istore_n 2, 1) := by decide +kernel
theorem dX5_find_9 : decode cX5_find 9 = .ok (.iload_n 2, 1) := by decide +kernel
theorem dX5_find_10 : decode cX5_find 10 = .ok (.aload_n 0, 1) := by decide +kernel
theorem dX5_find_11 : decode cX5_find 11 = .ok (.getfield 9, 3) := by decide +kernel
theorem dX5_find_14 : decode cX5_find 14 = .ok (.getfield 53, 3) := by decide +kernel
theorem dX5_find_17 : decode cX5_find 17 = .ok (.if_icmp .ge 44, 3) := by decide +kernel
theorem dX5_find_20 : decode cX5_find 20 = .ok (.aload_n 0, 1) := by decide +kernel
theorem dX5_find_21 : decode cX5_find 21 = .ok (.getfield 9, 3) := by decide +kernel
theorem dX5_find_24 : decode cX5_find 24 = .ok (.iload_n 2, 1) := by decide +kernel
theorem dX5_find_25 : decode cX5_find 25 = .ok (.iconst 0, 1) := by decide +kernel
theorem dX5_find_26 : decode cX5_find 26 = .ok (.invokevirtual 58, 3) := by decide +kernel
theorem dX5_find_29 : decode cX5_find 29 = .ok (.astore_n 3, 1) := by decide +kernel
theorem dX5_find_30 : decode cX5_find 30 = .ok (.aload_n 0, 1) := by decide +kernel
theorem dX5_find_31 : decode cX5_find 31 = .ok (.getfield 27, 3) := by decide +kernel
theorem dX5_find_34 : decode cX5_find 34 = .ok (.iload_n 2, 1) := by decide +kernel
theorem dX5_find_35 : decode cX5_find 35 = .ok (.aload_n 3, 1) := by decide +kernel
theorem dX5_find_36 : decode cX5_find 36 = .ok (.ifnonnull 7, 3) := by decide +kernel
theorem dX5_find_39 : decode cX5_find 39 = .ok (.iconst 0, 1) := by decide +kernel
theorem dX5_find_40 : decode cX5_find 40 = .ok (.goto 14, 3) := by decide +kernel
theorem dX5_find_43 : decode cX5_find 43 = .ok (.aload_n 3, 1) := by decide +kernel
theorem dX5_find_44 : decode cX5_find 44 = .ok (.iconst 1, 1) := by decide +kernel
theorem dX5_find_45 : decode cX5_find 45 = .ok (.aload_n 0, 1) := by decide +kernel
theorem dX5_find_46 : decode cX5_find 46 = .ok (.getfield 24, 3) := by decide +kernel
theorem dX5_find_49 : decode cX5_find 49 = .ok (.iload_n 2, 1) := by decide +kernel
theorem dX5_find_50 : decode cX5_find 50 = .ok (.aaload, 1) := by decide +kernel
theorem dX5_find_51 : decode cX5_find 51 = .ok (.invokevirtual 62, 3) := by decide +kernel
theorem dX5_find_54 : decode cX5_find 54 = .ok (.iastore, 1) := by decide +kernel
theorem dX5_find_55 : decode cX5_find 55 = .ok (.iinc 2 1, 3) := by decide +kernel
theorem dX5_find_58 : decode cX5_find 58 = .ok (.goto (-49), 3) := by decide +kernel
theorem dX5_find_61 : decode cX5_find 61 = .ok (.aload_n 0, 1) := by decide +kernel
theorem dX5_find_62 : decode cX5_find 62 = .ok (.iconst 0, 1) := by decide +kernel
theorem dX5_find_63 : decode cX5_find 63 = .ok (.putfield 68, 3) := by decide +kernel
theorem dX5_find_66 : decode cX5_find 66 = .ok (.aload_n 0, 1) := by decide +kernel
theorem dX5_find_67 : decode cX5_find 67 = .ok (.getfield 34, 3) := by decide +kernel
theorem dX5_find_70 : decode cX5_find 70 = .ok (.iconst 0, 1) := by decide +kernel
theorem dX5_find_71 : decode cX5_find 71 = .ok (.aload_n 0, 1) := by decide +kernel
theorem dX5_find_72 : decode cX5_find 72 = .ok (.getfield 9, 3) := by decide +kernel
theorem dX5_find_75 : decode cX5_find 75 = .ok (.getfield 71, 3) := by decide +kernel
theorem dX5_find_78 : decode cX5_find 78 = .ok (.iastore, 1) := by decide +kernel
theorem dX5_find_79 : decode cX5_find 79 = .ok (.aload_n 0, 1) := by decide +kernel
theorem dX5_find_80 : decode cX5_find 80 = .ok (.getfield 9, 3) := by decide +kernel
theorem dX5_find_83 : decode cX5_find 83 = .ok (.getfield 74, 3) := by decide +kernel
theorem dX5_find_86 : decode cX5_find 86 = .ok (.aload_n 0, 1) := by decide +kernel
theorem dX5_find_87 : decode cX5_find 87 = .ok (.getfield 31, 3) := by decide +kernel
theorem dX5_find_90 : decode cX5_find 90 = .ok (.iconst 0, 1) := by decide +kernel
theorem dX5_find_91 : decode cX5_find 91 = .ok (.aaload, 1) := by decide +kernel
theorem dX5_find_92 : decode cX5_find 92 = .ok (.invokestatic 77, 3) := by decide +kernel
theorem dX5_find_95 : decode cX5_find 95 = .ok (.iconst 0, 1) := by decide +kernel
theorem dX5_find_96 : decode cX5_find 96 = .ok (.istore_n 2, 1) := by decide +kernel
theorem dX5_find_97 : decode cX5_find 97 = .ok (.iload_n 2, 1) := by decide +kernel
theorem dX5_find_98 : decode cX5_find 98 = .ok (.iload_n 1, 1) := by decide +kernel
theorem dX5_find_99 : decode cX5_find 99 = .ok (.if_icmp .gt 28, 3) := by decide +kernel
theorem dX5_find_102 : decode cX5_find 102 = .ok (.iload_n 2, 1) := by decide +kernel
theorem dX5_find_103 : decode cX5_find 103 = .ok (.iconst 5, 1) := by decide +kernel
theorem dX5_find_104 : decode cX5_find 104 = .ok (.if_icmp .gt 23, 3) := by decide +kernel
theorem dX5_find_107 : decode cX5_find 107 = .ok (.aload_n 0, 1) := by decide +kernel
theorem dX5_find_108 : decode cX5_find 108 = .ok (.iconst 0, 1) := by decide +kernel
theorem dX5_find_109 : decode cX5_find 109 = .ok (.iload_n 2, 1) := by decide +kernel
theorem dX5_find_110 : decode cX5_find 110 = .ok (.invokevirtual 81, 3) := by decide +kernel
theorem dX5_find_113 : decode cX5_find 113 = .ok (.ifCond .eq 8, 3) := by decide +kernel
theorem dX5_find_116 : decode cX5_find 116 = .ok (.aload_n 0, 1) := by decide +kernel
theorem dX5_find_117 : decode cX5_find 117 = .ok (.getfield 68, 3) := by decide +kernel
theorem dX5_find_120 : decode cX5_find 120 = .ok (.ireturn, 1) := by decide +kernel
theorem dX5_find_121 : decode cX5_find 121 = .ok (.iinc 2 1, 3) := by decide +kernel
theorem dX5_find_124 : decode cX5_find 124 = .ok (.goto (-27), 3) := by decide +kernel
theorem dX5_find_127 : decode cX5_find 127 = .ok (.bipush (-9), 2) := by decide +kernel
theorem dX5_find_129 : decode cX5_find 129 = .ok (.ireturn, 1) := by decide +kernel
theorem dX5_goThrough_0 : decode cX5_goThrough 0 = .ok (.iload_n 2, 1) := by decide +kernel
theorem dX5_goThrough_1 : decode cX5_goThrough 1 = .ok (.ifCond .le 8, 3) := by decide +kernel
theorem dX5_goThrough_4 : decode cX5_goThrough 4 = .ok (.iload_n 1, 1) := by decide +kernel
theorem dX5_goThrough_5 : decode cX5_goThrough 5 = .ok (.iconst 5, 1) := by decide +kernel
theorem dX5_goThrough_6 : decode cX5_goThrough 6 = .ok (.if_icmp .lt 19, 3) := by decide +kernel
theorem dX5_goThrough_9 : decode cX5_goThrough 9 = .ok (.aload_n 0, 1) := by decide +kernel
theorem dX5_goThrough_10 : decode cX5_goThrough 10 = .ok (.dup, 1) := by decide +kernel
theorem dX5_goThrough_11 : decode cX5_goThrough 11 = .ok (.getfield 68, 3) := by decide +kernel
theorem dX5_goThrough_14 : decode cX5_goThrough 14 = .ok (.iconst 1, 1) := by decide +kernel
theorem dX5_goThrough_15 : decode cX5_goThrough 15 = .ok (.iadd, 1) := by decide +kernel
theorem dX5_goThrough_16 : decode cX5_goThrough 16 = .ok (.putfield 68, 3) := by decide +kernel
theorem dX5_goThrough_19 : decode cX5_goThrough 19 = .ok (.aload_n 0, 1) := by decide +kernel
theorem dX5_goThrough_20 : decode cX5_goThrough 20 = .ok (.iload_n 1, 1) := by decide +kernel
theorem dX5_goThrough_21 : decode cX5_goThrough 21 = .ok (.invokevirtual 85, 3) := by decide +kernel
theorem dX5_goThrough_24 : decode cX5_goThrough 24 = .ok (.ireturn, 1) := by decide +kernel
theorem dX5_goThrough_25 : decode cX5_goThrough 25 = .ok (.aload_n 0, 1) := by decide +kernel
theorem dX5_goThrough_26 : decode cX5_goThrough 26 = .ok (.iload_n 1, 1) := by decide +kernel
theorem dX5_goThrough_27 : decode cX5_goThrough 27 = .ok (.iload_n 2, 1) := by decide +kernel
theorem dX5_goThrough_28 : decode cX5_goThrough 28 = .ok (.invokevirtual 89, 3) := by decide +kernel
theorem dX5_goThrough_31 : decode cX5_goThrough 31 = .ok (.istore_n 3, 1) := by decide +kernel
theorem dX5_goThrough_32 : decode cX5_goThrough 32 = .ok (.aload_n 0, 1) := by decide +kernel
theorem dX5_goThrough_33 : decode cX5_goThrough 33 = .ok (.getfield 18, 3) := by decide +kernel
theorem dX5_goThrough_36 : decode cX5_goThrough 36 = .ok (.iload_n 3, 1) := by decide +kernel
theorem dX5_goThrough_37 : decode cX5_goThrough 37 = .ok (.invokevirtual 93, 3) := by decide +kernel
theorem dX5_goThrough_40 : decode cX5_goThrough 40 = .ok (.istore 4, 2) := by decide +kernel
theorem dX5_goThrough_42 : decode cX5_goThrough 42 = .ok (.iload 4, 2) := by decide +kernel
theorem dX5_goThrough_44 : decode cX5_goThrough 44 = .ok (.ifCond .lt 16, 3) := by decide +kernel
theorem dX5_goThrough_47 : decode cX5_goThrough 47 = .ok (.aload_n 0, 1) := by decide +kernel
theorem dX5_goThrough_48 : decode cX5_goThrough 48 = .ok (.dup, 1) := by decide +kernel
theorem dX5_goThrough_49 : decode cX5_goThrough 49 = .ok (.getfield 68, 3) := by decide +kernel
theorem dX5_goThrough_52 : decode cX5_goThrough 52 = .ok (.iload 4, 2) := by decide +kernel
theorem dX5_goThrough_54 : decode cX5_goThrough 54 = .ok (.iadd, 1) := by decide +kernel
theorem dX5_goThrough_55 : decode cX5_goThrough 55 = .ok (.putfield 68, 3) := by decide +kernel
theorem dX5_goThrough_58 : decode cX5_goThrough 58 = .ok (.iconst 0, 1) := by decide +kernel
theorem dX5_goThrough_59 : decode cX5_goThrough 59 = .ok (.ireturn, 1) := by decide +kernel
theorem dX5_goThrough_60 : decode cX5_goThrough 60 = .ok (.aload_n 0, 1) := by decide +kernel
theorem dX5_goThrough_61 : decode cX5_goThrough 61 = .ok (.getfield 68, 3) := by decide +kernel
theorem dX5_goThrough_64 : decode cX5_goThrough 64 = .ok (.istore 5, 2) := by decide +kernel
theorem dX5_goThrough_66 : decode cX5_goThrough 66 = .ok (.iconst 0, 1) := by decide +kernel
theorem dX5_goThrough_67 : decode cX5_goThrough 67 = .ok (.istore 6, 2) := by decide +kernel
theorem dX5_goThrough_69 : decode cX5_goThrough 69 = .ok (.iload 6, 2) := by decide +kernel
theorem dX5_goThrough_71 : decode cX5_goThrough 71 = .ok (.aload_n 0, 1) := by decide +kernel
theorem dX5_goThrough_72 : decode cX5_goThrough 72 = .ok (.getfield 9, 3) := by decide +kernel
theorem dX5_goThrough_75 : decode cX5_goThrough 75 = .ok (.getfield 97, 3) := by decide +kernel
theorem dX5_goThrough_78 : decode cX5_goThrough 78 = .ok (.if_icmp .ge 122, 3) := by decide +kernel
theorem dX5_goThrough_81 : decode cX5_goThrough 81 = .ok (.aload_n 0, 1) := by decide +kernel
theorem dX5_goThrough_82 : decode cX5_goThrough 82 = .ok (.getfield 9, 3) := by decide +kernel
theorem dX5_goThrough_85 : decode cX5_goThrough 85 = .ok (.iload 6, 2) := by decide +kernel
theorem dX5_goThrough_87 : decode cX5_goThrough 87 = .ok (.invokevirtual 100, 3) := by decide +kernel
theorem dX5_goThrough_90 : decode cX5_goThrough 90 = .ok (.astore 7, 2) := by decide +kernel
theorem dX5_goThrough_92 : decode cX5_goThrough 92 = .ok (.aload 7, 2) := by decide +kernel
theorem dX5_goThrough_94 : decode cX5_goThrough 94 = .ok (.ifnull 100, 3) := by decide +kernel
theorem dX5_goThrough_97 : decode cX5_goThrough 97 = .ok (.aload 7, 2) := by decide +kernel
theorem dX5_goThrough_99 : decode cX5_goThrough 99 = .ok (.getfield 104, 3) := by decide +kernel
theorem dX5_goThrough_102 : decode cX5_goThrough 102 = .ok (.aload_n 0, 1) := by decide +kernel
theorem dX5_goThrough_103 : decode cX5_goThrough 103 = .ok (.getfield 34, 3) := by decide +kernel
theorem dX5_goThrough_106 : decode cX5_goThrough 106 = .ok (.iload_n 1, 1) := by decide +kernel
theorem dX5_goThrough_107 : decode cX5_goThrough 107 = .ok (.iaload, 1) := by decide +kernel
theorem dX5_goThrough_108 : decode cX5_goThrough 108 = .ok (.if_icmp .eq 6, 3) := by decide +kernel
theorem dX5_goThrough_111 : decode cX5_goThrough 111 = .ok (.goto 83, 3) := by decide +kernel
theorem dX5_goThrough_114 : decode cX5_goThrough 114 = .ok (.aload_n 0, 1) := by decide +kernel
theorem dX5_goThrough_115 : decode cX5_goThrough 115 = .ok (.getfield 37, 3) := by decide +kernel
theorem dX5_goThrough_118 : decode cX5_goThrough 118 = .ok (.iload_n 1, 1) := by decide +kernel
theorem dX5_goThrough_119 : decode cX5_goThrough 119 = .ok (.iload 6, 2) := by decide +kernel
theorem dX5_goThrough_121 : decode cX5_goThrough 121 = .ok (.iastore, 1) := by decide +kernel
theorem dX5_goThrough_122 : decode cX5_goThrough 122 = .ok (.aload_n 0, 1) := by decide +kernel
theorem dX5_goThrough_123 : decode cX5_goThrough 123 = .ok (.getfield 34, 3) := by decide +kernel
theorem dX5_goThrough_126 : decode cX5_goThrough 126 = .ok (.iload_n 1, 1) := by decide +kernel
theorem dX5_goThrough_127 : decode cX5_goThrough 127 = .ok (.iconst 1, 1) := by decide +kernel
theorem dX5_goThrough_128 : decode cX5_goThrough 128 = .ok (.iadd, 1) := by decide +kernel
theorem dX5_goThrough_129 : decode cX5_goThrough 129 = .ok (.aload 7, 2) := by decide +kernel
theorem dX5_goThrough_131 : decode cX5_goThrough 131 = .ok (.getfield 109, 3) := by decide +kernel
theorem dX5_goThrough_134 : decode cX5_goThrough 134 = .ok (.iastore, 1) := by decide +kernel
theorem dX5_goThrough_135 : decode cX5_goThrough 135 = .ok (.aload 7, 2) := by decide +kernel
theorem dX5_goThrough_137 : decode cX5_goThrough 137 = .ok (.aload_n 0, 1) := by decide +kernel
theorem dX5_goThrough_138 : decode cX5_goThrough 138 = .ok (.getfield 31, 3) := by decide +kernel
theorem dX5_goThrough_141 : decode cX5_goThrough 141 = .ok (.iload_n 1, 1) := by decide +kernel
theorem dX5_goThrough_142 : decode cX5_goThrough 142 = .ok (.aaload, 1) := by decide +kernel
theorem dX5_goThrough_143 : decode cX5_goThrough 143 = .ok (.aload_n 0, 1) := by decide +kernel
theorem dX5_goThrough_144 : decode cX5_goThrough 144 = .ok (.getfield 31, 3) := by decide +kernel
theorem dX5_goThrough_147 : decode cX5_goThrough 147 = .ok (.iload_n 1, 1) := by decide +kernel
theorem dX5_goThrough_148 : decode cX5_goThrough 148 = .ok (.iconst 1, 1) := by decide +kernel
theorem dX5_goThrough_149 : decode cX5_goThrough 149 = .ok (.iadd, 1) := by decide +kernel
theorem dX5_goThrough_150 : decode cX5_goThrough 150 = .ok (.aaload, 1) := by decide +kernel
theorem dX5_goThrough_151 : decode cX5_goThrough 151 = .ok (.invokevirtual 112, 3) := by decide +kernel
theorem dX5_goThrough_154 : decode cX5_goThrough 154 = .ok (.ifCond .ne 25, 3) := by decide +kernel
theorem dX5_goThrough_157 : decode cX5_goThrough 157 = .ok (.aload_n 0, 1) := by decide +kernel
theorem dX5_goThrough_158 : decode cX5_goThrough 158 = .ok (.dup, 1) := by decide +kernel
theorem dX5_goThrough_159 : decode cX5_goThrough 159 = .ok (.getfield 68, 3) := by decide +kernel
theorem dX5_goThrough_162 : decode cX5_goThrough 162 = .ok (.iload_n 2, 1) := by decide +kernel
theorem dX5_goThrough_163 : decode cX5_goThrough 163 = .ok (.iconst 1, 1) := by decide +kernel
theorem dX5_goThrough_164 : decode cX5_goThrough 164 = .ok (.if_icmp .ne 7, 3) := by decide +kernel
theorem dX5_goThrough_167 : decode cX5_goThrough 167 = .ok (.iconst 1, 1) := by decide +kernel
theorem dX5_goThrough_168 : decode cX5_goThrough 168 = .ok (.goto 4, 3) := by decide +kernel
theorem dX5_goThrough_171 : decode cX5_goThrough 171 = .ok (.iconst 0, 1) := by decide +kernel
theorem dX5_goThrough_172 : decode cX5_goThrough 172 = .ok (.iadd, 1) := by decide +kernel
theorem dX5_goThrough_173 : decode cX5_goThrough 173 = .ok (.putfield 68, 3) := by decide +kernel
theorem dX5_goThrough_176 : decode cX5_goThrough 176 = .ok (.goto 18, 3) := by decide +kernel
theorem dX5_goThrough_179 : decode cX5_goThrough 179 = .ok (.aload_n 0, 1) := by decide +kernel
theorem dX5_goThrough_180 : decode cX5_goThrough 180 = .ok (.iload_n 1, 1) := by decide +kernel
theorem dX5_goThrough_181 : decode cX5_goThrough 181 = .ok (.iconst 1, 1) := by decide +kernel
theorem dX5_goThrough_182 : decode cX5_goThrough 182 = .ok (.iadd, 1) := by decide +kernel
theorem dX5_goThrough_183 : decode cX5_goThrough 183 = .ok (.iload_n 2, 1) := by decide +kernel
theorem dX5_goThrough_184 : decode cX5_goThrough 184 = .ok (.iconst 1, 1) := by decide +kernel
theorem dX5_goThrough_185 : decode cX5_goThrough 185 = .ok (.isub, 1) := by decide +kernel
theorem dX5_goThrough_186 : decode cX5_goThrough 186 = .ok (.invokevirtual 81, 3) := by decide +kernel
theorem dX5_goThrough_189 : decode cX5_goThrough 189 = .ok (.ifCond .eq 5, 3) := by decide +kernel
theorem dX5_goThrough_192 : decode cX5_goThrough 192 = .ok (.iconst 1, 1) := by decide +kernel
theorem dX5_goThrough_193 : decode cX5_goThrough 193 = .ok (.ireturn, 1) := by decide +kernel
theorem dX5_goThrough_194 : decode cX5_goThrough 194 = .ok (.iinc 6 1, 3) := by decide +kernel
theorem dX5_goThrough_197 : decode cX5_goThrough 197 = .ok (.goto (-128), 3) := by decide +kernel
theorem dX5_goThrough_200 : decode cX5_goThrough 200 = .ok (.aload_n 0, 1) := by decide +kernel
theorem dX5_goThrough_201 : decode cX5_goThrough 201 = .ok (.getfield 18, 3) := by decide +kernel
theorem dX5_goThrough_204 : decode cX5_goThrough 204 = .ok (.iload_n 3, 1) := by decide +kernel
theorem dX5_goThrough_205 : decode cX5_goThrough 205 = .ok (.aload_n 0, 1) := by decide +kernel
theorem dX5_goThrough_206 : decode cX5_goThrough 206 = .ok (.getfield 68, 3) := by decide +kernel
theorem dX5_goThrough_209 : decode cX5_goThrough 209 = .ok (.iload 5, 2) := by decide +kernel
theorem dX5_goThrough_211 : decode cX5_goThrough 211 = .ok (.isub, 1) := by decide +kernel
theorem dX5_goThrough_212 : decode cX5_goThrough 212 = .ok (.invokevirtual 116, 3) := by decide +kernel
theorem dX5_goThrough_215 : decode cX5_goThrough 215 = .ok (.iconst 0, 1) := by decide +kernel
theorem dX5_goThrough_216 : decode cX5_goThrough 216 = .ok (.ireturn, 1) := by decide +kernel
theorem dX5_keyOf_0 : decode cX5_keyOf 0 = .ok (.aload_n 0, 1) := by decide +kernel
theorem dX5_keyOf_1 : decode cX5_keyOf 1 = .ok (.getfield 9, 3) := by decide +kernel
theorem dX5_keyOf_4 : decode cX5_keyOf 4 = .ok (.aload_n 0, 1) := by decide +kernel
theorem dX5_keyOf_5 : decode cX5_keyOf 5 = .ok (.getfield 34, 3) := by decide +kernel
theorem dX5_keyOf_8 : decode cX5_keyOf 8 = .ok (.iload_n 1, 1) := by decide +kernel
theorem dX5_keyOf_9 : decode cX5_keyOf 9 = .ok (.iaload, 1) := by decide +kernel
theorem dX5_keyOf_10 : decode cX5_keyOf 10 = .ok (.invokevirtual 120, 3) := by decide +kernel
theorem dX5_keyOf_13 : decode cX5_keyOf 13 = .ok (.astore_n 3, 1) := by decide +kernel
theorem dX5_keyOf_14 : decode cX5_keyOf 14 = .ok (.aload_n 0, 1) := by decide +kernel
theorem dX5_keyOf_15 : decode cX5_keyOf 15 = .ok (.getfield 34, 3) := by decide +kernel
theorem dX5_keyOf_18 : decode cX5_keyOf 18 = .ok (.iload_n 1, 1) := by decide +kernel
theorem dX5_keyOf_19 : decode cX5_keyOf 19 = .ok (.iaload, 1) := by decide +kernel
theorem dX5_keyOf_20 : decode cX5_keyOf 20 = .ok (.bipush 6, 2) := by decide +kernel
theorem dX5_keyOf_22 : decode cX5_keyOf 22 = .ok (.imul, 1) := by decide +kernel
theorem dX5_keyOf_23 : decode cX5_keyOf 23 = .ok (.iload_n 2, 1) := by decide +kernel
theorem dX5_keyOf_24 : decode cX5_keyOf 24 = .ok (.iadd, 1) := by decide +kernel
theorem dX5_keyOf_25 : decode cX5_keyOf 25 = .ok (.istore 4, 2) := by decide +kernel
theorem dX5_keyOf_27 : decode cX5_keyOf 27 = .ok (.iconst 0, 1) := by decide +kernel
theorem dX5_keyOf_28 : decode cX5_keyOf 28 = .ok (.istore 5, 2) := by decide +kernel
theorem dX5_keyOf_30 : decode cX5_keyOf 30 = .ok (.iload 5, 2) := by decide +kernel
theorem dX5_keyOf_32 : decode cX5_keyOf 32 = .ok (.iconst 4, 1) := by decide +kernel
theorem dX5_keyOf_33 : decode cX5_keyOf 33 = .ok (.if_icmp .ge 58, 3) := by decide +kernel
theorem dX5_keyOf_36 : decode cX5_keyOf 36 = .ok (.aload_n 3, 1) := by decide +kernel
theorem dX5_keyOf_37 : decode cX5_keyOf 37 = .ok (.ifnull 16, 3) := by decide +kernel
theorem dX5_keyOf_40 : decode cX5_keyOf 40 = .ok (.aload_n 3, 1) := by decide +kernel
theorem dX5_keyOf_41 : decode cX5_keyOf 41 = .ok (.iload 5, 2) := by decide +kernel
theorem dX5_keyOf_43 : decode cX5_keyOf 43 = .ok (.invokevirtual 124, 3) := by decide +kernel
theorem dX5_keyOf_46 : decode cX5_keyOf 46 = .ok (.ifCond .eq 7, 3) := by decide +kernel
theorem dX5_keyOf_49 : decode cX5_keyOf 49 = .ok (.iconst 1, 1) := by decide +kernel
theorem dX5_keyOf_50 : decode cX5_keyOf 50 = .ok (.goto 4, 3) := by decide +kernel
theorem dX5_keyOf_53 : decode cX5_keyOf 53 = .ok (.iconst 0, 1) := by decide +kernel
theorem dX5_keyOf_54 : decode cX5_keyOf 54 = .ok (.istore 6, 2) := by decide +kernel
theorem dX5_keyOf_56 : decode cX5_keyOf 56 = .ok (.iload 4, 2) := by decide +kernel
theorem dX5_keyOf_58 : decode cX5_keyOf 58 = .ok (.bipush 61, 2) := by decide +kernel
theorem dX5_keyOf_60 : decode cX5_keyOf 60 = .ok (.imul, 1) := by decide +kernel
theorem dX5_keyOf_61 : decode cX5_keyOf 61 = .ok (.iload 6, 2) := by decide +kernel
theorem dX5_keyOf_63 : decode cX5_keyOf 63 = .ok (.ifCond .eq 18, 3) := by decide +kernel
theorem dX5_keyOf_66 : decode cX5_keyOf 66 = .ok (.aload_n 0, 1) := by decide +kernel
theorem dX5_keyOf_67 : decode cX5_keyOf 67 = .ok (.getfield 31, 3) := by decide +kernel
theorem dX5_keyOf_70 : decode cX5_keyOf 70 = .ok (.iload_n 1, 1) := by decide +kernel
theorem dX5_keyOf_71 : decode cX5_keyOf 71 = .ok (.aaload, 1) := by decide +kernel
theorem dX5_keyOf_72 : decode cX5_keyOf 72 = .ok (.iload 5, 2) := by decide +kernel
theorem dX5_keyOf_74 : decode cX5_keyOf 74 = .ok (.iaload, 1) := by decide +kernel
theorem dX5_keyOf_75 : decode cX5_keyOf 75 = .ok (.bipush 30, 2) := by decide +kernel
theorem dX5_keyOf_77 : decode cX5_keyOf 77 = .ok (.iadd, 1) := by decide +kernel
theorem dX5_keyOf_78 : decode cX5_keyOf 78 = .ok (.goto 4, 3) := by decide +kernel
theorem dX5_keyOf_81 : decode cX5_keyOf 81 = .ok (.iconst 0, 1) := by decide +kernel
theorem dX5_keyOf_82 : decode cX5_keyOf 82 = .ok (.iadd, 1) := by decide +kernel
theorem dX5_keyOf_83 : decode cX5_keyOf 83 = .ok (.istore 4, 2) := by decide +kernel
theorem dX5_keyOf_85 : decode cX5_keyOf 85 = .ok (.iinc 5 1, 3) := by decide +kernel
theorem dX5_keyOf_88 : decode cX5_keyOf 88 = .ok (.goto (-58), 3) := by decide +kernel
theorem dX5_keyOf_91 : decode cX5_keyOf 91 = .ok (.iload 4, 2) := by decide +kernel
theorem dX5_keyOf_93 : decode cX5_keyOf 93 = .ok (.ireturn, 1) := by decide +kernel
theorem dX5_breaksAt_0 : decode cX5_breaksAt 0 = .ok (.aload_n 0, 1) := by decide +kernel
theorem dX5_breaksAt_1 : decode cX5_breaksAt 1 = .ok (.getfield 34, 3) := by decide +kernel
theorem dX5_breaksAt_4 : decode cX5_breaksAt 4 = .ok (.iload_n 1, 1) := by decide +kernel
theorem dX5_breaksAt_5 : decode cX5_breaksAt 5 = .ok (.iaload, 1) := by decide +kernel
theorem dX5_breaksAt_6 : decode cX5_breaksAt 6 = .ok (.istore_n 2, 1) := by decide +kernel
theorem dX5_breaksAt_7 : decode cX5_breaksAt 7 = .ok (.aload_n 0, 1) := by decide +kernel
theorem dX5_breaksAt_8 : decode cX5_breaksAt 8 = .ok (.getfield 9, 3) := by decide +kernel
theorem dX5_breaksAt_11 : decode cX5_breaksAt 11 = .ok (.iload_n 2, 1) := by decide +kernel
theorem dX5_breaksAt_12 : decode cX5_breaksAt 12 = .ok (.iconst 0, 1) := by decide +kernel
theorem dX5_breaksAt_13 : decode cX5_breaksAt 13 = .ok (.invokevirtual 58, 3) := by decide +kernel
theorem dX5_breaksAt_16 : decode cX5_breaksAt 16 = .ok (.astore_n 3, 1) := by decide +kernel
theorem dX5_breaksAt_17 : decode cX5_breaksAt 17 = .ok (.aload_n 3, 1) := by decide +kernel
theorem dX5_breaksAt_18 : decode cX5_breaksAt 18 = .ok (.ifnonnull 5, 3) := by decide +kernel
theorem dX5_breaksAt_21 : decode cX5_breaksAt 21 = .ok (.iconst 0, 1) := by decide +kernel
theorem dX5_breaksAt_22 : decode cX5_breaksAt 22 = .ok (.ireturn, 1) := by decide +kernel
theorem dX5_breaksAt_23 : decode cX5_breaksAt 23 = .ok (.iconst 0, 1) := by decide +kernel
theorem dX5_breaksAt_24 : decode cX5_breaksAt 24 = .ok (.istore 4, 2) := by decide +kernel
theorem dX5_breaksAt_26 : decode cX5_breaksAt 26 = .ok (.iload 4, 2) := by decide +kernel
theorem dX5_breaksAt_28 : decode cX5_breaksAt 28 = .ok (.aload_n 0, 1) := by decide +kernel
theorem dX5_breaksAt_29 : decode cX5_breaksAt 29 = .ok (.getfield 27, 3) := by decide +kernel
theorem dX5_breaksAt_32 : decode cX5_breaksAt 32 = .ok (.iload_n 2, 1) := by decide +kernel
theorem dX5_breaksAt_33 : decode cX5_breaksAt 33 = .ok (.iaload, 1) := by decide +kernel
theorem dX5_breaksAt_34 : decode cX5_breaksAt 34 = .ok (.if_icmp .ge 62, 3) := by decide +kernel
theorem dX5_breaksAt_37 : decode cX5_breaksAt 37 = .ok (.aload_n 0, 1) := by decide +kernel
theorem dX5_breaksAt_38 : decode cX5_breaksAt 38 = .ok (.getfield 24, 3) := by decide +kernel
theorem dX5_breaksAt_41 : decode cX5_breaksAt 41 = .ok (.iload_n 2, 1) := by decide +kernel
theorem dX5_breaksAt_42 : decode cX5_breaksAt 42 = .ok (.aaload, 1) := by decide +kernel
theorem dX5_breaksAt_43 : decode cX5_breaksAt 43 = .ok (.iload 4, 2) := by decide +kernel
theorem dX5_breaksAt_45 : decode cX5_breaksAt 45 = .ok (.iaload, 1) := by decide +kernel
theorem dX5_breaksAt_46 : decode cX5_breaksAt 46 = .ok (.istore 5, 2) := by decide +kernel
theorem dX5_breaksAt_48 : decode cX5_breaksAt 48 = .ok (.aload_n 3, 1) := by decide +kernel
theorem dX5_breaksAt_49 : decode cX5_breaksAt 49 = .ok (.aload_n 0, 1) := by decide +kernel
theorem dX5_breaksAt_50 : decode cX5_breaksAt 50 = .ok (.getfield 31, 3) := by decide +kernel
theorem dX5_breaksAt_53 : decode cX5_breaksAt 53 = .ok (.iload_n 1, 1) := by decide +kernel
theorem dX5_breaksAt_54 : decode cX5_breaksAt 54 = .ok (.aaload, 1) := by decide +kernel
theorem dX5_breaksAt_55 : decode cX5_breaksAt 55 = .ok (.iload 5, 2) := by decide +kernel
theorem dX5_breaksAt_57 : decode cX5_breaksAt 57 = .ok (.invokestatic 129, 3) := by decide +kernel
theorem dX5_breaksAt_60 : decode cX5_breaksAt 60 = .ok (.iload 5, 2) := by decide +kernel
theorem dX5_breaksAt_62 : decode cX5_breaksAt 62 = .ok (.invokestatic 132, 3) := by decide +kernel
theorem dX5_breaksAt_65 : decode cX5_breaksAt 65 = .ok (.iload 5, 2) := by decide +kernel
theorem dX5_breaksAt_67 : decode cX5_breaksAt 67 = .ok (.invokestatic 135, 3) := by decide +kernel
theorem dX5_breaksAt_70 : decode cX5_breaksAt 70 = .ok (.invokevirtual 138, 3) := by decide +kernel
theorem dX5_breaksAt_73 : decode cX5_breaksAt 73 = .ok (.ifCond .eq 17, 3) := by decide +kernel
theorem dX5_breaksAt_76 : decode cX5_breaksAt 76 = .ok (.aload_n 0, 1) := by decide +kernel
theorem dX5_breaksAt_77 : decode cX5_breaksAt 77 = .ok (.iload_n 2, 1) := by decide +kernel
theorem dX5_breaksAt_78 : decode cX5_breaksAt 78 = .ok (.iload 5, 2) := by decide +kernel
theorem dX5_breaksAt_80 : decode cX5_breaksAt 80 = .ok (.iload_n 1, 1) := by decide +kernel
theorem dX5_breaksAt_81 : decode cX5_breaksAt 81 = .ok (.aload_n 3, 1) := by decide +kernel
theorem dX5_breaksAt_82 : decode cX5_breaksAt 82 = .ok (.getfield 142, 3) := by decide +kernel
theorem dX5_breaksAt_85 : decode cX5_breaksAt 85 = .ok (.invokevirtual 145, 3) := by decide +kernel
theorem dX5_breaksAt_88 : decode cX5_breaksAt 88 = .ok (.iconst 1, 1) := by decide +kernel
theorem dX5_breaksAt_89 : decode cX5_breaksAt 89 = .ok (.ireturn, 1) := by decide +kernel
theorem dX5_breaksAt_90 : decode cX5_breaksAt 90 = .ok (.iinc 4 1, 3) := by decide +kernel
theorem dX5_breaksAt_93 : decode cX5_breaksAt 93 = .ok (.goto (-67), 3) := by decide +kernel
theorem dX5_breaksAt_96 : decode cX5_breaksAt 96 = .ok (.iconst 0, 1) := by decide +kernel
theorem dX5_breaksAt_97 : decode cX5_breaksAt 97 = .ok (.ireturn, 1) := by decide +kernel
theorem dX5_noteFound_0 : decode cX5_noteFound 0 = .ok (.aload_n 0, 1) := by decide +kernel
theorem dX5_noteFound_1 : decode cX5_noteFound 1 = .ok (.iload_n 1, 1) := by decide +kernel
theorem dX5_noteFound_2 : decode cX5_noteFound 2 = .ok (.putfield 46, 3) := by decide +kernel
theorem dX5_noteFound_5 : decode cX5_noteFound 5 = .ok (.aload_n 0, 1) := by decide +kernel
theorem dX5_noteFound_6 : decode cX5_noteFound 6 = .ok (.iload_n 2, 1) := by decide +kernel
theorem dX5_noteFound_7 : decode cX5_noteFound 7 = .ok (.putfield 149, 3) := by decide +kernel
theorem dX5_noteFound_10 : decode cX5_noteFound 10 = .ok (.aload_n 0, 1) := by decide +kernel
theorem dX5_noteFound_11 : decode cX5_noteFound 11 = .ok (.iload_n 3, 1) := by decide +kernel
theorem dX5_noteFound_12 : decode cX5_noteFound 12 = .ok (.putfield 152, 3) := by decide +kernel
theorem dX5_noteFound_15 : decode cX5_noteFound 15 = .ok (.aload_n 0, 1) := by decide +kernel
theorem dX5_noteFound_16 : decode cX5_noteFound 16 = .ok (.iload 4, 2) := by decide +kernel
theorem dX5_noteFound_18 : decode cX5_noteFound 18 = .ok (.putfield 155, 3) := by decide +kernel
theorem dX5_noteFound_21 : decode cX5_noteFound 21 = .ok (.aload_n 0, 1) := by decide +kernel
theorem dX5_noteFound_22 : decode cX5_noteFound 22 = .ok (.getfield 31, 3) := by decide +kernel
theorem dX5_noteFound_25 : decode cX5_noteFound 25 = .ok (.iload_n 3, 1) := by decide +kernel
theorem dX5_noteFound_26 : decode cX5_noteFound 26 = .ok (.aaload, 1) := by decide +kernel
theorem dX5_noteFound_27 : decode cX5_noteFound 27 = .ok (.aload_n 0, 1) := by decide +kernel
theorem dX5_noteFound_28 : decode cX5_noteFound 28 = .ok (.getfield 40, 3) := by decide +kernel
theorem dX5_noteFound_31 : decode cX5_noteFound 31 = .ok (.invokestatic 77, 3) := by decide +kernel
theorem dX5_noteFound_34 : decode cX5_noteFound 34 = .ok (.aload_n 0, 1) := by decide +kernel
theorem dX5_noteFound_35 : decode cX5_noteFound 35 = .ok (.getfield 37, 3) := by decide +kernel
theorem dX5_noteFound_38 : decode cX5_noteFound 38 = .ok (.aload_n 0, 1) := by decide +kernel
theorem dX5_noteFound_39 : decode cX5_noteFound 39 = .ok (.getfield 43, 3) := by decide +kernel
theorem dX5_noteFound_42 : decode cX5_noteFound 42 = .ok (.invokestatic 77, 3) := by decide +kernel
theorem dX5_noteFound_45 : decode cX5_noteFound 45 = .ok (.return_, 1) := by decide +kernel
theorem dX5_tell_0 : decode cX5_tell 0 = .ok (.aload_n 0, 1) := by decide +kernel
theorem dX5_tell_1 : decode cX5_tell 1 = .ok (.getfield 46, 3) := by decide +kernel
theorem dX5_tell_4 : decode cX5_tell 4 = .ok (.ifCond .lt 7, 3) := by decide +kernel
theorem dX5_tell_7 : decode cX5_tell 7 = .ok (.iload_n 1, 1) := by decide +kernel
theorem dX5_tell_8 : decode cX5_tell 8 = .ok (.ifCond .ge 6, 3) := by decide +kernel
theorem dX5_tell_11 : decode cX5_tell 11 = .ok (.bipush (-9), 2) := by decide +kernel
theorem dX5_tell_13 : decode cX5_tell 13 = .ok (.ireturn, 1) := by decide +kernel
theorem dX5_tell_14 : decode cX5_tell 14 = .ok (.iload_n 1, 1) := by decide +kernel
theorem dX5_tell_15 : decode cX5_tell 15 = .ok (.bipush 10, 2) := by decide +kernel
theorem dX5_tell_17 : decode cX5_tell 17 = .ok (.if_icmp .lt 29, 3) := by decide +kernel
theorem dX5_tell_20 : decode cX5_tell 20 = .ok (.iload_n 1, 1) := by decide +kernel
theorem dX5_tell_21 : decode cX5_tell 21 = .ok (.bipush 10, 2) := by decide +kernel
theorem dX5_tell_23 : decode cX5_tell 23 = .ok (.isub, 1) := by decide +kernel
theorem dX5_tell_24 : decode cX5_tell 24 = .ok (.aload_n 0, 1) := by decide +kernel
theorem dX5_tell_25 : decode cX5_tell 25 = .ok (.getfield 152, 3) := by decide +kernel
theorem dX5_tell_28 : decode cX5_tell 28 = .ok (.if_icmp .ge 15, 3) := by decide +kernel
theorem dX5_tell_31 : decode cX5_tell 31 = .ok (.aload_n 0, 1) := by decide +kernel
theorem dX5_tell_32 : decode cX5_tell 32 = .ok (.getfield 43, 3) := by decide +kernel
theorem dX5_tell_35 : decode cX5_tell 35 = .ok (.iload_n 1, 1) := by decide +kernel
theorem dX5_tell_36 : decode cX5_tell 36 = .ok (.bipush 10, 2) := by decide +kernel
theorem dX5_tell_38 : decode cX5_tell 38 = .ok (.isub, 1) := by decide +kernel
theorem dX5_tell_39 : decode cX5_tell 39 = .ok (.iaload, 1) := by decide +kernel
theorem dX5_tell_40 : decode cX5_tell 40 = .ok (.goto 5, 3) := by decide +kernel
theorem dX5_tell_43 : decode cX5_tell 43 = .ok (.bipush (-9), 2) := by decide +kernel
theorem dX5_tell_45 : decode cX5_tell 45 = .ok (.ireturn, 1) := by decide +kernel
theorem dX5_tell_46 : decode cX5_tell 46 = .ok (.iload_n 1, 1) := by decide +kernel
theorem dX5_tell_47 : decode cX5_tell 47 = .ok (.iconst 3, 1) := by decide +kernel
theorem dX5_tell_48 : decode cX5_tell 48 = .ok (.if_icmp .lt 27, 3) := by decide +kernel
theorem dX5_tell_51 : decode cX5_tell 51 = .ok (.iload_n 1, 1) := by decide +kernel
theorem dX5_tell_52 : decode cX5_tell 52 = .ok (.iconst 3, 1) := by decide +kernel
theorem dX5_tell_53 : decode cX5_tell 53 = .ok (.isub, 1) := by decide +kernel
theorem dX5_tell_54 : decode cX5_tell 54 = .ok (.aload_n 0, 1) := by decide +kernel
theorem dX5_tell_55 : decode cX5_tell 55 = .ok (.getfield 155, 3) := by decide +kernel
theorem dX5_tell_58 : decode cX5_tell 58 = .ok (.if_icmp .ge 14, 3) := by decide +kernel
theorem dX5_tell_61 : decode cX5_tell 61 = .ok (.aload_n 0, 1) := by decide +kernel
theorem dX5_tell_62 : decode cX5_tell 62 = .ok (.getfield 40, 3) := by decide +kernel
theorem dX5_tell_65 : decode cX5_tell 65 = .ok (.iload_n 1, 1) := by decide +kernel
theorem dX5_tell_66 : decode cX5_tell 66 = .ok (.iconst 3, 1) := by decide +kernel
theorem dX5_tell_67 : decode cX5_tell 67 = .ok (.isub, 1) := by decide +kernel
theorem dX5_tell_68 : decode cX5_tell 68 = .ok (.iaload, 1) := by decide +kernel
theorem dX5_tell_69 : decode cX5_tell 69 = .ok (.goto 5, 3) := by decide +kernel
theorem dX5_tell_72 : decode cX5_tell 72 = .ok (.bipush (-9), 2) := by decide +kernel
theorem dX5_tell_74 : decode cX5_tell 74 = .ok (.ireturn, 1) := by decide +kernel
theorem dX5_tell_75 : decode cX5_tell 75 = .ok (.iload_n 1, 1) := by decide +kernel
theorem dX5_tell_76 : decode cX5_tell 76 = .ok (.iconst 2, 1) := by decide +kernel
theorem dX5_tell_77 : decode cX5_tell 77 = .ok (.if_icmp .ne 8, 3) := by decide +kernel
theorem dX5_tell_80 : decode cX5_tell 80 = .ok (.aload_n 0, 1) := by decide +kernel
theorem dX5_tell_81 : decode cX5_tell 81 = .ok (.getfield 152, 3) := by decide +kernel
theorem dX5_tell_84 : decode cX5_tell 84 = .ok (.ireturn, 1) := by decide +kernel
theorem dX5_tell_85 : decode cX5_tell 85 = .ok (.iload_n 1, 1) := by decide +kernel
theorem dX5_tell_86 : decode cX5_tell 86 = .ok (.ifCond .ne 10, 3) := by decide +kernel
theorem dX5_tell_89 : decode cX5_tell 89 = .ok (.aload_n 0, 1) := by decide +kernel
theorem dX5_tell_90 : decode cX5_tell 90 = .ok (.getfield 46, 3) := by decide +kernel
theorem dX5_tell_93 : decode cX5_tell 93 = .ok (.goto 7, 3) := by decide +kernel
theorem dX5_tell_96 : decode cX5_tell 96 = .ok (.aload_n 0, 1) := by decide +kernel
theorem dX5_tell_97 : decode cX5_tell 97 = .ok (.getfield 149, 3) := by decide +kernel
theorem dX5_tell_100 : decode cX5_tell 100 = .ok (.ireturn, 1) := by decide +kernel
theorem dX6_init_0 : decode cX6_init 0 = .ok (.aload_n 0, 1) := by decide +kernel
theorem dX6_init_1 : decode cX6_init 1 = .ok (.invokespecial 1, 3) := by decide +kernel
theorem dX6_init_4 : decode cX6_init 4 = .ok (.aload_n 0, 1) := by decide +kernel
theorem dX6_init_5 : decode cX6_init 5 = .ok (.iload_n 1, 1) := by decide +kernel
theorem dX6_init_6 : decode cX6_init 6 = .ok (.putfield 7, 3) := by decide +kernel
theorem dX6_init_9 : decode cX6_init 9 = .ok (.aload_n 0, 1) := by decide +kernel
theorem dX6_init_10 : decode cX6_init 10 = .ok (.iload_n 1, 1) := by decide +kernel
theorem dX6_init_11 : decode cX6_init 11 = .ok (.iload_n 1, 1) := by decide +kernel
theorem dX6_init_12 : decode cX6_init 12 = .ok (.multianewarray 13 2, 4) := by decide +kernel
theorem dX6_init_16 : decode cX6_init 16 = .ok (.putfield 15, 3) := by decide +kernel
theorem dX6_init_19 : decode cX6_init 19 = .ok (.aload_n 0, 1) := by decide +kernel
theorem dX6_init_20 : decode cX6_init 20 = .ok (.iload_n 1, 1) := by decide +kernel
theorem dX6_init_21 : decode cX6_init 21 = .ok (.newarray .int, 2) := by decide +kernel
theorem dX6_init_23 : decode cX6_init 23 = .ok (.putfield 18, 3) := by decide +kernel
theorem dX6_init_26 : decode cX6_init 26 = .ok (.aload_n 0, 1) := by decide +kernel
theorem dX6_init_27 : decode cX6_init 27 = .ok (.iload_n 1, 1) := by decide +kernel
theorem dX6_init_28 : decode cX6_init 28 = .ok (.newarray .long, 2) := by decide +kernel
theorem dX6_init_30 : decode cX6_init 30 = .ok (.putfield 22, 3) := by decide +kernel
theorem dX6_init_33 : decode cX6_init 33 = .ok (.aload_n 0, 1) := by decide +kernel
theorem dX6_init_34 : decode cX6_init 34 = .ok (.iload_n 1, 1) := by decide +kernel
theorem dX6_init_35 : decode cX6_init 35 = .ok (.newarray .long, 2) := by decide +kernel
theorem dX6_init_37 : decode cX6_init 37 = .ok (.putfield 26, 3) := by decide +kernel
theorem dX6_init_40 : decode cX6_init 40 = .ok (.aload_n 0, 1) := by decide +kernel
theorem dX6_init_41 : decode cX6_init 41 = .ok (.iconst 0, 1) := by decide +kernel
theorem dX6_init_42 : decode cX6_init 42 = .ok (.putfield 29, 3) := by decide +kernel
theorem dX6_init_45 : decode cX6_init 45 = .ok (.return_, 1) := by decide +kernel
theorem dX6_clear_0 : decode cX6_clear 0 = .ok (.aload_n 0, 1) := by decide +kernel
theorem dX6_clear_1 : decode cX6_clear 1 = .ok (.iconst 0, 1) := by decide +kernel
theorem dX6_clear_2 : decode cX6_clear 2 = .ok (.putfield 29, 3) := by decide +kernel
theorem dX6_clear_5 : decode cX6_clear 5 = .ok (.return_, 1) := by decide +kernel
theorem dX6_add_0 : decode cX6_add 0 = .ok (.iconst 0, 1) := by decide +kernel
theorem dX6_add_1 : decode cX6_add 1 = .ok (.istore_n 2, 1) := by decide +kernel
theorem dX6_add_2 : decode cX6_add 2 = .ok (.iload_n 2, 1) := by decide +kernel
theorem dX6_add_3 : decode cX6_add 3 = .ok (.aload_n 0, 1) := by decide +kernel
theorem dX6_add_4 : decode cX6_add 4 = .ok (.getfield 7, 3) := by decide +kernel
theorem dX6_add_7 : decode cX6_add 7 = .ok (.iconst 1, 1) := by decide +kernel
theorem dX6_add_8 : decode cX6_add 8 = .ok (.isub, 1) := by decide +kernel
theorem dX6_add_9 : decode cX6_add 9 = .ok (.if_icmp .ge 19, 3) := by decide +kernel
theorem dX6_add_12 : decode cX6_add 12 = .ok (.aload_n 0, 1) := by decide +kernel
theorem dX6_add_13 : decode cX6_add 13 = .ok (.getfield 22, 3) := by decide +kernel
theorem dX6_add_16 : decode cX6_add 16 = .ok (.iload_n 2, 1) := by decide +kernel
theorem dX6_add_17 : decode cX6_add 17 = .ok (.aload_n 1, 1) := by decide +kernel
theorem dX6_add_18 : decode cX6_add 18 = .ok (.iload_n 2, 1) := by decide +kernel
theorem dX6_add_19 : decode cX6_add 19 = .ok (.iaload, 1) := by decide +kernel
theorem dX6_add_20 : decode cX6_add 20 = .ok (.i2l, 1) := by decide +kernel
theorem dX6_add_21 : decode cX6_add 21 = .ok (.lastore, 1) := by decide +kernel
theorem dX6_add_22 : decode cX6_add 22 = .ok (.iinc 2 1, 3) := by decide +kernel
theorem dX6_add_25 : decode cX6_add 25 = .ok (.goto (-23), 3) := by decide +kernel
theorem dX6_add_28 : decode cX6_add 28 = .ok (.aload_n 0, 1) := by decide +kernel
theorem dX6_add_29 : decode cX6_add 29 = .ok (.getfield 22, 3) := by decide +kernel
theorem dX6_add_32 : decode cX6_add 32 = .ok (.aload_n 0, 1) := by decide +kernel
theorem dX6_add_33 : decode cX6_add 33 = .ok (.getfield 7, 3) := by decide +kernel
theorem dX6_add_36 : decode cX6_add 36 = .ok (.iconst 1, 1) := by decide +kernel
theorem dX6_add_37 : decode cX6_add 37 = .ok (.isub, 1) := by decide +kernel
theorem dX6_add_38 : decode cX6_add 38 = .ok (.lconst 1, 1) := by decide +kernel
theorem dX6_add_39 : decode cX6_add 39 = .ok (.lastore, 1) := by decide +kernel
theorem dX6_add_40 : decode cX6_add 40 = .ok (.iconst 0, 1) := by decide +kernel
theorem dX6_add_41 : decode cX6_add 41 = .ok (.istore_n 2, 1) := by decide +kernel
theorem dX6_add_42 : decode cX6_add 42 = .ok (.iload_n 2, 1) := by decide +kernel
theorem dX6_add_43 : decode cX6_add 43 = .ok (.aload_n 0, 1) := by decide +kernel
theorem dX6_add_44 : decode cX6_add 44 = .ok (.getfield 29, 3) := by decide +kernel
theorem dX6_add_47 : decode cX6_add 47 = .ok (.if_icmp .ge 29, 3) := by decide +kernel
theorem dX6_add_50 : decode cX6_add 50 = .ok (.aload_n 0, 1) := by decide +kernel
theorem dX6_add_51 : decode cX6_add 51 = .ok (.aload_n 0, 1) := by decide +kernel
theorem dX6_add_52 : decode cX6_add 52 = .ok (.getfield 22, 3) := by decide +kernel
theorem dX6_add_55 : decode cX6_add 55 = .ok (.aload_n 0, 1) := by decide +kernel
theorem dX6_add_56 : decode cX6_add 56 = .ok (.getfield 15, 3) := by decide +kernel
theorem dX6_add_59 : decode cX6_add 59 = .ok (.iload_n 2, 1) := by decide +kernel
theorem dX6_add_60 : decode cX6_add 60 = .ok (.aaload, 1) := by decide +kernel
theorem dX6_add_61 : decode cX6_add 61 = .ok (.aload_n 0, 1) := by decide +kernel
theorem dX6_add_62 : decode cX6_add 62 = .ok (.getfield 18, 3) := by decide +kernel
theorem dX6_add_65 : decode cX6_add 65 = .ok (.iload_n 2, 1) := by decide +kernel
theorem dX6_add_66 : decode cX6_add 66 = .ok (.iaload, 1) := by decide +kernel
theorem dX6_add_67 : decode cX6_add 67 = .ok (.invokevirtual 32, 3) := by decide +kernel
theorem dX6_add_70 : decode cX6_add 70 = .ok (.iinc 2 1, 3) := by decide +kernel
theorem dX6_add_73 : decode cX6_add 73 = .ok (.goto (-31), 3) := by decide +kernel
theorem dX6_add_76 : decode cX6_add 76 = .ok (.aload_n 0, 1) := by decide +kernel
theorem dX6_add_77 : decode cX6_add 77 = .ok (.aload_n 0, 1) := by decide +kernel
theorem dX6_add_78 : decode cX6_add 78 = .ok (.getfield 22, 3) := by decide +kernel
theorem dX6_add_81 : decode cX6_add 81 = .ok (.invokevirtual 36, 3) := by decide +kernel
theorem dX6_add_84 : decode cX6_add 84 = .ok (.istore_n 2, 1) := by decide +kernel
theorem dX6_add_85 : decode cX6_add 85 = .ok (.iload_n 2, 1) := by decide +kernel
theorem dX6_add_86 : decode cX6_add 86 = .ok (.aload_n 0, 1) := by decide +kernel
theorem dX6_add_87 : decode cX6_add 87 = .ok (.getfield 7, 3) := by decide +kernel
theorem dX6_add_90 : decode cX6_add 90 = .ok (.if_icmp .ge 14, 3) := by decide +kernel
theorem dX6_add_93 : decode cX6_add 93 = .ok (.aload_n 0, 1) := by decide +kernel
theorem dX6_add_94 : decode cX6_add 94 = .ok (.getfield 29, 3) := by decide +kernel
theorem dX6_add_97 : decode cX6_add 97 = .ok (.aload_n 0, 1) := by decide +kernel
theorem dX6_add_98 : decode cX6_add 98 = .ok (.getfield 7, 3) := by decide +kernel
theorem dX6_add_101 : decode cX6_add 101 = .ok (.if_icmp .lt 4, 3) := by decide +kernel
theorem dX6_add_104 : decode cX6_add 104 = .ok (.return_, 1) := by decide +kernel
theorem dX6_add_105 : decode cX6_add 105 = .ok (.aload_n 0, 1) := by decide +kernel
theorem dX6_add_106 : decode cX6_add 106 = .ok (.iload_n 2, 1) := by decide +kernel
theorem dX6_add_107 : decode cX6_add 107 = .ok (.invokevirtual 40, 3) := by decide +kernel
theorem dX6_add_110 : decode cX6_add 110 = .ok (.istore_n 3, 1) := by decide +kernel
theorem dX6_add_111 : decode cX6_add 111 = .ok (.iconst 0, 1) := by decide +kernel
theorem dX6_add_112 : decode cX6_add 112 = .ok (.istore 4, 2) := by decide +kernel
theorem dX6_add_114 : decode cX6_add 114 = .ok (.iload 4, 2) := by decide +kernel
theorem dX6_add_116 : decode cX6_add 116 = .ok (.aload_n 0, 1) := by decide +kernel
theorem dX6_add_117 : decode cX6_add 117 = .ok (.getfield 29, 3) := by decide +kernel
theorem dX6_add_120 : decode cX6_add 120 = .ok (.if_icmp .ge 33, 3) := by decide +kernel
theorem dX6_add_123 : decode cX6_add 123 = .ok (.iload 4, 2) := by decide +kernel
theorem dX6_add_125 : decode cX6_add 125 = .ok (.iload_n 3, 1) := by decide +kernel
theorem dX6_add_126 : decode cX6_add 126 = .ok (.if_icmp .eq 21, 3) := by decide +kernel
theorem dX6_add_129 : decode cX6_add 129 = .ok (.aload_n 0, 1) := by decide +kernel
theorem dX6_add_130 : decode cX6_add 130 = .ok (.aload_n 0, 1) := by decide +kernel
theorem dX6_add_131 : decode cX6_add 131 = .ok (.getfield 15, 3) := by decide +kernel
theorem dX6_add_134 : decode cX6_add 134 = .ok (.iload 4, 2) := by decide +kernel
theorem dX6_add_136 : decode cX6_add 136 = .ok (.aaload, 1) := by decide +kernel
theorem dX6_add_137 : decode cX6_add 137 = .ok (.aload_n 0, 1) := by decide +kernel
theorem dX6_add_138 : decode cX6_add 138 = .ok (.getfield 15, 3) := by decide +kernel
theorem dX6_add_141 : decode cX6_add 141 = .ok (.iload_n 3, 1) := by decide +kernel
theorem dX6_add_142 : decode cX6_add 142 = .ok (.aaload, 1) := by decide +kernel
theorem dX6_add_143 : decode cX6_add 143 = .ok (.iload_n 2, 1) := by decide +kernel
theorem dX6_add_144 : decode cX6_add 144 = .ok (.invokevirtual 32, 3) := by decide +kernel
theorem dX6_add_147 : decode cX6_add 147 = .ok (.iinc 4 1, 3) := by decide +kernel
theorem dX6_add_150 : decode cX6_add 150 = .ok (.goto (-36), 3) := by decide +kernel
theorem dX6_add_153 : decode cX6_add 153 = .ok (.return_, 1) := by decide +kernel
theorem dX6_leadOf_0 : decode cX6_leadOf 0 = .ok (.iconst 0, 1) := by decide +kernel
theorem dX6_leadOf_1 : decode cX6_leadOf 1 = .ok (.istore_n 2, 1) := by decide +kernel
theorem dX6_leadOf_2 : decode cX6_leadOf 2 = .ok (.iload_n 2, 1) := by decide +kernel
theorem dX6_leadOf_3 : decode cX6_leadOf 3 = .ok (.aload_n 0, 1) := by decide +kernel
theorem dX6_leadOf_4 : decode cX6_leadOf 4 = .ok (.getfield 7, 3) := by decide +kernel
theorem dX6_leadOf_7 : decode cX6_leadOf 7 = .ok (.if_icmp .ge 17, 3) := by decide +kernel
theorem dX6_leadOf_10 : decode cX6_leadOf 10 = .ok (.aload_n 1, 1) := by decide +kernel
theorem dX6_leadOf_11 : decode cX6_leadOf 11 = .ok (.iload_n 2, 1) := by decide +kernel
theorem dX6_leadOf_12 : decode cX6_leadOf 12 = .ok (.laload, 1) := by decide +kernel
theorem dX6_leadOf_13 : decode cX6_leadOf 13 = .ok (.lconst 0, 1) := by decide +kernel
theorem dX6_leadOf_14 : decode cX6_leadOf 14 = .ok (.lcmp, 1) := by decide +kernel
theorem dX6_leadOf_15 : decode cX6_leadOf 15 = .ok (.ifCond .ne 9, 3) := by decide +kernel
theorem dX6_leadOf_18 : decode cX6_leadOf 18 = .ok (.iinc 2 1, 3) := by decide +kernel
theorem dX6_leadOf_21 : decode cX6_leadOf 21 = .ok (.goto (-19), 3) := by decide +kernel
theorem dX6_leadOf_24 : decode cX6_leadOf 24 = .ok (.iload_n 2, 1) := by decide +kernel
theorem dX6_leadOf_25 : decode cX6_leadOf 25 = .ok (.ireturn, 1) := by decide +kernel
theorem dX6_clearPlace_0 : decode cX6_clearPlace 0 = .ok (.aload_n 1, 1) := by decide +kernel
theorem dX6_clearPlace_1 : decode cX6_clearPlace 1 = .ok (.iload_n 3, 1) := by decide +kernel
theorem dX6_clearPlace_2 : decode cX6_clearPlace 2 = .ok (.laload, 1) := by decide +kernel
theorem dX6_clearPlace_3 : decode cX6_clearPlace 3 = .ok (.lstore 4, 2) := by decide +kernel
theorem dX6_clearPlace_5 : decode cX6_clearPlace 5 = .ok (.aload_n 2, 1) := by decide +kernel
theorem dX6_clearPlace_6 : decode cX6_clearPlace 6 = .ok (.iload_n 3, 1) := by decide +kernel
theorem dX6_clearPlace_7 : decode cX6_clearPlace 7 = .ok (.laload, 1) := by decide +kernel
theorem dX6_clearPlace_8 : decode cX6_clearPlace 8 = .ok (.lstore 6, 2) := by decide +kernel
theorem dX6_clearPlace_10 : decode cX6_clearPlace 10 = .ok (.lload 4, 2) := by decide +kernel
theorem dX6_clearPlace_12 : decode cX6_clearPlace 12 = .ok (.lconst 0, 1) := by decide +kernel
theorem dX6_clearPlace_13 : decode cX6_clearPlace 13 = .ok (.lcmp, 1) := by decide +kernel
theorem dX6_clearPlace_14 : decode cX6_clearPlace 14 = .ok (.ifCond .ne 4, 3) := by decide +kernel
theorem dX6_clearPlace_17 : decode cX6_clearPlace 17 = .ok (.return_, 1) := by decide +kernel
theorem dX6_clearPlace_18 : decode cX6_clearPlace 18 = .ok (.iconst 0, 1) := by decide +kernel
theorem dX6_clearPlace_19 : decode cX6_clearPlace 19 = .ok (.istore 8, 2) := by decide +kernel
theorem dX6_clearPlace_21 : decode cX6_clearPlace 21 = .ok (.iload 8, 2) := by decide +kernel
theorem dX6_clearPlace_23 : decode cX6_clearPlace 23 = .ok (.aload_n 0, 1) := by decide +kernel
theorem dX6_clearPlace_24 : decode cX6_clearPlace 24 = .ok (.getfield 7, 3) := by decide +kernel
theorem dX6_clearPlace_27 : decode cX6_clearPlace 27 = .ok (.if_icmp .ge 28, 3) := by decide +kernel
theorem dX6_clearPlace_30 : decode cX6_clearPlace 30 = .ok (.aload_n 1, 1) := by decide +kernel
theorem dX6_clearPlace_31 : decode cX6_clearPlace 31 = .ok (.iload 8, 2) := by decide +kernel
theorem dX6_clearPlace_33 : decode cX6_clearPlace 33 = .ok (.aload_n 1, 1) := by decide +kernel
theorem dX6_clearPlace_34 : decode cX6_clearPlace 34 = .ok (.iload 8, 2) := by decide +kernel
theorem dX6_clearPlace_36 : decode cX6_clearPlace 36 = .ok (.laload, 1) := by decide +kernel
theorem dX6_clearPlace_37 : decode cX6_clearPlace 37 = .ok (.lload 6, 2) := by decide +kernel
theorem dX6_clearPlace_39 : decode cX6_clearPlace 39 = .ok (.lmul, 1) := by decide +kernel
theorem dX6_clearPlace_40 : decode cX6_clearPlace 40 = .ok (.aload_n 2, 1) := by decide +kernel
theorem dX6_clearPlace_41 : decode cX6_clearPlace 41 = .ok (.iload 8, 2) := by decide +kernel
theorem dX6_clearPlace_43 : decode cX6_clearPlace 43 = .ok (.laload, 1) := by decide +kernel
theorem dX6_clearPlace_44 : decode cX6_clearPlace 44 = .ok (.lload 4, 2) := by decide +kernel
theorem dX6_clearPlace_46 : decode cX6_clearPlace 46 = .ok (.lmul, 1) := by decide +kernel
theorem dX6_clearPlace_47 : decode cX6_clearPlace 47 = .ok (.lsub, 1) := by decide +kernel
theorem dX6_clearPlace_48 : decode cX6_clearPlace 48 = .ok (.lastore, 1) := by decide +kernel
theorem dX6_clearPlace_49 : decode cX6_clearPlace 49 = .ok (.iinc 8 1, 3) := by decide +kernel
theorem dX6_clearPlace_52 : decode cX6_clearPlace 52 = .ok (.goto (-31), 3) := by decide +kernel
theorem dX6_clearPlace_55 : decode cX6_clearPlace 55 = .ok (.aload_n 0, 1) := by decide +kernel
theorem dX6_clearPlace_56 : decode cX6_clearPlace 56 = .ok (.aload_n 1, 1) := by decide +kernel
theorem dX6_clearPlace_57 : decode cX6_clearPlace 57 = .ok (.invokevirtual 44, 3) := by decide +kernel
theorem dX6_clearPlace_60 : decode cX6_clearPlace 60 = .ok (.return_, 1) := by decide +kernel
theorem dX6_shorten_0 : decode cX6_shorten 0 = .ok (.lconst 0, 1) := by decide +kernel
theorem dX6_shorten_1 : decode cX6_shorten 1 = .ok (.lstore_n 2, 1) := by decide +kernel
theorem dX6_shorten_2 : decode cX6_shorten 2 = .ok (.iconst 0, 1) := by decide +kernel
theorem dX6_shorten_3 : decode cX6_shorten 3 = .ok (.istore 4, 2) := by decide +kernel
theorem dX6_shorten_5 : decode cX6_shorten 5 = .ok (.iload 4, 2) := by decide +kernel
theorem dX6_shorten_7 : decode cX6_shorten 7 = .ok (.aload_n 0, 1) := by decide +kernel
theorem dX6_shorten_8 : decode cX6_shorten 8 = .ok (.getfield 7, 3) := by decide +kernel
theorem dX6_shorten_11 : decode cX6_shorten 11 = .ok (.if_icmp .ge 18, 3) := by decide +kernel
theorem dX6_shorten_14 : decode cX6_shorten 14 = .ok (.lload_n 2, 1) := by decide +kernel
theorem dX6_shorten_15 : decode cX6_shorten 15 = .ok (.aload_n 1, 1) := by decide +kernel
theorem dX6_shorten_16 : decode cX6_shorten 16 = .ok (.iload 4, 2) := by decide +kernel
theorem dX6_shorten_18 : decode cX6_shorten 18 = .ok (.laload, 1) := by decide +kernel
theorem dX6_shorten_19 : decode cX6_shorten 19 = .ok (.invokestatic 48, 3) := by decide +kernel
theorem dX6_shorten_22 : decode cX6_shorten 22 = .ok (.lstore_n 2, 1) := by decide +kernel
theorem dX6_shorten_23 : decode cX6_shorten 23 = .ok (.iinc 4 1, 3) := by decide +kernel
theorem dX6_shorten_26 : decode cX6_shorten 26 = .ok (.goto (-21), 3) := by decide +kernel
theorem dX6_shorten_29 : decode cX6_shorten 29 = .ok (.lload_n 2, 1) := by decide +kernel
theorem dX6_shorten_30 : decode cX6_shorten 30 = .ok (.lconst 1, 1) := by decide +kernel
theorem dX6_shorten_31 : decode cX6_shorten 31 = .ok (.lcmp, 1) := by decide +kernel
theorem dX6_shorten_32 : decode cX6_shorten 32 = .ok (.ifCond .le 29, 3) := by decide +kernel
theorem dX6_shorten_35 : decode cX6_shorten 35 = .ok (.iconst 0, 1) := by decide +kernel
theorem dX6_shorten_36 : decode cX6_shorten 36 = .ok (.istore 4, 2) := by decide +kernel
theorem dX6_shorten_38 : decode cX6_shorten 38 = .ok (.iload 4, 2) := by decide +kernel
theorem dX6_shorten_40 : decode cX6_shorten 40 = .ok (.aload_n 0, 1) := by decide +kernel
theorem dX6_shorten_41 : decode cX6_shorten 41 = .ok (.getfield 7, 3) := by decide +kernel
theorem dX6_shorten_44 : decode cX6_shorten 44 = .ok (.if_icmp .ge 17, 3) := by decide +kernel
theorem dX6_shorten_47 : decode cX6_shorten 47 = .ok (.aload_n 1, 1) := by decide +kernel
theorem dX6_shorten_48 : decode cX6_shorten 48 = .ok (.iload 4, 2) := by decide +kernel
theorem dX6_shorten_50 : decode cX6_shorten 50 = .ok (.dup2, 1) := by decide +kernel
theorem dX6_shorten_51 : decode cX6_shorten 51 = .ok (.laload, 1) := by decide +kernel
theorem dX6_shorten_52 : decode cX6_shorten 52 = .ok (.lload_n 2, 1) := by decide +kernel
theorem dX6_shorten_53 : decode cX6_shorten 53 = .ok (.ldiv, 1) := by decide +kernel
theorem dX6_shorten_54 : decode cX6_shorten 54 = .ok (.lastore, 1) := by decide +kernel
theorem dX6_shorten_55 : decode cX6_shorten 55 = .ok (.iinc 4 1, 3) := by decide +kernel
theorem dX6_shorten_58 : decode cX6_shorten 58 = .ok (.goto (-20), 3) := by decide +kernel
theorem dX6_shorten_61 : decode cX6_shorten 61 = .ok (.return_, 1) := by decide +kernel
theorem dX6_insertFresh_0 : decode cX6_insertFresh 0 = .ok (.aload_n 0, 1) := by decide +kernel
theorem dX6_insertFresh_1 : decode cX6_insertFresh 1 = .ok (.getfield 29, 3) := by decide +kernel
theorem dX6_insertFresh_4 : decode cX6_insertFresh 4 = .ok (.istore_n 2, 1) := by decide +kernel
theorem dX6_insertFresh_5 : decode cX6_insertFresh 5 = .ok (.iload_n 2, 1) := by decide +kernel
theorem dX6_insertFresh_6 : decode cX6_insertFresh 6 = .ok (.ifCond .le 69, 3) := by decide +kernel
theorem dX6_insertFresh_9 : decode cX6_insertFresh 9 = .ok (.aload_n 0, 1) := by decide +kernel
theorem dX6_insertFresh_10 : decode cX6_insertFresh 10 = .ok (.getfield 18, 3) := by decide +kernel
theorem dX6_insertFresh_13 : decode cX6_insertFresh 13 = .ok (.iload_n 2, 1) := by decide +kernel
theorem dX6_insertFresh_14 : decode cX6_insertFresh 14 = .ok (.iconst 1, 1) := by decide +kernel
theorem dX6_insertFresh_15 : decode cX6_insertFresh 15 = .ok (.isub, 1) := by decide +kernel
theorem dX6_insertFresh_16 : decode cX6_insertFresh 16 = .ok (.iaload, 1) := by decide +kernel
theorem dX6_insertFresh_17 : decode cX6_insertFresh 17 = .ok (.iload_n 1, 1) := by decide +kernel
theorem dX6_insertFresh_18 : decode cX6_insertFresh 18 = .ok (.if_icmp .le 57, 3) := by decide +kernel
theorem dX6_insertFresh_21 : decode cX6_insertFresh 21 = .ok (.aload_n 0, 1) := by decide +kernel
theorem dX6_insertFresh_22 : decode cX6_insertFresh 22 = .ok (.getfield 18, 3) := by decide +kernel
theorem dX6_insertFresh_25 : decode cX6_insertFresh 25 = .ok (.iload_n 2, 1) := by decide +kernel
theorem dX6_insertFresh_26 : decode cX6_insertFresh 26 = .ok (.aload_n 0, 1) := by decide +kernel
theorem dX6_insertFresh_27 : decode cX6_insertFresh 27 = .ok (.getfield 18, 3) := by decide +kernel
theorem dX6_insertFresh_30 : decode cX6_insertFresh 30 = .ok (.iload_n 2, 1) := by decide +kernel
theorem dX6_insertFresh_31 : decode cX6_insertFresh 31 = .ok (.iconst 1, 1) := by decide +kernel
theorem dX6_insertFresh_32 : decode cX6_insertFresh 32 = .ok (.isub, 1) := by decide +kernel
theorem dX6_insertFresh_33 : decode cX6_insertFresh 33 = .ok (.iaload, 1) := by decide +kernel
theorem dX6_insertFresh_34 : decode cX6_insertFresh 34 = .ok (.iastore, 1) := by decide +kernel
theorem dX6_insertFresh_35 : decode cX6_insertFresh 35 = .ok (.iconst 0, 1) := by decide +kernel
theorem dX6_insertFresh_36 : decode cX6_insertFresh 36 = .ok (.istore_n 3, 1) := by decide +kernel
theorem dX6_insertFresh_37 : decode cX6_insertFresh 37 = .ok (.iload_n 3, 1) := by decide +kernel
theorem dX6_insertFresh_38 : decode cX6_insertFresh 38 = .ok (.aload_n 0, 1) := by decide +kernel
theorem dX6_insertFresh_39 : decode cX6_insertFresh 39 = .ok (.getfield 7, 3) := by decide +kernel
theorem dX6_insertFresh_42 : decode cX6_insertFresh 42 = .ok (.if_icmp .ge 27, 3) := by decide +kernel
theorem dX6_insertFresh_45 : decode cX6_insertFresh 45 = .ok (.aload_n 0, 1) := by decide +kernel
theorem dX6_insertFresh_46 : decode cX6_insertFresh 46 = .ok (.getfield 15, 3) := by decide +kernel
theorem dX6_insertFresh_49 : decode cX6_insertFresh 49 = .ok (.iload_n 2, 1) := by decide +kernel
theorem dX6_insertFresh_50 : decode cX6_insertFresh 50 = .ok (.aaload, 1) := by decide +kernel
theorem dX6_insertFresh_51 : decode cX6_insertFresh 51 = .ok (.iload_n 3, 1) := by decide +kernel
theorem dX6_insertFresh_52 : decode cX6_insertFresh 52 = .ok (.aload_n 0, 1) := by decide +kernel
theorem dX6_insertFresh_53 : decode cX6_insertFresh 53 = .ok (.getfield 15, 3) := by decide +kernel
theorem dX6_insertFresh_56 : decode cX6_insertFresh 56 = .ok (.iload_n 2, 1) := by decide +kernel
theorem dX6_insertFresh_57 : decode cX6_insertFresh 57 = .ok (.iconst 1, 1) := by decide +kernel
theorem dX6_insertFresh_58 : decode cX6_insertFresh 58 = .ok (.isub, 1) := by decide +kernel
theorem dX6_insertFresh_59 : decode cX6_insertFresh 59 = .ok (.aaload, 1) := by decide +kernel
theorem dX6_insertFresh_60 : decode cX6_insertFresh 60 = .ok (.iload_n 3, 1) := by decide +kernel
theorem dX6_insertFresh_61 : decode cX6_insertFresh 61 = .ok (.laload, 1) := by decide +kernel
theorem dX6_insertFresh_62 : decode cX6_insertFresh 62 = .ok (.lastore, 1) := by decide +kernel
theorem dX6_insertFresh_63 : decode cX6_insertFresh 63 = .ok (.iinc 3 1, 3) := by decide +kernel
theorem dX6_insertFresh_66 : decode cX6_insertFresh 66 = .ok (.goto (-29), 3) := by decide +kernel
theorem dX6_insertFresh_69 : decode cX6_insertFresh 69 = .ok (.iinc 2 (-1), 3) := by decide +kernel
theorem dX6_insertFresh_72 : decode cX6_insertFresh 72 = .ok (.goto (-67), 3) := by decide +kernel
theorem dX6_insertFresh_75 : decode cX6_insertFresh 75 = .ok (.aload_n 0, 1) := by decide +kernel
theorem dX6_insertFresh_76 : decode cX6_insertFresh 76 = .ok (.getfield 22, 3) := by decide +kernel
theorem dX6_insertFresh_79 : decode cX6_insertFresh 79 = .ok (.iload_n 1, 1) := by decide +kernel
theorem dX6_insertFresh_80 : decode cX6_insertFresh 80 = .ok (.laload, 1) := by decide +kernel
theorem dX6_insertFresh_81 : decode cX6_insertFresh 81 = .ok (.lconst 0, 1) := by decide +kernel
theorem dX6_insertFresh_82 : decode cX6_insertFresh 82 = .ok (.lcmp, 1) := by decide +kernel
theorem dX6_insertFresh_83 : decode cX6_insertFresh 83 = .ok (.ifCond .ge 7, 3) := by decide +kernel
theorem dX6_insertFresh_86 : decode cX6_insertFresh 86 = .ok (.iconst 1, 1) := by decide +kernel
theorem dX6_insertFresh_87 : decode cX6_insertFresh 87 = .ok (.goto 4, 3) := by decide +kernel
theorem dX6_insertFresh_90 : decode cX6_insertFresh 90 = .ok (.iconst 0, 1) := by decide +kernel
theorem dX6_insertFresh_91 : decode cX6_insertFresh 91 = .ok (.istore_n 3, 1) := by decide +kernel
theorem dX6_insertFresh_92 : decode cX6_insertFresh 92 = .ok (.iconst 0, 1) := by decide +kernel
theorem dX6_insertFresh_93 : decode cX6_insertFresh 93 = .ok (.istore 4, 2) := by decide +kernel
theorem dX6_insertFresh_95 : decode cX6_insertFresh 95 = .ok (.iload 4, 2) := by decide +kernel
theorem dX6_insertFresh_97 : decode cX6_insertFresh 97 = .ok (.aload_n 0, 1) := by decide +kernel
theorem dX6_insertFresh_98 : decode cX6_insertFresh 98 = .ok (.getfield 7, 3) := by decide +kernel
theorem dX6_insertFresh_101 : decode cX6_insertFresh 101 = .ok (.if_icmp .ge 40, 3) := by decide +kernel
theorem dX6_insertFresh_104 : decode cX6_insertFresh 104 = .ok (.aload_n 0, 1) := by decide +kernel
theorem dX6_insertFresh_105 : decode cX6_insertFresh 105 = .ok (.getfield 15, 3) := by decide +kernel
theorem dX6_insertFresh_108 : decode cX6_insertFresh 108 = .ok (.iload_n 2, 1) := by decide +kernel
theorem dX6_insertFresh_109 : decode cX6_insertFresh 109 = .ok (.aaload, 1) := by decide +kernel
theorem dX6_insertFresh_110 : decode cX6_insertFresh 110 = .ok (.iload 4, 2) := by decide +kernel
theorem dX6_insertFresh_112 : decode cX6_insertFresh 112 = .ok (.iload_n 3, 1) := by decide +kernel
theorem dX6_insertFresh_113 : decode cX6_insertFresh 113 = .ok (.ifCond .eq 14, 3) := by decide +kernel
theorem dX6_insertFresh_116 : decode cX6_insertFresh 116 = .ok (.aload_n 0, 1) := by decide +kernel
theorem dX6_insertFresh_117 : decode cX6_insertFresh 117 = .ok (.getfield 22, 3) := by decide +kernel
theorem dX6_insertFresh_120 : decode cX6_insertFresh 120 = .ok (.iload 4, 2) := by decide +kernel
theorem dX6_insertFresh_122 : decode cX6_insertFresh 122 = .ok (.laload, 1) := by decide +kernel
theorem dX6_insertFresh_123 : decode cX6_insertFresh 123 = .ok (.lneg, 1) := by decide +kernel
theorem dX6_insertFresh_124 : decode cX6_insertFresh 124 = .ok (.goto 10, 3) := by decide +kernel
theorem dX6_insertFresh_127 : decode cX6_insertFresh 127 = .ok (.aload_n 0, 1) := by decide +kernel
theorem dX6_insertFresh_128 : decode cX6_insertFresh 128 = .ok (.getfield 22, 3) := by decide +kernel
theorem dX6_insertFresh_131 : decode cX6_insertFresh 131 = .ok (.iload 4, 2) := by decide +kernel
theorem dX6_insertFresh_133 : decode cX6_insertFresh 133 = .ok (.laload, 1) := by decide +kernel
theorem dX6_insertFresh_134 : decode cX6_insertFresh 134 = .ok (.lastore, 1) := by decide +kernel
theorem dX6_insertFresh_135 : decode cX6_insertFresh 135 = .ok (.iinc 4 1, 3) := by decide +kernel
theorem dX6_insertFresh_138 : decode cX6_insertFresh 138 = .ok (.goto (-43), 3) := by decide +kernel
theorem dX6_insertFresh_141 : decode cX6_insertFresh 141 = .ok (.aload_n 0, 1) := by decide +kernel
theorem dX6_insertFresh_142 : decode cX6_insertFresh 142 = .ok (.getfield 18, 3) := by decide +kernel
theorem dX6_insertFresh_145 : decode cX6_insertFresh 145 = .ok (.iload_n 2, 1) := by decide +kernel
theorem dX6_insertFresh_146 : decode cX6_insertFresh 146 = .ok (.iload_n 1, 1) := by decide +kernel
theorem dX6_insertFresh_147 : decode cX6_insertFresh 147 = .ok (.iastore, 1) := by decide +kernel
theorem dX6_insertFresh_148 : decode cX6_insertFresh 148 = .ok (.aload_n 0, 1) := by decide +kernel
theorem dX6_insertFresh_149 : decode cX6_insertFresh 149 = .ok (.dup, 1) := by decide +kernel
theorem dX6_insertFresh_150 : decode cX6_insertFresh 150 = .ok (.getfield 29, 3) := by decide +kernel
theorem dX6_insertFresh_153 : decode cX6_insertFresh 153 = .ok (.iconst 1, 1) := by decide +kernel
theorem dX6_insertFresh_154 : decode cX6_insertFresh 154 = .ok (.iadd, 1) := by decide +kernel
theorem dX6_insertFresh_155 : decode cX6_insertFresh 155 = .ok (.putfield 29, 3) := by decide +kernel
theorem dX6_insertFresh_158 : decode cX6_insertFresh 158 = .ok (.iload_n 2, 1) := by decide +kernel
theorem dX6_insertFresh_159 : decode cX6_insertFresh 159 = .ok (.ireturn, 1) := by decide +kernel
theorem dX6_freeCount_0 : decode cX6_freeCount 0 = .ok (.aload_n 0, 1) := by decide +kernel
theorem dX6_freeCount_1 : decode cX6_freeCount 1 = .ok (.getfield 7, 3) := by decide +kernel
theorem dX6_freeCount_4 : decode cX6_freeCount 4 = .ok (.aload_n 0, 1) := by decide +kernel
theorem dX6_freeCount_5 : decode cX6_freeCount 5 = .ok (.getfield 29, 3) := by decide +kernel
theorem dX6_freeCount_8 : decode cX6_freeCount 8 = .ok (.isub, 1) := by decide +kernel
theorem dX6_freeCount_9 : decode cX6_freeCount 9 = .ok (.ireturn, 1) := by decide +kernel
theorem dX6_freePlace_0 : decode cX6_freePlace 0 = .ok (.iconst 0, 1) := by decide +kernel
theorem dX6_freePlace_1 : decode cX6_freePlace 1 = .ok (.istore_n 2, 1) := by decide +kernel
theorem dX6_freePlace_2 : decode cX6_freePlace 2 = .ok (.iconst 0, 1) := by decide +kernel
theorem dX6_freePlace_3 : decode cX6_freePlace 3 = .ok (.istore_n 3, 1) := by decide +kernel
theorem dX6_freePlace_4 : decode cX6_freePlace 4 = .ok (.iconst 0, 1) := by decide +kernel
theorem dX6_freePlace_5 : decode cX6_freePlace 5 = .ok (.istore 4, 2) := by decide +kernel
theorem dX6_freePlace_7 : decode cX6_freePlace 7 = .ok (.iload 4, 2) := by decide +kernel
theorem dX6_freePlace_9 : decode cX6_freePlace 9 = .ok (.aload_n 0, 1) := by decide +kernel
theorem dX6_freePlace_10 : decode cX6_freePlace 10 = .ok (.getfield 7, 3) := by decide +kernel
theorem dX6_freePlace_13 : decode cX6_freePlace 13 = .ok (.if_icmp .ge 45, 3) := by decide +kernel
theorem dX6_freePlace_16 : decode cX6_freePlace 16 = .ok (.iload_n 2, 1) := by decide +kernel
theorem dX6_freePlace_17 : decode cX6_freePlace 17 = .ok (.aload_n 0, 1) := by decide +kernel
theorem dX6_freePlace_18 : decode cX6_freePlace 18 = .ok (.getfield 29, 3) := by decide +kernel
theorem dX6_freePlace_21 : decode cX6_freePlace 21 = .ok (.if_icmp .ge 20, 3) := by decide +kernel
theorem dX6_freePlace_24 : decode cX6_freePlace 24 = .ok (.aload_n 0, 1) := by decide +kernel
theorem dX6_freePlace_25 : decode cX6_freePlace 25 = .ok (.getfield 18, 3) := by decide +kernel
theorem dX6_freePlace_28 : decode cX6_freePlace 28 = .ok (.iload_n 2, 1) := by decide +kernel
theorem dX6_freePlace_29 : decode cX6_freePlace 29 = .ok (.iaload, 1) := by decide +kernel
theorem dX6_freePlace_30 : decode cX6_freePlace 30 = .ok (.iload 4, 2) := by decide +kernel
theorem dX6_freePlace_32 : decode cX6_freePlace 32 = .ok (.if_icmp .ne 9, 3) := by decide +kernel
theorem dX6_freePlace_35 : decode cX6_freePlace 35 = .ok (.iinc 2 1, 3) := by decide +kernel
theorem dX6_freePlace_38 : decode cX6_freePlace 38 = .ok (.goto 14, 3) := by decide +kernel
theorem dX6_freePlace_41 : decode cX6_freePlace 41 = .ok (.iload_n 3, 1) := by decide +kernel
theorem dX6_freePlace_42 : decode cX6_freePlace 42 = .ok (.iload_n 1, 1) := by decide +kernel
theorem dX6_freePlace_43 : decode cX6_freePlace 43 = .ok (.if_icmp .ne 6, 3) := by decide +kernel
theorem dX6_freePlace_46 : decode cX6_freePlace 46 = .ok (.iload 4, 2) := by decide +kernel
theorem dX6_freePlace_48 : decode cX6_freePlace 48 = .ok (.ireturn, 1) := by decide +kernel
theorem dX6_freePlace_49 : decode cX6_freePlace 49 = .ok (.iinc 3 1, 3) := by decide +kernel
theorem dX6_freePlace_52 : decode cX6_freePlace 52 = .ok (.iinc 4 1, 3) := by decide +kernel
theorem dX6_freePlace_55 : decode cX6_freePlace 55 = .ok (.goto (-48), 3) := by decide +kernel
theorem dX6_freePlace_58 : decode cX6_freePlace 58 = .ok (.aload_n 0, 1) := by decide +kernel
theorem dX6_freePlace_59 : decode cX6_freePlace 59 = .ok (.getfield 7, 3) := by decide +kernel
theorem dX6_freePlace_62 : decode cX6_freePlace 62 = .ok (.iconst 1, 1) := by decide +kernel
theorem dX6_freePlace_63 : decode cX6_freePlace 63 = .ok (.isub, 1) := by decide +kernel
theorem dX6_freePlace_64 : decode cX6_freePlace 64 = .ok (.ireturn, 1) := by decide +kernel
theorem dX6_basisRow_0 : decode cX6_basisRow 0 = .ok (.aload_n 0, 1) := by decide +kernel
theorem dX6_basisRow_1 : decode cX6_basisRow 1 = .ok (.iload_n 1, 1) := by decide +kernel
theorem dX6_basisRow_2 : decode cX6_basisRow 2 = .ok (.invokevirtual 54, 3) := by decide +kernel
theorem dX6_basisRow_5 : decode cX6_basisRow 5 = .ok (.istore_n 2, 1) := by decide +kernel
theorem dX6_basisRow_6 : decode cX6_basisRow 6 = .ok (.lconst 1, 1) := by decide +kernel
theorem dX6_basisRow_7 : decode cX6_basisRow 7 = .ok (.lstore_n 3, 1) := by decide +kernel
theorem dX6_basisRow_8 : decode cX6_basisRow 8 = .ok (.iconst 0, 1) := by decide +kernel
theorem dX6_basisRow_9 : decode cX6_basisRow 9 = .ok (.istore 5, 2) := by decide +kernel
theorem dX6_basisRow_11 : decode cX6_basisRow 11 = .ok (.iload 5, 2) := by decide +kernel
theorem dX6_basisRow_13 : decode cX6_basisRow 13 = .ok (.aload_n 0, 1) := by decide +kernel
theorem dX6_basisRow_14 : decode cX6_basisRow 14 = .ok (.getfield 29, 3) := by decide +kernel
theorem dX6_basisRow_17 : decode cX6_basisRow 17 = .ok (.if_icmp .ge 21, 3) := by decide +kernel
theorem dX6_basisRow_20 : decode cX6_basisRow 20 = .ok (.lload_n 3, 1) := by decide +kernel
theorem dX6_basisRow_21 : decode cX6_basisRow 21 = .ok (.aload_n 0, 1) := by decide +kernel
theorem dX6_basisRow_22 : decode cX6_basisRow 22 = .ok (.iload 5, 2) := by decide +kernel
theorem dX6_basisRow_24 : decode cX6_basisRow 24 = .ok (.iload_n 2, 1) := by decide +kernel
theorem dX6_basisRow_25 : decode cX6_basisRow 25 = .ok (.invokevirtual 57, 3) := by decide +kernel
theorem dX6_basisRow_28 : decode cX6_basisRow 28 = .ok (.invokestatic 61, 3) := by decide +kernel
theorem dX6_basisRow_31 : decode cX6_basisRow 31 = .ok (.lstore_n 3, 1) := by decide +kernel
theorem dX6_basisRow_32 : decode cX6_basisRow 32 = .ok (.iinc 5 1, 3) := by decide +kernel
theorem dX6_basisRow_35 : decode cX6_basisRow 35 = .ok (.goto (-24), 3) := by decide +kernel
theorem dX6_basisRow_38 : decode cX6_basisRow 38 = .ok (.iconst 0, 1) := by decide +kernel
theorem dX6_basisRow_39 : decode cX6_basisRow 39 = .ok (.istore 5, 2) := by decide +kernel
theorem dX6_basisRow_41 : decode cX6_basisRow 41 = .ok (.iload 5, 2) := by decide +kernel
theorem dX6_basisRow_43 : decode cX6_basisRow 43 = .ok (.aload_n 0, 1) := by decide +kernel
theorem dX6_basisRow_44 : decode cX6_basisRow 44 = .ok (.getfield 7, 3) := by decide +kernel
theorem dX6_basisRow_47 : decode cX6_basisRow 47 = .ok (.if_icmp .ge 17, 3) := by decide +kernel
theorem dX6_basisRow_50 : decode cX6_basisRow 50 = .ok (.aload_n 0, 1) := by decide +kernel
theorem dX6_basisRow_51 : decode cX6_basisRow 51 = .ok (.getfield 26, 3) := by decide +kernel
theorem dX6_basisRow_54 : decode cX6_basisRow 54 = .ok (.iload 5, 2) := by decide +kernel
theorem dX6_basisRow_56 : decode cX6_basisRow 56 = .ok (.lconst 0, 1) := by decide +kernel
theorem dX6_basisRow_57 : decode cX6_basisRow 57 = .ok (.lastore, 1) := by decide +kernel
theorem dX6_basisRow_58 : decode cX6_basisRow 58 = .ok (.iinc 5 1, 3) := by decide +kernel
theorem dX6_basisRow_61 : decode cX6_basisRow 61 = .ok (.goto (-20), 3) := by decide +kernel
theorem dX6_basisRow_64 : decode cX6_basisRow 64 = .ok (.aload_n 0, 1) := by decide +kernel
theorem dX6_basisRow_65 : decode cX6_basisRow 65 = .ok (.getfield 26, 3) := by decide +kernel
theorem dX6_basisRow_68 : decode cX6_basisRow 68 = .ok (.iload_n 2, 1) := by decide +kernel
theorem dX6_basisRow_69 : decode cX6_basisRow 69 = .ok (.lload_n 3, 1) := by decide +kernel
theorem dX6_basisRow_70 : decode cX6_basisRow 70 = .ok (.lastore, 1) := by decide +kernel
theorem dX6_basisRow_71 : decode cX6_basisRow 71 = .ok (.iconst 0, 1) := by decide +kernel
theorem dX6_basisRow_72 : decode cX6_basisRow 72 = .ok (.istore 5, 2) := by decide +kernel
theorem dX6_basisRow_74 : decode cX6_basisRow 74 = .ok (.iload 5, 2) := by decide +kernel
theorem dX6_basisRow_76 : decode cX6_basisRow 76 = .ok (.aload_n 0, 1) := by decide +kernel
theorem dX6_basisRow_77 : decode cX6_basisRow 77 = .ok (.getfield 29, 3) := by decide +kernel
theorem dX6_basisRow_80 : decode cX6_basisRow 80 = .ok (.if_icmp .ge 60, 3) := by decide +kernel
theorem dX6_basisRow_83 : decode cX6_basisRow 83 = .ok (.aload_n 0, 1) := by decide +kernel
theorem dX6_basisRow_84 : decode cX6_basisRow 84 = .ok (.getfield 15, 3) := by decide +kernel
theorem dX6_basisRow_87 : decode cX6_basisRow 87 = .ok (.iload 5, 2) := by decide +kernel
theorem dX6_basisRow_89 : decode cX6_basisRow 89 = .ok (.aaload, 1) := by decide +kernel
theorem dX6_basisRow_90 : decode cX6_basisRow 90 = .ok (.aload_n 0, 1) := by decide +kernel
theorem dX6_basisRow_91 : decode cX6_basisRow 91 = .ok (.getfield 18, 3) := by decide +kernel
theorem dX6_basisRow_94 : decode cX6_basisRow 94 = .ok (.iload 5, 2) := by decide +kernel
theorem dX6_basisRow_96 : decode cX6_basisRow 96 = .ok (.iaload, 1) := by decide +kernel
theorem dX6_basisRow_97 : decode cX6_basisRow 97 = .ok (.laload, 1) := by decide +kernel
theorem dX6_basisRow_98 : decode cX6_basisRow 98 = .ok (.lstore 6, 2) := by decide +kernel
theorem dX6_basisRow_100 : decode cX6_basisRow 100 = .ok (.lload 6, 2) := by decide +kernel
theorem dX6_basisRow_102 : decode cX6_basisRow 102 = .ok (.lconst 0, 1) := by decide +kernel
theorem dX6_basisRow_103 : decode cX6_basisRow 103 = .ok (.lcmp, 1) := by decide +kernel
theorem dX6_basisRow_104 : decode cX6_basisRow 104 = .ok (.ifCond .eq 30, 3) := by decide +kernel
theorem dX6_basisRow_107 : decode cX6_basisRow 107 = .ok (.aload_n 0, 1) := by decide +kernel
theorem dX6_basisRow_108 : decode cX6_basisRow 108 = .ok (.getfield 26, 3) := by decide +kernel
theorem dX6_basisRow_111 : decode cX6_basisRow 111 = .ok (.aload_n 0, 1) := by decide +kernel
theorem dX6_basisRow_112 : decode cX6_basisRow 112 = .ok (.getfield 18, 3) := by decide +kernel
theorem dX6_basisRow_115 : decode cX6_basisRow 115 = .ok (.iload 5, 2) := by decide +kernel
theorem dX6_basisRow_117 : decode cX6_basisRow 117 = .ok (.iaload, 1) := by decide +kernel
theorem dX6_basisRow_118 : decode cX6_basisRow 118 = .ok (.aload_n 0, 1) := by decide +kernel
theorem dX6_basisRow_119 : decode cX6_basisRow 119 = .ok (.getfield 15, 3) := by decide +kernel
theorem dX6_basisRow_122 : decode cX6_basisRow 122 = .ok (.iload 5, 2) := by decide +kernel
theorem dX6_basisRow_124 : decode cX6_basisRow 124 = .ok (.aaload, 1) := by decide +kernel
theorem dX6_basisRow_125 : decode cX6_basisRow 125 = .ok (.iload_n 2, 1) := by decide +kernel
theorem dX6_basisRow_126 : decode cX6_basisRow 126 = .ok (.laload, 1) := by decide +kernel
theorem dX6_basisRow_127 : decode cX6_basisRow 127 = .ok (.lload_n 3, 1) := by decide +kernel
theorem dX6_basisRow_128 : decode cX6_basisRow 128 = .ok (.lmul, 1) := by decide +kernel
theorem dX6_basisRow_129 : decode cX6_basisRow 129 = .ok (.lload 6, 2) := by decide +kernel
theorem dX6_basisRow_131 : decode cX6_basisRow 131 = .ok (.ldiv, 1) := by decide +kernel
theorem dX6_basisRow_132 : decode cX6_basisRow 132 = .ok (.lneg, 1) := by decide +kernel
theorem dX6_basisRow_133 : decode cX6_basisRow 133 = .ok (.lastore, 1) := by decide +kernel
theorem dX6_basisRow_134 : decode cX6_basisRow 134 = .ok (.iinc 5 1, 3) := by decide +kernel
theorem dX6_basisRow_137 : decode cX6_basisRow 137 = .ok (.goto (-63), 3) := by decide +kernel
theorem dX6_basisRow_140 : decode cX6_basisRow 140 = .ok (.aload_n 0, 1) := by decide +kernel
theorem dX6_basisRow_141 : decode cX6_basisRow 141 = .ok (.getfield 26, 3) := by decide +kernel
theorem dX6_basisRow_144 : decode cX6_basisRow 144 = .ok (.areturn, 1) := by decide +kernel
theorem dX6_shortLead_0 : decode cX6_shortLead 0 = .ok (.aload_n 0, 1) := by decide +kernel
theorem dX6_shortLead_1 : decode cX6_shortLead 1 = .ok (.getfield 15, 3) := by decide +kernel
theorem dX6_shortLead_4 : decode cX6_shortLead 4 = .ok (.iload_n 1, 1) := by decide +kernel
theorem dX6_shortLead_5 : decode cX6_shortLead 5 = .ok (.aaload, 1) := by decide +kernel
theorem dX6_shortLead_6 : decode cX6_shortLead 6 = .ok (.aload_n 0, 1) := by decide +kernel
theorem dX6_shortLead_7 : decode cX6_shortLead 7 = .ok (.getfield 18, 3) := by decide +kernel
theorem dX6_shortLead_10 : decode cX6_shortLead 10 = .ok (.iload_n 1, 1) := by decide +kernel
theorem dX6_shortLead_11 : decode cX6_shortLead 11 = .ok (.iaload, 1) := by decide +kernel
theorem dX6_shortLead_12 : decode cX6_shortLead 12 = .ok (.laload, 1) := by decide +kernel
theorem dX6_shortLead_13 : decode cX6_shortLead 13 = .ok (.lstore_n 3, 1) := by decide +kernel
theorem dX6_shortLead_14 : decode cX6_shortLead 14 = .ok (.lload_n 3, 1) := by decide +kernel
theorem dX6_shortLead_15 : decode cX6_shortLead 15 = .ok (.aload_n 0, 1) := by decide +kernel
theorem dX6_shortLead_16 : decode cX6_shortLead 16 = .ok (.getfield 15, 3) := by decide +kernel
theorem dX6_shortLead_19 : decode cX6_shortLead 19 = .ok (.iload_n 1, 1) := by decide +kernel
theorem dX6_shortLead_20 : decode cX6_shortLead 20 = .ok (.aaload, 1) := by decide +kernel
theorem dX6_shortLead_21 : decode cX6_shortLead 21 = .ok (.iload_n 2, 1) := by decide +kernel
theorem dX6_shortLead_22 : decode cX6_shortLead 22 = .ok (.laload, 1) := by decide +kernel
theorem dX6_shortLead_23 : decode cX6_shortLead 23 = .ok (.invokestatic 48, 3) := by decide +kernel
theorem dX6_shortLead_26 : decode cX6_shortLead 26 = .ok (.lstore 5, 2) := by decide +kernel
theorem dX6_shortLead_28 : decode cX6_shortLead 28 = .ok (.lload 5, 2) := by decide +kernel
theorem dX6_shortLead_30 : decode cX6_shortLead 30 = .ok (.lconst 0, 1) := by decide +kernel
theorem dX6_shortLead_31 : decode cX6_shortLead 31 = .ok (.lcmp, 1) := by decide +kernel
theorem dX6_shortLead_32 : decode cX6_shortLead 32 = .ok (.ifCond .le 10, 3) := by decide +kernel
theorem dX6_shortLead_35 : decode cX6_shortLead 35 = .ok (.lload_n 3, 1) := by decide +kernel
theorem dX6_shortLead_36 : decode cX6_shortLead 36 = .ok (.lload 5, 2) := by decide +kernel
theorem dX6_shortLead_38 : decode cX6_shortLead 38 = .ok (.ldiv, 1) := by decide +kernel
theorem dX6_shortLead_39 : decode cX6_shortLead 39 = .ok (.goto 4, 3) := by decide +kernel
theorem dX6_shortLead_42 : decode cX6_shortLead 42 = .ok (.lconst 1, 1) := by decide +kernel
theorem dX6_shortLead_43 : decode cX6_shortLead 43 = .ok (.lreturn, 1) := by decide +kernel
theorem dX6_commonMultiple_0 : decode cX6_commonMultiple 0 = .ok (.lload_n 0, 1) := by decide +kernel
theorem dX6_commonMultiple_1 : decode cX6_commonMultiple 1 = .ok (.lload_n 2, 1) := by decide +kernel
theorem dX6_commonMultiple_2 : decode cX6_commonMultiple 2 = .ok (.invokestatic 48, 3) := by decide +kernel
theorem dX6_commonMultiple_5 : decode cX6_commonMultiple 5 = .ok (.lstore 4, 2) := by decide +kernel
theorem dX6_commonMultiple_7 : decode cX6_commonMultiple 7 = .ok (.lload 4, 2) := by decide +kernel
theorem dX6_commonMultiple_9 : decode cX6_commonMultiple 9 = .ok (.lconst 0, 1) := by decide +kernel
theorem dX6_commonMultiple_10 : decode cX6_commonMultiple 10 = .ok (.lcmp, 1) := by decide +kernel
theorem dX6_commonMultiple_11 : decode cX6_commonMultiple 11 = .ok (.ifCond .le 12, 3) := by decide +kernel
theorem dX6_commonMultiple_14 : decode cX6_commonMultiple 14 = .ok (.lload_n 0, 1) := by decide +kernel
theorem dX6_commonMultiple_15 : decode cX6_commonMultiple 15 = .ok (.lload 4, 2) := by decide +kernel
theorem dX6_commonMultiple_17 : decode cX6_commonMultiple 17 = .ok (.ldiv, 1) := by decide +kernel
theorem dX6_commonMultiple_18 : decode cX6_commonMultiple 18 = .ok (.lload_n 2, 1) := by decide +kernel
theorem dX6_commonMultiple_19 : decode cX6_commonMultiple 19 = .ok (.lmul, 1) := by decide +kernel
theorem dX6_commonMultiple_20 : decode cX6_commonMultiple 20 = .ok (.goto 4, 3) := by decide +kernel
theorem dX6_commonMultiple_23 : decode cX6_commonMultiple 23 = .ok (.lconst 1, 1) := by decide +kernel
theorem dX6_commonMultiple_24 : decode cX6_commonMultiple 24 = .ok (.lreturn, 1) := by decide +kernel
theorem dX6_isZeroOnAll_0 : decode cX6_isZeroOnAll 0 = .ok (.iconst 0, 1) := by decide +kernel
theorem dX6_isZeroOnAll_1 : decode cX6_isZeroOnAll 1 = .ok (.istore_n 2, 1) := by decide +kernel
theorem dX6_isZeroOnAll_2 : decode cX6_isZeroOnAll 2 = .ok (.iload_n 2, 1) := by decide +kernel
theorem dX6_isZeroOnAll_3 : decode cX6_isZeroOnAll 3 = .ok (.aload_n 0, 1) := by decide +kernel
theorem dX6_isZeroOnAll_4 : decode cX6_isZeroOnAll 4 = .ok (.getfield 29, 3) := by decide +kernel
theorem dX6_isZeroOnAll_7 : decode cX6_isZeroOnAll 7 = .ok (.if_icmp .ge 54, 3) := by decide +kernel
theorem dX6_isZeroOnAll_10 : decode cX6_isZeroOnAll 10 = .ok (.lconst 0, 1) := by decide +kernel
theorem dX6_isZeroOnAll_11 : decode cX6_isZeroOnAll 11 = .ok (.lstore_n 3, 1) := by decide +kernel
theorem dX6_isZeroOnAll_12 : decode cX6_isZeroOnAll 12 = .ok (.iconst 0, 1) := by decide +kernel
theorem dX6_isZeroOnAll_13 : decode cX6_isZeroOnAll 13 = .ok (.istore 5, 2) := by decide +kernel
theorem dX6_isZeroOnAll_15 : decode cX6_isZeroOnAll 15 = .ok (.iload 5, 2) := by decide +kernel
theorem dX6_isZeroOnAll_17 : decode cX6_isZeroOnAll 17 = .ok (.aload_n 0, 1) := by decide +kernel
theorem dX6_isZeroOnAll_18 : decode cX6_isZeroOnAll 18 = .ok (.getfield 7, 3) := by decide +kernel
theorem dX6_isZeroOnAll_21 : decode cX6_isZeroOnAll 21 = .ok (.if_icmp .ge 26, 3) := by decide +kernel
theorem dX6_isZeroOnAll_24 : decode cX6_isZeroOnAll 24 = .ok (.lload_n 3, 1) := by decide +kernel
theorem dX6_isZeroOnAll_25 : decode cX6_isZeroOnAll 25 = .ok (.aload_n 1, 1) := by decide +kernel
theorem dX6_isZeroOnAll_26 : decode cX6_isZeroOnAll 26 = .ok (.iload 5, 2) := by decide +kernel
theorem dX6_isZeroOnAll_28 : decode cX6_isZeroOnAll 28 = .ok (.laload, 1) := by decide +kernel
theorem dX6_isZeroOnAll_29 : decode cX6_isZeroOnAll 29 = .ok (.aload_n 0, 1) := by decide +kernel
theorem dX6_isZeroOnAll_30 : decode cX6_isZeroOnAll 30 = .ok (.getfield 15, 3) := by decide +kernel
theorem dX6_isZeroOnAll_33 : decode cX6_isZeroOnAll 33 = .ok (.iload_n 2, 1) := by decide +kernel
theorem dX6_isZeroOnAll_34 : decode cX6_isZeroOnAll 34 = .ok (.aaload, 1) := by decide +kernel
theorem dX6_isZeroOnAll_35 : decode cX6_isZeroOnAll 35 = .ok (.iload 5, 2) := by decide +kernel
theorem dX6_isZeroOnAll_37 : decode cX6_isZeroOnAll 37 = .ok (.laload, 1) := by decide +kernel
theorem dX6_isZeroOnAll_38 : decode cX6_isZeroOnAll 38 = .ok (.lmul, 1) := by decide +kernel
theorem dX6_isZeroOnAll_39 : decode cX6_isZeroOnAll 39 = .ok (.ladd, 1) := by decide +kernel
theorem dX6_isZeroOnAll_40 : decode cX6_isZeroOnAll 40 = .ok (.lstore_n 3, 1) := by decide +kernel
theorem dX6_isZeroOnAll_41 : decode cX6_isZeroOnAll 41 = .ok (.iinc 5 1, 3) := by decide +kernel
theorem dX6_isZeroOnAll_44 : decode cX6_isZeroOnAll 44 = .ok (.goto (-29), 3) := by decide +kernel
theorem dX6_isZeroOnAll_47 : decode cX6_isZeroOnAll 47 = .ok (.lload_n 3, 1) := by decide +kernel
theorem dX6_isZeroOnAll_48 : decode cX6_isZeroOnAll 48 = .ok (.lconst 0, 1) := by decide +kernel
theorem dX6_isZeroOnAll_49 : decode cX6_isZeroOnAll 49 = .ok (.lcmp, 1) := by decide +kernel
theorem dX6_isZeroOnAll_50 : decode cX6_isZeroOnAll 50 = .ok (.ifCond .eq 5, 3) := by decide +kernel
theorem dX6_isZeroOnAll_53 : decode cX6_isZeroOnAll 53 = .ok (.iconst 0, 1) := by decide +kernel
theorem dX6_isZeroOnAll_54 : decode cX6_isZeroOnAll 54 = .ok (.ireturn, 1) := by decide +kernel
theorem dX6_isZeroOnAll_55 : decode cX6_isZeroOnAll 55 = .ok (.iinc 2 1, 3) := by decide +kernel
theorem dX6_isZeroOnAll_58 : decode cX6_isZeroOnAll 58 = .ok (.goto (-56), 3) := by decide +kernel
theorem dX6_isZeroOnAll_61 : decode cX6_isZeroOnAll 61 = .ok (.iconst 1, 1) := by decide +kernel
theorem dX6_isZeroOnAll_62 : decode cX6_isZeroOnAll 62 = .ok (.ireturn, 1) := by decide +kernel
theorem dX7_init_0 : decode cX7_init 0 = .ok (.aload_n 0, 1) := by decide +kernel
theorem dX7_init_1 : decode cX7_init 1 = .ok (.invokespecial 1, 3) := by decide +kernel
theorem dX7_init_4 : decode cX7_init 4 = .ok (.aload_n 0, 1) := by decide +kernel
theorem dX7_init_5 : decode cX7_init 5 = .ok (.new 7, 3) := by decide +kernel
theorem dX7_init_8 : decode cX7_init 8 = .ok (.dup, 1) := by decide +kernel
theorem dX7_init_9 : decode cX7_init 9 = .ok (.invokespecial 9, 3) := by decide +kernel
theorem dX7_init_12 : decode cX7_init 12 = .ok (.putfield 10, 3) := by decide +kernel
theorem dX7_init_15 : decode cX7_init 15 = .ok (.aload_n 0, 1) := by decide +kernel
theorem dX7_init_16 : decode cX7_init 16 = .ok (.new 16, 3) := by decide +kernel
theorem dX7_init_19 : decode cX7_init 19 = .ok (.dup, 1) := by decide +kernel
theorem dX7_init_20 : decode cX7_init 20 = .ok (.aload_n 0, 1) := by decide +kernel
theorem dX7_init_21 : decode cX7_init 21 = .ok (.getfield 10, 3) := by decide +kernel
theorem dX7_init_24 : decode cX7_init 24 = .ok (.invokespecial 18, 3) := by decide +kernel
theorem dX7_init_27 : decode cX7_init 27 = .ok (.putfield 21, 3) := by decide +kernel
theorem dX7_init_30 : decode cX7_init 30 = .ok (.aload_n 0, 1) := by decide +kernel
theorem dX7_init_31 : decode cX7_init 31 = .ok (.iconst 4, 1) := by decide +kernel
theorem dX7_init_32 : decode cX7_init 32 = .ok (.newarray .int, 2) := by decide +kernel
theorem dX7_init_34 : decode cX7_init 34 = .ok (.putfield 25, 3) := by decide +kernel
theorem dX7_init_37 : decode cX7_init 37 = .ok (.aload_n 0, 1) := by decide +kernel
theorem dX7_init_38 : decode cX7_init 38 = .ok (.iconst 4, 1) := by decide +kernel
theorem dX7_init_39 : decode cX7_init 39 = .ok (.newarray .int, 2) := by decide +kernel
theorem dX7_init_41 : decode cX7_init 41 = .ok (.putfield 29, 3) := by decide +kernel
theorem dX7_init_44 : decode cX7_init 44 = .ok (.aload_n 0, 1) := by decide +kernel
theorem dX7_init_45 : decode cX7_init 45 = .ok (.bipush 60, 2) := by decide +kernel
theorem dX7_init_47 : decode cX7_init 47 = .ok (.newarray .int, 2) := by decide +kernel
theorem dX7_init_49 : decode cX7_init 49 = .ok (.putfield 32, 3) := by decide +kernel
theorem dX7_init_52 : decode cX7_init 52 = .ok (.aload_n 0, 1) := by decide +kernel
theorem dX7_init_53 : decode cX7_init 53 = .ok (.sipush 180, 3) := by decide +kernel
theorem dX7_init_56 : decode cX7_init 56 = .ok (.newarray .int, 2) := by decide +kernel
theorem dX7_init_58 : decode cX7_init 58 = .ok (.putfield 35, 3) := by decide +kernel
theorem dX7_init_61 : decode cX7_init 61 = .ok (.aload_n 0, 1) := by decide +kernel
theorem dX7_init_62 : decode cX7_init 62 = .ok (.iconst 0, 1) := by decide +kernel
theorem dX7_init_63 : decode cX7_init 63 = .ok (.putfield 38, 3) := by decide +kernel
theorem dX7_init_66 : decode cX7_init 66 = .ok (.return_, 1) := by decide +kernel
theorem dX7_point_0 : decode cX7_point 0 = .ok (.iload_n 1, 1) := by decide +kernel
theorem dX7_point_1 : decode cX7_point 1 = .ok (.iconst 1, 1) := by decide +kernel
theorem dX7_point_2 : decode cX7_point 2 = .ok (.if_icmp .lt 8, 3) := by decide +kernel
theorem dX7_point_5 : decode cX7_point 5 = .ok (.iload_n 1, 1) := by decide +kernel
theorem dX7_point_6 : decode cX7_point 6 = .ok (.iconst 4, 1) := by decide +kernel
theorem dX7_point_7 : decode cX7_point 7 = .ok (.if_icmp .le 6, 3) := by decide +kernel
theorem dX7_point_10 : decode cX7_point 10 = .ok (.bipush (-2), 2) := by decide +kernel
theorem dX7_point_12 : decode cX7_point 12 = .ok (.ireturn, 1) := by decide +kernel
theorem dX7_point_13 : decode cX7_point 13 = .ok (.aload_n 0, 1) := by decide +kernel
theorem dX7_point_14 : decode cX7_point 14 = .ok (.getfield 10, 3) := by decide +kernel
theorem dX7_point_17 : decode cX7_point 17 = .ok (.iload_n 1, 1) := by decide +kernel
theorem dX7_point_18 : decode cX7_point 18 = .ok (.invokevirtual 42, 3) := by decide +kernel
theorem dX7_point_21 : decode cX7_point 21 = .ok (.ireturn, 1) := by decide +kernel
theorem dX7_split_0 : decode cX7_split 0 = .ok (.aload_n 0, 1) := by decide +kernel
theorem dX7_split_1 : decode cX7_split 1 = .ok (.getfield 10, 3) := by decide +kernel
theorem dX7_split_4 : decode cX7_split 4 = .ok (.iload_n 1, 1) := by decide +kernel
theorem dX7_split_5 : decode cX7_split 5 = .ok (.invokevirtual 46, 3) := by decide +kernel
theorem dX7_split_8 : decode cX7_split 8 = .ok (.astore 4, 2) := by decide +kernel
theorem dX7_split_10 : decode cX7_split 10 = .ok (.aload 4, 2) := by decide +kernel
theorem dX7_split_12 : decode cX7_split 12 = .ok (.ifnull 12, 3) := by decide +kernel
theorem dX7_split_15 : decode cX7_split 15 = .ok (.aload 4, 2) := by decide +kernel
theorem dX7_split_17 : decode cX7_split 17 = .ok (.iload_n 2, 1) := by decide +kernel
theorem dX7_split_18 : decode cX7_split 18 = .ok (.invokevirtual 50, 3) := by decide +kernel
theorem dX7_split_21 : decode cX7_split 21 = .ok (.ifCond .ne 5, 3) := by decide +kernel
theorem dX7_split_24 : decode cX7_split 24 = .ok (.iconst (-1), 1) := by decide +kernel
theorem dX7_split_25 : decode cX7_split 25 = .ok (.ireturn, 1) := by decide +kernel
theorem dX7_split_26 : decode cX7_split 26 = .ok (.iload_n 3, 1) := by decide +kernel
theorem dX7_split_27 : decode cX7_split 27 = .ok (.bipush 30, 2) := by decide +kernel
theorem dX7_split_29 : decode cX7_split 29 = .ok (.invokestatic 56, 3) := by decide +kernel
theorem dX7_split_32 : decode cX7_split 32 = .ok (.ifCond .ne 6, 3) := by decide +kernel
theorem dX7_split_35 : decode cX7_split 35 = .ok (.bipush (-2), 2) := by decide +kernel
theorem dX7_split_37 : decode cX7_split 37 = .ok (.ireturn, 1) := by decide +kernel
theorem dX7_split_38 : decode cX7_split 38 = .ok (.aload 4, 2) := by decide +kernel
theorem dX7_split_40 : decode cX7_split 40 = .ok (.iload_n 2, 1) := by decide +kernel
theorem dX7_split_41 : decode cX7_split 41 = .ok (.iload_n 3, 1) := by decide +kernel
theorem dX7_split_42 : decode cX7_split 42 = .ok (.invokevirtual 60, 3) := by decide +kernel
theorem dX7_split_45 : decode cX7_split 45 = .ok (.aload 4, 2) := by decide +kernel
theorem dX7_split_47 : decode cX7_split 47 = .ok (.getfield 64, 3) := by decide +kernel
theorem dX7_split_50 : decode cX7_split 50 = .ok (.iconst 1, 1) := by decide +kernel
theorem dX7_split_51 : decode cX7_split 51 = .ok (.aaload, 1) := by decide +kernel
theorem dX7_split_52 : decode cX7_split 52 = .ok (.getfield 68, 3) := by decide +kernel
theorem dX7_split_55 : decode cX7_split 55 = .ok (.ireturn, 1) := by decide +kernel
theorem dX7_read_0 : decode cX7_read 0 = .ok (.aload_n 0, 1) := by decide +kernel
theorem dX7_read_1 : decode cX7_read 1 = .ok (.getfield 10, 3) := by decide +kernel
theorem dX7_read_4 : decode cX7_read 4 = .ok (.iload_n 1, 1) := by decide +kernel
theorem dX7_read_5 : decode cX7_read 5 = .ok (.invokevirtual 46, 3) := by decide +kernel
theorem dX7_read_8 : decode cX7_read 8 = .ok (.astore 6, 2) := by decide +kernel
theorem dX7_read_10 : decode cX7_read 10 = .ok (.aload 6, 2) := by decide +kernel
theorem dX7_read_12 : decode cX7_read 12 = .ok (.ifnonnull 5, 3) := by decide +kernel
theorem dX7_read_15 : decode cX7_read 15 = .ok (.iconst (-1), 1) := by decide +kernel
theorem dX7_read_16 : decode cX7_read 16 = .ok (.ireturn, 1) := by decide +kernel
theorem dX7_read_17 : decode cX7_read 17 = .ok (.aload_n 0, 1) := by decide +kernel
theorem dX7_read_18 : decode cX7_read 18 = .ok (.getfield 25, 3) := by decide +kernel
theorem dX7_read_21 : decode cX7_read 21 = .ok (.iload_n 2, 1) := by decide +kernel
theorem dX7_read_22 : decode cX7_read 22 = .ok (.iload_n 3, 1) := by decide +kernel
theorem dX7_read_23 : decode cX7_read 23 = .ok (.iload 4, 2) := by decide +kernel
theorem dX7_read_25 : decode cX7_read 25 = .ok (.iload 5, 2) := by decide +kernel
theorem dX7_read_27 : decode cX7_read 27 = .ok (.invokestatic 73, 3) := by decide +kernel
theorem dX7_read_30 : decode cX7_read 30 = .ok (.aload_n 0, 1) := by decide +kernel
theorem dX7_read_31 : decode cX7_read 31 = .ok (.getfield 25, 3) := by decide +kernel
theorem dX7_read_34 : decode cX7_read 34 = .ok (.aload 6, 2) := by decide +kernel
theorem dX7_read_36 : decode cX7_read 36 = .ok (.getfield 77, 3) := by decide +kernel
theorem dX7_read_39 : decode cX7_read 39 = .ok (.bipush 30, 2) := by decide +kernel
theorem dX7_read_41 : decode cX7_read 41 = .ok (.invokestatic 80, 3) := by decide +kernel
theorem dX7_read_44 : decode cX7_read 44 = .ok (.ifCond .ne 6, 3) := by decide +kernel
theorem dX7_read_47 : decode cX7_read 47 = .ok (.bipush (-2), 2) := by decide +kernel
theorem dX7_read_49 : decode cX7_read 49 = .ok (.ireturn, 1) := by decide +kernel
theorem dX7_read_50 : decode cX7_read 50 = .ok (.aload_n 0, 1) := by decide +kernel
theorem dX7_read_51 : decode cX7_read 51 = .ok (.aload 6, 2) := by decide +kernel
theorem dX7_read_53 : decode cX7_read 53 = .ok (.aload_n 0, 1) := by decide +kernel
theorem dX7_read_54 : decode cX7_read 54 = .ok (.getfield 25, 3) := by decide +kernel
theorem dX7_read_57 : decode cX7_read 57 = .ok (.invokevirtual 84, 3) := by decide +kernel
theorem dX7_read_60 : decode cX7_read 60 = .ok (.ireturn, 1) := by decide +kernel
theorem dX7_died_0 : decode cX7_died 0 = .ok (.iload_n 1, 1) := by decide +kernel
theorem dX7_died_1 : decode cX7_died 1 = .ok (.ifCond .lt 20, 3) := by decide +kernel
theorem dX7_died_4 : decode cX7_died 4 = .ok (.iload_n 1, 1) := by decide +kernel
theorem dX7_died_5 : decode cX7_died 5 = .ok (.aload_n 0, 1) := by decide +kernel
theorem dX7_died_6 : decode cX7_died 6 = .ok (.getfield 38, 3) := by decide +kernel
theorem dX7_died_9 : decode cX7_died 9 = .ok (.if_icmp .ge 12, 3) := by decide +kernel
theorem dX7_died_12 : decode cX7_died 12 = .ok (.aload_n 0, 1) := by decide +kernel
theorem dX7_died_13 : decode cX7_died 13 = .ok (.getfield 35, 3) := by decide +kernel
theorem dX7_died_16 : decode cX7_died 16 = .ok (.iload_n 1, 1) := by decide +kernel
theorem dX7_died_17 : decode cX7_died 17 = .ok (.iaload, 1) := by decide +kernel
theorem dX7_died_18 : decode cX7_died 18 = .ok (.goto 4, 3) := by decide +kernel
theorem dX7_died_21 : decode cX7_died 21 = .ok (.iconst (-1), 1) := by decide +kernel
theorem dX7_died_22 : decode cX7_died 22 = .ok (.ireturn, 1) := by decide +kernel
theorem dX7_reading_0 : decode cX7_reading 0 = .ok (.aload_n 0, 1) := by decide +kernel
theorem dX7_reading_1 : decode cX7_reading 1 = .ok (.getfield 10, 3) := by decide +kernel
theorem dX7_reading_4 : decode cX7_reading 4 = .ok (.iload_n 1, 1) := by decide +kernel
theorem dX7_reading_5 : decode cX7_reading 5 = .ok (.invokevirtual 46, 3) := by decide +kernel
theorem dX7_reading_8 : decode cX7_reading 8 = .ok (.astore 4, 2) := by decide +kernel
theorem dX7_reading_10 : decode cX7_reading 10 = .ok (.aload 4, 2) := by decide +kernel
theorem dX7_reading_12 : decode cX7_reading 12 = .ok (.ifnull 25, 3) := by decide +kernel
theorem dX7_reading_15 : decode cX7_reading 15 = .ok (.iload_n 2, 1) := by decide +kernel
theorem dX7_reading_16 : decode cX7_reading 16 = .ok (.ifCond .lt 21, 3) := by decide +kernel
theorem dX7_reading_19 : decode cX7_reading 19 = .ok (.iload_n 2, 1) := by decide +kernel
theorem dX7_reading_20 : decode cX7_reading 20 = .ok (.aload 4, 2) := by decide +kernel
theorem dX7_reading_22 : decode cX7_reading 22 = .ok (.getfield 88, 3) := by decide +kernel
theorem dX7_reading_25 : decode cX7_reading 25 = .ok (.if_icmp .ge 12, 3) := by decide +kernel
theorem dX7_reading_28 : decode cX7_reading 28 = .ok (.aload 4, 2) := by decide +kernel
theorem dX7_reading_30 : decode cX7_reading 30 = .ok (.iload_n 3, 1) := by decide +kernel
theorem dX7_reading_31 : decode cX7_reading 31 = .ok (.invokevirtual 50, 3) := by decide +kernel
theorem dX7_reading_34 : decode cX7_reading 34 = .ok (.ifCond .ne 6, 3) := by decide +kernel
theorem dX7_reading_37 : decode cX7_reading 37 = .ok (.bipush (-9), 2) := by decide +kernel
theorem dX7_reading_39 : decode cX7_reading 39 = .ok (.ireturn, 1) := by decide +kernel
theorem dX7_reading_40 : decode cX7_reading 40 = .ok (.aload 4, 2) := by decide +kernel
theorem dX7_reading_42 : decode cX7_reading 42 = .ok (.getfield 89, 3) := by decide +kernel
theorem dX7_reading_45 : decode cX7_reading 45 = .ok (.iload_n 2, 1) := by decide +kernel
theorem dX7_reading_46 : decode cX7_reading 46 = .ok (.aaload, 1) := by decide +kernel
theorem dX7_reading_47 : decode cX7_reading 47 = .ok (.iload_n 3, 1) := by decide +kernel
theorem dX7_reading_48 : decode cX7_reading 48 = .ok (.iaload, 1) := by decide +kernel
theorem dX7_reading_49 : decode cX7_reading 49 = .ok (.ireturn, 1) := by decide +kernel
theorem dX7_tried_0 : decode cX7_tried 0 = .ok (.aload_n 0, 1) := by decide +kernel
theorem dX7_tried_1 : decode cX7_tried 1 = .ok (.getfield 10, 3) := by decide +kernel
theorem dX7_tried_4 : decode cX7_tried 4 = .ok (.iload_n 1, 1) := by decide +kernel
theorem dX7_tried_5 : decode cX7_tried 5 = .ok (.iload_n 2, 1) := by decide +kernel
theorem dX7_tried_6 : decode cX7_tried 6 = .ok (.invokevirtual 93, 3) := by decide +kernel
theorem dX7_tried_9 : decode cX7_tried 9 = .ok (.astore_n 3, 1) := by decide +kernel
theorem dX7_tried_10 : decode cX7_tried 10 = .ok (.aload_n 3, 1) := by decide +kernel
theorem dX7_tried_11 : decode cX7_tried 11 = .ok (.ifnonnull 7, 3) := by decide +kernel
theorem dX7_tried_14 : decode cX7_tried 14 = .ok (.iconst (-1), 1) := by decide +kernel
theorem dX7_tried_15 : decode cX7_tried 15 = .ok (.goto 7, 3) := by decide +kernel
theorem dX7_tried_18 : decode cX7_tried 18 = .ok (.aload_n 3, 1) := by decide +kernel
theorem dX7_tried_19 : decode cX7_tried 19 = .ok (.getfield 68, 3) := by decide +kernel
theorem dX7_tried_22 : decode cX7_tried 22 = .ok (.ireturn, 1) := by decide +kernel
theorem dX7_holds_0 : decode cX7_holds 0 = .ok (.aload_n 0, 1) := by decide +kernel
theorem dX7_holds_1 : decode cX7_holds 1 = .ok (.getfield 10, 3) := by decide +kernel
theorem dX7_holds_4 : decode cX7_holds 4 = .ok (.iload_n 1, 1) := by decide +kernel
theorem dX7_holds_5 : decode cX7_holds 5 = .ok (.iload_n 2, 1) := by decide +kernel
theorem dX7_holds_6 : decode cX7_holds 6 = .ok (.invokevirtual 93, 3) := by decide +kernel
theorem dX7_holds_9 : decode cX7_holds 9 = .ok (.astore 6, 2) := by decide +kernel
theorem dX7_holds_11 : decode cX7_holds 11 = .ok (.aload 6, 2) := by decide +kernel
theorem dX7_holds_13 : decode cX7_holds 13 = .ok (.ifnull 13, 3) := by decide +kernel
theorem dX7_holds_16 : decode cX7_holds 16 = .ok (.aload 6, 2) := by decide +kernel
theorem dX7_holds_18 : decode cX7_holds 18 = .ok (.iload 4, 2) := by decide +kernel
theorem dX7_holds_20 : decode cX7_holds 20 = .ok (.invokevirtual 97, 3) := by decide +kernel
theorem dX7_holds_23 : decode cX7_holds 23 = .ok (.ifCond .ne 5, 3) := by decide +kernel
theorem dX7_holds_26 : decode cX7_holds 26 = .ok (.iconst (-1), 1) := by decide +kernel
theorem dX7_holds_27 : decode cX7_holds 27 = .ok (.ireturn, 1) := by decide +kernel
theorem dX7_holds_28 : decode cX7_holds 28 = .ok (.iconst 0, 1) := by decide +kernel
theorem dX7_holds_29 : decode cX7_holds 29 = .ok (.istore 7, 2) := by decide +kernel
theorem dX7_holds_31 : decode cX7_holds 31 = .ok (.iload_n 3, 1) := by decide +kernel
theorem dX7_holds_32 : decode cX7_holds 32 = .ok (.invokestatic 98, 3) := by decide +kernel
theorem dX7_holds_35 : decode cX7_holds 35 = .ok (.ifCond .eq 19, 3) := by decide +kernel
theorem dX7_holds_38 : decode cX7_holds 38 = .ok (.aload 6, 2) := by decide +kernel
theorem dX7_holds_40 : decode cX7_holds 40 = .ok (.iload 5, 2) := by decide +kernel
theorem dX7_holds_42 : decode cX7_holds 42 = .ok (.invokevirtual 97, 3) := by decide +kernel
theorem dX7_holds_45 : decode cX7_holds 45 = .ok (.ifCond .ne 5, 3) := by decide +kernel
theorem dX7_holds_48 : decode cX7_holds 48 = .ok (.iconst (-1), 1) := by decide +kernel
theorem dX7_holds_49 : decode cX7_holds 49 = .ok (.ireturn, 1) := by decide +kernel
theorem dX7_holds_50 : decode cX7_holds 50 = .ok (.iload 5, 2) := by decide +kernel
theorem dX7_holds_52 : decode cX7_holds 52 = .ok (.istore 7, 2) := by decide +kernel
theorem dX7_holds_54 : decode cX7_holds 54 = .ok (.iload_n 3, 1) := by decide +kernel
theorem dX7_holds_55 : decode cX7_holds 55 = .ok (.iload 4, 2) := by decide +kernel
theorem dX7_holds_57 : decode cX7_holds 57 = .ok (.iload 7, 2) := by decide +kernel
theorem dX7_holds_59 : decode cX7_holds 59 = .ok (.invokestatic 101, 3) := by decide +kernel
theorem dX7_holds_62 : decode cX7_holds 62 = .ok (.ifCond .ne 6, 3) := by decide +kernel
theorem dX7_holds_65 : decode cX7_holds 65 = .ok (.bipush (-2), 2) := by decide +kernel
theorem dX7_holds_67 : decode cX7_holds 67 = .ok (.ireturn, 1) := by decide +kernel
theorem dX7_holds_68 : decode cX7_holds 68 = .ok (.aload 6, 2) := by decide +kernel
theorem dX7_holds_70 : decode cX7_holds 70 = .ok (.getfield 68, 3) := by decide +kernel
theorem dX7_holds_73 : decode cX7_holds 73 = .ok (.ifCond .ne 6, 3) := by decide +kernel
theorem dX7_holds_76 : decode cX7_holds 76 = .ok (.bipush (-9), 2) := by decide +kernel
theorem dX7_holds_78 : decode cX7_holds 78 = .ok (.ireturn, 1) := by decide +kernel
theorem dX7_holds_79 : decode cX7_holds 79 = .ok (.aload 6, 2) := by decide +kernel
theorem dX7_holds_81 : decode cX7_holds 81 = .ok (.iload_n 3, 1) := by decide +kernel
theorem dX7_holds_82 : decode cX7_holds 82 = .ok (.iload 4, 2) := by decide +kernel
theorem dX7_holds_84 : decode cX7_holds 84 = .ok (.iload 7, 2) := by decide +kernel
theorem dX7_holds_86 : decode cX7_holds 86 = .ok (.invokevirtual 105, 3) := by decide +kernel
theorem dX7_holds_89 : decode cX7_holds 89 = .ok (.ifCond .eq 7, 3) := by decide +kernel
theorem dX7_holds_92 : decode cX7_holds 92 = .ok (.iconst 1, 1) := by decide +kernel
theorem dX7_holds_93 : decode cX7_holds 93 = .ok (.goto 4, 3) := by decide +kernel
theorem dX7_holds_96 : decode cX7_holds 96 = .ok (.iconst 0, 1) := by decide +kernel
theorem dX7_holds_97 : decode cX7_holds 97 = .ok (.ireturn, 1) := by decide +kernel
theorem dX7_number_0 : decode cX7_number 0 = .ok (.aload_n 0, 1) := by decide +kernel
theorem dX7_number_1 : decode cX7_number 1 = .ok (.getfield 10, 3) := by decide +kernel
theorem dX7_number_4 : decode cX7_number 4 = .ok (.iload_n 1, 1) := by decide +kernel
theorem dX7_number_5 : decode cX7_number 5 = .ok (.iload_n 2, 1) := by decide +kernel
theorem dX7_number_6 : decode cX7_number 6 = .ok (.invokevirtual 93, 3) := by decide +kernel
theorem dX7_number_9 : decode cX7_number 9 = .ok (.astore 6, 2) := by decide +kernel
theorem dX7_number_11 : decode cX7_number 11 = .ok (.aload 6, 2) := by decide +kernel
theorem dX7_number_13 : decode cX7_number 13 = .ok (.ifnull 22, 3) := by decide +kernel
theorem dX7_number_16 : decode cX7_number 16 = .ok (.aload 6, 2) := by decide +kernel
theorem dX7_number_18 : decode cX7_number 18 = .ok (.iload 4, 2) := by decide +kernel
theorem dX7_number_20 : decode cX7_number 20 = .ok (.invokevirtual 97, 3) := by decide +kernel
theorem dX7_number_23 : decode cX7_number 23 = .ok (.ifCond .eq 12, 3) := by decide +kernel
theorem dX7_number_26 : decode cX7_number 26 = .ok (.iload_n 3, 1) := by decide +kernel
theorem dX7_number_27 : decode cX7_number 27 = .ok (.ifCond .lt 8, 3) := by decide +kernel
theorem dX7_number_30 : decode cX7_number 30 = .ok (.iload_n 3, 1) := by decide +kernel
theorem dX7_number_31 : decode cX7_number 31 = .ok (.iconst 4, 1) := by decide +kernel
theorem dX7_number_32 : decode cX7_number 32 = .ok (.if_icmp .le 7, 3) := by decide +kernel
theorem dX7_number_35 : decode cX7_number 35 = .ok (.sipush (-1000), 3) := by decide +kernel
theorem dX7_number_38 : decode cX7_number 38 = .ok (.ireturn, 1) := by decide +kernel
theorem dX7_number_39 : decode cX7_number 39 = .ok (.aload 6, 2) := by decide +kernel
theorem dX7_number_41 : decode cX7_number 41 = .ok (.iload_n 3, 1) := by decide +kernel
theorem dX7_number_42 : decode cX7_number 42 = .ok (.iload 4, 2) := by decide +kernel
theorem dX7_number_44 : decode cX7_number 44 = .ok (.iconst 0, 1) := by decide +kernel
theorem dX7_number_45 : decode cX7_number 45 = .ok (.invokevirtual 105, 3) := by decide +kernel
theorem dX7_number_48 : decode cX7_number 48 = .ok (.ifCond .eq 16, 3) := by decide +kernel
theorem dX7_number_51 : decode cX7_number 51 = .ok (.aload 6, 2) := by decide +kernel
theorem dX7_number_53 : decode cX7_number 53 = .ok (.iload_n 3, 1) := by decide +kernel
theorem dX7_number_54 : decode cX7_number 54 = .ok (.iload 4, 2) := by decide +kernel
theorem dX7_number_56 : decode cX7_number 56 = .ok (.iload 5, 2) := by decide +kernel
theorem dX7_number_58 : decode cX7_number 58 = .ok (.invokevirtual 108, 3) := by decide +kernel
theorem dX7_number_61 : decode cX7_number 61 = .ok (.goto 6, 3) := by decide +kernel
theorem dX7_number_64 : decode cX7_number 64 = .ok (.sipush (-1000), 3) := by decide +kernel
theorem dX7_number_67 : decode cX7_number 67 = .ok (.ireturn, 1) := by decide +kernel
theorem dX7_guesses_0 : decode cX7_guesses 0 = .ok (.aload_n 0, 1) := by decide +kernel
theorem dX7_guesses_1 : decode cX7_guesses 1 = .ok (.getfield 10, 3) := by decide +kernel
theorem dX7_guesses_4 : decode cX7_guesses 4 = .ok (.iload_n 1, 1) := by decide +kernel
theorem dX7_guesses_5 : decode cX7_guesses 5 = .ok (.iload_n 2, 1) := by decide +kernel
theorem dX7_guesses_6 : decode cX7_guesses 6 = .ok (.invokevirtual 93, 3) := by decide +kernel
theorem dX7_guesses_9 : decode cX7_guesses 9 = .ok (.astore_n 3, 1) := by decide +kernel
theorem dX7_guesses_10 : decode cX7_guesses 10 = .ok (.aload_n 3, 1) := by decide +kernel
theorem dX7_guesses_11 : decode cX7_guesses 11 = .ok (.ifnonnull 7, 3) := by decide +kernel
theorem dX7_guesses_14 : decode cX7_guesses 14 = .ok (.iconst (-1), 1) := by decide +kernel
theorem dX7_guesses_15 : decode cX7_guesses 15 = .ok (.goto 12, 3) := by decide +kernel
theorem dX7_guesses_18 : decode cX7_guesses 18 = .ok (.aload_n 3, 1) := by decide +kernel
theorem dX7_guesses_19 : decode cX7_guesses 19 = .ok (.iconst 1, 1) := by decide +kernel
theorem dX7_guesses_20 : decode cX7_guesses 20 = .ok (.aload_n 0, 1) := by decide +kernel
theorem dX7_guesses_21 : decode cX7_guesses 21 = .ok (.getfield 32, 3) := by decide +kernel
theorem dX7_guesses_24 : decode cX7_guesses 24 = .ok (.invokevirtual 112, 3) := by decide +kernel
theorem dX7_guesses_27 : decode cX7_guesses 27 = .ok (.ireturn, 1) := by decide +kernel
theorem dX7_guess_0 : decode cX7_guess 0 = .ok (.aload_n 0, 1) := by decide +kernel
theorem dX7_guess_1 : decode cX7_guess 1 = .ok (.getfield 10, 3) := by decide +kernel
theorem dX7_guess_4 : decode cX7_guess 4 = .ok (.iload_n 1, 1) := by decide +kernel
theorem dX7_guess_5 : decode cX7_guess 5 = .ok (.iload_n 2, 1) := by decide +kernel
theorem dX7_guess_6 : decode cX7_guess 6 = .ok (.invokevirtual 93, 3) := by decide +kernel
theorem dX7_guess_9 : decode cX7_guess 9 = .ok (.astore 4, 2) := by decide +kernel
theorem dX7_guess_11 : decode cX7_guess 11 = .ok (.aload 4, 2) := by decide +kernel
theorem dX7_guess_13 : decode cX7_guess 13 = .ok (.ifnull 21, 3) := by decide +kernel
theorem dX7_guess_16 : decode cX7_guess 16 = .ok (.iload_n 3, 1) := by decide +kernel
theorem dX7_guess_17 : decode cX7_guess 17 = .ok (.ifCond .lt 17, 3) := by decide +kernel
theorem dX7_guess_20 : decode cX7_guess 20 = .ok (.iload_n 3, 1) := by decide +kernel
theorem dX7_guess_21 : decode cX7_guess 21 = .ok (.aload 4, 2) := by decide +kernel
theorem dX7_guess_23 : decode cX7_guess 23 = .ok (.iconst 1, 1) := by decide +kernel
theorem dX7_guess_24 : decode cX7_guess 24 = .ok (.aload_n 0, 1) := by decide +kernel
theorem dX7_guess_25 : decode cX7_guess 25 = .ok (.getfield 32, 3) := by decide +kernel
theorem dX7_guess_28 : decode cX7_guess 28 = .ok (.invokevirtual 112, 3) := by decide +kernel
theorem dX7_guess_31 : decode cX7_guess 31 = .ok (.if_icmp .lt 5, 3) := by decide +kernel
theorem dX7_guess_34 : decode cX7_guess 34 = .ok (.iconst (-1), 1) := by decide +kernel
theorem dX7_guess_35 : decode cX7_guess 35 = .ok (.ireturn, 1) := by decide +kernel
theorem dX7_guess_36 : decode cX7_guess 36 = .ok (.aload_n 0, 1) := by decide +kernel
theorem dX7_guess_37 : decode cX7_guess 37 = .ok (.getfield 32, 3) := by decide +kernel
theorem dX7_guess_40 : decode cX7_guess 40 = .ok (.iload_n 3, 1) := by decide +kernel
theorem dX7_guess_41 : decode cX7_guess 41 = .ok (.iaload, 1) := by decide +kernel
theorem dX7_guess_42 : decode cX7_guess 42 = .ok (.ireturn, 1) := by decide +kernel
theorem dX7_sums_0 : decode cX7_sums 0 = .ok (.aload_n 0, 1) := by decide +kernel
theorem dX7_sums_1 : decode cX7_sums 1 = .ok (.getfield 10, 3) := by decide +kernel
theorem dX7_sums_4 : decode cX7_sums 4 = .ok (.iload_n 1, 1) := by decide +kernel
theorem dX7_sums_5 : decode cX7_sums 5 = .ok (.iload_n 2, 1) := by decide +kernel
theorem dX7_sums_6 : decode cX7_sums 6 = .ok (.invokevirtual 93, 3) := by decide +kernel
theorem dX7_sums_9 : decode cX7_sums 9 = .ok (.astore_n 3, 1) := by decide +kernel
theorem dX7_sums_10 : decode cX7_sums 10 = .ok (.aload_n 3, 1) := by decide +kernel
theorem dX7_sums_11 : decode cX7_sums 11 = .ok (.ifnonnull 5, 3) := by decide +kernel
theorem dX7_sums_14 : decode cX7_sums 14 = .ok (.iconst (-1), 1) := by decide +kernel
end
section
theorem dX7_sums_15 : decode cX7_sums 15 = .ok (.ireturn, 1) := by decide +kernel
theorem dX7_sums_16 : decode cX7_sums 16 = .ok (.aload_n 3, 1) := by decide +kernel
theorem dX7_sums_17 : decode cX7_sums 17 = .ok (.getfield 68, 3) := by decide +kernel
theorem dX7_sums_20 : decode cX7_sums 20 = .ok (.ifCond .ne 8, 3) := by decide +kernel
theorem dX7_sums_23 : decode cX7_sums 23 = .ok (.bipush (-9), 2) := by decide +kernel
theorem dX7_sums_25 : decode cX7_sums 25 = .ok (.goto 7, 3) := by decide +kernel
theorem dX7_sums_28 : decode cX7_sums 28 = .ok (.aload_n 3, 1) := by decide +kernel
theorem dX7_sums_29 : decode cX7_sums 29 = .ok (.invokevirtual 116, 3) := by decide +kernel
theorem dX7_sums_32 : decode cX7_sums 32 = .ok (.ireturn, 1) := by decide +kernel
theorem dX7_sum_0 : decode cX7_sum 0 = .ok (.aload_n 0, 1) := by decide +kernel
theorem dX7_sum_1 : decode cX7_sum 1 = .ok (.getfield 10, 3) := by decide +kernel
theorem dX7_sum_4 : decode cX7_sum 4 = .ok (.iload_n 1, 1) := by decide +kernel
theorem dX7_sum_5 : decode cX7_sum 5 = .ok (.iload_n 2, 1) := by decide +kernel
theorem dX7_sum_6 : decode cX7_sum 6 = .ok (.invokevirtual 93, 3) := by decide +kernel
theorem dX7_sum_9 : decode cX7_sum 9 = .ok (.astore 5, 2) := by decide +kernel
theorem dX7_sum_11 : decode cX7_sum 11 = .ok (.aload 5, 2) := by decide +kernel
theorem dX7_sum_13 : decode cX7_sum 13 = .ok (.ifnull 31, 3) := by decide +kernel
theorem dX7_sum_16 : decode cX7_sum 16 = .ok (.iload_n 3, 1) := by decide +kernel
theorem dX7_sum_17 : decode cX7_sum 17 = .ok (.ifCond .lt 27, 3) := by decide +kernel
theorem dX7_sum_20 : decode cX7_sum 20 = .ok (.iload_n 3, 1) := by decide +kernel
theorem dX7_sum_21 : decode cX7_sum 21 = .ok (.aload 5, 2) := by decide +kernel
theorem dX7_sum_23 : decode cX7_sum 23 = .ok (.invokevirtual 116, 3) := by decide +kernel
theorem dX7_sum_26 : decode cX7_sum 26 = .ok (.if_icmp .ge 18, 3) := by decide +kernel
theorem dX7_sum_29 : decode cX7_sum 29 = .ok (.iload 4, 2) := by decide +kernel
theorem dX7_sum_31 : decode cX7_sum 31 = .ok (.ifCond .lt 13, 3) := by decide +kernel
theorem dX7_sum_34 : decode cX7_sum 34 = .ok (.iload 4, 2) := by decide +kernel
theorem dX7_sum_36 : decode cX7_sum 36 = .ok (.aload 5, 2) := by decide +kernel
theorem dX7_sum_38 : decode cX7_sum 38 = .ok (.getfield 120, 3) := by decide +kernel
theorem dX7_sum_41 : decode cX7_sum 41 = .ok (.if_icmp .le 7, 3) := by decide +kernel
theorem dX7_sum_44 : decode cX7_sum 44 = .ok (.ldc2_w 121, 3) := by decide +kernel
theorem dX7_sum_47 : decode cX7_sum 47 = .ok (.lreturn, 1) := by decide +kernel
theorem dX7_sum_48 : decode cX7_sum 48 = .ok (.aload 5, 2) := by decide +kernel
theorem dX7_sum_50 : decode cX7_sum 50 = .ok (.getfield 123, 3) := by decide +kernel
theorem dX7_sum_53 : decode cX7_sum 53 = .ok (.iload_n 3, 1) := by decide +kernel
theorem dX7_sum_54 : decode cX7_sum 54 = .ok (.invokevirtual 127, 3) := by decide +kernel
theorem dX7_sum_57 : decode cX7_sum 57 = .ok (.iload 4, 2) := by decide +kernel
theorem dX7_sum_59 : decode cX7_sum 59 = .ok (.laload, 1) := by decide +kernel
theorem dX7_sum_60 : decode cX7_sum 60 = .ok (.lreturn, 1) := by decide +kernel
theorem dX7_start_0 : decode cX7_start 0 = .ok (.aload_n 0, 1) := by decide +kernel
theorem dX7_start_1 : decode cX7_start 1 = .ok (.getfield 10, 3) := by decide +kernel
theorem dX7_start_4 : decode cX7_start 4 = .ok (.iload_n 1, 1) := by decide +kernel
theorem dX7_start_5 : decode cX7_start 5 = .ok (.invokevirtual 46, 3) := by decide +kernel
theorem dX7_start_8 : decode cX7_start 8 = .ok (.astore 6, 2) := by decide +kernel
theorem dX7_start_10 : decode cX7_start 10 = .ok (.aload 6, 2) := by decide +kernel
theorem dX7_start_12 : decode cX7_start 12 = .ok (.ifnonnull 5, 3) := by decide +kernel
theorem dX7_start_15 : decode cX7_start 15 = .ok (.iconst (-1), 1) := by decide +kernel
theorem dX7_start_16 : decode cX7_start 16 = .ok (.ireturn, 1) := by decide +kernel
theorem dX7_start_17 : decode cX7_start 17 = .ok (.aload_n 0, 1) := by decide +kernel
theorem dX7_start_18 : decode cX7_start 18 = .ok (.getfield 25, 3) := by decide +kernel
theorem dX7_start_21 : decode cX7_start 21 = .ok (.iload_n 2, 1) := by decide +kernel
theorem dX7_start_22 : decode cX7_start 22 = .ok (.iload_n 3, 1) := by decide +kernel
theorem dX7_start_23 : decode cX7_start 23 = .ok (.iload 4, 2) := by decide +kernel
theorem dX7_start_25 : decode cX7_start 25 = .ok (.iload 5, 2) := by decide +kernel
theorem dX7_start_27 : decode cX7_start 27 = .ok (.invokestatic 73, 3) := by decide +kernel
theorem dX7_start_30 : decode cX7_start 30 = .ok (.aload_n 0, 1) := by decide +kernel
theorem dX7_start_31 : decode cX7_start 31 = .ok (.getfield 25, 3) := by decide +kernel
theorem dX7_start_34 : decode cX7_start 34 = .ok (.aload 6, 2) := by decide +kernel
theorem dX7_start_36 : decode cX7_start 36 = .ok (.getfield 77, 3) := by decide +kernel
theorem dX7_start_39 : decode cX7_start 39 = .ok (.bipush 30, 2) := by decide +kernel
theorem dX7_start_41 : decode cX7_start 41 = .ok (.invokestatic 80, 3) := by decide +kernel
theorem dX7_start_44 : decode cX7_start 44 = .ok (.ifCond .ne 6, 3) := by decide +kernel
theorem dX7_start_47 : decode cX7_start 47 = .ok (.bipush (-2), 2) := by decide +kernel
theorem dX7_start_49 : decode cX7_start 49 = .ok (.ireturn, 1) := by decide +kernel
theorem dX7_start_50 : decode cX7_start 50 = .ok (.aload_n 0, 1) := by decide +kernel
theorem dX7_start_51 : decode cX7_start 51 = .ok (.getfield 10, 3) := by decide +kernel
theorem dX7_start_54 : decode cX7_start 54 = .ok (.iload_n 1, 1) := by decide +kernel
theorem dX7_start_55 : decode cX7_start 55 = .ok (.aload_n 0, 1) := by decide +kernel
theorem dX7_start_56 : decode cX7_start 56 = .ok (.getfield 25, 3) := by decide +kernel
theorem dX7_start_59 : decode cX7_start 59 = .ok (.invokevirtual 133, 3) := by decide +kernel
theorem dX7_start_62 : decode cX7_start 62 = .ok (.iconst 1, 1) := by decide +kernel
theorem dX7_start_63 : decode cX7_start 63 = .ok (.ireturn, 1) := by decide +kernel
theorem dX7_act_0 : decode cX7_act 0 = .ok (.aload_n 0, 1) := by decide +kernel
theorem dX7_act_1 : decode cX7_act 1 = .ok (.getfield 10, 3) := by decide +kernel
theorem dX7_act_4 : decode cX7_act 4 = .ok (.iload_n 1, 1) := by decide +kernel
theorem dX7_act_5 : decode cX7_act 5 = .ok (.invokevirtual 46, 3) := by decide +kernel
theorem dX7_act_8 : decode cX7_act 8 = .ok (.astore_n 3, 1) := by decide +kernel
theorem dX7_act_9 : decode cX7_act 9 = .ok (.aload_n 0, 1) := by decide +kernel
theorem dX7_act_10 : decode cX7_act 10 = .ok (.getfield 10, 3) := by decide +kernel
theorem dX7_act_13 : decode cX7_act 13 = .ok (.iload_n 2, 1) := by decide +kernel
theorem dX7_act_14 : decode cX7_act 14 = .ok (.invokevirtual 46, 3) := by decide +kernel
theorem dX7_act_17 : decode cX7_act 17 = .ok (.astore 4, 2) := by decide +kernel
theorem dX7_act_19 : decode cX7_act 19 = .ok (.aload_n 3, 1) := by decide +kernel
theorem dX7_act_20 : decode cX7_act 20 = .ok (.ifnull 8, 3) := by decide +kernel
theorem dX7_act_23 : decode cX7_act 23 = .ok (.aload 4, 2) := by decide +kernel
theorem dX7_act_25 : decode cX7_act 25 = .ok (.ifnonnull 5, 3) := by decide +kernel
theorem dX7_act_28 : decode cX7_act 28 = .ok (.iconst (-1), 1) := by decide +kernel
theorem dX7_act_29 : decode cX7_act 29 = .ok (.ireturn, 1) := by decide +kernel
theorem dX7_act_30 : decode cX7_act 30 = .ok (.aload_n 0, 1) := by decide +kernel
theorem dX7_act_31 : decode cX7_act 31 = .ok (.getfield 10, 3) := by decide +kernel
theorem dX7_act_34 : decode cX7_act 34 = .ok (.iload_n 1, 1) := by decide +kernel
theorem dX7_act_35 : decode cX7_act 35 = .ok (.iload_n 2, 1) := by decide +kernel
theorem dX7_act_36 : decode cX7_act 36 = .ok (.aload_n 3, 1) := by decide +kernel
theorem dX7_act_37 : decode cX7_act 37 = .ok (.getfield 77, 3) := by decide +kernel
theorem dX7_act_40 : decode cX7_act 40 = .ok (.aload 4, 2) := by decide +kernel
theorem dX7_act_42 : decode cX7_act 42 = .ok (.getfield 77, 3) := by decide +kernel
theorem dX7_act_45 : decode cX7_act 45 = .ok (.invokevirtual 137, 3) := by decide +kernel
theorem dX7_act_48 : decode cX7_act 48 = .ok (.ireturn, 1) := by decide +kernel
theorem dX7_makes_0 : decode cX7_makes 0 = .ok (.aload_n 0, 1) := by decide +kernel
theorem dX7_makes_1 : decode cX7_makes 1 = .ok (.getfield 10, 3) := by decide +kernel
theorem dX7_makes_4 : decode cX7_makes 4 = .ok (.iload_n 1, 1) := by decide +kernel
theorem dX7_makes_5 : decode cX7_makes 5 = .ok (.invokevirtual 141, 3) := by decide +kernel
theorem dX7_makes_8 : decode cX7_makes 8 = .ok (.astore 8, 2) := by decide +kernel
theorem dX7_makes_10 : decode cX7_makes 10 = .ok (.aload 8, 2) := by decide +kernel
theorem dX7_makes_12 : decode cX7_makes 12 = .ok (.ifnull 12, 3) := by decide +kernel
theorem dX7_makes_15 : decode cX7_makes 15 = .ok (.aload 8, 2) := by decide +kernel
theorem dX7_makes_17 : decode cX7_makes 17 = .ok (.iload_n 2, 1) := by decide +kernel
theorem dX7_makes_18 : decode cX7_makes 18 = .ok (.invokevirtual 145, 3) := by decide +kernel
theorem dX7_makes_21 : decode cX7_makes 21 = .ok (.ifCond .ne 5, 3) := by decide +kernel
theorem dX7_makes_24 : decode cX7_makes 24 = .ok (.iconst (-1), 1) := by decide +kernel
theorem dX7_makes_25 : decode cX7_makes 25 = .ok (.ireturn, 1) := by decide +kernel
theorem dX7_makes_26 : decode cX7_makes 26 = .ok (.aload_n 0, 1) := by decide +kernel
theorem dX7_makes_27 : decode cX7_makes 27 = .ok (.getfield 25, 3) := by decide +kernel
theorem dX7_makes_30 : decode cX7_makes 30 = .ok (.iload_n 3, 1) := by decide +kernel
theorem dX7_makes_31 : decode cX7_makes 31 = .ok (.iload 4, 2) := by decide +kernel
theorem dX7_makes_33 : decode cX7_makes 33 = .ok (.iload 5, 2) := by decide +kernel
theorem dX7_makes_35 : decode cX7_makes 35 = .ok (.iload 6, 2) := by decide +kernel
theorem dX7_makes_37 : decode cX7_makes 37 = .ok (.invokestatic 73, 3) := by decide +kernel
theorem dX7_makes_40 : decode cX7_makes 40 = .ok (.aload_n 0, 1) := by decide +kernel
theorem dX7_makes_41 : decode cX7_makes 41 = .ok (.getfield 25, 3) := by decide +kernel
theorem dX7_makes_44 : decode cX7_makes 44 = .ok (.aload 8, 2) := by decide +kernel
theorem dX7_makes_46 : decode cX7_makes 46 = .ok (.getfield 148, 3) := by decide +kernel
theorem dX7_makes_49 : decode cX7_makes 49 = .ok (.bipush 9, 2) := by decide +kernel
theorem dX7_makes_51 : decode cX7_makes 51 = .ok (.invokestatic 80, 3) := by decide +kernel
theorem dX7_makes_54 : decode cX7_makes 54 = .ok (.ifCond .eq 13, 3) := by decide +kernel
theorem dX7_makes_57 : decode cX7_makes 57 = .ok (.iload 7, 2) := by decide +kernel
theorem dX7_makes_59 : decode cX7_makes 59 = .ok (.bipush 99, 2) := by decide +kernel
theorem dX7_makes_61 : decode cX7_makes 61 = .ok (.invokestatic 56, 3) := by decide +kernel
theorem dX7_makes_64 : decode cX7_makes 64 = .ok (.ifCond .ne 6, 3) := by decide +kernel
theorem dX7_makes_67 : decode cX7_makes 67 = .ok (.bipush (-2), 2) := by decide +kernel
theorem dX7_makes_69 : decode cX7_makes 69 = .ok (.ireturn, 1) := by decide +kernel
theorem dX7_makes_70 : decode cX7_makes 70 = .ok (.aload 8, 2) := by decide +kernel
theorem dX7_makes_72 : decode cX7_makes 72 = .ok (.iload_n 2, 1) := by decide +kernel
theorem dX7_makes_73 : decode cX7_makes 73 = .ok (.aload_n 0, 1) := by decide +kernel
theorem dX7_makes_74 : decode cX7_makes 74 = .ok (.getfield 25, 3) := by decide +kernel
theorem dX7_makes_77 : decode cX7_makes 77 = .ok (.iload 7, 2) := by decide +kernel
theorem dX7_makes_79 : decode cX7_makes 79 = .ok (.invokevirtual 151, 3) := by decide +kernel
theorem dX7_makes_82 : decode cX7_makes 82 = .ok (.iconst 1, 1) := by decide +kernel
theorem dX7_makes_83 : decode cX7_makes 83 = .ok (.ireturn, 1) := by decide +kernel
theorem dX7_made_0 : decode cX7_made 0 = .ok (.aload_n 0, 1) := by decide +kernel
theorem dX7_made_1 : decode cX7_made 1 = .ok (.getfield 10, 3) := by decide +kernel
theorem dX7_made_4 : decode cX7_made 4 = .ok (.iload_n 1, 1) := by decide +kernel
theorem dX7_made_5 : decode cX7_made 5 = .ok (.invokevirtual 141, 3) := by decide +kernel
theorem dX7_made_8 : decode cX7_made 8 = .ok (.astore 4, 2) := by decide +kernel
theorem dX7_made_10 : decode cX7_made 10 = .ok (.aload 4, 2) := by decide +kernel
theorem dX7_made_12 : decode cX7_made 12 = .ok (.ifnull 12, 3) := by decide +kernel
theorem dX7_made_15 : decode cX7_made 15 = .ok (.aload 4, 2) := by decide +kernel
theorem dX7_made_17 : decode cX7_made 17 = .ok (.iload_n 2, 1) := by decide +kernel
theorem dX7_made_18 : decode cX7_made 18 = .ok (.invokevirtual 145, 3) := by decide +kernel
theorem dX7_made_21 : decode cX7_made 21 = .ok (.ifCond .ne 5, 3) := by decide +kernel
theorem dX7_made_24 : decode cX7_made 24 = .ok (.iconst (-1), 1) := by decide +kernel
theorem dX7_made_25 : decode cX7_made 25 = .ok (.ireturn, 1) := by decide +kernel
theorem dX7_made_26 : decode cX7_made 26 = .ok (.iload_n 3, 1) := by decide +kernel
theorem dX7_made_27 : decode cX7_made 27 = .ok (.ifCond .lt 20, 3) := by decide +kernel
theorem dX7_made_30 : decode cX7_made 30 = .ok (.iload_n 3, 1) := by decide +kernel
theorem dX7_made_31 : decode cX7_made 31 = .ok (.iconst 4, 1) := by decide +kernel
theorem dX7_made_32 : decode cX7_made 32 = .ok (.if_icmp .gt 15, 3) := by decide +kernel
theorem dX7_made_35 : decode cX7_made 35 = .ok (.aload 4, 2) := by decide +kernel
theorem dX7_made_37 : decode cX7_made 37 = .ok (.getfield 155, 3) := by decide +kernel
theorem dX7_made_40 : decode cX7_made 40 = .ok (.iload_n 2, 1) := by decide +kernel
theorem dX7_made_41 : decode cX7_made 41 = .ok (.aaload, 1) := by decide +kernel
theorem dX7_made_42 : decode cX7_made 42 = .ok (.iload_n 3, 1) := by decide +kernel
theorem dX7_made_43 : decode cX7_made 43 = .ok (.iaload, 1) := by decide +kernel
theorem dX7_made_44 : decode cX7_made 44 = .ok (.goto 5, 3) := by decide +kernel
theorem dX7_made_47 : decode cX7_made 47 = .ok (.bipush (-2), 2) := by decide +kernel
theorem dX7_made_49 : decode cX7_made 49 = .ok (.ireturn, 1) := by decide +kernel
theorem dX7_kept_0 : decode cX7_kept 0 = .ok (.aload_n 0, 1) := by decide +kernel
theorem dX7_kept_1 : decode cX7_kept 1 = .ok (.getfield 10, 3) := by decide +kernel
theorem dX7_kept_4 : decode cX7_kept 4 = .ok (.invokevirtual 158, 3) := by decide +kernel
theorem dX7_kept_7 : decode cX7_kept 7 = .ok (.ifCond .ne 6, 3) := by decide +kernel
theorem dX7_kept_10 : decode cX7_kept 10 = .ok (.bipush (-3), 2) := by decide +kernel
theorem dX7_kept_12 : decode cX7_kept 12 = .ok (.ireturn, 1) := by decide +kernel
theorem dX7_kept_13 : decode cX7_kept 13 = .ok (.aload_n 0, 1) := by decide +kernel
theorem dX7_kept_14 : decode cX7_kept 14 = .ok (.getfield 10, 3) := by decide +kernel
theorem dX7_kept_17 : decode cX7_kept 17 = .ok (.invokevirtual 162, 3) := by decide +kernel
theorem dX7_kept_20 : decode cX7_kept 20 = .ok (.istore_n 1, 1) := by decide +kernel
theorem dX7_kept_21 : decode cX7_kept 21 = .ok (.iload_n 1, 1) := by decide +kernel
theorem dX7_kept_22 : decode cX7_kept 22 = .ok (.ifCond .lt 8, 3) := by decide +kernel
theorem dX7_kept_25 : decode cX7_kept 25 = .ok (.bipush (-20), 2) := by decide +kernel
theorem dX7_kept_27 : decode cX7_kept 27 = .ok (.iload_n 1, 1) := by decide +kernel
theorem dX7_kept_28 : decode cX7_kept 28 = .ok (.isub, 1) := by decide +kernel
theorem dX7_kept_29 : decode cX7_kept 29 = .ok (.ireturn, 1) := by decide +kernel
theorem dX7_kept_30 : decode cX7_kept 30 = .ok (.iconst 0, 1) := by decide +kernel
theorem dX7_kept_31 : decode cX7_kept 31 = .ok (.istore_n 2, 1) := by decide +kernel
theorem dX7_kept_32 : decode cX7_kept 32 = .ok (.iload_n 2, 1) := by decide +kernel
theorem dX7_kept_33 : decode cX7_kept 33 = .ok (.aload_n 0, 1) := by decide +kernel
theorem dX7_kept_34 : decode cX7_kept 34 = .ok (.getfield 10, 3) := by decide +kernel
theorem dX7_kept_37 : decode cX7_kept 37 = .ok (.getfield 165, 3) := by decide +kernel
theorem dX7_kept_40 : decode cX7_kept 40 = .ok (.if_icmp .ge 42, 3) := by decide +kernel
theorem dX7_kept_43 : decode cX7_kept 43 = .ok (.aload_n 0, 1) := by decide +kernel
theorem dX7_kept_44 : decode cX7_kept 44 = .ok (.getfield 10, 3) := by decide +kernel
theorem dX7_kept_47 : decode cX7_kept 47 = .ok (.aload_n 0, 1) := by decide +kernel
theorem dX7_kept_48 : decode cX7_kept 48 = .ok (.getfield 10, 3) := by decide +kernel
theorem dX7_kept_51 : decode cX7_kept 51 = .ok (.getfield 168, 3) := by decide +kernel
theorem dX7_kept_54 : decode cX7_kept 54 = .ok (.iload_n 2, 1) := by decide +kernel
theorem dX7_kept_55 : decode cX7_kept 55 = .ok (.aaload, 1) := by decide +kernel
theorem dX7_kept_56 : decode cX7_kept 56 = .ok (.invokevirtual 172, 3) := by decide +kernel
theorem dX7_kept_59 : decode cX7_kept 59 = .ok (.istore_n 1, 1) := by decide +kernel
theorem dX7_kept_60 : decode cX7_kept 60 = .ok (.iload_n 1, 1) := by decide +kernel
theorem dX7_kept_61 : decode cX7_kept 61 = .ok (.ifCond .lt 15, 3) := by decide +kernel
theorem dX7_kept_64 : decode cX7_kept 64 = .ok (.bipush (-20), 2) := by decide +kernel
theorem dX7_kept_66 : decode cX7_kept 66 = .ok (.bipush 100, 2) := by decide +kernel
theorem dX7_kept_68 : decode cX7_kept 68 = .ok (.iload_n 2, 1) := by decide +kernel
theorem dX7_kept_69 : decode cX7_kept 69 = .ok (.iconst 1, 1) := by decide +kernel
theorem dX7_kept_70 : decode cX7_kept 70 = .ok (.iadd, 1) := by decide +kernel
theorem dX7_kept_71 : decode cX7_kept 71 = .ok (.imul, 1) := by decide +kernel
theorem dX7_kept_72 : decode cX7_kept 72 = .ok (.isub, 1) := by decide +kernel
theorem dX7_kept_73 : decode cX7_kept 73 = .ok (.iload_n 1, 1) := by decide +kernel
theorem dX7_kept_74 : decode cX7_kept 74 = .ok (.isub, 1) := by decide +kernel
theorem dX7_kept_75 : decode cX7_kept 75 = .ok (.ireturn, 1) := by decide +kernel
theorem dX7_kept_76 : decode cX7_kept 76 = .ok (.iinc 2 1, 3) := by decide +kernel
theorem dX7_kept_79 : decode cX7_kept 79 = .ok (.goto (-47), 3) := by decide +kernel
theorem dX7_kept_82 : decode cX7_kept 82 = .ok (.iconst 1, 1) := by decide +kernel
theorem dX7_kept_83 : decode cX7_kept 83 = .ok (.ireturn, 1) := by decide +kernel
theorem dX7_search_0 : decode cX7_search 0 = .ok (.iload_n 1, 1) := by decide +kernel
theorem dX7_search_1 : decode cX7_search 1 = .ok (.ifCond .lt 8, 3) := by decide +kernel
theorem dX7_search_4 : decode cX7_search 4 = .ok (.iload_n 1, 1) := by decide +kernel
theorem dX7_search_5 : decode cX7_search 5 = .ok (.iconst 5, 1) := by decide +kernel
theorem dX7_search_6 : decode cX7_search 6 = .ok (.if_icmp .le 6, 3) := by decide +kernel
theorem dX7_search_9 : decode cX7_search 9 = .ok (.bipush (-2), 2) := by decide +kernel
theorem dX7_search_11 : decode cX7_search 11 = .ok (.ireturn, 1) := by decide +kernel
theorem dX7_search_12 : decode cX7_search 12 = .ok (.aload_n 0, 1) := by decide +kernel
theorem dX7_search_13 : decode cX7_search 13 = .ok (.getfield 10, 3) := by decide +kernel
theorem dX7_search_16 : decode cX7_search 16 = .ok (.invokevirtual 158, 3) := by decide +kernel
theorem dX7_search_19 : decode cX7_search 19 = .ok (.ifCond .eq 14, 3) := by decide +kernel
theorem dX7_search_22 : decode cX7_search 22 = .ok (.aload_n 0, 1) := by decide +kernel
theorem dX7_search_23 : decode cX7_search 23 = .ok (.getfield 21, 3) := by decide +kernel
theorem dX7_search_26 : decode cX7_search 26 = .ok (.iload_n 1, 1) := by decide +kernel
theorem dX7_search_27 : decode cX7_search 27 = .ok (.invokevirtual 176, 3) := by decide +kernel
theorem dX7_search_30 : decode cX7_search 30 = .ok (.goto 5, 3) := by decide +kernel
theorem dX7_search_33 : decode cX7_search 33 = .ok (.bipush (-3), 2) := by decide +kernel
theorem dX7_search_35 : decode cX7_search 35 = .ok (.ireturn, 1) := by decide +kernel
theorem dX7_broke_0 : decode cX7_broke 0 = .ok (.aload_n 0, 1) := by decide +kernel
theorem dX7_broke_1 : decode cX7_broke 1 = .ok (.getfield 21, 3) := by decide +kernel
theorem dX7_broke_4 : decode cX7_broke 4 = .ok (.iload_n 1, 1) := by decide +kernel
theorem dX7_broke_5 : decode cX7_broke 5 = .ok (.invokevirtual 179, 3) := by decide +kernel
theorem dX7_broke_8 : decode cX7_broke 8 = .ok (.ireturn, 1) := by decide +kernel
theorem dX7_run_0 : decode cX7_run 0 = .ok (.iload_n 2, 1) := by decide +kernel
theorem dX7_run_1 : decode cX7_run 1 = .ok (.ifCond .lt 13, 3) := by decide +kernel
theorem dX7_run_4 : decode cX7_run 4 = .ok (.iload_n 2, 1) := by decide +kernel
theorem dX7_run_5 : decode cX7_run 5 = .ok (.bipush 9, 2) := by decide +kernel
theorem dX7_run_7 : decode cX7_run 7 = .ok (.if_icmp .gt 7, 3) := by decide +kernel
theorem dX7_run_10 : decode cX7_run 10 = .ok (.iload_n 1, 1) := by decide +kernel
theorem dX7_run_11 : decode cX7_run 11 = .ok (.ifCond .ge 6, 3) := by decide +kernel
theorem dX7_run_14 : decode cX7_run 14 = .ok (.bipush (-2), 2) := by decide +kernel
theorem dX7_run_16 : decode cX7_run 16 = .ok (.ireturn, 1) := by decide +kernel
theorem dX7_run_17 : decode cX7_run 17 = .ok (.aload_n 0, 1) := by decide +kernel
theorem dX7_run_18 : decode cX7_run 18 = .ok (.getfield 10, 3) := by decide +kernel
theorem dX7_run_21 : decode cX7_run 21 = .ok (.invokevirtual 158, 3) := by decide +kernel
theorem dX7_run_24 : decode cX7_run 24 = .ok (.ifCond .ne 6, 3) := by decide +kernel
theorem dX7_run_27 : decode cX7_run 27 = .ok (.bipush (-3), 2) := by decide +kernel
theorem dX7_run_29 : decode cX7_run 29 = .ok (.ireturn, 1) := by decide +kernel
theorem dX7_run_30 : decode cX7_run 30 = .ok (.aload_n 0, 1) := by decide +kernel
theorem dX7_run_31 : decode cX7_run 31 = .ok (.getfield 10, 3) := by decide +kernel
theorem dX7_run_34 : decode cX7_run 34 = .ok (.getfield 182, 3) := by decide +kernel
theorem dX7_run_37 : decode cX7_run 37 = .ok (.istore_n 3, 1) := by decide +kernel
theorem dX7_run_38 : decode cX7_run 38 = .ok (.aload_n 0, 1) := by decide +kernel
theorem dX7_run_39 : decode cX7_run 39 = .ok (.getfield 10, 3) := by decide +kernel
theorem dX7_run_42 : decode cX7_run 42 = .ok (.getfield 185, 3) := by decide +kernel
theorem dX7_run_45 : decode cX7_run 45 = .ok (.aload_n 0, 1) := by decide +kernel
theorem dX7_run_46 : decode cX7_run 46 = .ok (.getfield 25, 3) := by decide +kernel
theorem dX7_run_49 : decode cX7_run 49 = .ok (.invokestatic 188, 3) := by decide +kernel
theorem dX7_run_52 : decode cX7_run 52 = .ok (.iload_n 1, 1) := by decide +kernel
theorem dX7_run_53 : decode cX7_run 53 = .ok (.istore 4, 2) := by decide +kernel
theorem dX7_run_55 : decode cX7_run 55 = .ok (.iconst 0, 1) := by decide +kernel
theorem dX7_run_56 : decode cX7_run 56 = .ok (.istore 5, 2) := by decide +kernel
theorem dX7_run_58 : decode cX7_run 58 = .ok (.iload 5, 2) := by decide +kernel
theorem dX7_run_60 : decode cX7_run 60 = .ok (.iload_n 2, 1) := by decide +kernel
theorem dX7_run_61 : decode cX7_run 61 = .ok (.if_icmp .ge 82, 3) := by decide +kernel
theorem dX7_run_64 : decode cX7_run 64 = .ok (.aload_n 0, 1) := by decide +kernel
theorem dX7_run_65 : decode cX7_run 65 = .ok (.getfield 10, 3) := by decide +kernel
theorem dX7_run_68 : decode cX7_run 68 = .ok (.iload 4, 2) := by decide +kernel
theorem dX7_run_70 : decode cX7_run 70 = .ok (.bipush 10, 2) := by decide +kernel
theorem dX7_run_72 : decode cX7_run 72 = .ok (.irem, 1) := by decide +kernel
theorem dX7_run_73 : decode cX7_run 73 = .ok (.invokevirtual 141, 3) := by decide +kernel
theorem dX7_run_76 : decode cX7_run 76 = .ok (.astore 6, 2) := by decide +kernel
theorem dX7_run_78 : decode cX7_run 78 = .ok (.iload 4, 2) := by decide +kernel
theorem dX7_run_80 : decode cX7_run 80 = .ok (.bipush 10, 2) := by decide +kernel
theorem dX7_run_82 : decode cX7_run 82 = .ok (.idiv, 1) := by decide +kernel
theorem dX7_run_83 : decode cX7_run 83 = .ok (.istore 4, 2) := by decide +kernel
theorem dX7_run_85 : decode cX7_run 85 = .ok (.aload 6, 2) := by decide +kernel
theorem dX7_run_87 : decode cX7_run 87 = .ok (.ifnull 12, 3) := by decide +kernel
theorem dX7_run_90 : decode cX7_run 90 = .ok (.aload 6, 2) := by decide +kernel
theorem dX7_run_92 : decode cX7_run 92 = .ok (.getfield 192, 3) := by decide +kernel
theorem dX7_run_95 : decode cX7_run 95 = .ok (.iload_n 3, 1) := by decide +kernel
theorem dX7_run_96 : decode cX7_run 96 = .ok (.if_icmp .eq 5, 3) := by decide +kernel
theorem dX7_run_99 : decode cX7_run 99 = .ok (.iconst (-1), 1) := by decide +kernel
theorem dX7_run_100 : decode cX7_run 100 = .ok (.ireturn, 1) := by decide +kernel
theorem dX7_run_101 : decode cX7_run 101 = .ok (.aload 6, 2) := by decide +kernel
theorem dX7_run_103 : decode cX7_run 103 = .ok (.aload_n 0, 1) := by decide +kernel
theorem dX7_run_104 : decode cX7_run 104 = .ok (.getfield 25, 3) := by decide +kernel
theorem dX7_run_107 : decode cX7_run 107 = .ok (.aload_n 0, 1) := by decide +kernel
theorem dX7_run_108 : decode cX7_run 108 = .ok (.getfield 29, 3) := by decide +kernel
theorem dX7_run_111 : decode cX7_run 111 = .ok (.invokevirtual 195, 3) := by decide +kernel
theorem dX7_run_114 : decode cX7_run 114 = .ok (.ifCond .ne 6, 3) := by decide +kernel
theorem dX7_run_117 : decode cX7_run 117 = .ok (.bipush (-9), 2) := by decide +kernel
theorem dX7_run_119 : decode cX7_run 119 = .ok (.ireturn, 1) := by decide +kernel
theorem dX7_run_120 : decode cX7_run 120 = .ok (.aload 6, 2) := by decide +kernel
theorem dX7_run_122 : decode cX7_run 122 = .ok (.getfield 199, 3) := by decide +kernel
theorem dX7_run_125 : decode cX7_run 125 = .ok (.istore_n 3, 1) := by decide +kernel
theorem dX7_run_126 : decode cX7_run 126 = .ok (.aload_n 0, 1) := by decide +kernel
theorem dX7_run_127 : decode cX7_run 127 = .ok (.getfield 29, 3) := by decide +kernel
theorem dX7_run_130 : decode cX7_run 130 = .ok (.aload_n 0, 1) := by decide +kernel
theorem dX7_run_131 : decode cX7_run 131 = .ok (.getfield 25, 3) := by decide +kernel
theorem dX7_run_134 : decode cX7_run 134 = .ok (.invokestatic 188, 3) := by decide +kernel
theorem dX7_run_137 : decode cX7_run 137 = .ok (.iinc 5 1, 3) := by decide +kernel
theorem dX7_run_140 : decode cX7_run 140 = .ok (.goto (-82), 3) := by decide +kernel
theorem dX7_run_143 : decode cX7_run 143 = .ok (.aload_n 0, 1) := by decide +kernel
theorem dX7_run_144 : decode cX7_run 144 = .ok (.getfield 10, 3) := by decide +kernel
theorem dX7_run_147 : decode cX7_run 147 = .ok (.iload_n 3, 1) := by decide +kernel
theorem dX7_run_148 : decode cX7_run 148 = .ok (.invokevirtual 46, 3) := by decide +kernel
theorem dX7_run_151 : decode cX7_run 151 = .ok (.astore 5, 2) := by decide +kernel
theorem dX7_run_153 : decode cX7_run 153 = .ok (.aload 5, 2) := by decide +kernel
theorem dX7_run_155 : decode cX7_run 155 = .ok (.ifnonnull 7, 3) := by decide +kernel
theorem dX7_run_158 : decode cX7_run 158 = .ok (.iconst (-1), 1) := by decide +kernel
theorem dX7_run_159 : decode cX7_run 159 = .ok (.goto 13, 3) := by decide +kernel
theorem dX7_run_162 : decode cX7_run 162 = .ok (.aload_n 0, 1) := by decide +kernel
theorem dX7_run_163 : decode cX7_run 163 = .ok (.aload 5, 2) := by decide +kernel
theorem dX7_run_165 : decode cX7_run 165 = .ok (.aload_n 0, 1) := by decide +kernel
theorem dX7_run_166 : decode cX7_run 166 = .ok (.getfield 25, 3) := by decide +kernel
theorem dX7_run_169 : decode cX7_run 169 = .ok (.invokevirtual 84, 3) := by decide +kernel
theorem dX7_run_172 : decode cX7_run 172 = .ok (.ireturn, 1) := by decide +kernel
theorem dX7_told_0 : decode cX7_told 0 = .ok (.iload_n 1, 1) := by decide +kernel
theorem dX7_told_1 : decode cX7_told 1 = .ok (.tableswitch 68 0 3 #[31, 39, 47, 63], 31) := by decide +kernel
theorem dX7_told_32 : decode cX7_told 32 = .ok (.aload_n 0, 1) := by decide +kernel
theorem dX7_told_33 : decode cX7_told 33 = .ok (.getfield 10, 3) := by decide +kernel
theorem dX7_told_36 : decode cX7_told 36 = .ok (.getfield 202, 3) := by decide +kernel
theorem dX7_told_39 : decode cX7_told 39 = .ok (.ireturn, 1) := by decide +kernel
theorem dX7_told_40 : decode cX7_told 40 = .ok (.aload_n 0, 1) := by decide +kernel
theorem dX7_told_41 : decode cX7_told 41 = .ok (.getfield 10, 3) := by decide +kernel
theorem dX7_told_44 : decode cX7_told 44 = .ok (.getfield 165, 3) := by decide +kernel
theorem dX7_told_47 : decode cX7_told 47 = .ok (.ireturn, 1) := by decide +kernel
theorem dX7_told_48 : decode cX7_told 48 = .ok (.aload_n 0, 1) := by decide +kernel
theorem dX7_told_49 : decode cX7_told 49 = .ok (.getfield 10, 3) := by decide +kernel
theorem dX7_told_52 : decode cX7_told 52 = .ok (.invokevirtual 158, 3) := by decide +kernel
theorem dX7_told_55 : decode cX7_told 55 = .ok (.ifCond .eq 7, 3) := by decide +kernel
theorem dX7_told_58 : decode cX7_told 58 = .ok (.iconst 1, 1) := by decide +kernel
theorem dX7_told_59 : decode cX7_told 59 = .ok (.goto 4, 3) := by decide +kernel
theorem dX7_told_62 : decode cX7_told 62 = .ok (.iconst 0, 1) := by decide +kernel
theorem dX7_told_63 : decode cX7_told 63 = .ok (.ireturn, 1) := by decide +kernel
theorem dX7_told_64 : decode cX7_told 64 = .ok (.aload_n 0, 1) := by decide +kernel
theorem dX7_told_65 : decode cX7_told 65 = .ok (.getfield 38, 3) := by decide +kernel
theorem dX7_told_68 : decode cX7_told 68 = .ok (.ireturn, 1) := by decide +kernel
theorem dX7_told_69 : decode cX7_told 69 = .ok (.bipush (-2), 2) := by decide +kernel
theorem dX7_told_71 : decode cX7_told 71 = .ok (.ireturn, 1) := by decide +kernel
theorem dX7_variables_0 : decode cX7_variables 0 = .ok (.aload_n 0, 1) := by decide +kernel
theorem dX7_variables_1 : decode cX7_variables 1 = .ok (.getfield 10, 3) := by decide +kernel
theorem dX7_variables_4 : decode cX7_variables 4 = .ok (.iload_n 1, 1) := by decide +kernel
theorem dX7_variables_5 : decode cX7_variables 5 = .ok (.invokevirtual 46, 3) := by decide +kernel
theorem dX7_variables_8 : decode cX7_variables 8 = .ok (.astore_n 2, 1) := by decide +kernel
theorem dX7_variables_9 : decode cX7_variables 9 = .ok (.aload_n 2, 1) := by decide +kernel
theorem dX7_variables_10 : decode cX7_variables 10 = .ok (.ifnonnull 7, 3) := by decide +kernel
theorem dX7_variables_13 : decode cX7_variables 13 = .ok (.iconst (-1), 1) := by decide +kernel
theorem dX7_variables_14 : decode cX7_variables 14 = .ok (.goto 7, 3) := by decide +kernel
theorem dX7_variables_17 : decode cX7_variables 17 = .ok (.aload_n 2, 1) := by decide +kernel
theorem dX7_variables_18 : decode cX7_variables 18 = .ok (.getfield 77, 3) := by decide +kernel
theorem dX7_variables_21 : decode cX7_variables 21 = .ok (.ireturn, 1) := by decide +kernel
theorem dX7_takeReading_0 : decode cX7_takeReading 0 = .ok (.aload_n 1, 1) := by decide +kernel
theorem dX7_takeReading_1 : decode cX7_takeReading 1 = .ok (.getfield 88, 3) := by decide +kernel
theorem dX7_takeReading_4 : decode cX7_takeReading 4 = .ok (.bipush 40, 2) := by decide +kernel
theorem dX7_takeReading_6 : decode cX7_takeReading 6 = .ok (.if_icmp .lt 6, 3) := by decide +kernel
theorem dX7_takeReading_9 : decode cX7_takeReading 9 = .ok (.bipush (-4), 2) := by decide +kernel
theorem dX7_takeReading_11 : decode cX7_takeReading 11 = .ok (.ireturn, 1) := by decide +kernel
theorem dX7_takeReading_12 : decode cX7_takeReading 12 = .ok (.aload_n 0, 1) := by decide +kernel
theorem dX7_takeReading_13 : decode cX7_takeReading 13 = .ok (.iconst 0, 1) := by decide +kernel
theorem dX7_takeReading_14 : decode cX7_takeReading 14 = .ok (.putfield 38, 3) := by decide +kernel
theorem dX7_takeReading_17 : decode cX7_takeReading 17 = .ok (.aload_n 1, 1) := by decide +kernel
theorem dX7_takeReading_18 : decode cX7_takeReading 18 = .ok (.aload_n 2, 1) := by decide +kernel
theorem dX7_takeReading_19 : decode cX7_takeReading 19 = .ok (.invokevirtual 205, 3) := by decide +kernel
theorem dX7_takeReading_22 : decode cX7_takeReading 22 = .ok (.istore_n 3, 1) := by decide +kernel
theorem dX7_takeReading_23 : decode cX7_takeReading 23 = .ok (.iconst 0, 1) := by decide +kernel
theorem dX7_takeReading_24 : decode cX7_takeReading 24 = .ok (.istore 4, 2) := by decide +kernel
theorem dX7_takeReading_26 : decode cX7_takeReading 26 = .ok (.iload 4, 2) := by decide +kernel
theorem dX7_takeReading_28 : decode cX7_takeReading 28 = .ok (.iconst 3, 1) := by decide +kernel
theorem dX7_takeReading_29 : decode cX7_takeReading 29 = .ok (.if_icmp .ge 57, 3) := by decide +kernel
theorem dX7_takeReading_32 : decode cX7_takeReading 32 = .ok (.iload 4, 2) := by decide +kernel
theorem dX7_takeReading_34 : decode cX7_takeReading 34 = .ok (.ifCond .eq 9, 3) := by decide +kernel
theorem dX7_takeReading_37 : decode cX7_takeReading 37 = .ok (.iload 4, 2) := by decide +kernel
theorem dX7_takeReading_39 : decode cX7_takeReading 39 = .ok (.iload_n 3, 1) := by decide +kernel
theorem dX7_takeReading_40 : decode cX7_takeReading 40 = .ok (.if_icmp .ne 40, 3) := by decide +kernel
theorem dX7_takeReading_43 : decode cX7_takeReading 43 = .ok (.aload_n 1, 1) := by decide +kernel
theorem dX7_takeReading_44 : decode cX7_takeReading 44 = .ok (.getfield 64, 3) := by decide +kernel
theorem dX7_takeReading_47 : decode cX7_takeReading 47 = .ok (.iload 4, 2) := by decide +kernel
theorem dX7_takeReading_49 : decode cX7_takeReading 49 = .ok (.aaload, 1) := by decide +kernel
theorem dX7_takeReading_50 : decode cX7_takeReading 50 = .ok (.astore 5, 2) := by decide +kernel
theorem dX7_takeReading_52 : decode cX7_takeReading 52 = .ok (.aload 5, 2) := by decide +kernel
theorem dX7_takeReading_54 : decode cX7_takeReading 54 = .ok (.iconst 0, 1) := by decide +kernel
theorem dX7_takeReading_55 : decode cX7_takeReading 55 = .ok (.aload_n 0, 1) := by decide +kernel
theorem dX7_takeReading_56 : decode cX7_takeReading 56 = .ok (.getfield 32, 3) := by decide +kernel
theorem dX7_takeReading_59 : decode cX7_takeReading 59 = .ok (.invokevirtual 112, 3) := by decide +kernel
theorem dX7_takeReading_62 : decode cX7_takeReading 62 = .ok (.istore 6, 2) := by decide +kernel
theorem dX7_takeReading_64 : decode cX7_takeReading 64 = .ok (.aload 5, 2) := by decide +kernel
theorem dX7_takeReading_66 : decode cX7_takeReading 66 = .ok (.aload_n 2, 1) := by decide +kernel
theorem dX7_takeReading_67 : decode cX7_takeReading 67 = .ok (.invokevirtual 209, 3) := by decide +kernel
theorem dX7_takeReading_70 : decode cX7_takeReading 70 = .ok (.aload_n 0, 1) := by decide +kernel
theorem dX7_takeReading_71 : decode cX7_takeReading 71 = .ok (.iload 4, 2) := by decide +kernel
theorem dX7_takeReading_73 : decode cX7_takeReading 73 = .ok (.aload 5, 2) := by decide +kernel
theorem dX7_takeReading_75 : decode cX7_takeReading 75 = .ok (.iload 6, 2) := by decide +kernel
theorem dX7_takeReading_77 : decode cX7_takeReading 77 = .ok (.invokevirtual 213, 3) := by decide +kernel
theorem dX7_takeReading_80 : decode cX7_takeReading 80 = .ok (.iinc 4 1, 3) := by decide +kernel
theorem dX7_takeReading_83 : decode cX7_takeReading 83 = .ok (.goto (-57), 3) := by decide +kernel
theorem dX7_takeReading_86 : decode cX7_takeReading 86 = .ok (.aload_n 1, 1) := by decide +kernel
theorem dX7_takeReading_87 : decode cX7_takeReading 87 = .ok (.aload_n 2, 1) := by decide +kernel
theorem dX7_takeReading_88 : decode cX7_takeReading 88 = .ok (.invokevirtual 217, 3) := by decide +kernel
theorem dX7_takeReading_91 : decode cX7_takeReading 91 = .ok (.aload_n 0, 1) := by decide +kernel
theorem dX7_takeReading_92 : decode cX7_takeReading 92 = .ok (.getfield 38, 3) := by decide +kernel
theorem dX7_takeReading_95 : decode cX7_takeReading 95 = .ok (.ireturn, 1) := by decide +kernel
theorem dX7_noteDead_0 : decode cX7_noteDead 0 = .ok (.iconst 0, 1) := by decide +kernel
theorem dX7_noteDead_1 : decode cX7_noteDead 1 = .ok (.istore 4, 2) := by decide +kernel
theorem dX7_noteDead_3 : decode cX7_noteDead 3 = .ok (.iload 4, 2) := by decide +kernel
theorem dX7_noteDead_5 : decode cX7_noteDead 5 = .ok (.iload_n 3, 1) := by decide +kernel
theorem dX7_noteDead_6 : decode cX7_noteDead 6 = .ok (.if_icmp .ge 67, 3) := by decide +kernel
theorem dX7_noteDead_9 : decode cX7_noteDead 9 = .ok (.aload_n 0, 1) := by decide +kernel
theorem dX7_noteDead_10 : decode cX7_noteDead 10 = .ok (.getfield 32, 3) := by decide +kernel
theorem dX7_noteDead_13 : decode cX7_noteDead 13 = .ok (.iload 4, 2) := by decide +kernel
theorem dX7_noteDead_15 : decode cX7_noteDead 15 = .ok (.iaload, 1) := by decide +kernel
theorem dX7_noteDead_16 : decode cX7_noteDead 16 = .ok (.istore 5, 2) := by decide +kernel
theorem dX7_noteDead_18 : decode cX7_noteDead 18 = .ok (.aload_n 2, 1) := by decide +kernel
theorem dX7_noteDead_19 : decode cX7_noteDead 19 = .ok (.iload 5, 2) := by decide +kernel
theorem dX7_noteDead_21 : decode cX7_noteDead 21 = .ok (.invokestatic 220, 3) := by decide +kernel
theorem dX7_noteDead_24 : decode cX7_noteDead 24 = .ok (.iload 5, 2) := by decide +kernel
theorem dX7_noteDead_26 : decode cX7_noteDead 26 = .ok (.invokestatic 223, 3) := by decide +kernel
theorem dX7_noteDead_29 : decode cX7_noteDead 29 = .ok (.iload 5, 2) := by decide +kernel
theorem dX7_noteDead_31 : decode cX7_noteDead 31 = .ok (.invokestatic 226, 3) := by decide +kernel
theorem dX7_noteDead_34 : decode cX7_noteDead 34 = .ok (.invokevirtual 105, 3) := by decide +kernel
theorem dX7_noteDead_37 : decode cX7_noteDead 37 = .ok (.ifCond .ne 30, 3) := by decide +kernel
theorem dX7_noteDead_40 : decode cX7_noteDead 40 = .ok (.aload_n 0, 1) := by decide +kernel
theorem dX7_noteDead_41 : decode cX7_noteDead 41 = .ok (.getfield 35, 3) := by decide +kernel
theorem dX7_noteDead_44 : decode cX7_noteDead 44 = .ok (.aload_n 0, 1) := by decide +kernel
theorem dX7_noteDead_45 : decode cX7_noteDead 45 = .ok (.getfield 38, 3) := by decide +kernel
theorem dX7_noteDead_48 : decode cX7_noteDead 48 = .ok (.sipush 1000, 3) := by decide +kernel
theorem dX7_noteDead_51 : decode cX7_noteDead 51 = .ok (.iload_n 1, 1) := by decide +kernel
theorem dX7_noteDead_52 : decode cX7_noteDead 52 = .ok (.imul, 1) := by decide +kernel
theorem dX7_noteDead_53 : decode cX7_noteDead 53 = .ok (.iload 5, 2) := by decide +kernel
theorem dX7_noteDead_55 : decode cX7_noteDead 55 = .ok (.iadd, 1) := by decide +kernel
theorem dX7_noteDead_56 : decode cX7_noteDead 56 = .ok (.iastore, 1) := by decide +kernel
theorem dX7_noteDead_57 : decode cX7_noteDead 57 = .ok (.aload_n 0, 1) := by decide +kernel
theorem dX7_noteDead_58 : decode cX7_noteDead 58 = .ok (.dup, 1) := by decide +kernel
theorem dX7_noteDead_59 : decode cX7_noteDead 59 = .ok (.getfield 38, 3) := by decide +kernel
theorem dX7_noteDead_62 : decode cX7_noteDead 62 = .ok (.iconst 1, 1) := by decide +kernel
theorem dX7_noteDead_63 : decode cX7_noteDead 63 = .ok (.iadd, 1) := by decide +kernel
theorem dX7_noteDead_64 : decode cX7_noteDead 64 = .ok (.putfield 38, 3) := by decide +kernel
theorem dX7_noteDead_67 : decode cX7_noteDead 67 = .ok (.iinc 4 1, 3) := by decide +kernel
theorem dX7_noteDead_70 : decode cX7_noteDead 70 = .ok (.goto (-67), 3) := by decide +kernel
theorem dX7_noteDead_73 : decode cX7_noteDead 73 = .ok (.return_, 1) := by decide +kernel
theorem dX7_isWithin_0 : decode cX7_isWithin 0 = .ok (.iload_n 0, 1) := by decide +kernel
theorem dX7_isWithin_1 : decode cX7_isWithin 1 = .ok (.iload_n 1, 1) := by decide +kernel
theorem dX7_isWithin_2 : decode cX7_isWithin 2 = .ok (.ineg, 1) := by decide +kernel
theorem dX7_isWithin_3 : decode cX7_isWithin 3 = .ok (.if_icmp .lt 12, 3) := by decide +kernel
theorem dX7_isWithin_6 : decode cX7_isWithin 6 = .ok (.iload_n 0, 1) := by decide +kernel
theorem dX7_isWithin_7 : decode cX7_isWithin 7 = .ok (.iload_n 1, 1) := by decide +kernel
theorem dX7_isWithin_8 : decode cX7_isWithin 8 = .ok (.if_icmp .gt 7, 3) := by decide +kernel
theorem dX7_isWithin_11 : decode cX7_isWithin 11 = .ok (.iconst 1, 1) := by decide +kernel
theorem dX7_isWithin_12 : decode cX7_isWithin 12 = .ok (.goto 4, 3) := by decide +kernel
theorem dX7_isWithin_15 : decode cX7_isWithin 15 = .ok (.iconst 0, 1) := by decide +kernel
theorem dX7_isWithin_16 : decode cX7_isWithin 16 = .ok (.ireturn, 1) := by decide +kernel
theorem dX7_areWithin_0 : decode cX7_areWithin 0 = .ok (.iconst 0, 1) := by decide +kernel
theorem dX7_areWithin_1 : decode cX7_areWithin 1 = .ok (.istore_n 3, 1) := by decide +kernel
theorem dX7_areWithin_2 : decode cX7_areWithin 2 = .ok (.iload_n 3, 1) := by decide +kernel
theorem dX7_areWithin_3 : decode cX7_areWithin 3 = .ok (.iload_n 1, 1) := by decide +kernel
theorem dX7_areWithin_4 : decode cX7_areWithin 4 = .ok (.if_icmp .ge 21, 3) := by decide +kernel
theorem dX7_areWithin_7 : decode cX7_areWithin 7 = .ok (.aload_n 0, 1) := by decide +kernel
theorem dX7_areWithin_8 : decode cX7_areWithin 8 = .ok (.iload_n 3, 1) := by decide +kernel
theorem dX7_areWithin_9 : decode cX7_areWithin 9 = .ok (.iaload, 1) := by decide +kernel
theorem dX7_areWithin_10 : decode cX7_areWithin 10 = .ok (.iload_n 2, 1) := by decide +kernel
theorem dX7_areWithin_11 : decode cX7_areWithin 11 = .ok (.invokestatic 56, 3) := by decide +kernel
theorem dX7_areWithin_14 : decode cX7_areWithin 14 = .ok (.ifCond .ne 5, 3) := by decide +kernel
theorem dX7_areWithin_17 : decode cX7_areWithin 17 = .ok (.iconst 0, 1) := by decide +kernel
theorem dX7_areWithin_18 : decode cX7_areWithin 18 = .ok (.ireturn, 1) := by decide +kernel
theorem dX7_areWithin_19 : decode cX7_areWithin 19 = .ok (.iinc 3 1, 3) := by decide +kernel
theorem dX7_areWithin_22 : decode cX7_areWithin 22 = .ok (.goto (-20), 3) := by decide +kernel
theorem dX7_areWithin_25 : decode cX7_areWithin 25 = .ok (.iconst 1, 1) := by decide +kernel
theorem dX7_areWithin_26 : decode cX7_areWithin 26 = .ok (.ireturn, 1) := by decide +kernel
theorem dX7_fill_0 : decode cX7_fill 0 = .ok (.aload_n 0, 1) := by decide +kernel
theorem dX7_fill_1 : decode cX7_fill 1 = .ok (.iconst 0, 1) := by decide +kernel
theorem dX7_fill_2 : decode cX7_fill 2 = .ok (.iload_n 1, 1) := by decide +kernel
theorem dX7_fill_3 : decode cX7_fill 3 = .ok (.iastore, 1) := by decide +kernel
theorem dX7_fill_4 : decode cX7_fill 4 = .ok (.aload_n 0, 1) := by decide +kernel
theorem dX7_fill_5 : decode cX7_fill 5 = .ok (.iconst 1, 1) := by decide +kernel
theorem dX7_fill_6 : decode cX7_fill 6 = .ok (.iload_n 2, 1) := by decide +kernel
theorem dX7_fill_7 : decode cX7_fill 7 = .ok (.iastore, 1) := by decide +kernel
theorem dX7_fill_8 : decode cX7_fill 8 = .ok (.aload_n 0, 1) := by decide +kernel
theorem dX7_fill_9 : decode cX7_fill 9 = .ok (.iconst 2, 1) := by decide +kernel
theorem dX7_fill_10 : decode cX7_fill 10 = .ok (.iload_n 3, 1) := by decide +kernel
theorem dX7_fill_11 : decode cX7_fill 11 = .ok (.iastore, 1) := by decide +kernel
theorem dX7_fill_12 : decode cX7_fill 12 = .ok (.aload_n 0, 1) := by decide +kernel
theorem dX7_fill_13 : decode cX7_fill 13 = .ok (.iconst 3, 1) := by decide +kernel
theorem dX7_fill_14 : decode cX7_fill 14 = .ok (.iload 4, 2) := by decide +kernel
theorem dX7_fill_16 : decode cX7_fill 16 = .ok (.iastore, 1) := by decide +kernel
theorem dX7_fill_17 : decode cX7_fill 17 = .ok (.return_, 1) := by decide +kernel
theorem dX7_copy_0 : decode cX7_copy 0 = .ok (.iconst 0, 1) := by decide +kernel
theorem dX7_copy_1 : decode cX7_copy 1 = .ok (.istore_n 2, 1) := by decide +kernel
theorem dX7_copy_2 : decode cX7_copy 2 = .ok (.iload_n 2, 1) := by decide +kernel
theorem dX7_copy_3 : decode cX7_copy 3 = .ok (.aload_n 0, 1) := by decide +kernel
theorem dX7_copy_4 : decode cX7_copy 4 = .ok (.arraylength, 1) := by decide +kernel
theorem dX7_copy_5 : decode cX7_copy 5 = .ok (.if_icmp .ge 21, 3) := by decide +kernel
theorem dX7_copy_8 : decode cX7_copy 8 = .ok (.iload_n 2, 1) := by decide +kernel
theorem dX7_copy_9 : decode cX7_copy 9 = .ok (.aload_n 1, 1) := by decide +kernel
theorem dX7_copy_10 : decode cX7_copy 10 = .ok (.arraylength, 1) := by decide +kernel
theorem dX7_copy_11 : decode cX7_copy 11 = .ok (.if_icmp .ge 15, 3) := by decide +kernel
theorem dX7_copy_14 : decode cX7_copy 14 = .ok (.aload_n 1, 1) := by decide +kernel
theorem dX7_copy_15 : decode cX7_copy 15 = .ok (.iload_n 2, 1) := by decide +kernel
theorem dX7_copy_16 : decode cX7_copy 16 = .ok (.aload_n 0, 1) := by decide +kernel
theorem dX7_copy_17 : decode cX7_copy 17 = .ok (.iload_n 2, 1) := by decide +kernel
theorem dX7_copy_18 : decode cX7_copy 18 = .ok (.iaload, 1) := by decide +kernel
theorem dX7_copy_19 : decode cX7_copy 19 = .ok (.iastore, 1) := by decide +kernel
theorem dX7_copy_20 : decode cX7_copy 20 = .ok (.iinc 2 1, 3) := by decide +kernel
theorem dX7_copy_23 : decode cX7_copy 23 = .ok (.goto (-21), 3) := by decide +kernel
theorem dX7_copy_26 : decode cX7_copy 26 = .ok (.return_, 1) := by decide +kernel
theorem dX7_codeOf_0 : decode cX7_codeOf 0 = .ok (.bipush 100, 2) := by decide +kernel
theorem dX7_codeOf_2 : decode cX7_codeOf 2 = .ok (.iload_n 0, 1) := by decide +kernel
theorem dX7_codeOf_3 : decode cX7_codeOf 3 = .ok (.imul, 1) := by decide +kernel
theorem dX7_codeOf_4 : decode cX7_codeOf 4 = .ok (.bipush 10, 2) := by decide +kernel
theorem dX7_codeOf_6 : decode cX7_codeOf 6 = .ok (.iload_n 1, 1) := by decide +kernel
theorem dX7_codeOf_7 : decode cX7_codeOf 7 = .ok (.imul, 1) := by decide +kernel
theorem dX7_codeOf_8 : decode cX7_codeOf 8 = .ok (.iadd, 1) := by decide +kernel
theorem dX7_codeOf_9 : decode cX7_codeOf 9 = .ok (.iload_n 2, 1) := by decide +kernel
theorem dX7_codeOf_10 : decode cX7_codeOf 10 = .ok (.iadd, 1) := by decide +kernel
theorem dX7_codeOf_11 : decode cX7_codeOf 11 = .ok (.ireturn, 1) := by decide +kernel
theorem dX7_shapeOf_0 : decode cX7_shapeOf 0 = .ok (.iload_n 0, 1) := by decide +kernel
theorem dX7_shapeOf_1 : decode cX7_shapeOf 1 = .ok (.bipush 100, 2) := by decide +kernel
theorem dX7_shapeOf_3 : decode cX7_shapeOf 3 = .ok (.idiv, 1) := by decide +kernel
theorem dX7_shapeOf_4 : decode cX7_shapeOf 4 = .ok (.ireturn, 1) := by decide +kernel
theorem dX7_firstOf_0 : decode cX7_firstOf 0 = .ok (.iload_n 0, 1) := by decide +kernel
theorem dX7_firstOf_1 : decode cX7_firstOf 1 = .ok (.bipush 10, 2) := by decide +kernel
theorem dX7_firstOf_3 : decode cX7_firstOf 3 = .ok (.idiv, 1) := by decide +kernel
theorem dX7_firstOf_4 : decode cX7_firstOf 4 = .ok (.bipush 10, 2) := by decide +kernel
theorem dX7_firstOf_6 : decode cX7_firstOf 6 = .ok (.irem, 1) := by decide +kernel
theorem dX7_firstOf_7 : decode cX7_firstOf 7 = .ok (.ireturn, 1) := by decide +kernel
theorem dX7_secondOf_0 : decode cX7_secondOf 0 = .ok (.iload_n 0, 1) := by decide +kernel
theorem dX7_secondOf_1 : decode cX7_secondOf 1 = .ok (.bipush 10, 2) := by decide +kernel
theorem dX7_secondOf_3 : decode cX7_secondOf 3 = .ok (.irem, 1) := by decide +kernel
theorem dX7_secondOf_4 : decode cX7_secondOf 4 = .ok (.ireturn, 1) := by decide +kernel
theorem dX7_isOfTwo_0 : decode cX7_isOfTwo 0 = .ok (.iload_n 0, 1) := by decide +kernel
theorem dX7_isOfTwo_1 : decode cX7_isOfTwo 1 = .ok (.iconst 5, 1) := by decide +kernel
theorem dX7_isOfTwo_2 : decode cX7_isOfTwo 2 = .ok (.if_icmp .lt 13, 3) := by decide +kernel
theorem dX7_isOfTwo_5 : decode cX7_isOfTwo 5 = .ok (.iload_n 0, 1) := by decide +kernel
theorem dX7_isOfTwo_6 : decode cX7_isOfTwo 6 = .ok (.bipush 8, 2) := by decide +kernel
theorem dX7_isOfTwo_8 : decode cX7_isOfTwo 8 = .ok (.if_icmp .gt 7, 3) := by decide +kernel
theorem dX7_isOfTwo_11 : decode cX7_isOfTwo 11 = .ok (.iconst 1, 1) := by decide +kernel
theorem dX7_isOfTwo_12 : decode cX7_isOfTwo 12 = .ok (.goto 4, 3) := by decide +kernel
theorem dX7_isOfTwo_15 : decode cX7_isOfTwo 15 = .ok (.iconst 0, 1) := by decide +kernel
theorem dX7_isOfTwo_16 : decode cX7_isOfTwo 16 = .ok (.ireturn, 1) := by decide +kernel
theorem dX7_isGuess_0 : decode cX7_isGuess 0 = .ok (.iload_n 0, 1) := by decide +kernel
theorem dX7_isGuess_1 : decode cX7_isGuess 1 = .ok (.tableswitch 53 5 8 #[31, 42, 42, 31], 31) := by decide +kernel
theorem dX7_isGuess_32 : decode cX7_isGuess 32 = .ok (.iload_n 1, 1) := by decide +kernel
theorem dX7_isGuess_33 : decode cX7_isGuess 33 = .ok (.iload_n 2, 1) := by decide +kernel
theorem dX7_isGuess_34 : decode cX7_isGuess 34 = .ok (.if_icmp .ge 7, 3) := by decide +kernel
theorem dX7_isGuess_37 : decode cX7_isGuess 37 = .ok (.iconst 1, 1) := by decide +kernel
theorem dX7_isGuess_38 : decode cX7_isGuess 38 = .ok (.goto 4, 3) := by decide +kernel
theorem dX7_isGuess_41 : decode cX7_isGuess 41 = .ok (.iconst 0, 1) := by decide +kernel
theorem dX7_isGuess_42 : decode cX7_isGuess 42 = .ok (.ireturn, 1) := by decide +kernel
theorem dX7_isGuess_43 : decode cX7_isGuess 43 = .ok (.iload_n 1, 1) := by decide +kernel
theorem dX7_isGuess_44 : decode cX7_isGuess 44 = .ok (.iload_n 2, 1) := by decide +kernel
theorem dX7_isGuess_45 : decode cX7_isGuess 45 = .ok (.if_icmp .eq 7, 3) := by decide +kernel
theorem dX7_isGuess_48 : decode cX7_isGuess 48 = .ok (.iconst 1, 1) := by decide +kernel
theorem dX7_isGuess_49 : decode cX7_isGuess 49 = .ok (.goto 4, 3) := by decide +kernel
theorem dX7_isGuess_52 : decode cX7_isGuess 52 = .ok (.iconst 0, 1) := by decide +kernel
theorem dX7_isGuess_53 : decode cX7_isGuess 53 = .ok (.ireturn, 1) := by decide +kernel
theorem dX7_isGuess_54 : decode cX7_isGuess 54 = .ok (.iload_n 0, 1) := by decide +kernel
theorem dX7_isGuess_55 : decode cX7_isGuess 55 = .ok (.ifCond .lt 17, 3) := by decide +kernel
theorem dX7_isGuess_58 : decode cX7_isGuess 58 = .ok (.iload_n 0, 1) := by decide +kernel
theorem dX7_isGuess_59 : decode cX7_isGuess 59 = .ok (.bipush 9, 2) := by decide +kernel
theorem dX7_isGuess_61 : decode cX7_isGuess 61 = .ok (.if_icmp .gt 11, 3) := by decide +kernel
theorem dX7_isGuess_64 : decode cX7_isGuess 64 = .ok (.iload_n 2, 1) := by decide +kernel
theorem dX7_isGuess_65 : decode cX7_isGuess 65 = .ok (.ifCond .ne 7, 3) := by decide +kernel
theorem dX7_isGuess_68 : decode cX7_isGuess 68 = .ok (.iconst 1, 1) := by decide +kernel
theorem dX7_isGuess_69 : decode cX7_isGuess 69 = .ok (.goto 4, 3) := by decide +kernel
theorem dX7_isGuess_72 : decode cX7_isGuess 72 = .ok (.iconst 0, 1) := by decide +kernel
theorem dX7_isGuess_73 : decode cX7_isGuess 73 = .ok (.ireturn, 1) := by decide +kernel
theorem dX7_orderOf_0 : decode cX7_orderOf 0 = .ok (.iload_n 0, 1) := by decide +kernel
theorem dX7_orderOf_1 : decode cX7_orderOf 1 = .ok (.iload_n 1, 1) := by decide +kernel
theorem dX7_orderOf_2 : decode cX7_orderOf 2 = .ok (.if_icmp .ne 5, 3) := by decide +kernel
theorem dX7_orderOf_5 : decode cX7_orderOf 5 = .ok (.iconst 2, 1) := by decide +kernel
theorem dX7_orderOf_6 : decode cX7_orderOf 6 = .ok (.ireturn, 1) := by decide +kernel
theorem dX7_orderOf_7 : decode cX7_orderOf 7 = .ok (.iload_n 0, 1) := by decide +kernel
theorem dX7_orderOf_8 : decode cX7_orderOf 8 = .ok (.iload_n 1, 1) := by decide +kernel
theorem dX7_orderOf_9 : decode cX7_orderOf 9 = .ok (.if_icmp .ge 7, 3) := by decide +kernel
theorem dX7_orderOf_12 : decode cX7_orderOf 12 = .ok (.iconst 1, 1) := by decide +kernel
theorem dX7_orderOf_13 : decode cX7_orderOf 13 = .ok (.goto 4, 3) := by decide +kernel
theorem dX7_orderOf_16 : decode cX7_orderOf 16 = .ok (.iconst 4, 1) := by decide +kernel
theorem dX7_orderOf_17 : decode cX7_orderOf 17 = .ok (.ireturn, 1) := by decide +kernel
theorem dX7_fitsOrders_0 : decode cX7_fitsOrders 0 = .ok (.iload_n 0, 1) := by decide +kernel
theorem dX7_fitsOrders_1 : decode cX7_fitsOrders 1 = .ok (.tableswitch 77 5 8 #[31, 42, 53, 65], 31) := by decide +kernel
theorem dX7_fitsOrders_32 : decode cX7_fitsOrders 32 = .ok (.iload_n 1, 1) := by decide +kernel
theorem dX7_fitsOrders_33 : decode cX7_fitsOrders 33 = .ok (.iconst 2, 1) := by decide +kernel
theorem dX7_fitsOrders_34 : decode cX7_fitsOrders 34 = .ok (.if_icmp .ne 7, 3) := by decide +kernel
theorem dX7_fitsOrders_37 : decode cX7_fitsOrders 37 = .ok (.iconst 1, 1) := by decide +kernel
theorem dX7_fitsOrders_38 : decode cX7_fitsOrders 38 = .ok (.goto 4, 3) := by decide +kernel
theorem dX7_fitsOrders_41 : decode cX7_fitsOrders 41 = .ok (.iconst 0, 1) := by decide +kernel
theorem dX7_fitsOrders_42 : decode cX7_fitsOrders 42 = .ok (.ireturn, 1) := by decide +kernel
theorem dX7_fitsOrders_43 : decode cX7_fitsOrders 43 = .ok (.iload_n 1, 1) := by decide +kernel
theorem dX7_fitsOrders_44 : decode cX7_fitsOrders 44 = .ok (.iconst 1, 1) := by decide +kernel
theorem dX7_fitsOrders_45 : decode cX7_fitsOrders 45 = .ok (.if_icmp .ne 7, 3) := by decide +kernel
theorem dX7_fitsOrders_48 : decode cX7_fitsOrders 48 = .ok (.iconst 1, 1) := by decide +kernel
theorem dX7_fitsOrders_49 : decode cX7_fitsOrders 49 = .ok (.goto 4, 3) := by decide +kernel
theorem dX7_fitsOrders_52 : decode cX7_fitsOrders 52 = .ok (.iconst 0, 1) := by decide +kernel
theorem dX7_fitsOrders_53 : decode cX7_fitsOrders 53 = .ok (.ireturn, 1) := by decide +kernel
theorem dX7_fitsOrders_54 : decode cX7_fitsOrders 54 = .ok (.iload_n 1, 1) := by decide +kernel
theorem dX7_fitsOrders_55 : decode cX7_fitsOrders 55 = .ok (.iconst 4, 1) := by decide +kernel
theorem dX7_fitsOrders_56 : decode cX7_fitsOrders 56 = .ok (.iand, 1) := by decide +kernel
theorem dX7_fitsOrders_57 : decode cX7_fitsOrders 57 = .ok (.ifCond .ne 7, 3) := by decide +kernel
theorem dX7_fitsOrders_60 : decode cX7_fitsOrders 60 = .ok (.iconst 1, 1) := by decide +kernel
theorem dX7_fitsOrders_61 : decode cX7_fitsOrders 61 = .ok (.goto 4, 3) := by decide +kernel
theorem dX7_fitsOrders_64 : decode cX7_fitsOrders 64 = .ok (.iconst 0, 1) := by decide +kernel
theorem dX7_fitsOrders_65 : decode cX7_fitsOrders 65 = .ok (.ireturn, 1) := by decide +kernel
theorem dX7_fitsOrders_66 : decode cX7_fitsOrders 66 = .ok (.iload_n 1, 1) := by decide +kernel
theorem dX7_fitsOrders_67 : decode cX7_fitsOrders 67 = .ok (.iconst 2, 1) := by decide +kernel
theorem dX7_fitsOrders_68 : decode cX7_fitsOrders 68 = .ok (.iand, 1) := by decide +kernel
theorem dX7_fitsOrders_69 : decode cX7_fitsOrders 69 = .ok (.ifCond .ne 7, 3) := by decide +kernel
theorem dX7_fitsOrders_72 : decode cX7_fitsOrders 72 = .ok (.iconst 1, 1) := by decide +kernel
theorem dX7_fitsOrders_73 : decode cX7_fitsOrders 73 = .ok (.goto 4, 3) := by decide +kernel
theorem dX7_fitsOrders_76 : decode cX7_fitsOrders 76 = .ok (.iconst 0, 1) := by decide +kernel
theorem dX7_fitsOrders_77 : decode cX7_fitsOrders 77 = .ok (.ireturn, 1) := by decide +kernel
theorem dX7_fitsOrders_78 : decode cX7_fitsOrders 78 = .ok (.iconst 0, 1) := by decide +kernel
theorem dX7_fitsOrders_79 : decode cX7_fitsOrders 79 = .ok (.ireturn, 1) := by decide +kernel
theorem dX7_divisorOf_0 : decode cX7_divisorOf 0 = .ok (.lload_n 0, 1) := by decide +kernel
theorem dX7_divisorOf_1 : decode cX7_divisorOf 1 = .ok (.lconst 0, 1) := by decide +kernel
theorem dX7_divisorOf_2 : decode cX7_divisorOf 2 = .ok (.lcmp, 1) := by decide +kernel
theorem dX7_divisorOf_3 : decode cX7_divisorOf 3 = .ok (.ifCond .ge 8, 3) := by decide +kernel
theorem dX7_divisorOf_6 : decode cX7_divisorOf 6 = .ok (.lload_n 0, 1) := by decide +kernel
theorem dX7_divisorOf_7 : decode cX7_divisorOf 7 = .ok (.lneg, 1) := by decide +kernel
theorem dX7_divisorOf_8 : decode cX7_divisorOf 8 = .ok (.goto 4, 3) := by decide +kernel
theorem dX7_divisorOf_11 : decode cX7_divisorOf 11 = .ok (.lload_n 0, 1) := by decide +kernel
theorem dX7_divisorOf_12 : decode cX7_divisorOf 12 = .ok (.lstore 4, 2) := by decide +kernel
theorem dX7_divisorOf_14 : decode cX7_divisorOf 14 = .ok (.lload_n 2, 1) := by decide +kernel
theorem dX7_divisorOf_15 : decode cX7_divisorOf 15 = .ok (.lconst 0, 1) := by decide +kernel
theorem dX7_divisorOf_16 : decode cX7_divisorOf 16 = .ok (.lcmp, 1) := by decide +kernel
theorem dX7_divisorOf_17 : decode cX7_divisorOf 17 = .ok (.ifCond .ge 8, 3) := by decide +kernel
theorem dX7_divisorOf_20 : decode cX7_divisorOf 20 = .ok (.lload_n 2, 1) := by decide +kernel
theorem dX7_divisorOf_21 : decode cX7_divisorOf 21 = .ok (.lneg, 1) := by decide +kernel
theorem dX7_divisorOf_22 : decode cX7_divisorOf 22 = .ok (.goto 4, 3) := by decide +kernel
theorem dX7_divisorOf_25 : decode cX7_divisorOf 25 = .ok (.lload_n 2, 1) := by decide +kernel
theorem dX7_divisorOf_26 : decode cX7_divisorOf 26 = .ok (.lstore 6, 2) := by decide +kernel
theorem dX7_divisorOf_28 : decode cX7_divisorOf 28 = .ok (.iconst 0, 1) := by decide +kernel
theorem dX7_divisorOf_29 : decode cX7_divisorOf 29 = .ok (.istore 8, 2) := by decide +kernel
theorem dX7_divisorOf_31 : decode cX7_divisorOf 31 = .ok (.iload 8, 2) := by decide +kernel
theorem dX7_divisorOf_33 : decode cX7_divisorOf 33 = .ok (.bipush 100, 2) := by decide +kernel
theorem dX7_divisorOf_35 : decode cX7_divisorOf 35 = .ok (.if_icmp .ge 31, 3) := by decide +kernel
theorem dX7_divisorOf_38 : decode cX7_divisorOf 38 = .ok (.lload 6, 2) := by decide +kernel
theorem dX7_divisorOf_40 : decode cX7_divisorOf 40 = .ok (.lconst 0, 1) := by decide +kernel
theorem dX7_divisorOf_41 : decode cX7_divisorOf 41 = .ok (.lcmp, 1) := by decide +kernel
theorem dX7_divisorOf_42 : decode cX7_divisorOf 42 = .ok (.ifCond .eq 24, 3) := by decide +kernel
theorem dX7_divisorOf_45 : decode cX7_divisorOf 45 = .ok (.lload 4, 2) := by decide +kernel
theorem dX7_divisorOf_47 : decode cX7_divisorOf 47 = .ok (.lload 6, 2) := by decide +kernel
theorem dX7_divisorOf_49 : decode cX7_divisorOf 49 = .ok (.lrem, 1) := by decide +kernel
theorem dX7_divisorOf_50 : decode cX7_divisorOf 50 = .ok (.lstore 9, 2) := by decide +kernel
theorem dX7_divisorOf_52 : decode cX7_divisorOf 52 = .ok (.lload 6, 2) := by decide +kernel
theorem dX7_divisorOf_54 : decode cX7_divisorOf 54 = .ok (.lstore 4, 2) := by decide +kernel
theorem dX7_divisorOf_56 : decode cX7_divisorOf 56 = .ok (.lload 9, 2) := by decide +kernel
theorem dX7_divisorOf_58 : decode cX7_divisorOf 58 = .ok (.lstore 6, 2) := by decide +kernel
theorem dX7_divisorOf_60 : decode cX7_divisorOf 60 = .ok (.iinc 8 1, 3) := by decide +kernel
theorem dX7_divisorOf_63 : decode cX7_divisorOf 63 = .ok (.goto (-32), 3) := by decide +kernel
theorem dX7_divisorOf_66 : decode cX7_divisorOf 66 = .ok (.lload 4, 2) := by decide +kernel
theorem dX7_divisorOf_68 : decode cX7_divisorOf 68 = .ok (.lreturn, 1) := by decide +kernel
theorem dX8_init_0 : decode cX8_init 0 = .ok (.aload_n 0, 1) := by decide +kernel
theorem dX8_init_1 : decode cX8_init 1 = .ok (.invokespecial 1, 3) := by decide +kernel
theorem dX8_init_4 : decode cX8_init 4 = .ok (.aload_n 0, 1) := by decide +kernel
theorem dX8_init_5 : decode cX8_init 5 = .ok (.bipush 6, 2) := by decide +kernel
theorem dX8_init_7 : decode cX8_init 7 = .ok (.newarray .int, 2) := by decide +kernel
theorem dX8_init_9 : decode cX8_init 9 = .ok (.putfield 7, 3) := by decide +kernel
theorem dX8_init_12 : decode cX8_init 12 = .ok (.aload_n 0, 1) := by decide +kernel
theorem dX8_init_13 : decode cX8_init 13 = .ok (.bipush 6, 2) := by decide +kernel
theorem dX8_init_15 : decode cX8_init 15 = .ok (.newarray .int, 2) := by decide +kernel
theorem dX8_init_17 : decode cX8_init 17 = .ok (.putfield 13, 3) := by decide +kernel
theorem dX8_init_20 : decode cX8_init 20 = .ok (.aload_n 0, 1) := by decide +kernel
theorem dX8_init_21 : decode cX8_init 21 = .ok (.bipush 6, 2) := by decide +kernel
theorem dX8_init_23 : decode cX8_init 23 = .ok (.newarray .boolean, 2) := by decide +kernel
theorem dX8_init_25 : decode cX8_init 25 = .ok (.putfield 16, 3) := by decide +kernel
theorem dX8_init_28 : decode cX8_init 28 = .ok (.aload_n 0, 1) := by decide +kernel
theorem dX8_init_29 : decode cX8_init 29 = .ok (.bipush 6, 2) := by decide +kernel
theorem dX8_init_31 : decode cX8_init 31 = .ok (.newarray .int, 2) := by decide +kernel
theorem dX8_init_33 : decode cX8_init 33 = .ok (.putfield 20, 3) := by decide +kernel
theorem dX8_init_36 : decode cX8_init 36 = .ok (.aload_n 0, 1) := by decide +kernel
theorem dX8_init_37 : decode cX8_init 37 = .ok (.bipush 6, 2) := by decide +kernel
theorem dX8_init_39 : decode cX8_init 39 = .ok (.newarray .int, 2) := by decide +kernel
theorem dX8_init_41 : decode cX8_init 41 = .ok (.putfield 23, 3) := by decide +kernel
theorem dX8_init_44 : decode cX8_init 44 = .ok (.aload_n 0, 1) := by decide +kernel
theorem dX8_init_45 : decode cX8_init 45 = .ok (.sipush 960, 3) := by decide +kernel
theorem dX8_init_48 : decode cX8_init 48 = .ok (.newarray .int, 2) := by decide +kernel
theorem dX8_init_50 : decode cX8_init 50 = .ok (.putfield 26, 3) := by decide +kernel
theorem dX8_init_53 : decode cX8_init 53 = .ok (.aload_n 0, 1) := by decide +kernel
theorem dX8_init_54 : decode cX8_init 54 = .ok (.iconst 4, 1) := by decide +kernel
theorem dX8_init_55 : decode cX8_init 55 = .ok (.newarray .int, 2) := by decide +kernel
theorem dX8_init_57 : decode cX8_init 57 = .ok (.putfield 29, 3) := by decide +kernel
theorem dX8_init_60 : decode cX8_init 60 = .ok (.aload_n 0, 1) := by decide +kernel
theorem dX8_init_61 : decode cX8_init 61 = .ok (.bipush 100, 2) := by decide +kernel
theorem dX8_init_63 : decode cX8_init 63 = .ok (.newarray .int, 2) := by decide +kernel
theorem dX8_init_65 : decode cX8_init 65 = .ok (.putfield 32, 3) := by decide +kernel
theorem dX8_init_68 : decode cX8_init 68 = .ok (.aload_n 0, 1) := by decide +kernel
theorem dX8_init_69 : decode cX8_init 69 = .ok (.sipush 300, 3) := by decide +kernel
theorem dX8_init_72 : decode cX8_init 72 = .ok (.newarray .int, 2) := by decide +kernel
theorem dX8_init_74 : decode cX8_init 74 = .ok (.putfield 35, 3) := by decide +kernel
theorem dX8_init_77 : decode cX8_init 77 = .ok (.aload_n 0, 1) := by decide +kernel
theorem dX8_init_78 : decode cX8_init 78 = .ok (.sipush 300, 3) := by decide +kernel
theorem dX8_init_81 : decode cX8_init 81 = .ok (.newarray .int, 2) := by decide +kernel
theorem dX8_init_83 : decode cX8_init 83 = .ok (.putfield 38, 3) := by decide +kernel
theorem dX8_init_86 : decode cX8_init 86 = .ok (.aload_n 0, 1) := by decide +kernel
theorem dX8_init_87 : decode cX8_init 87 = .ok (.sipush 300, 3) := by decide +kernel
theorem dX8_init_90 : decode cX8_init 90 = .ok (.newarray .int, 2) := by decide +kernel
theorem dX8_init_92 : decode cX8_init 92 = .ok (.putfield 41, 3) := by decide +kernel
theorem dX8_init_95 : decode cX8_init 95 = .ok (.aload_n 0, 1) := by decide +kernel
theorem dX8_init_96 : decode cX8_init 96 = .ok (.sipush 200, 3) := by decide +kernel
theorem dX8_init_99 : decode cX8_init 99 = .ok (.newarray .long, 2) := by decide +kernel
theorem dX8_init_101 : decode cX8_init 101 = .ok (.putfield 44, 3) := by decide +kernel
theorem dX8_init_104 : decode cX8_init 104 = .ok (.aload_n 0, 1) := by decide +kernel
theorem dX8_init_105 : decode cX8_init 105 = .ok (.iconst 5, 1) := by decide +kernel
theorem dX8_init_106 : decode cX8_init 106 = .ok (.newarray .int, 2) := by decide +kernel
theorem dX8_init_108 : decode cX8_init 108 = .ok (.putfield 48, 3) := by decide +kernel
theorem dX8_init_111 : decode cX8_init 111 = .ok (.aload_n 0, 1) := by decide +kernel
theorem dX8_init_112 : decode cX8_init 112 = .ok (.iconst 5, 1) := by decide +kernel
theorem dX8_init_113 : decode cX8_init 113 = .ok (.newarray .boolean, 2) := by decide +kernel
theorem dX8_init_115 : decode cX8_init 115 = .ok (.putfield 51, 3) := by decide +kernel
theorem dX8_init_118 : decode cX8_init 118 = .ok (.aload_n 0, 1) := by decide +kernel
theorem dX8_init_119 : decode cX8_init 119 = .ok (.bipush 25, 2) := by decide +kernel
theorem dX8_init_121 : decode cX8_init 121 = .ok (.newarray .long, 2) := by decide +kernel
theorem dX8_init_123 : decode cX8_init 123 = .ok (.putfield 54, 3) := by decide +kernel
theorem dX8_init_126 : decode cX8_init 126 = .ok (.aload_n 0, 1) := by decide +kernel
theorem dX8_init_127 : decode cX8_init 127 = .ok (.iconst 4, 1) := by decide +kernel
theorem dX8_init_128 : decode cX8_init 128 = .ok (.newarray .int, 2) := by decide +kernel
theorem dX8_init_130 : decode cX8_init 130 = .ok (.putfield 57, 3) := by decide +kernel
theorem dX8_init_133 : decode cX8_init 133 = .ok (.aload_n 0, 1) := by decide +kernel
theorem dX8_init_134 : decode cX8_init 134 = .ok (.bipush 10, 2) := by decide +kernel
theorem dX8_init_136 : decode cX8_init 136 = .ok (.newarray .int, 2) := by decide +kernel
theorem dX8_init_138 : decode cX8_init 138 = .ok (.putfield 60, 3) := by decide +kernel
theorem dX8_init_141 : decode cX8_init 141 = .ok (.aload_n 0, 1) := by decide +kernel
theorem dX8_init_142 : decode cX8_init 142 = .ok (.bipush 10, 2) := by decide +kernel
theorem dX8_init_144 : decode cX8_init 144 = .ok (.newarray .int, 2) := by decide +kernel
theorem dX8_init_146 : decode cX8_init 146 = .ok (.putfield 63, 3) := by decide +kernel
theorem dX8_init_149 : decode cX8_init 149 = .ok (.aload_n 0, 1) := by decide +kernel
theorem dX8_init_150 : decode cX8_init 150 = .ok (.sipush 200, 3) := by decide +kernel
theorem dX8_init_153 : decode cX8_init 153 = .ok (.newarray .int, 2) := by decide +kernel
theorem dX8_init_155 : decode cX8_init 155 = .ok (.putfield 66, 3) := by decide +kernel
theorem dX8_init_158 : decode cX8_init 158 = .ok (.aload_n 0, 1) := by decide +kernel
theorem dX8_init_159 : decode cX8_init 159 = .ok (.iconst 5, 1) := by decide +kernel
theorem dX8_init_160 : decode cX8_init 160 = .ok (.newarray .long, 2) := by decide +kernel
theorem dX8_init_162 : decode cX8_init 162 = .ok (.putfield 69, 3) := by decide +kernel
theorem dX8_init_165 : decode cX8_init 165 = .ok (.aload_n 0, 1) := by decide +kernel
theorem dX8_init_166 : decode cX8_init 166 = .ok (.bipush 25, 2) := by decide +kernel
theorem dX8_init_168 : decode cX8_init 168 = .ok (.newarray .long, 2) := by decide +kernel
theorem dX8_init_170 : decode cX8_init 170 = .ok (.putfield 72, 3) := by decide +kernel
theorem dX8_init_173 : decode cX8_init 173 = .ok (.aload_n 0, 1) := by decide +kernel
theorem dX8_init_174 : decode cX8_init 174 = .ok (.bipush 16, 2) := by decide +kernel
theorem dX8_init_176 : decode cX8_init 176 = .ok (.newarray .int, 2) := by decide +kernel
theorem dX8_init_178 : decode cX8_init 178 = .ok (.putfield 75, 3) := by decide +kernel
theorem dX8_init_181 : decode cX8_init 181 = .ok (.aload_n 0, 1) := by decide +kernel
theorem dX8_init_182 : decode cX8_init 182 = .ok (.bipush 64, 2) := by decide +kernel
theorem dX8_init_184 : decode cX8_init 184 = .ok (.newarray .int, 2) := by decide +kernel
theorem dX8_init_186 : decode cX8_init 186 = .ok (.putfield 78, 3) := by decide +kernel
theorem dX8_init_189 : decode cX8_init 189 = .ok (.aload_n 0, 1) := by decide +kernel
theorem dX8_init_190 : decode cX8_init 190 = .ok (.bipush 16, 2) := by decide +kernel
theorem dX8_init_192 : decode cX8_init 192 = .ok (.newarray .int, 2) := by decide +kernel
theorem dX8_init_194 : decode cX8_init 194 = .ok (.putfield 81, 3) := by decide +kernel
theorem dX8_init_197 : decode cX8_init 197 = .ok (.aload_n 0, 1) := by decide +kernel
theorem dX8_init_198 : decode cX8_init 198 = .ok (.bipush 6, 2) := by decide +kernel
theorem dX8_init_200 : decode cX8_init 200 = .ok (.newarray .int, 2) := by decide +kernel
theorem dX8_init_202 : decode cX8_init 202 = .ok (.putfield 84, 3) := by decide +kernel
theorem dX8_init_205 : decode cX8_init 205 = .ok (.aload_n 0, 1) := by decide +kernel
theorem dX8_init_206 : decode cX8_init 206 = .ok (.sipush 600, 3) := by decide +kernel
theorem dX8_init_209 : decode cX8_init 209 = .ok (.newarray .int, 2) := by decide +kernel
theorem dX8_init_211 : decode cX8_init 211 = .ok (.putfield 87, 3) := by decide +kernel
theorem dX8_init_214 : decode cX8_init 214 = .ok (.aload_n 0, 1) := by decide +kernel
theorem dX8_init_215 : decode cX8_init 215 = .ok (.sipush 600, 3) := by decide +kernel
theorem dX8_init_218 : decode cX8_init 218 = .ok (.newarray .int, 2) := by decide +kernel
theorem dX8_init_220 : decode cX8_init 220 = .ok (.putfield 90, 3) := by decide +kernel
theorem dX8_init_223 : decode cX8_init 223 = .ok (.aload_n 0, 1) := by decide +kernel
theorem dX8_init_224 : decode cX8_init 224 = .ok (.sipush 600, 3) := by decide +kernel
theorem dX8_init_227 : decode cX8_init 227 = .ok (.newarray .int, 2) := by decide +kernel
theorem dX8_init_229 : decode cX8_init 229 = .ok (.putfield 93, 3) := by decide +kernel
theorem dX8_init_232 : decode cX8_init 232 = .ok (.aload_n 0, 1) := by decide +kernel
theorem dX8_init_233 : decode cX8_init 233 = .ok (.sipush 600, 3) := by decide +kernel
theorem dX8_init_236 : decode cX8_init 236 = .ok (.newarray .int, 2) := by decide +kernel
theorem dX8_init_238 : decode cX8_init 238 = .ok (.putfield 96, 3) := by decide +kernel
theorem dX8_init_241 : decode cX8_init 241 = .ok (.aload_n 0, 1) := by decide +kernel
theorem dX8_init_242 : decode cX8_init 242 = .ok (.iconst 4, 1) := by decide +kernel
theorem dX8_init_243 : decode cX8_init 243 = .ok (.newarray .int, 2) := by decide +kernel
theorem dX8_init_245 : decode cX8_init 245 = .ok (.putfield 99, 3) := by decide +kernel
theorem dX8_init_248 : decode cX8_init 248 = .ok (.aload_n 0, 1) := by decide +kernel
theorem dX8_init_249 : decode cX8_init 249 = .ok (.bipush 8, 2) := by decide +kernel
theorem dX8_init_251 : decode cX8_init 251 = .ok (.newarray .int, 2) := by decide +kernel
theorem dX8_init_253 : decode cX8_init 253 = .ok (.putfield 102, 3) := by decide +kernel
theorem dX8_init_256 : decode cX8_init 256 = .ok (.aload_n 0, 1) := by decide +kernel
theorem dX8_init_257 : decode cX8_init 257 = .ok (.iconst 0, 1) := by decide +kernel
theorem dX8_init_258 : decode cX8_init 258 = .ok (.putfield 105, 3) := by decide +kernel
theorem dX8_init_261 : decode cX8_init 261 = .ok (.aload_n 0, 1) := by decide +kernel
theorem dX8_init_262 : decode cX8_init 262 = .ok (.iconst (-1), 1) := by decide +kernel
theorem dX8_init_263 : decode cX8_init 263 = .ok (.putfield 109, 3) := by decide +kernel
theorem dX8_init_266 : decode cX8_init 266 = .ok (.aload_n 0, 1) := by decide +kernel
theorem dX8_init_267 : decode cX8_init 267 = .ok (.iconst (-1), 1) := by decide +kernel
theorem dX8_init_268 : decode cX8_init 268 = .ok (.putfield 112, 3) := by decide +kernel
theorem dX8_init_271 : decode cX8_init 271 = .ok (.return_, 1) := by decide +kernel
theorem dX8_in_0 : decode cX8_in 0 = .ok (.iload_n 0, 1) := by decide +kernel
theorem dX8_in_1 : decode cX8_in 1 = .ok (.iload_n 1, 1) := by decide +kernel
theorem dX8_in_2 : decode cX8_in 2 = .ok (.if_icmp .lt 12, 3) := by decide +kernel
theorem dX8_in_5 : decode cX8_in 5 = .ok (.iload_n 0, 1) := by decide +kernel
theorem dX8_in_6 : decode cX8_in 6 = .ok (.iload_n 2, 1) := by decide +kernel
theorem dX8_in_7 : decode cX8_in 7 = .ok (.if_icmp .gt 7, 3) := by decide +kernel
theorem dX8_in_10 : decode cX8_in 10 = .ok (.iconst 1, 1) := by decide +kernel
theorem dX8_in_11 : decode cX8_in 11 = .ok (.goto 4, 3) := by decide +kernel
theorem dX8_in_14 : decode cX8_in 14 = .ok (.iconst 0, 1) := by decide +kernel
theorem dX8_in_15 : decode cX8_in 15 = .ok (.ireturn, 1) := by decide +kernel
theorem dX8_noPoint_0 : decode cX8_noPoint 0 = .ok (.iload_n 1, 1) := by decide +kernel
theorem dX8_noPoint_1 : decode cX8_noPoint 1 = .ok (.iconst 0, 1) := by decide +kernel
theorem dX8_noPoint_2 : decode cX8_noPoint 2 = .ok (.aload_n 0, 1) := by decide +kernel
theorem dX8_noPoint_3 : decode cX8_noPoint 3 = .ok (.getfield 105, 3) := by decide +kernel
theorem dX8_noPoint_6 : decode cX8_noPoint 6 = .ok (.iconst 1, 1) := by decide +kernel
theorem dX8_noPoint_7 : decode cX8_noPoint 7 = .ok (.isub, 1) := by decide +kernel
theorem dX8_noPoint_8 : decode cX8_noPoint 8 = .ok (.invokestatic 115, 3) := by decide +kernel
theorem dX8_noPoint_11 : decode cX8_noPoint 11 = .ok (.ifCond .ne 7, 3) := by decide +kernel
theorem dX8_noPoint_14 : decode cX8_noPoint 14 = .ok (.iconst 1, 1) := by decide +kernel
theorem dX8_noPoint_15 : decode cX8_noPoint 15 = .ok (.goto 4, 3) := by decide +kernel
theorem dX8_noPoint_18 : decode cX8_noPoint 18 = .ok (.iconst 0, 1) := by decide +kernel
theorem dX8_noPoint_19 : decode cX8_noPoint 19 = .ok (.ireturn, 1) := by decide +kernel
theorem dX8_noVariable_0 : decode cX8_noVariable 0 = .ok (.aload_n 0, 1) := by decide +kernel
theorem dX8_noVariable_1 : decode cX8_noVariable 1 = .ok (.iload_n 1, 1) := by decide +kernel
theorem dX8_noVariable_2 : decode cX8_noVariable 2 = .ok (.invokevirtual 119, 3) := by decide +kernel
theorem dX8_noVariable_5 : decode cX8_noVariable 5 = .ok (.ifCond .ne 19, 3) := by decide +kernel
theorem dX8_noVariable_8 : decode cX8_noVariable 8 = .ok (.iload_n 2, 1) := by decide +kernel
theorem dX8_noVariable_9 : decode cX8_noVariable 9 = .ok (.iconst 0, 1) := by decide +kernel
theorem dX8_noVariable_10 : decode cX8_noVariable 10 = .ok (.aload_n 0, 1) := by decide +kernel
theorem dX8_noVariable_11 : decode cX8_noVariable 11 = .ok (.getfield 7, 3) := by decide +kernel
theorem dX8_noVariable_14 : decode cX8_noVariable 14 = .ok (.iload_n 1, 1) := by decide +kernel
theorem dX8_noVariable_15 : decode cX8_noVariable 15 = .ok (.iaload, 1) := by decide +kernel
theorem dX8_noVariable_16 : decode cX8_noVariable 16 = .ok (.iconst 1, 1) := by decide +kernel
theorem dX8_noVariable_17 : decode cX8_noVariable 17 = .ok (.isub, 1) := by decide +kernel
theorem dX8_noVariable_18 : decode cX8_noVariable 18 = .ok (.invokestatic 115, 3) := by decide +kernel
theorem dX8_noVariable_21 : decode cX8_noVariable 21 = .ok (.ifCond .ne 7, 3) := by decide +kernel
theorem dX8_noVariable_24 : decode cX8_noVariable 24 = .ok (.iconst 1, 1) := by decide +kernel
theorem dX8_noVariable_25 : decode cX8_noVariable 25 = .ok (.goto 4, 3) := by decide +kernel
theorem dX8_noVariable_28 : decode cX8_noVariable 28 = .ok (.iconst 0, 1) := by decide +kernel
theorem dX8_noVariable_29 : decode cX8_noVariable 29 = .ok (.ireturn, 1) := by decide +kernel
theorem dX8_point_0 : decode cX8_point 0 = .ok (.iload_n 1, 1) := by decide +kernel
theorem dX8_point_1 : decode cX8_point 1 = .ok (.iconst 1, 1) := by decide +kernel
theorem dX8_point_2 : decode cX8_point 2 = .ok (.iconst 4, 1) := by decide +kernel
theorem dX8_point_3 : decode cX8_point 3 = .ok (.invokestatic 115, 3) := by decide +kernel
theorem dX8_point_6 : decode cX8_point 6 = .ok (.ifCond .ne 6, 3) := by decide +kernel
theorem dX8_point_9 : decode cX8_point 9 = .ok (.bipush (-2), 2) := by decide +kernel
theorem dX8_point_11 : decode cX8_point 11 = .ok (.ireturn, 1) := by decide +kernel
theorem dX8_point_12 : decode cX8_point 12 = .ok (.aload_n 0, 1) := by decide +kernel
theorem dX8_point_13 : decode cX8_point 13 = .ok (.getfield 105, 3) := by decide +kernel
theorem dX8_point_16 : decode cX8_point 16 = .ok (.bipush 6, 2) := by decide +kernel
theorem dX8_point_18 : decode cX8_point 18 = .ok (.if_icmp .ne 6, 3) := by decide +kernel
theorem dX8_point_21 : decode cX8_point 21 = .ok (.bipush (-4), 2) := by decide +kernel
theorem dX8_point_23 : decode cX8_point 23 = .ok (.ireturn, 1) := by decide +kernel
theorem dX8_point_24 : decode cX8_point 24 = .ok (.aload_n 0, 1) := by decide +kernel
theorem dX8_point_25 : decode cX8_point 25 = .ok (.getfield 7, 3) := by decide +kernel
theorem dX8_point_28 : decode cX8_point 28 = .ok (.aload_n 0, 1) := by decide +kernel
theorem dX8_point_29 : decode cX8_point 29 = .ok (.getfield 105, 3) := by decide +kernel
theorem dX8_point_32 : decode cX8_point 32 = .ok (.iload_n 1, 1) := by decide +kernel
theorem dX8_point_33 : decode cX8_point 33 = .ok (.iastore, 1) := by decide +kernel
theorem dX8_point_34 : decode cX8_point 34 = .ok (.aload_n 0, 1) := by decide +kernel
theorem dX8_point_35 : decode cX8_point 35 = .ok (.getfield 13, 3) := by decide +kernel
theorem dX8_point_38 : decode cX8_point 38 = .ok (.aload_n 0, 1) := by decide +kernel
theorem dX8_point_39 : decode cX8_point 39 = .ok (.getfield 105, 3) := by decide +kernel
theorem dX8_point_42 : decode cX8_point 42 = .ok (.iconst 0, 1) := by decide +kernel
theorem dX8_point_43 : decode cX8_point 43 = .ok (.iastore, 1) := by decide +kernel
theorem dX8_point_44 : decode cX8_point 44 = .ok (.aload_n 0, 1) := by decide +kernel
theorem dX8_point_45 : decode cX8_point 45 = .ok (.dup, 1) := by decide +kernel
theorem dX8_point_46 : decode cX8_point 46 = .ok (.getfield 105, 3) := by decide +kernel
theorem dX8_point_49 : decode cX8_point 49 = .ok (.iconst 1, 1) := by decide +kernel
theorem dX8_point_50 : decode cX8_point 50 = .ok (.iadd, 1) := by decide +kernel
theorem dX8_point_51 : decode cX8_point 51 = .ok (.putfield 105, 3) := by decide +kernel
theorem dX8_point_54 : decode cX8_point 54 = .ok (.aload_n 0, 1) := by decide +kernel
theorem dX8_point_55 : decode cX8_point 55 = .ok (.getfield 105, 3) := by decide +kernel
theorem dX8_point_58 : decode cX8_point 58 = .ok (.iconst 1, 1) := by decide +kernel
theorem dX8_point_59 : decode cX8_point 59 = .ok (.isub, 1) := by decide +kernel
theorem dX8_point_60 : decode cX8_point 60 = .ok (.ireturn, 1) := by decide +kernel
theorem dX8_at_0 : decode cX8_at 0 = .ok (.aload_n 0, 1) := by decide +kernel
theorem dX8_at_1 : decode cX8_at 1 = .ok (.getfield 26, 3) := by decide +kernel
theorem dX8_at_4 : decode cX8_at 4 = .ok (.sipush 160, 3) := by decide +kernel
theorem dX8_at_7 : decode cX8_at 7 = .ok (.iload_n 1, 1) := by decide +kernel
theorem dX8_at_8 : decode cX8_at 8 = .ok (.imul, 1) := by decide +kernel
theorem dX8_at_9 : decode cX8_at 9 = .ok (.iconst 4, 1) := by decide +kernel
theorem dX8_at_10 : decode cX8_at 10 = .ok (.iload_n 2, 1) := by decide +kernel
theorem dX8_at_11 : decode cX8_at 11 = .ok (.imul, 1) := by decide +kernel
theorem dX8_at_12 : decode cX8_at 12 = .ok (.iadd, 1) := by decide +kernel
theorem dX8_at_13 : decode cX8_at 13 = .ok (.iload_n 3, 1) := by decide +kernel
theorem dX8_at_14 : decode cX8_at 14 = .ok (.iadd, 1) := by decide +kernel
theorem dX8_at_15 : decode cX8_at 15 = .ok (.iaload, 1) := by decide +kernel
theorem dX8_at_16 : decode cX8_at 16 = .ok (.ireturn, 1) := by decide +kernel
theorem dX8_isOf_0 : decode cX8_isOf 0 = .ok (.iload_n 2, 1) := by decide +kernel
theorem dX8_isOf_1 : decode cX8_isOf 1 = .ok (.ifCond .eq 51, 3) := by decide +kernel
theorem dX8_isOf_4 : decode cX8_isOf 4 = .ok (.aload_n 0, 1) := by decide +kernel
theorem dX8_isOf_5 : decode cX8_isOf 5 = .ok (.getfield 16, 3) := by decide +kernel
theorem dX8_isOf_8 : decode cX8_isOf 8 = .ok (.iload_n 1, 1) := by decide +kernel
theorem dX8_isOf_9 : decode cX8_isOf 9 = .ok (.baload, 1) := by decide +kernel
theorem dX8_isOf_10 : decode cX8_isOf 10 = .ok (.ifCond .eq 46, 3) := by decide +kernel
theorem dX8_isOf_13 : decode cX8_isOf 13 = .ok (.aload_n 0, 1) := by decide +kernel
theorem dX8_isOf_14 : decode cX8_isOf 14 = .ok (.iload_n 1, 1) := by decide +kernel
theorem dX8_isOf_15 : decode cX8_isOf 15 = .ok (.iload_n 3, 1) := by decide +kernel
theorem dX8_isOf_16 : decode cX8_isOf 16 = .ok (.aload_n 0, 1) := by decide +kernel
theorem dX8_isOf_17 : decode cX8_isOf 17 = .ok (.getfield 20, 3) := by decide +kernel
theorem dX8_isOf_20 : decode cX8_isOf 20 = .ok (.iload_n 1, 1) := by decide +kernel
theorem dX8_isOf_21 : decode cX8_isOf 21 = .ok (.iaload, 1) := by decide +kernel
theorem dX8_isOf_22 : decode cX8_isOf 22 = .ok (.invokevirtual 123, 3) := by decide +kernel
theorem dX8_isOf_25 : decode cX8_isOf 25 = .ok (.aload_n 0, 1) := by decide +kernel
theorem dX8_isOf_26 : decode cX8_isOf 26 = .ok (.getfield 23, 3) := by decide +kernel
theorem dX8_isOf_29 : decode cX8_isOf 29 = .ok (.iload_n 1, 1) := by decide +kernel
theorem dX8_isOf_30 : decode cX8_isOf 30 = .ok (.iaload, 1) := by decide +kernel
theorem dX8_isOf_31 : decode cX8_isOf 31 = .ok (.if_icmp .lt 7, 3) := by decide +kernel
theorem dX8_isOf_34 : decode cX8_isOf 34 = .ok (.iconst 1, 1) := by decide +kernel
theorem dX8_isOf_35 : decode cX8_isOf 35 = .ok (.goto 4, 3) := by decide +kernel
theorem dX8_isOf_38 : decode cX8_isOf 38 = .ok (.iconst 0, 1) := by decide +kernel
theorem dX8_isOf_39 : decode cX8_isOf 39 = .ok (.iload_n 2, 1) := by decide +kernel
theorem dX8_isOf_40 : decode cX8_isOf 40 = .ok (.iconst 1, 1) := by decide +kernel
theorem dX8_isOf_41 : decode cX8_isOf 41 = .ok (.if_icmp .ne 7, 3) := by decide +kernel
theorem dX8_isOf_44 : decode cX8_isOf 44 = .ok (.iconst 1, 1) := by decide +kernel
theorem dX8_isOf_45 : decode cX8_isOf 45 = .ok (.goto 4, 3) := by decide +kernel
theorem dX8_isOf_48 : decode cX8_isOf 48 = .ok (.iconst 0, 1) := by decide +kernel
theorem dX8_isOf_49 : decode cX8_isOf 49 = .ok (.if_icmp .ne 7, 3) := by decide +kernel
theorem dX8_isOf_52 : decode cX8_isOf 52 = .ok (.iconst 1, 1) := by decide +kernel
theorem dX8_isOf_53 : decode cX8_isOf 53 = .ok (.goto 4, 3) := by decide +kernel
theorem dX8_isOf_56 : decode cX8_isOf 56 = .ok (.iconst 0, 1) := by decide +kernel
theorem dX8_isOf_57 : decode cX8_isOf 57 = .ok (.ireturn, 1) := by decide +kernel
theorem dX8_triedOf_0 : decode cX8_triedOf 0 = .ok (.iconst 0, 1) := by decide +kernel
theorem dX8_triedOf_1 : decode cX8_triedOf 1 = .ok (.istore_n 3, 1) := by decide +kernel
theorem dX8_triedOf_2 : decode cX8_triedOf 2 = .ok (.iconst 0, 1) := by decide +kernel
theorem dX8_triedOf_3 : decode cX8_triedOf 3 = .ok (.istore 4, 2) := by decide +kernel
theorem dX8_triedOf_5 : decode cX8_triedOf 5 = .ok (.iload 4, 2) := by decide +kernel
theorem dX8_triedOf_7 : decode cX8_triedOf 7 = .ok (.aload_n 0, 1) := by decide +kernel
theorem dX8_triedOf_8 : decode cX8_triedOf 8 = .ok (.getfield 13, 3) := by decide +kernel
theorem dX8_triedOf_11 : decode cX8_triedOf 11 = .ok (.iload_n 1, 1) := by decide +kernel
theorem dX8_triedOf_12 : decode cX8_triedOf 12 = .ok (.iaload, 1) := by decide +kernel
theorem dX8_triedOf_13 : decode cX8_triedOf 13 = .ok (.if_icmp .ge 28, 3) := by decide +kernel
theorem dX8_triedOf_16 : decode cX8_triedOf 16 = .ok (.iload_n 3, 1) := by decide +kernel
theorem dX8_triedOf_17 : decode cX8_triedOf 17 = .ok (.aload_n 0, 1) := by decide +kernel
theorem dX8_triedOf_18 : decode cX8_triedOf 18 = .ok (.iload_n 1, 1) := by decide +kernel
theorem dX8_triedOf_19 : decode cX8_triedOf 19 = .ok (.iload_n 2, 1) := by decide +kernel
theorem dX8_triedOf_20 : decode cX8_triedOf 20 = .ok (.iload 4, 2) := by decide +kernel
theorem dX8_triedOf_22 : decode cX8_triedOf 22 = .ok (.invokevirtual 127, 3) := by decide +kernel
theorem dX8_triedOf_25 : decode cX8_triedOf 25 = .ok (.ifCond .eq 7, 3) := by decide +kernel
theorem dX8_triedOf_28 : decode cX8_triedOf 28 = .ok (.iconst 1, 1) := by decide +kernel
theorem dX8_triedOf_29 : decode cX8_triedOf 29 = .ok (.goto 4, 3) := by decide +kernel
theorem dX8_triedOf_32 : decode cX8_triedOf 32 = .ok (.iconst 0, 1) := by decide +kernel
theorem dX8_triedOf_33 : decode cX8_triedOf 33 = .ok (.iadd, 1) := by decide +kernel
theorem dX8_triedOf_34 : decode cX8_triedOf 34 = .ok (.istore_n 3, 1) := by decide +kernel
theorem dX8_triedOf_35 : decode cX8_triedOf 35 = .ok (.iinc 4 1, 3) := by decide +kernel
theorem dX8_triedOf_38 : decode cX8_triedOf 38 = .ok (.goto (-33), 3) := by decide +kernel
theorem dX8_triedOf_41 : decode cX8_triedOf 41 = .ok (.iload_n 3, 1) := by decide +kernel
theorem dX8_triedOf_42 : decode cX8_triedOf 42 = .ok (.ireturn, 1) := by decide +kernel
theorem dX8_split_0 : decode cX8_split 0 = .ok (.aload_n 0, 1) := by decide +kernel
theorem dX8_split_1 : decode cX8_split 1 = .ok (.iload_n 1, 1) := by decide +kernel
theorem dX8_split_2 : decode cX8_split 2 = .ok (.iload_n 2, 1) := by decide +kernel
theorem dX8_split_3 : decode cX8_split 3 = .ok (.invokevirtual 130, 3) := by decide +kernel
theorem dX8_split_6 : decode cX8_split 6 = .ok (.ifCond .eq 5, 3) := by decide +kernel
theorem dX8_split_9 : decode cX8_split 9 = .ok (.iconst (-1), 1) := by decide +kernel
theorem dX8_split_10 : decode cX8_split 10 = .ok (.ireturn, 1) := by decide +kernel
theorem dX8_split_11 : decode cX8_split 11 = .ok (.iload_n 3, 1) := by decide +kernel
theorem dX8_split_12 : decode cX8_split 12 = .ok (.bipush (-30), 2) := by decide +kernel
theorem dX8_split_14 : decode cX8_split 14 = .ok (.bipush 30, 2) := by decide +kernel
theorem dX8_split_16 : decode cX8_split 16 = .ok (.invokestatic 115, 3) := by decide +kernel
theorem dX8_split_19 : decode cX8_split 19 = .ok (.ifCond .ne 6, 3) := by decide +kernel
theorem dX8_split_22 : decode cX8_split 22 = .ok (.bipush (-2), 2) := by decide +kernel
theorem dX8_split_24 : decode cX8_split 24 = .ok (.ireturn, 1) := by decide +kernel
theorem dX8_split_25 : decode cX8_split 25 = .ok (.aload_n 0, 1) := by decide +kernel
theorem dX8_split_26 : decode cX8_split 26 = .ok (.getfield 16, 3) := by decide +kernel
theorem dX8_split_29 : decode cX8_split 29 = .ok (.iload_n 1, 1) := by decide +kernel
theorem dX8_split_30 : decode cX8_split 30 = .ok (.iconst 1, 1) := by decide +kernel
theorem dX8_split_31 : decode cX8_split 31 = .ok (.bastore, 1) := by decide +kernel
theorem dX8_split_32 : decode cX8_split 32 = .ok (.aload_n 0, 1) := by decide +kernel
theorem dX8_split_33 : decode cX8_split 33 = .ok (.getfield 20, 3) := by decide +kernel
theorem dX8_split_36 : decode cX8_split 36 = .ok (.iload_n 1, 1) := by decide +kernel
theorem dX8_split_37 : decode cX8_split 37 = .ok (.iload_n 2, 1) := by decide +kernel
theorem dX8_split_38 : decode cX8_split 38 = .ok (.iastore, 1) := by decide +kernel
theorem dX8_split_39 : decode cX8_split 39 = .ok (.aload_n 0, 1) := by decide +kernel
theorem dX8_split_40 : decode cX8_split 40 = .ok (.getfield 23, 3) := by decide +kernel
theorem dX8_split_43 : decode cX8_split 43 = .ok (.iload_n 1, 1) := by decide +kernel
theorem dX8_split_44 : decode cX8_split 44 = .ok (.iload_n 3, 1) := by decide +kernel
theorem dX8_split_45 : decode cX8_split 45 = .ok (.iastore, 1) := by decide +kernel
theorem dX8_split_46 : decode cX8_split 46 = .ok (.aload_n 0, 1) := by decide +kernel
theorem dX8_split_47 : decode cX8_split 47 = .ok (.iload_n 1, 1) := by decide +kernel
theorem dX8_split_48 : decode cX8_split 48 = .ok (.iconst 1, 1) := by decide +kernel
theorem dX8_split_49 : decode cX8_split 49 = .ok (.invokevirtual 134, 3) := by decide +kernel
theorem dX8_split_52 : decode cX8_split 52 = .ok (.ireturn, 1) := by decide +kernel
theorem dX8_reading_0 : decode cX8_reading 0 = .ok (.aload_n 0, 1) := by decide +kernel
theorem dX8_reading_1 : decode cX8_reading 1 = .ok (.iload_n 1, 1) := by decide +kernel
theorem dX8_reading_2 : decode cX8_reading 2 = .ok (.iload_n 3, 1) := by decide +kernel
theorem dX8_reading_3 : decode cX8_reading 3 = .ok (.invokevirtual 130, 3) := by decide +kernel
theorem dX8_reading_6 : decode cX8_reading 6 = .ok (.ifCond .ne 19, 3) := by decide +kernel
theorem dX8_reading_9 : decode cX8_reading 9 = .ok (.iload_n 2, 1) := by decide +kernel
theorem dX8_reading_10 : decode cX8_reading 10 = .ok (.iconst 0, 1) := by decide +kernel
theorem dX8_reading_11 : decode cX8_reading 11 = .ok (.aload_n 0, 1) := by decide +kernel
theorem dX8_reading_12 : decode cX8_reading 12 = .ok (.getfield 13, 3) := by decide +kernel
theorem dX8_reading_15 : decode cX8_reading 15 = .ok (.iload_n 1, 1) := by decide +kernel
theorem dX8_reading_16 : decode cX8_reading 16 = .ok (.iaload, 1) := by decide +kernel
theorem dX8_reading_17 : decode cX8_reading 17 = .ok (.iconst 1, 1) := by decide +kernel
theorem dX8_reading_18 : decode cX8_reading 18 = .ok (.isub, 1) := by decide +kernel
theorem dX8_reading_19 : decode cX8_reading 19 = .ok (.invokestatic 115, 3) := by decide +kernel
theorem dX8_reading_22 : decode cX8_reading 22 = .ok (.ifCond .ne 8, 3) := by decide +kernel
theorem dX8_reading_25 : decode cX8_reading 25 = .ok (.bipush (-9), 2) := by decide +kernel
theorem dX8_reading_27 : decode cX8_reading 27 = .ok (.goto 10, 3) := by decide +kernel
theorem dX8_reading_30 : decode cX8_reading 30 = .ok (.aload_n 0, 1) := by decide +kernel
theorem dX8_reading_31 : decode cX8_reading 31 = .ok (.iload_n 1, 1) := by decide +kernel
theorem dX8_reading_32 : decode cX8_reading 32 = .ok (.iload_n 2, 1) := by decide +kernel
theorem dX8_reading_33 : decode cX8_reading 33 = .ok (.iload_n 3, 1) := by decide +kernel
theorem dX8_reading_34 : decode cX8_reading 34 = .ok (.invokevirtual 123, 3) := by decide +kernel
theorem dX8_reading_37 : decode cX8_reading 37 = .ok (.ireturn, 1) := by decide +kernel
theorem dX8_noSide_0 : decode cX8_noSide 0 = .ok (.aload_n 0, 1) := by decide +kernel
theorem dX8_noSide_1 : decode cX8_noSide 1 = .ok (.iload_n 1, 1) := by decide +kernel
theorem dX8_noSide_2 : decode cX8_noSide 2 = .ok (.invokevirtual 119, 3) := by decide +kernel
theorem dX8_noSide_5 : decode cX8_noSide 5 = .ok (.ifCond .ne 12, 3) := by decide +kernel
theorem dX8_noSide_8 : decode cX8_noSide 8 = .ok (.iload_n 2, 1) := by decide +kernel
theorem dX8_noSide_9 : decode cX8_noSide 9 = .ok (.iconst 0, 1) := by decide +kernel
theorem dX8_noSide_10 : decode cX8_noSide 10 = .ok (.iconst 2, 1) := by decide +kernel
theorem dX8_noSide_11 : decode cX8_noSide 11 = .ok (.invokestatic 115, 3) := by decide +kernel
theorem dX8_noSide_14 : decode cX8_noSide 14 = .ok (.ifCond .ne 7, 3) := by decide +kernel
theorem dX8_noSide_17 : decode cX8_noSide 17 = .ok (.iconst 1, 1) := by decide +kernel
theorem dX8_noSide_18 : decode cX8_noSide 18 = .ok (.goto 4, 3) := by decide +kernel
theorem dX8_noSide_21 : decode cX8_noSide 21 = .ok (.iconst 0, 1) := by decide +kernel
theorem dX8_noSide_22 : decode cX8_noSide 22 = .ok (.ireturn, 1) := by decide +kernel
theorem dX8_tried_0 : decode cX8_tried 0 = .ok (.aload_n 0, 1) := by decide +kernel
theorem dX8_tried_1 : decode cX8_tried 1 = .ok (.iload_n 1, 1) := by decide +kernel
theorem dX8_tried_2 : decode cX8_tried 2 = .ok (.iload_n 2, 1) := by decide +kernel
theorem dX8_tried_3 : decode cX8_tried 3 = .ok (.invokevirtual 138, 3) := by decide +kernel
theorem dX8_tried_6 : decode cX8_tried 6 = .ok (.ifCond .eq 7, 3) := by decide +kernel
theorem dX8_tried_9 : decode cX8_tried 9 = .ok (.iconst (-1), 1) := by decide +kernel
theorem dX8_tried_10 : decode cX8_tried 10 = .ok (.goto 9, 3) := by decide +kernel
theorem dX8_tried_13 : decode cX8_tried 13 = .ok (.aload_n 0, 1) := by decide +kernel
theorem dX8_tried_14 : decode cX8_tried 14 = .ok (.iload_n 1, 1) := by decide +kernel
theorem dX8_tried_15 : decode cX8_tried 15 = .ok (.iload_n 2, 1) := by decide +kernel
theorem dX8_tried_16 : decode cX8_tried 16 = .ok (.invokevirtual 134, 3) := by decide +kernel
theorem dX8_tried_19 : decode cX8_tried 19 = .ok (.ireturn, 1) := by decide +kernel
theorem dX8_variables_0 : decode cX8_variables 0 = .ok (.aload_n 0, 1) := by decide +kernel
theorem dX8_variables_1 : decode cX8_variables 1 = .ok (.iload_n 1, 1) := by decide +kernel
theorem dX8_variables_2 : decode cX8_variables 2 = .ok (.invokevirtual 119, 3) := by decide +kernel
theorem dX8_variables_5 : decode cX8_variables 5 = .ok (.ifCond .eq 7, 3) := by decide +kernel
theorem dX8_variables_8 : decode cX8_variables 8 = .ok (.iconst (-1), 1) := by decide +kernel
theorem dX8_variables_9 : decode cX8_variables 9 = .ok (.goto 9, 3) := by decide +kernel
theorem dX8_variables_12 : decode cX8_variables 12 = .ok (.aload_n 0, 1) := by decide +kernel
theorem dX8_variables_13 : decode cX8_variables 13 = .ok (.getfield 7, 3) := by decide +kernel
theorem dX8_variables_16 : decode cX8_variables 16 = .ok (.iload_n 1, 1) := by decide +kernel
theorem dX8_variables_17 : decode cX8_variables 17 = .ok (.iaload, 1) := by decide +kernel
theorem dX8_variables_18 : decode cX8_variables 18 = .ok (.ireturn, 1) := by decide +kernel
theorem dX8_gather_0 : decode cX8_gather 0 = .ok (.aload_n 0, 1) := by decide +kernel
theorem dX8_gather_1 : decode cX8_gather 1 = .ok (.iconst 0, 1) := by decide +kernel
theorem dX8_gather_2 : decode cX8_gather 2 = .ok (.putfield 141, 3) := by decide +kernel
theorem dX8_gather_5 : decode cX8_gather 5 = .ok (.iconst 0, 1) := by decide +kernel
theorem dX8_gather_6 : decode cX8_gather 6 = .ok (.istore 4, 2) := by decide +kernel
theorem dX8_gather_8 : decode cX8_gather 8 = .ok (.iload 4, 2) := by decide +kernel
theorem dX8_gather_10 : decode cX8_gather 10 = .ok (.aload_n 0, 1) := by decide +kernel
theorem dX8_gather_11 : decode cX8_gather 11 = .ok (.getfield 13, 3) := by decide +kernel
theorem dX8_gather_14 : decode cX8_gather 14 = .ok (.iload_n 1, 1) := by decide +kernel
theorem dX8_gather_15 : decode cX8_gather 15 = .ok (.iaload, 1) := by decide +kernel
theorem dX8_gather_16 : decode cX8_gather 16 = .ok (.if_icmp .ge 40, 3) := by decide +kernel
theorem dX8_gather_19 : decode cX8_gather 19 = .ok (.aload_n 0, 1) := by decide +kernel
theorem dX8_gather_20 : decode cX8_gather 20 = .ok (.getfield 141, 3) := by decide +kernel
theorem dX8_gather_23 : decode cX8_gather 23 = .ok (.iconst 4, 1) := by decide +kernel
theorem dX8_gather_24 : decode cX8_gather 24 = .ok (.if_icmp .ge 32, 3) := by decide +kernel
theorem dX8_gather_27 : decode cX8_gather 27 = .ok (.aload_n 0, 1) := by decide +kernel
theorem dX8_gather_28 : decode cX8_gather 28 = .ok (.iload_n 1, 1) := by decide +kernel
theorem dX8_gather_29 : decode cX8_gather 29 = .ok (.iload_n 2, 1) := by decide +kernel
theorem dX8_gather_30 : decode cX8_gather 30 = .ok (.iload 4, 2) := by decide +kernel
theorem dX8_gather_32 : decode cX8_gather 32 = .ok (.invokevirtual 127, 3) := by decide +kernel
theorem dX8_gather_35 : decode cX8_gather 35 = .ok (.ifCond .eq 15, 3) := by decide +kernel
theorem dX8_gather_38 : decode cX8_gather 38 = .ok (.aload_n 0, 1) := by decide +kernel
theorem dX8_gather_39 : decode cX8_gather 39 = .ok (.aload_n 0, 1) := by decide +kernel
theorem dX8_gather_40 : decode cX8_gather 40 = .ok (.iload_n 1, 1) := by decide +kernel
theorem dX8_gather_41 : decode cX8_gather 41 = .ok (.iload 4, 2) := by decide +kernel
theorem dX8_gather_43 : decode cX8_gather 43 = .ok (.iload_n 3, 1) := by decide +kernel
theorem dX8_gather_44 : decode cX8_gather 44 = .ok (.invokevirtual 123, 3) := by decide +kernel
theorem dX8_gather_47 : decode cX8_gather 47 = .ok (.invokevirtual 144, 3) := by decide +kernel
theorem dX8_gather_50 : decode cX8_gather 50 = .ok (.iinc 4 1, 3) := by decide +kernel
theorem dX8_gather_53 : decode cX8_gather 53 = .ok (.goto (-45), 3) := by decide +kernel
theorem dX8_gather_56 : decode cX8_gather 56 = .ok (.return_, 1) := by decide +kernel
theorem dX8_addFew_0 : decode cX8_addFew 0 = .ok (.iconst 0, 1) := by decide +kernel
theorem dX8_addFew_1 : decode cX8_addFew 1 = .ok (.istore_n 2, 1) := by decide +kernel
theorem dX8_addFew_2 : decode cX8_addFew 2 = .ok (.iload_n 2, 1) := by decide +kernel
theorem dX8_addFew_3 : decode cX8_addFew 3 = .ok (.aload_n 0, 1) := by decide +kernel
theorem dX8_addFew_4 : decode cX8_addFew 4 = .ok (.getfield 141, 3) := by decide +kernel
theorem dX8_addFew_7 : decode cX8_addFew 7 = .ok (.if_icmp .ge 19, 3) := by decide +kernel
theorem dX8_addFew_10 : decode cX8_addFew 10 = .ok (.aload_n 0, 1) := by decide +kernel
theorem dX8_addFew_11 : decode cX8_addFew 11 = .ok (.getfield 29, 3) := by decide +kernel
theorem dX8_addFew_14 : decode cX8_addFew 14 = .ok (.iload_n 2, 1) := by decide +kernel
theorem dX8_addFew_15 : decode cX8_addFew 15 = .ok (.iaload, 1) := by decide +kernel
theorem dX8_addFew_16 : decode cX8_addFew 16 = .ok (.iload_n 1, 1) := by decide +kernel
theorem dX8_addFew_17 : decode cX8_addFew 17 = .ok (.if_icmp .ge 9, 3) := by decide +kernel
theorem dX8_addFew_20 : decode cX8_addFew 20 = .ok (.iinc 2 1, 3) := by decide +kernel
theorem dX8_addFew_23 : decode cX8_addFew 23 = .ok (.goto (-21), 3) := by decide +kernel
theorem dX8_addFew_26 : decode cX8_addFew 26 = .ok (.iload_n 2, 1) := by decide +kernel
theorem dX8_addFew_27 : decode cX8_addFew 27 = .ok (.aload_n 0, 1) := by decide +kernel
theorem dX8_addFew_28 : decode cX8_addFew 28 = .ok (.getfield 141, 3) := by decide +kernel
theorem dX8_addFew_31 : decode cX8_addFew 31 = .ok (.if_icmp .ge 14, 3) := by decide +kernel
theorem dX8_addFew_34 : decode cX8_addFew 34 = .ok (.aload_n 0, 1) := by decide +kernel
theorem dX8_addFew_35 : decode cX8_addFew 35 = .ok (.getfield 29, 3) := by decide +kernel
theorem dX8_addFew_38 : decode cX8_addFew 38 = .ok (.iload_n 2, 1) := by decide +kernel
theorem dX8_addFew_39 : decode cX8_addFew 39 = .ok (.iaload, 1) := by decide +kernel
theorem dX8_addFew_40 : decode cX8_addFew 40 = .ok (.iload_n 1, 1) := by decide +kernel
theorem dX8_addFew_41 : decode cX8_addFew 41 = .ok (.if_icmp .ne 4, 3) := by decide +kernel
theorem dX8_addFew_44 : decode cX8_addFew 44 = .ok (.return_, 1) := by decide +kernel
theorem dX8_addFew_45 : decode cX8_addFew 45 = .ok (.aload_n 0, 1) := by decide +kernel
theorem dX8_addFew_46 : decode cX8_addFew 46 = .ok (.getfield 141, 3) := by decide +kernel
theorem dX8_addFew_49 : decode cX8_addFew 49 = .ok (.istore_n 3, 1) := by decide +kernel
theorem dX8_addFew_50 : decode cX8_addFew 50 = .ok (.iload_n 3, 1) := by decide +kernel
theorem dX8_addFew_51 : decode cX8_addFew 51 = .ok (.iload_n 2, 1) := by decide +kernel
theorem dX8_addFew_52 : decode cX8_addFew 52 = .ok (.if_icmp .le 23, 3) := by decide +kernel
theorem dX8_addFew_55 : decode cX8_addFew 55 = .ok (.aload_n 0, 1) := by decide +kernel
theorem dX8_addFew_56 : decode cX8_addFew 56 = .ok (.getfield 29, 3) := by decide +kernel
theorem dX8_addFew_59 : decode cX8_addFew 59 = .ok (.iload_n 3, 1) := by decide +kernel
theorem dX8_addFew_60 : decode cX8_addFew 60 = .ok (.aload_n 0, 1) := by decide +kernel
theorem dX8_addFew_61 : decode cX8_addFew 61 = .ok (.getfield 29, 3) := by decide +kernel
theorem dX8_addFew_64 : decode cX8_addFew 64 = .ok (.iload_n 3, 1) := by decide +kernel
theorem dX8_addFew_65 : decode cX8_addFew 65 = .ok (.iconst 1, 1) := by decide +kernel
theorem dX8_addFew_66 : decode cX8_addFew 66 = .ok (.isub, 1) := by decide +kernel
theorem dX8_addFew_67 : decode cX8_addFew 67 = .ok (.iaload, 1) := by decide +kernel
theorem dX8_addFew_68 : decode cX8_addFew 68 = .ok (.iastore, 1) := by decide +kernel
theorem dX8_addFew_69 : decode cX8_addFew 69 = .ok (.iinc 3 (-1), 3) := by decide +kernel
theorem dX8_addFew_72 : decode cX8_addFew 72 = .ok (.goto (-22), 3) := by decide +kernel
theorem dX8_addFew_75 : decode cX8_addFew 75 = .ok (.aload_n 0, 1) := by decide +kernel
theorem dX8_addFew_76 : decode cX8_addFew 76 = .ok (.getfield 29, 3) := by decide +kernel
theorem dX8_addFew_79 : decode cX8_addFew 79 = .ok (.iload_n 2, 1) := by decide +kernel
theorem dX8_addFew_80 : decode cX8_addFew 80 = .ok (.iload_n 1, 1) := by decide +kernel
theorem dX8_addFew_81 : decode cX8_addFew 81 = .ok (.iastore, 1) := by decide +kernel
theorem dX8_addFew_82 : decode cX8_addFew 82 = .ok (.aload_n 0, 1) := by decide +kernel
theorem dX8_addFew_83 : decode cX8_addFew 83 = .ok (.dup, 1) := by decide +kernel
theorem dX8_addFew_84 : decode cX8_addFew 84 = .ok (.getfield 141, 3) := by decide +kernel
theorem dX8_addFew_87 : decode cX8_addFew 87 = .ok (.iconst 1, 1) := by decide +kernel
theorem dX8_addFew_88 : decode cX8_addFew 88 = .ok (.iadd, 1) := by decide +kernel
theorem dX8_addFew_89 : decode cX8_addFew 89 = .ok (.putfield 141, 3) := by decide +kernel
theorem dX8_addFew_92 : decode cX8_addFew 92 = .ok (.return_, 1) := by decide +kernel
theorem dX8_extreme_0 : decode cX8_extreme 0 = .ok (.iconst 0, 1) := by decide +kernel
theorem dX8_extreme_1 : decode cX8_extreme 1 = .ok (.istore 5, 2) := by decide +kernel
theorem dX8_extreme_3 : decode cX8_extreme 3 = .ok (.iconst 0, 1) := by decide +kernel
theorem dX8_extreme_4 : decode cX8_extreme 4 = .ok (.istore 6, 2) := by decide +kernel
theorem dX8_extreme_6 : decode cX8_extreme 6 = .ok (.iconst 0, 1) := by decide +kernel
theorem dX8_extreme_7 : decode cX8_extreme 7 = .ok (.istore 7, 2) := by decide +kernel
theorem dX8_extreme_9 : decode cX8_extreme 9 = .ok (.iload 7, 2) := by decide +kernel
theorem dX8_extreme_11 : decode cX8_extreme 11 = .ok (.aload_n 0, 1) := by decide +kernel
theorem dX8_extreme_12 : decode cX8_extreme 12 = .ok (.getfield 13, 3) := by decide +kernel
theorem dX8_extreme_15 : decode cX8_extreme 15 = .ok (.iload_n 1, 1) := by decide +kernel
theorem dX8_extreme_16 : decode cX8_extreme 16 = .ok (.iaload, 1) := by decide +kernel
theorem dX8_extreme_17 : decode cX8_extreme 17 = .ok (.if_icmp .ge 69, 3) := by decide +kernel
theorem dX8_extreme_20 : decode cX8_extreme 20 = .ok (.aload_n 0, 1) := by decide +kernel
theorem dX8_extreme_21 : decode cX8_extreme 21 = .ok (.iload_n 1, 1) := by decide +kernel
theorem dX8_extreme_22 : decode cX8_extreme 22 = .ok (.iload_n 2, 1) := by decide +kernel
theorem dX8_extreme_23 : decode cX8_extreme 23 = .ok (.iload 7, 2) := by decide +kernel
theorem dX8_extreme_25 : decode cX8_extreme 25 = .ok (.invokevirtual 127, 3) := by decide +kernel
theorem dX8_extreme_28 : decode cX8_extreme 28 = .ok (.ifCond .eq 52, 3) := by decide +kernel
theorem dX8_extreme_31 : decode cX8_extreme 31 = .ok (.aload_n 0, 1) := by decide +kernel
theorem dX8_extreme_32 : decode cX8_extreme 32 = .ok (.iload_n 1, 1) := by decide +kernel
theorem dX8_extreme_33 : decode cX8_extreme 33 = .ok (.iload 7, 2) := by decide +kernel
theorem dX8_extreme_35 : decode cX8_extreme 35 = .ok (.iload_n 3, 1) := by decide +kernel
theorem dX8_extreme_36 : decode cX8_extreme 36 = .ok (.invokevirtual 123, 3) := by decide +kernel
theorem dX8_extreme_39 : decode cX8_extreme 39 = .ok (.istore 8, 2) := by decide +kernel
theorem dX8_extreme_41 : decode cX8_extreme 41 = .ok (.iload 6, 2) := by decide +kernel
theorem dX8_extreme_43 : decode cX8_extreme 43 = .ok (.ifCond .eq 25, 3) := by decide +kernel
theorem dX8_extreme_46 : decode cX8_extreme 46 = .ok (.iload 4, 2) := by decide +kernel
theorem dX8_extreme_48 : decode cX8_extreme 48 = .ok (.ifCond .eq 13, 3) := by decide +kernel
theorem dX8_extreme_51 : decode cX8_extreme 51 = .ok (.iload 8, 2) := by decide +kernel
theorem dX8_extreme_53 : decode cX8_extreme 53 = .ok (.iload 5, 2) := by decide +kernel
theorem dX8_extreme_55 : decode cX8_extreme 55 = .ok (.if_icmp .le 18, 3) := by decide +kernel
theorem dX8_extreme_58 : decode cX8_extreme 58 = .ok (.goto 10, 3) := by decide +kernel
theorem dX8_extreme_61 : decode cX8_extreme 61 = .ok (.iload 8, 2) := by decide +kernel
theorem dX8_extreme_63 : decode cX8_extreme 63 = .ok (.iload 5, 2) := by decide +kernel
theorem dX8_extreme_65 : decode cX8_extreme 65 = .ok (.if_icmp .ge 8, 3) := by decide +kernel
theorem dX8_extreme_68 : decode cX8_extreme 68 = .ok (.iload 8, 2) := by decide +kernel
theorem dX8_extreme_70 : decode cX8_extreme 70 = .ok (.goto 5, 3) := by decide +kernel
theorem dX8_extreme_73 : decode cX8_extreme 73 = .ok (.iload 5, 2) := by decide +kernel
theorem dX8_extreme_75 : decode cX8_extreme 75 = .ok (.istore 5, 2) := by decide +kernel
theorem dX8_extreme_77 : decode cX8_extreme 77 = .ok (.iconst 1, 1) := by decide +kernel
theorem dX8_extreme_78 : decode cX8_extreme 78 = .ok (.istore 6, 2) := by decide +kernel
theorem dX8_extreme_80 : decode cX8_extreme 80 = .ok (.iinc 7 1, 3) := by decide +kernel
theorem dX8_extreme_83 : decode cX8_extreme 83 = .ok (.goto (-74), 3) := by decide +kernel
theorem dX8_extreme_86 : decode cX8_extreme 86 = .ok (.iload 5, 2) := by decide +kernel
theorem dX8_extreme_88 : decode cX8_extreme 88 = .ok (.ireturn, 1) := by decide +kernel
theorem dX8_restOf_0 : decode cX8_restOf 0 = .ok (.iload_n 0, 1) := by decide +kernel
theorem dX8_restOf_1 : decode cX8_restOf 1 = .ok (.iload_n 1, 1) := by decide +kernel
theorem dX8_restOf_2 : decode cX8_restOf 2 = .ok (.irem, 1) := by decide +kernel
theorem dX8_restOf_3 : decode cX8_restOf 3 = .ok (.istore_n 2, 1) := by decide +kernel
theorem dX8_restOf_4 : decode cX8_restOf 4 = .ok (.iload_n 2, 1) := by decide +kernel
theorem dX8_restOf_5 : decode cX8_restOf 5 = .ok (.ifCond .ge 9, 3) := by decide +kernel
theorem dX8_restOf_8 : decode cX8_restOf 8 = .ok (.iload_n 2, 1) := by decide +kernel
theorem dX8_restOf_9 : decode cX8_restOf 9 = .ok (.iload_n 1, 1) := by decide +kernel
theorem dX8_restOf_10 : decode cX8_restOf 10 = .ok (.iadd, 1) := by decide +kernel
theorem dX8_restOf_11 : decode cX8_restOf 11 = .ok (.goto 4, 3) := by decide +kernel
theorem dX8_restOf_14 : decode cX8_restOf 14 = .ok (.iload_n 2, 1) := by decide +kernel
theorem dX8_restOf_15 : decode cX8_restOf 15 = .ok (.ireturn, 1) := by decide +kernel
theorem dX8_modulus_0 : decode cX8_modulus 0 = .ok (.bipush 12, 2) := by decide +kernel
theorem dX8_modulus_2 : decode cX8_modulus 2 = .ok (.istore 4, 2) := by decide +kernel
theorem dX8_modulus_4 : decode cX8_modulus 4 = .ok (.iload 4, 2) := by decide +kernel
theorem dX8_modulus_6 : decode cX8_modulus 6 = .ok (.iconst 1, 1) := by decide +kernel
theorem dX8_modulus_7 : decode cX8_modulus 7 = .ok (.if_icmp .le 97, 3) := by decide +kernel
theorem dX8_modulus_10 : decode cX8_modulus 10 = .ok (.iconst (-1), 1) := by decide +kernel
theorem dX8_modulus_11 : decode cX8_modulus 11 = .ok (.istore 5, 2) := by decide +kernel
theorem dX8_modulus_13 : decode cX8_modulus 13 = .ok (.iconst 1, 1) := by decide +kernel
theorem dX8_modulus_14 : decode cX8_modulus 14 = .ok (.istore 6, 2) := by decide +kernel
theorem dX8_modulus_16 : decode cX8_modulus 16 = .ok (.iconst 0, 1) := by decide +kernel
theorem dX8_modulus_17 : decode cX8_modulus 17 = .ok (.istore 7, 2) := by decide +kernel
theorem dX8_modulus_19 : decode cX8_modulus 19 = .ok (.iload 7, 2) := by decide +kernel
theorem dX8_modulus_21 : decode cX8_modulus 21 = .ok (.aload_n 0, 1) := by decide +kernel
theorem dX8_modulus_22 : decode cX8_modulus 22 = .ok (.getfield 13, 3) := by decide +kernel
theorem dX8_modulus_25 : decode cX8_modulus 25 = .ok (.iload_n 1, 1) := by decide +kernel
theorem dX8_modulus_26 : decode cX8_modulus 26 = .ok (.iaload, 1) := by decide +kernel
theorem dX8_modulus_27 : decode cX8_modulus 27 = .ok (.if_icmp .ge 63, 3) := by decide +kernel
theorem dX8_modulus_30 : decode cX8_modulus 30 = .ok (.iload 6, 2) := by decide +kernel
theorem dX8_modulus_32 : decode cX8_modulus 32 = .ok (.ifCond .eq 58, 3) := by decide +kernel
theorem dX8_modulus_35 : decode cX8_modulus 35 = .ok (.aload_n 0, 1) := by decide +kernel
theorem dX8_modulus_36 : decode cX8_modulus 36 = .ok (.iload_n 1, 1) := by decide +kernel
theorem dX8_modulus_37 : decode cX8_modulus 37 = .ok (.iload_n 2, 1) := by decide +kernel
theorem dX8_modulus_38 : decode cX8_modulus 38 = .ok (.iload 7, 2) := by decide +kernel
theorem dX8_modulus_40 : decode cX8_modulus 40 = .ok (.invokevirtual 127, 3) := by decide +kernel
theorem dX8_modulus_43 : decode cX8_modulus 43 = .ok (.ifCond .eq 41, 3) := by decide +kernel
theorem dX8_modulus_46 : decode cX8_modulus 46 = .ok (.aload_n 0, 1) := by decide +kernel
theorem dX8_modulus_47 : decode cX8_modulus 47 = .ok (.iload_n 1, 1) := by decide +kernel
theorem dX8_modulus_48 : decode cX8_modulus 48 = .ok (.iload 7, 2) := by decide +kernel
theorem dX8_modulus_50 : decode cX8_modulus 50 = .ok (.iload_n 3, 1) := by decide +kernel
theorem dX8_modulus_51 : decode cX8_modulus 51 = .ok (.invokevirtual 123, 3) := by decide +kernel
theorem dX8_modulus_54 : decode cX8_modulus 54 = .ok (.iload 4, 2) := by decide +kernel
theorem dX8_modulus_56 : decode cX8_modulus 56 = .ok (.invokestatic 148, 3) := by decide +kernel
theorem dX8_modulus_59 : decode cX8_modulus 59 = .ok (.istore 8, 2) := by decide +kernel
theorem dX8_modulus_61 : decode cX8_modulus 61 = .ok (.iload 5, 2) := by decide +kernel
theorem dX8_modulus_63 : decode cX8_modulus 63 = .ok (.ifCond .lt 10, 3) := by decide +kernel
theorem dX8_modulus_66 : decode cX8_modulus 66 = .ok (.iload 5, 2) := by decide +kernel
theorem dX8_modulus_68 : decode cX8_modulus 68 = .ok (.iload 8, 2) := by decide +kernel
theorem dX8_modulus_70 : decode cX8_modulus 70 = .ok (.if_icmp .ne 7, 3) := by decide +kernel
theorem dX8_modulus_73 : decode cX8_modulus 73 = .ok (.iconst 1, 1) := by decide +kernel
theorem dX8_modulus_74 : decode cX8_modulus 74 = .ok (.goto 4, 3) := by decide +kernel
theorem dX8_modulus_77 : decode cX8_modulus 77 = .ok (.iconst 0, 1) := by decide +kernel
theorem dX8_modulus_78 : decode cX8_modulus 78 = .ok (.istore 6, 2) := by decide +kernel
theorem dX8_modulus_80 : decode cX8_modulus 80 = .ok (.iload 8, 2) := by decide +kernel
theorem dX8_modulus_82 : decode cX8_modulus 82 = .ok (.istore 5, 2) := by decide +kernel
theorem dX8_modulus_84 : decode cX8_modulus 84 = .ok (.iinc 7 1, 3) := by decide +kernel
theorem dX8_modulus_87 : decode cX8_modulus 87 = .ok (.goto (-68), 3) := by decide +kernel
theorem dX8_modulus_90 : decode cX8_modulus 90 = .ok (.iload 6, 2) := by decide +kernel
theorem dX8_modulus_92 : decode cX8_modulus 92 = .ok (.ifCond .eq 6, 3) := by decide +kernel
theorem dX8_modulus_95 : decode cX8_modulus 95 = .ok (.iload 4, 2) := by decide +kernel
theorem dX8_modulus_97 : decode cX8_modulus 97 = .ok (.ireturn, 1) := by decide +kernel
theorem dX8_modulus_98 : decode cX8_modulus 98 = .ok (.iinc 4 (-1), 3) := by decide +kernel
theorem dX8_modulus_101 : decode cX8_modulus 101 = .ok (.goto (-97), 3) := by decide +kernel
theorem dX8_modulus_104 : decode cX8_modulus 104 = .ok (.iconst 0, 1) := by decide +kernel
theorem dX8_modulus_105 : decode cX8_modulus 105 = .ok (.ireturn, 1) := by decide +kernel
theorem dX8_goes_0 : decode cX8_goes 0 = .ok (.iload_n 0, 1) := by decide +kernel
theorem dX8_goes_1 : decode cX8_goes 1 = .ok (.iconst 5, 1) := by decide +kernel
theorem dX8_goes_2 : decode cX8_goes 2 = .ok (.if_icmp .ne 16, 3) := by decide +kernel
theorem dX8_goes_5 : decode cX8_goes 5 = .ok (.iload_n 1, 1) := by decide +kernel
theorem dX8_goes_6 : decode cX8_goes 6 = .ok (.iload_n 2, 1) := by decide +kernel
theorem dX8_goes_7 : decode cX8_goes 7 = .ok (.if_icmp .ne 7, 3) := by decide +kernel
theorem dX8_goes_10 : decode cX8_goes 10 = .ok (.iconst 1, 1) := by decide +kernel
theorem dX8_goes_11 : decode cX8_goes 11 = .ok (.goto 55, 3) := by decide +kernel
theorem dX8_goes_14 : decode cX8_goes 14 = .ok (.iconst 0, 1) := by decide +kernel
theorem dX8_goes_15 : decode cX8_goes 15 = .ok (.goto 51, 3) := by decide +kernel
theorem dX8_goes_18 : decode cX8_goes 18 = .ok (.iload_n 0, 1) := by decide +kernel
theorem dX8_goes_19 : decode cX8_goes 19 = .ok (.bipush 6, 2) := by decide +kernel
theorem dX8_goes_21 : decode cX8_goes 21 = .ok (.if_icmp .ne 16, 3) := by decide +kernel
theorem dX8_goes_24 : decode cX8_goes 24 = .ok (.iload_n 1, 1) := by decide +kernel
theorem dX8_goes_25 : decode cX8_goes 25 = .ok (.iload_n 2, 1) := by decide +kernel
theorem dX8_goes_26 : decode cX8_goes 26 = .ok (.if_icmp .ge 7, 3) := by decide +kernel
theorem dX8_goes_29 : decode cX8_goes 29 = .ok (.iconst 1, 1) := by decide +kernel
theorem dX8_goes_30 : decode cX8_goes 30 = .ok (.goto 36, 3) := by decide +kernel
theorem dX8_goes_33 : decode cX8_goes 33 = .ok (.iconst 0, 1) := by decide +kernel
theorem dX8_goes_34 : decode cX8_goes 34 = .ok (.goto 32, 3) := by decide +kernel
theorem dX8_goes_37 : decode cX8_goes 37 = .ok (.iload_n 0, 1) := by decide +kernel
theorem dX8_goes_38 : decode cX8_goes 38 = .ok (.bipush 7, 2) := by decide +kernel
theorem dX8_goes_40 : decode cX8_goes 40 = .ok (.if_icmp .ne 16, 3) := by decide +kernel
theorem dX8_goes_43 : decode cX8_goes 43 = .ok (.iload_n 1, 1) := by decide +kernel
theorem dX8_goes_44 : decode cX8_goes 44 = .ok (.iload_n 2, 1) := by decide +kernel
theorem dX8_goes_45 : decode cX8_goes 45 = .ok (.if_icmp .gt 7, 3) := by decide +kernel
theorem dX8_goes_48 : decode cX8_goes 48 = .ok (.iconst 1, 1) := by decide +kernel
theorem dX8_goes_49 : decode cX8_goes 49 = .ok (.goto 17, 3) := by decide +kernel
theorem dX8_goes_52 : decode cX8_goes 52 = .ok (.iconst 0, 1) := by decide +kernel
theorem dX8_goes_53 : decode cX8_goes 53 = .ok (.goto 13, 3) := by decide +kernel
theorem dX8_goes_56 : decode cX8_goes 56 = .ok (.iload_n 1, 1) := by decide +kernel
theorem dX8_goes_57 : decode cX8_goes 57 = .ok (.iload_n 2, 1) := by decide +kernel
theorem dX8_goes_58 : decode cX8_goes 58 = .ok (.if_icmp .eq 7, 3) := by decide +kernel
theorem dX8_goes_61 : decode cX8_goes 61 = .ok (.iconst 1, 1) := by decide +kernel
theorem dX8_goes_62 : decode cX8_goes 62 = .ok (.goto 4, 3) := by decide +kernel
theorem dX8_goes_65 : decode cX8_goes 65 = .ok (.iconst 0, 1) := by decide +kernel
theorem dX8_goes_66 : decode cX8_goes 66 = .ok (.ireturn, 1) := by decide +kernel
theorem dX8_isTwo_0 : decode cX8_isTwo 0 = .ok (.iconst 1, 1) := by decide +kernel
theorem dX8_isTwo_1 : decode cX8_isTwo 1 = .ok (.istore 6, 2) := by decide +kernel
theorem dX8_isTwo_3 : decode cX8_isTwo 3 = .ok (.iconst 0, 1) := by decide +kernel
theorem dX8_isTwo_4 : decode cX8_isTwo 4 = .ok (.istore 7, 2) := by decide +kernel
theorem dX8_isTwo_6 : decode cX8_isTwo 6 = .ok (.iload 7, 2) := by decide +kernel
theorem dX8_isTwo_8 : decode cX8_isTwo 8 = .ok (.aload_n 0, 1) := by decide +kernel
theorem dX8_isTwo_9 : decode cX8_isTwo 9 = .ok (.getfield 13, 3) := by decide +kernel
theorem dX8_isTwo_12 : decode cX8_isTwo 12 = .ok (.iload_n 1, 1) := by decide +kernel
theorem dX8_isTwo_13 : decode cX8_isTwo 13 = .ok (.iaload, 1) := by decide +kernel
theorem dX8_isTwo_14 : decode cX8_isTwo 14 = .ok (.if_icmp .ge 57, 3) := by decide +kernel
theorem dX8_isTwo_17 : decode cX8_isTwo 17 = .ok (.iload 6, 2) := by decide +kernel
theorem dX8_isTwo_19 : decode cX8_isTwo 19 = .ok (.ifCond .eq 43, 3) := by decide +kernel
theorem dX8_isTwo_22 : decode cX8_isTwo 22 = .ok (.aload_n 0, 1) := by decide +kernel
theorem dX8_isTwo_23 : decode cX8_isTwo 23 = .ok (.iload_n 1, 1) := by decide +kernel
theorem dX8_isTwo_24 : decode cX8_isTwo 24 = .ok (.iload_n 2, 1) := by decide +kernel
theorem dX8_isTwo_25 : decode cX8_isTwo 25 = .ok (.iload 7, 2) := by decide +kernel
theorem dX8_isTwo_27 : decode cX8_isTwo 27 = .ok (.invokevirtual 127, 3) := by decide +kernel
theorem dX8_isTwo_30 : decode cX8_isTwo 30 = .ok (.ifCond .eq 28, 3) := by decide +kernel
theorem dX8_isTwo_33 : decode cX8_isTwo 33 = .ok (.iload_n 3, 1) := by decide +kernel
theorem dX8_isTwo_34 : decode cX8_isTwo 34 = .ok (.aload_n 0, 1) := by decide +kernel
theorem dX8_isTwo_35 : decode cX8_isTwo 35 = .ok (.iload_n 1, 1) := by decide +kernel
theorem dX8_isTwo_36 : decode cX8_isTwo 36 = .ok (.iload 7, 2) := by decide +kernel
theorem dX8_isTwo_38 : decode cX8_isTwo 38 = .ok (.iload 4, 2) := by decide +kernel
theorem dX8_isTwo_40 : decode cX8_isTwo 40 = .ok (.invokevirtual 123, 3) := by decide +kernel
theorem dX8_isTwo_43 : decode cX8_isTwo 43 = .ok (.aload_n 0, 1) := by decide +kernel
theorem dX8_isTwo_44 : decode cX8_isTwo 44 = .ok (.iload_n 1, 1) := by decide +kernel
theorem dX8_isTwo_45 : decode cX8_isTwo 45 = .ok (.iload 7, 2) := by decide +kernel
theorem dX8_isTwo_47 : decode cX8_isTwo 47 = .ok (.iload 5, 2) := by decide +kernel
theorem dX8_isTwo_49 : decode cX8_isTwo 49 = .ok (.invokevirtual 123, 3) := by decide +kernel
theorem dX8_isTwo_52 : decode cX8_isTwo 52 = .ok (.invokestatic 151, 3) := by decide +kernel
theorem dX8_isTwo_55 : decode cX8_isTwo 55 = .ok (.ifCond .eq 7, 3) := by decide +kernel
theorem dX8_isTwo_58 : decode cX8_isTwo 58 = .ok (.iconst 1, 1) := by decide +kernel
theorem dX8_isTwo_59 : decode cX8_isTwo 59 = .ok (.goto 4, 3) := by decide +kernel
theorem dX8_isTwo_62 : decode cX8_isTwo 62 = .ok (.iconst 0, 1) := by decide +kernel
end
section
theorem dX8_isTwo_63 : decode cX8_isTwo 63 = .ok (.istore 6, 2) := by decide +kernel
theorem dX8_isTwo_65 : decode cX8_isTwo 65 = .ok (.iinc 7 1, 3) := by decide +kernel
theorem dX8_isTwo_68 : decode cX8_isTwo 68 = .ok (.goto (-62), 3) := by decide +kernel
theorem dX8_isTwo_71 : decode cX8_isTwo 71 = .ok (.iload 6, 2) := by decide +kernel
theorem dX8_isTwo_73 : decode cX8_isTwo 73 = .ok (.ireturn, 1) := by decide +kernel
theorem dX8_isRising_0 : decode cX8_isRising 0 = .ok (.bipush (-31), 2) := by decide +kernel
theorem dX8_isRising_2 : decode cX8_isRising 2 = .ok (.istore 4, 2) := by decide +kernel
theorem dX8_isRising_4 : decode cX8_isRising 4 = .ok (.iconst 1, 1) := by decide +kernel
theorem dX8_isRising_5 : decode cX8_isRising 5 = .ok (.istore 5, 2) := by decide +kernel
theorem dX8_isRising_7 : decode cX8_isRising 7 = .ok (.iconst 0, 1) := by decide +kernel
theorem dX8_isRising_8 : decode cX8_isRising 8 = .ok (.istore 6, 2) := by decide +kernel
theorem dX8_isRising_10 : decode cX8_isRising 10 = .ok (.iload 6, 2) := by decide +kernel
theorem dX8_isRising_12 : decode cX8_isRising 12 = .ok (.aload_n 0, 1) := by decide +kernel
theorem dX8_isRising_13 : decode cX8_isRising 13 = .ok (.getfield 13, 3) := by decide +kernel
theorem dX8_isRising_16 : decode cX8_isRising 16 = .ok (.iload_n 1, 1) := by decide +kernel
theorem dX8_isRising_17 : decode cX8_isRising 17 = .ok (.iaload, 1) := by decide +kernel
theorem dX8_isRising_18 : decode cX8_isRising 18 = .ok (.if_icmp .ge 55, 3) := by decide +kernel
theorem dX8_isRising_21 : decode cX8_isRising 21 = .ok (.aload_n 0, 1) := by decide +kernel
theorem dX8_isRising_22 : decode cX8_isRising 22 = .ok (.iload_n 1, 1) := by decide +kernel
theorem dX8_isRising_23 : decode cX8_isRising 23 = .ok (.iload_n 2, 1) := by decide +kernel
theorem dX8_isRising_24 : decode cX8_isRising 24 = .ok (.iload 6, 2) := by decide +kernel
theorem dX8_isRising_26 : decode cX8_isRising 26 = .ok (.invokevirtual 127, 3) := by decide +kernel
theorem dX8_isRising_29 : decode cX8_isRising 29 = .ok (.ifCond .eq 38, 3) := by decide +kernel
theorem dX8_isRising_32 : decode cX8_isRising 32 = .ok (.iload 5, 2) := by decide +kernel
theorem dX8_isRising_34 : decode cX8_isRising 34 = .ok (.ifCond .eq 20, 3) := by decide +kernel
theorem dX8_isRising_37 : decode cX8_isRising 37 = .ok (.aload_n 0, 1) := by decide +kernel
theorem dX8_isRising_38 : decode cX8_isRising 38 = .ok (.iload_n 1, 1) := by decide +kernel
theorem dX8_isRising_39 : decode cX8_isRising 39 = .ok (.iload 6, 2) := by decide +kernel
theorem dX8_isRising_41 : decode cX8_isRising 41 = .ok (.iload_n 3, 1) := by decide +kernel
theorem dX8_isRising_42 : decode cX8_isRising 42 = .ok (.invokevirtual 123, 3) := by decide +kernel
theorem dX8_isRising_45 : decode cX8_isRising 45 = .ok (.iload 4, 2) := by decide +kernel
theorem dX8_isRising_47 : decode cX8_isRising 47 = .ok (.if_icmp .lt 7, 3) := by decide +kernel
theorem dX8_isRising_50 : decode cX8_isRising 50 = .ok (.iconst 1, 1) := by decide +kernel
theorem dX8_isRising_51 : decode cX8_isRising 51 = .ok (.goto 4, 3) := by decide +kernel
theorem dX8_isRising_54 : decode cX8_isRising 54 = .ok (.iconst 0, 1) := by decide +kernel
theorem dX8_isRising_55 : decode cX8_isRising 55 = .ok (.istore 5, 2) := by decide +kernel
theorem dX8_isRising_57 : decode cX8_isRising 57 = .ok (.aload_n 0, 1) := by decide +kernel
theorem dX8_isRising_58 : decode cX8_isRising 58 = .ok (.iload_n 1, 1) := by decide +kernel
theorem dX8_isRising_59 : decode cX8_isRising 59 = .ok (.iload 6, 2) := by decide +kernel
theorem dX8_isRising_61 : decode cX8_isRising 61 = .ok (.iload_n 3, 1) := by decide +kernel
theorem dX8_isRising_62 : decode cX8_isRising 62 = .ok (.invokevirtual 123, 3) := by decide +kernel
theorem dX8_isRising_65 : decode cX8_isRising 65 = .ok (.istore 4, 2) := by decide +kernel
theorem dX8_isRising_67 : decode cX8_isRising 67 = .ok (.iinc 6 1, 3) := by decide +kernel
theorem dX8_isRising_70 : decode cX8_isRising 70 = .ok (.goto (-60), 3) := by decide +kernel
theorem dX8_isRising_73 : decode cX8_isRising 73 = .ok (.iload 5, 2) := by decide +kernel
theorem dX8_isRising_75 : decode cX8_isRising 75 = .ok (.ireturn, 1) := by decide +kernel
theorem dX8_isSo_0 : decode cX8_isSo 0 = .ok (.iload_n 3, 1) := by decide +kernel
theorem dX8_isSo_1 : decode cX8_isSo 1 = .ok (.tableswitch 135 0 9 #[55, 77, 107, 107, 109, 135, 135, 135, 135, 126], 55) := by decide +kernel
theorem dX8_isSo_56 : decode cX8_isSo 56 = .ok (.aload_n 0, 1) := by decide +kernel
theorem dX8_isSo_57 : decode cX8_isSo 57 = .ok (.iload_n 1, 1) := by decide +kernel
theorem dX8_isSo_58 : decode cX8_isSo 58 = .ok (.iload_n 2, 1) := by decide +kernel
theorem dX8_isSo_59 : decode cX8_isSo 59 = .ok (.iload 4, 2) := by decide +kernel
theorem dX8_isSo_61 : decode cX8_isSo 61 = .ok (.invokevirtual 154, 3) := by decide +kernel
theorem dX8_isSo_64 : decode cX8_isSo 64 = .ok (.aload_n 0, 1) := by decide +kernel
theorem dX8_isSo_65 : decode cX8_isSo 65 = .ok (.getfield 141, 3) := by decide +kernel
theorem dX8_isSo_68 : decode cX8_isSo 68 = .ok (.iconst 1, 1) := by decide +kernel
theorem dX8_isSo_69 : decode cX8_isSo 69 = .ok (.if_icmp .ne 7, 3) := by decide +kernel
theorem dX8_isSo_72 : decode cX8_isSo 72 = .ok (.iconst 1, 1) := by decide +kernel
theorem dX8_isSo_73 : decode cX8_isSo 73 = .ok (.goto 4, 3) := by decide +kernel
theorem dX8_isSo_76 : decode cX8_isSo 76 = .ok (.iconst 0, 1) := by decide +kernel
theorem dX8_isSo_77 : decode cX8_isSo 77 = .ok (.ireturn, 1) := by decide +kernel
theorem dX8_isSo_78 : decode cX8_isSo 78 = .ok (.aload_n 0, 1) := by decide +kernel
theorem dX8_isSo_79 : decode cX8_isSo 79 = .ok (.iload_n 1, 1) := by decide +kernel
theorem dX8_isSo_80 : decode cX8_isSo 80 = .ok (.iload_n 2, 1) := by decide +kernel
theorem dX8_isSo_81 : decode cX8_isSo 81 = .ok (.iload 4, 2) := by decide +kernel
theorem dX8_isSo_83 : decode cX8_isSo 83 = .ok (.invokevirtual 154, 3) := by decide +kernel
theorem dX8_isSo_86 : decode cX8_isSo 86 = .ok (.aload_n 0, 1) := by decide +kernel
theorem dX8_isSo_87 : decode cX8_isSo 87 = .ok (.getfield 141, 3) := by decide +kernel
theorem dX8_isSo_90 : decode cX8_isSo 90 = .ok (.iconst 2, 1) := by decide +kernel
theorem dX8_isSo_91 : decode cX8_isSo 91 = .ok (.if_icmp .eq 11, 3) := by decide +kernel
theorem dX8_isSo_94 : decode cX8_isSo 94 = .ok (.aload_n 0, 1) := by decide +kernel
theorem dX8_isSo_95 : decode cX8_isSo 95 = .ok (.getfield 141, 3) := by decide +kernel
theorem dX8_isSo_98 : decode cX8_isSo 98 = .ok (.iconst 3, 1) := by decide +kernel
theorem dX8_isSo_99 : decode cX8_isSo 99 = .ok (.if_icmp .ne 7, 3) := by decide +kernel
theorem dX8_isSo_102 : decode cX8_isSo 102 = .ok (.iconst 1, 1) := by decide +kernel
theorem dX8_isSo_103 : decode cX8_isSo 103 = .ok (.goto 4, 3) := by decide +kernel
theorem dX8_isSo_106 : decode cX8_isSo 106 = .ok (.iconst 0, 1) := by decide +kernel
theorem dX8_isSo_107 : decode cX8_isSo 107 = .ok (.ireturn, 1) := by decide +kernel
theorem dX8_isSo_108 : decode cX8_isSo 108 = .ok (.iconst 1, 1) := by decide +kernel
theorem dX8_isSo_109 : decode cX8_isSo 109 = .ok (.ireturn, 1) := by decide +kernel
theorem dX8_isSo_110 : decode cX8_isSo 110 = .ok (.aload_n 0, 1) := by decide +kernel
theorem dX8_isSo_111 : decode cX8_isSo 111 = .ok (.iload_n 1, 1) := by decide +kernel
theorem dX8_isSo_112 : decode cX8_isSo 112 = .ok (.iload_n 2, 1) := by decide +kernel
theorem dX8_isSo_113 : decode cX8_isSo 113 = .ok (.iload 4, 2) := by decide +kernel
theorem dX8_isSo_115 : decode cX8_isSo 115 = .ok (.invokevirtual 158, 3) := by decide +kernel
theorem dX8_isSo_118 : decode cX8_isSo 118 = .ok (.ifCond .le 7, 3) := by decide +kernel
theorem dX8_isSo_121 : decode cX8_isSo 121 = .ok (.iconst 1, 1) := by decide +kernel
theorem dX8_isSo_122 : decode cX8_isSo 122 = .ok (.goto 4, 3) := by decide +kernel
theorem dX8_isSo_125 : decode cX8_isSo 125 = .ok (.iconst 0, 1) := by decide +kernel
theorem dX8_isSo_126 : decode cX8_isSo 126 = .ok (.ireturn, 1) := by decide +kernel
theorem dX8_isSo_127 : decode cX8_isSo 127 = .ok (.aload_n 0, 1) := by decide +kernel
theorem dX8_isSo_128 : decode cX8_isSo 128 = .ok (.iload_n 1, 1) := by decide +kernel
theorem dX8_isSo_129 : decode cX8_isSo 129 = .ok (.iload_n 2, 1) := by decide +kernel
theorem dX8_isSo_130 : decode cX8_isSo 130 = .ok (.iload 4, 2) := by decide +kernel
theorem dX8_isSo_132 : decode cX8_isSo 132 = .ok (.invokevirtual 161, 3) := by decide +kernel
theorem dX8_isSo_135 : decode cX8_isSo 135 = .ok (.ireturn, 1) := by decide +kernel
theorem dX8_isSo_136 : decode cX8_isSo 136 = .ok (.aload_n 0, 1) := by decide +kernel
theorem dX8_isSo_137 : decode cX8_isSo 137 = .ok (.iload_n 1, 1) := by decide +kernel
theorem dX8_isSo_138 : decode cX8_isSo 138 = .ok (.iload_n 2, 1) := by decide +kernel
theorem dX8_isSo_139 : decode cX8_isSo 139 = .ok (.iload_n 3, 1) := by decide +kernel
theorem dX8_isSo_140 : decode cX8_isSo 140 = .ok (.iload 4, 2) := by decide +kernel
theorem dX8_isSo_142 : decode cX8_isSo 142 = .ok (.iload 5, 2) := by decide +kernel
theorem dX8_isSo_144 : decode cX8_isSo 144 = .ok (.invokevirtual 164, 3) := by decide +kernel
theorem dX8_isSo_147 : decode cX8_isSo 147 = .ok (.ireturn, 1) := by decide +kernel
theorem dX8_isOfTwo_0 : decode cX8_isOfTwo 0 = .ok (.iload_n 0, 1) := by decide +kernel
theorem dX8_isOfTwo_1 : decode cX8_isOfTwo 1 = .ok (.iconst 5, 1) := by decide +kernel
theorem dX8_isOfTwo_2 : decode cX8_isOfTwo 2 = .ok (.bipush 8, 2) := by decide +kernel
theorem dX8_isOfTwo_4 : decode cX8_isOfTwo 4 = .ok (.invokestatic 115, 3) := by decide +kernel
theorem dX8_isOfTwo_7 : decode cX8_isOfTwo 7 = .ok (.ireturn, 1) := by decide +kernel
theorem dX8_hasSuch_0 : decode cX8_hasSuch 0 = .ok (.iload_n 0, 1) := by decide +kernel
theorem dX8_hasSuch_1 : decode cX8_hasSuch 1 = .ok (.invokestatic 168, 3) := by decide +kernel
theorem dX8_hasSuch_4 : decode cX8_hasSuch 4 = .ok (.ifCond .eq 27, 3) := by decide +kernel
theorem dX8_hasSuch_7 : decode cX8_hasSuch 7 = .ok (.iload_n 0, 1) := by decide +kernel
theorem dX8_hasSuch_8 : decode cX8_hasSuch 8 = .ok (.iconst 5, 1) := by decide +kernel
theorem dX8_hasSuch_9 : decode cX8_hasSuch 9 = .ok (.if_icmp .eq 9, 3) := by decide +kernel
theorem dX8_hasSuch_12 : decode cX8_hasSuch 12 = .ok (.iload_n 0, 1) := by decide +kernel
theorem dX8_hasSuch_13 : decode cX8_hasSuch 13 = .ok (.bipush 8, 2) := by decide +kernel
theorem dX8_hasSuch_15 : decode cX8_hasSuch 15 = .ok (.if_icmp .ne 11, 3) := by decide +kernel
theorem dX8_hasSuch_18 : decode cX8_hasSuch 18 = .ok (.iload_n 1, 1) := by decide +kernel
theorem dX8_hasSuch_19 : decode cX8_hasSuch 19 = .ok (.iload_n 2, 1) := by decide +kernel
theorem dX8_hasSuch_20 : decode cX8_hasSuch 20 = .ok (.if_icmp .ge 15, 3) := by decide +kernel
theorem dX8_hasSuch_23 : decode cX8_hasSuch 23 = .ok (.goto 8, 3) := by decide +kernel
theorem dX8_hasSuch_26 : decode cX8_hasSuch 26 = .ok (.iload_n 1, 1) := by decide +kernel
theorem dX8_hasSuch_27 : decode cX8_hasSuch 27 = .ok (.iload_n 2, 1) := by decide +kernel
theorem dX8_hasSuch_28 : decode cX8_hasSuch 28 = .ok (.if_icmp .eq 7, 3) := by decide +kernel
theorem dX8_hasSuch_31 : decode cX8_hasSuch 31 = .ok (.iconst 1, 1) := by decide +kernel
theorem dX8_hasSuch_32 : decode cX8_hasSuch 32 = .ok (.goto 4, 3) := by decide +kernel
theorem dX8_hasSuch_35 : decode cX8_hasSuch 35 = .ok (.iconst 0, 1) := by decide +kernel
theorem dX8_hasSuch_36 : decode cX8_hasSuch 36 = .ok (.ireturn, 1) := by decide +kernel
theorem dX8_holds_0 : decode cX8_holds 0 = .ok (.aload_n 0, 1) := by decide +kernel
theorem dX8_holds_1 : decode cX8_holds 1 = .ok (.iload_n 1, 1) := by decide +kernel
theorem dX8_holds_2 : decode cX8_holds 2 = .ok (.iload_n 2, 1) := by decide +kernel
theorem dX8_holds_3 : decode cX8_holds 3 = .ok (.invokevirtual 138, 3) := by decide +kernel
theorem dX8_holds_6 : decode cX8_holds 6 = .ok (.ifCond .ne 30, 3) := by decide +kernel
theorem dX8_holds_9 : decode cX8_holds 9 = .ok (.aload_n 0, 1) := by decide +kernel
theorem dX8_holds_10 : decode cX8_holds 10 = .ok (.iload_n 1, 1) := by decide +kernel
theorem dX8_holds_11 : decode cX8_holds 11 = .ok (.iload 4, 2) := by decide +kernel
theorem dX8_holds_13 : decode cX8_holds 13 = .ok (.invokevirtual 130, 3) := by decide +kernel
theorem dX8_holds_16 : decode cX8_holds 16 = .ok (.ifCond .ne 20, 3) := by decide +kernel
theorem dX8_holds_19 : decode cX8_holds 19 = .ok (.iload_n 3, 1) := by decide +kernel
theorem dX8_holds_20 : decode cX8_holds 20 = .ok (.invokestatic 168, 3) := by decide +kernel
theorem dX8_holds_23 : decode cX8_holds 23 = .ok (.ifCond .eq 15, 3) := by decide +kernel
theorem dX8_holds_26 : decode cX8_holds 26 = .ok (.aload_n 0, 1) := by decide +kernel
theorem dX8_holds_27 : decode cX8_holds 27 = .ok (.iload_n 1, 1) := by decide +kernel
theorem dX8_holds_28 : decode cX8_holds 28 = .ok (.iload 5, 2) := by decide +kernel
theorem dX8_holds_30 : decode cX8_holds 30 = .ok (.invokevirtual 130, 3) := by decide +kernel
theorem dX8_holds_33 : decode cX8_holds 33 = .ok (.ifCond .eq 5, 3) := by decide +kernel
theorem dX8_holds_36 : decode cX8_holds 36 = .ok (.iconst (-1), 1) := by decide +kernel
theorem dX8_holds_37 : decode cX8_holds 37 = .ok (.ireturn, 1) := by decide +kernel
theorem dX8_holds_38 : decode cX8_holds 38 = .ok (.iload_n 3, 1) := by decide +kernel
theorem dX8_holds_39 : decode cX8_holds 39 = .ok (.iconst 0, 1) := by decide +kernel
theorem dX8_holds_40 : decode cX8_holds 40 = .ok (.bipush 9, 2) := by decide +kernel
theorem dX8_holds_42 : decode cX8_holds 42 = .ok (.invokestatic 115, 3) := by decide +kernel
theorem dX8_holds_45 : decode cX8_holds 45 = .ok (.ifCond .eq 14, 3) := by decide +kernel
theorem dX8_holds_48 : decode cX8_holds 48 = .ok (.iload_n 3, 1) := by decide +kernel
theorem dX8_holds_49 : decode cX8_holds 49 = .ok (.iload 4, 2) := by decide +kernel
theorem dX8_holds_51 : decode cX8_holds 51 = .ok (.iload 5, 2) := by decide +kernel
theorem dX8_holds_53 : decode cX8_holds 53 = .ok (.invokestatic 171, 3) := by decide +kernel
theorem dX8_holds_56 : decode cX8_holds 56 = .ok (.ifCond .ne 6, 3) := by decide +kernel
theorem dX8_holds_59 : decode cX8_holds 59 = .ok (.bipush (-2), 2) := by decide +kernel
theorem dX8_holds_61 : decode cX8_holds 61 = .ok (.ireturn, 1) := by decide +kernel
theorem dX8_holds_62 : decode cX8_holds 62 = .ok (.aload_n 0, 1) := by decide +kernel
theorem dX8_holds_63 : decode cX8_holds 63 = .ok (.iload_n 1, 1) := by decide +kernel
theorem dX8_holds_64 : decode cX8_holds 64 = .ok (.iload_n 2, 1) := by decide +kernel
theorem dX8_holds_65 : decode cX8_holds 65 = .ok (.invokevirtual 134, 3) := by decide +kernel
theorem dX8_holds_68 : decode cX8_holds 68 = .ok (.ifCond .ne 8, 3) := by decide +kernel
theorem dX8_holds_71 : decode cX8_holds 71 = .ok (.bipush (-9), 2) := by decide +kernel
theorem dX8_holds_73 : decode cX8_holds 73 = .ok (.goto 22, 3) := by decide +kernel
theorem dX8_holds_76 : decode cX8_holds 76 = .ok (.aload_n 0, 1) := by decide +kernel
theorem dX8_holds_77 : decode cX8_holds 77 = .ok (.iload_n 1, 1) := by decide +kernel
theorem dX8_holds_78 : decode cX8_holds 78 = .ok (.iload_n 2, 1) := by decide +kernel
theorem dX8_holds_79 : decode cX8_holds 79 = .ok (.iload_n 3, 1) := by decide +kernel
theorem dX8_holds_80 : decode cX8_holds 80 = .ok (.iload 4, 2) := by decide +kernel
theorem dX8_holds_82 : decode cX8_holds 82 = .ok (.iload 5, 2) := by decide +kernel
theorem dX8_holds_84 : decode cX8_holds 84 = .ok (.invokevirtual 174, 3) := by decide +kernel
theorem dX8_holds_87 : decode cX8_holds 87 = .ok (.ifCond .eq 7, 3) := by decide +kernel
theorem dX8_holds_90 : decode cX8_holds 90 = .ok (.iconst 1, 1) := by decide +kernel
theorem dX8_holds_91 : decode cX8_holds 91 = .ok (.goto 4, 3) := by decide +kernel
theorem dX8_holds_94 : decode cX8_holds 94 = .ok (.iconst 0, 1) := by decide +kernel
theorem dX8_holds_95 : decode cX8_holds 95 = .ok (.ireturn, 1) := by decide +kernel
theorem dX8_number_0 : decode cX8_number 0 = .ok (.aload_n 0, 1) := by decide +kernel
theorem dX8_number_1 : decode cX8_number 1 = .ok (.iload_n 1, 1) := by decide +kernel
theorem dX8_number_2 : decode cX8_number 2 = .ok (.iload_n 2, 1) := by decide +kernel
theorem dX8_number_3 : decode cX8_number 3 = .ok (.invokevirtual 138, 3) := by decide +kernel
theorem dX8_number_6 : decode cX8_number 6 = .ok (.ifCond .ne 54, 3) := by decide +kernel
theorem dX8_number_9 : decode cX8_number 9 = .ok (.aload_n 0, 1) := by decide +kernel
theorem dX8_number_10 : decode cX8_number 10 = .ok (.iload_n 1, 1) := by decide +kernel
theorem dX8_number_11 : decode cX8_number 11 = .ok (.iload 4, 2) := by decide +kernel
theorem dX8_number_13 : decode cX8_number 13 = .ok (.invokevirtual 130, 3) := by decide +kernel
theorem dX8_number_16 : decode cX8_number 16 = .ok (.ifCond .ne 44, 3) := by decide +kernel
theorem dX8_number_19 : decode cX8_number 19 = .ok (.iload_n 3, 1) := by decide +kernel
theorem dX8_number_20 : decode cX8_number 20 = .ok (.iconst 0, 1) := by decide +kernel
theorem dX8_number_21 : decode cX8_number 21 = .ok (.iconst 4, 1) := by decide +kernel
theorem dX8_number_22 : decode cX8_number 22 = .ok (.invokestatic 115, 3) := by decide +kernel
theorem dX8_number_25 : decode cX8_number 25 = .ok (.ifCond .eq 35, 3) := by decide +kernel
theorem dX8_number_28 : decode cX8_number 28 = .ok (.iload 5, 2) := by decide +kernel
theorem dX8_number_30 : decode cX8_number 30 = .ok (.iconst 0, 1) := by decide +kernel
theorem dX8_number_31 : decode cX8_number 31 = .ok (.iconst 4, 1) := by decide +kernel
theorem dX8_number_32 : decode cX8_number 32 = .ok (.invokestatic 115, 3) := by decide +kernel
theorem dX8_number_35 : decode cX8_number 35 = .ok (.ifCond .eq 25, 3) := by decide +kernel
theorem dX8_number_38 : decode cX8_number 38 = .ok (.aload_n 0, 1) := by decide +kernel
theorem dX8_number_39 : decode cX8_number 39 = .ok (.iload_n 1, 1) := by decide +kernel
theorem dX8_number_40 : decode cX8_number 40 = .ok (.iload_n 2, 1) := by decide +kernel
theorem dX8_number_41 : decode cX8_number 41 = .ok (.invokevirtual 134, 3) := by decide +kernel
theorem dX8_number_44 : decode cX8_number 44 = .ok (.ifCond .eq 16, 3) := by decide +kernel
theorem dX8_number_47 : decode cX8_number 47 = .ok (.aload_n 0, 1) := by decide +kernel
theorem dX8_number_48 : decode cX8_number 48 = .ok (.iload_n 1, 1) := by decide +kernel
theorem dX8_number_49 : decode cX8_number 49 = .ok (.iload_n 2, 1) := by decide +kernel
theorem dX8_number_50 : decode cX8_number 50 = .ok (.iload_n 3, 1) := by decide +kernel
theorem dX8_number_51 : decode cX8_number 51 = .ok (.iload 4, 2) := by decide +kernel
theorem dX8_number_53 : decode cX8_number 53 = .ok (.iconst 0, 1) := by decide +kernel
theorem dX8_number_54 : decode cX8_number 54 = .ok (.invokevirtual 174, 3) := by decide +kernel
theorem dX8_number_57 : decode cX8_number 57 = .ok (.ifCond .ne 7, 3) := by decide +kernel
theorem dX8_number_60 : decode cX8_number 60 = .ok (.sipush (-1000), 3) := by decide +kernel
theorem dX8_number_63 : decode cX8_number 63 = .ok (.ireturn, 1) := by decide +kernel
theorem dX8_number_64 : decode cX8_number 64 = .ok (.iload_n 3, 1) := by decide +kernel
theorem dX8_number_65 : decode cX8_number 65 = .ok (.iconst 1, 1) := by decide +kernel
theorem dX8_number_66 : decode cX8_number 66 = .ok (.if_icmp .ne 56, 3) := by decide +kernel
theorem dX8_number_69 : decode cX8_number 69 = .ok (.aload_n 0, 1) := by decide +kernel
theorem dX8_number_70 : decode cX8_number 70 = .ok (.iload_n 1, 1) := by decide +kernel
theorem dX8_number_71 : decode cX8_number 71 = .ok (.iload_n 2, 1) := by decide +kernel
theorem dX8_number_72 : decode cX8_number 72 = .ok (.iload 4, 2) := by decide +kernel
theorem dX8_number_74 : decode cX8_number 74 = .ok (.invokevirtual 154, 3) := by decide +kernel
theorem dX8_number_77 : decode cX8_number 77 = .ok (.iload 5, 2) := by decide +kernel
theorem dX8_number_79 : decode cX8_number 79 = .ok (.ifCond .ne 10, 3) := by decide +kernel
theorem dX8_number_82 : decode cX8_number 82 = .ok (.aload_n 0, 1) := by decide +kernel
theorem dX8_number_83 : decode cX8_number 83 = .ok (.getfield 141, 3) := by decide +kernel
theorem dX8_number_86 : decode cX8_number 86 = .ok (.goto 35, 3) := by decide +kernel
theorem dX8_number_89 : decode cX8_number 89 = .ok (.iload 5, 2) := by decide +kernel
theorem dX8_number_91 : decode cX8_number 91 = .ok (.iconst 1, 1) := by decide +kernel
theorem dX8_number_92 : decode cX8_number 92 = .ok (.if_icmp .le 26, 3) := by decide +kernel
theorem dX8_number_95 : decode cX8_number 95 = .ok (.iload 5, 2) := by decide +kernel
theorem dX8_number_97 : decode cX8_number 97 = .ok (.iconst 2, 1) := by decide +kernel
theorem dX8_number_98 : decode cX8_number 98 = .ok (.isub, 1) := by decide +kernel
theorem dX8_number_99 : decode cX8_number 99 = .ok (.aload_n 0, 1) := by decide +kernel
theorem dX8_number_100 : decode cX8_number 100 = .ok (.getfield 141, 3) := by decide +kernel
theorem dX8_number_103 : decode cX8_number 103 = .ok (.if_icmp .ge 15, 3) := by decide +kernel
theorem dX8_number_106 : decode cX8_number 106 = .ok (.aload_n 0, 1) := by decide +kernel
theorem dX8_number_107 : decode cX8_number 107 = .ok (.getfield 29, 3) := by decide +kernel
theorem dX8_number_110 : decode cX8_number 110 = .ok (.iload 5, 2) := by decide +kernel
theorem dX8_number_112 : decode cX8_number 112 = .ok (.iconst 2, 1) := by decide +kernel
theorem dX8_number_113 : decode cX8_number 113 = .ok (.isub, 1) := by decide +kernel
theorem dX8_number_114 : decode cX8_number 114 = .ok (.iaload, 1) := by decide +kernel
theorem dX8_number_115 : decode cX8_number 115 = .ok (.goto 6, 3) := by decide +kernel
theorem dX8_number_118 : decode cX8_number 118 = .ok (.sipush (-1000), 3) := by decide +kernel
theorem dX8_number_121 : decode cX8_number 121 = .ok (.ireturn, 1) := by decide +kernel
theorem dX8_number_122 : decode cX8_number 122 = .ok (.iload_n 3, 1) := by decide +kernel
theorem dX8_number_123 : decode cX8_number 123 = .ok (.iconst 4, 1) := by decide +kernel
theorem dX8_number_124 : decode cX8_number 124 = .ok (.if_icmp .ne 50, 3) := by decide +kernel
theorem dX8_number_127 : decode cX8_number 127 = .ok (.aload_n 0, 1) := by decide +kernel
theorem dX8_number_128 : decode cX8_number 128 = .ok (.iload_n 1, 1) := by decide +kernel
theorem dX8_number_129 : decode cX8_number 129 = .ok (.iload_n 2, 1) := by decide +kernel
theorem dX8_number_130 : decode cX8_number 130 = .ok (.iload 4, 2) := by decide +kernel
theorem dX8_number_132 : decode cX8_number 132 = .ok (.invokevirtual 158, 3) := by decide +kernel
theorem dX8_number_135 : decode cX8_number 135 = .ok (.istore 6, 2) := by decide +kernel
theorem dX8_number_137 : decode cX8_number 137 = .ok (.iload 5, 2) := by decide +kernel
theorem dX8_number_139 : decode cX8_number 139 = .ok (.ifCond .ne 8, 3) := by decide +kernel
theorem dX8_number_142 : decode cX8_number 142 = .ok (.iload 6, 2) := by decide +kernel
theorem dX8_number_144 : decode cX8_number 144 = .ok (.goto 29, 3) := by decide +kernel
theorem dX8_number_147 : decode cX8_number 147 = .ok (.iload 5, 2) := by decide +kernel
theorem dX8_number_149 : decode cX8_number 149 = .ok (.iconst 1, 1) := by decide +kernel
theorem dX8_number_150 : decode cX8_number 150 = .ok (.if_icmp .ne 20, 3) := by decide +kernel
theorem dX8_number_153 : decode cX8_number 153 = .ok (.aload_n 0, 1) := by decide +kernel
theorem dX8_number_154 : decode cX8_number 154 = .ok (.iload_n 1, 1) := by decide +kernel
theorem dX8_number_155 : decode cX8_number 155 = .ok (.iload_n 2, 1) := by decide +kernel
theorem dX8_number_156 : decode cX8_number 156 = .ok (.iload 4, 2) := by decide +kernel
theorem dX8_number_158 : decode cX8_number 158 = .ok (.iconst 0, 1) := by decide +kernel
theorem dX8_number_159 : decode cX8_number 159 = .ok (.invokevirtual 177, 3) := by decide +kernel
theorem dX8_number_162 : decode cX8_number 162 = .ok (.iload 6, 2) := by decide +kernel
theorem dX8_number_164 : decode cX8_number 164 = .ok (.invokestatic 148, 3) := by decide +kernel
theorem dX8_number_167 : decode cX8_number 167 = .ok (.goto 6, 3) := by decide +kernel
theorem dX8_number_170 : decode cX8_number 170 = .ok (.sipush (-1000), 3) := by decide +kernel
theorem dX8_number_173 : decode cX8_number 173 = .ok (.ireturn, 1) := by decide +kernel
theorem dX8_number_174 : decode cX8_number 174 = .ok (.iload 5, 2) := by decide +kernel
theorem dX8_number_176 : decode cX8_number 176 = .ok (.ifCond .ne 24, 3) := by decide +kernel
theorem dX8_number_179 : decode cX8_number 179 = .ok (.aload_n 0, 1) := by decide +kernel
theorem dX8_number_180 : decode cX8_number 180 = .ok (.iload_n 1, 1) := by decide +kernel
theorem dX8_number_181 : decode cX8_number 181 = .ok (.iload_n 2, 1) := by decide +kernel
theorem dX8_number_182 : decode cX8_number 182 = .ok (.iload 4, 2) := by decide +kernel
theorem dX8_number_184 : decode cX8_number 184 = .ok (.iload_n 3, 1) := by decide +kernel
theorem dX8_number_185 : decode cX8_number 185 = .ok (.iconst 3, 1) := by decide +kernel
theorem dX8_number_186 : decode cX8_number 186 = .ok (.if_icmp .ne 7, 3) := by decide +kernel
theorem dX8_number_189 : decode cX8_number 189 = .ok (.iconst 1, 1) := by decide +kernel
theorem dX8_number_190 : decode cX8_number 190 = .ok (.goto 4, 3) := by decide +kernel
theorem dX8_number_193 : decode cX8_number 193 = .ok (.iconst 0, 1) := by decide +kernel
theorem dX8_number_194 : decode cX8_number 194 = .ok (.invokevirtual 177, 3) := by decide +kernel
theorem dX8_number_197 : decode cX8_number 197 = .ok (.goto 6, 3) := by decide +kernel
theorem dX8_number_200 : decode cX8_number 200 = .ok (.sipush (-1000), 3) := by decide +kernel
theorem dX8_number_203 : decode cX8_number 203 = .ok (.ireturn, 1) := by decide +kernel
theorem dX8_isSaid_0 : decode cX8_isSaid 0 = .ok (.iload_n 3, 1) := by decide +kernel
theorem dX8_isSaid_1 : decode cX8_isSaid 1 = .ok (.ifCond .ne 5, 3) := by decide +kernel
theorem dX8_isSaid_4 : decode cX8_isSaid 4 = .ok (.iconst 0, 1) := by decide +kernel
theorem dX8_isSaid_5 : decode cX8_isSaid 5 = .ok (.ireturn, 1) := by decide +kernel
theorem dX8_isSaid_6 : decode cX8_isSaid 6 = .ok (.iload_n 3, 1) := by decide +kernel
theorem dX8_isSaid_7 : decode cX8_isSaid 7 = .ok (.invokestatic 168, 3) := by decide +kernel
theorem dX8_isSaid_10 : decode cX8_isSaid 10 = .ok (.ifCond .ne 14, 3) := by decide +kernel
theorem dX8_isSaid_13 : decode cX8_isSaid 13 = .ok (.aload_n 0, 1) := by decide +kernel
theorem dX8_isSaid_14 : decode cX8_isSaid 14 = .ok (.iload_n 1, 1) := by decide +kernel
theorem dX8_isSaid_15 : decode cX8_isSaid 15 = .ok (.iload_n 2, 1) := by decide +kernel
theorem dX8_isSaid_16 : decode cX8_isSaid 16 = .ok (.iconst 0, 1) := by decide +kernel
theorem dX8_isSaid_17 : decode cX8_isSaid 17 = .ok (.iload 4, 2) := by decide +kernel
theorem dX8_isSaid_19 : decode cX8_isSaid 19 = .ok (.iconst 0, 1) := by decide +kernel
theorem dX8_isSaid_20 : decode cX8_isSaid 20 = .ok (.invokevirtual 174, 3) := by decide +kernel
theorem dX8_isSaid_23 : decode cX8_isSaid 23 = .ok (.ireturn, 1) := by decide +kernel
theorem dX8_isSaid_24 : decode cX8_isSaid 24 = .ok (.aload_n 0, 1) := by decide +kernel
theorem dX8_isSaid_25 : decode cX8_isSaid 25 = .ok (.iload_n 1, 1) := by decide +kernel
theorem dX8_isSaid_26 : decode cX8_isSaid 26 = .ok (.iload_n 2, 1) := by decide +kernel
theorem dX8_isSaid_27 : decode cX8_isSaid 27 = .ok (.iconst 0, 1) := by decide +kernel
theorem dX8_isSaid_28 : decode cX8_isSaid 28 = .ok (.iload 4, 2) := by decide +kernel
theorem dX8_isSaid_30 : decode cX8_isSaid 30 = .ok (.iconst 0, 1) := by decide +kernel
theorem dX8_isSaid_31 : decode cX8_isSaid 31 = .ok (.invokevirtual 174, 3) := by decide +kernel
theorem dX8_isSaid_34 : decode cX8_isSaid 34 = .ok (.ifCond .eq 18, 3) := by decide +kernel
theorem dX8_isSaid_37 : decode cX8_isSaid 37 = .ok (.aload_n 0, 1) := by decide +kernel
theorem dX8_isSaid_38 : decode cX8_isSaid 38 = .ok (.iload_n 1, 1) := by decide +kernel
theorem dX8_isSaid_39 : decode cX8_isSaid 39 = .ok (.iload_n 2, 1) := by decide +kernel
theorem dX8_isSaid_40 : decode cX8_isSaid 40 = .ok (.iconst 0, 1) := by decide +kernel
theorem dX8_isSaid_41 : decode cX8_isSaid 41 = .ok (.iload 5, 2) := by decide +kernel
theorem dX8_isSaid_43 : decode cX8_isSaid 43 = .ok (.iconst 0, 1) := by decide +kernel
theorem dX8_isSaid_44 : decode cX8_isSaid 44 = .ok (.invokevirtual 174, 3) := by decide +kernel
theorem dX8_isSaid_47 : decode cX8_isSaid 47 = .ok (.ifCond .eq 5, 3) := by decide +kernel
theorem dX8_isSaid_50 : decode cX8_isSaid 50 = .ok (.iconst 1, 1) := by decide +kernel
theorem dX8_isSaid_51 : decode cX8_isSaid 51 = .ok (.ireturn, 1) := by decide +kernel
theorem dX8_isSaid_52 : decode cX8_isSaid 52 = .ok (.aload_n 0, 1) := by decide +kernel
theorem dX8_isSaid_53 : decode cX8_isSaid 53 = .ok (.iload_n 1, 1) := by decide +kernel
theorem dX8_isSaid_54 : decode cX8_isSaid 54 = .ok (.iload_n 2, 1) := by decide +kernel
theorem dX8_isSaid_55 : decode cX8_isSaid 55 = .ok (.bipush 6, 2) := by decide +kernel
theorem dX8_isSaid_57 : decode cX8_isSaid 57 = .ok (.iload 4, 2) := by decide +kernel
theorem dX8_isSaid_59 : decode cX8_isSaid 59 = .ok (.iload 5, 2) := by decide +kernel
theorem dX8_isSaid_61 : decode cX8_isSaid 61 = .ok (.invokevirtual 164, 3) := by decide +kernel
theorem dX8_isSaid_64 : decode cX8_isSaid 64 = .ok (.istore 6, 2) := by decide +kernel
theorem dX8_isSaid_66 : decode cX8_isSaid 66 = .ok (.iload_n 3, 1) := by decide +kernel
theorem dX8_isSaid_67 : decode cX8_isSaid 67 = .ok (.bipush 7, 2) := by decide +kernel
theorem dX8_isSaid_69 : decode cX8_isSaid 69 = .ok (.if_icmp .ne 30, 3) := by decide +kernel
theorem dX8_isSaid_72 : decode cX8_isSaid 72 = .ok (.iload 6, 2) := by decide +kernel
theorem dX8_isSaid_74 : decode cX8_isSaid 74 = .ok (.ifCond .ne 17, 3) := by decide +kernel
theorem dX8_isSaid_77 : decode cX8_isSaid 77 = .ok (.aload_n 0, 1) := by decide +kernel
theorem dX8_isSaid_78 : decode cX8_isSaid 78 = .ok (.iload_n 1, 1) := by decide +kernel
theorem dX8_isSaid_79 : decode cX8_isSaid 79 = .ok (.iload_n 2, 1) := by decide +kernel
theorem dX8_isSaid_80 : decode cX8_isSaid 80 = .ok (.iconst 5, 1) := by decide +kernel
theorem dX8_isSaid_81 : decode cX8_isSaid 81 = .ok (.iload 4, 2) := by decide +kernel
theorem dX8_isSaid_83 : decode cX8_isSaid 83 = .ok (.iload 5, 2) := by decide +kernel
theorem dX8_isSaid_85 : decode cX8_isSaid 85 = .ok (.invokevirtual 164, 3) := by decide +kernel
theorem dX8_isSaid_88 : decode cX8_isSaid 88 = .ok (.ifCond .eq 7, 3) := by decide +kernel
theorem dX8_isSaid_91 : decode cX8_isSaid 91 = .ok (.iconst 1, 1) := by decide +kernel
theorem dX8_isSaid_92 : decode cX8_isSaid 92 = .ok (.goto 38, 3) := by decide +kernel
theorem dX8_isSaid_95 : decode cX8_isSaid 95 = .ok (.iconst 0, 1) := by decide +kernel
theorem dX8_isSaid_96 : decode cX8_isSaid 96 = .ok (.goto 34, 3) := by decide +kernel
theorem dX8_isSaid_99 : decode cX8_isSaid 99 = .ok (.iload_n 3, 1) := by decide +kernel
theorem dX8_isSaid_100 : decode cX8_isSaid 100 = .ok (.bipush 8, 2) := by decide +kernel
theorem dX8_isSaid_102 : decode cX8_isSaid 102 = .ok (.if_icmp .ne 27, 3) := by decide +kernel
theorem dX8_isSaid_105 : decode cX8_isSaid 105 = .ok (.iload 6, 2) := by decide +kernel
theorem dX8_isSaid_107 : decode cX8_isSaid 107 = .ok (.ifCond .ne 18, 3) := by decide +kernel
theorem dX8_isSaid_110 : decode cX8_isSaid 110 = .ok (.aload_n 0, 1) := by decide +kernel
theorem dX8_isSaid_111 : decode cX8_isSaid 111 = .ok (.iload_n 1, 1) := by decide +kernel
theorem dX8_isSaid_112 : decode cX8_isSaid 112 = .ok (.iload_n 2, 1) := by decide +kernel
theorem dX8_isSaid_113 : decode cX8_isSaid 113 = .ok (.bipush 6, 2) := by decide +kernel
theorem dX8_isSaid_115 : decode cX8_isSaid 115 = .ok (.iload 5, 2) := by decide +kernel
theorem dX8_isSaid_117 : decode cX8_isSaid 117 = .ok (.iload 4, 2) := by decide +kernel
theorem dX8_isSaid_119 : decode cX8_isSaid 119 = .ok (.invokevirtual 164, 3) := by decide +kernel
theorem dX8_isSaid_122 : decode cX8_isSaid 122 = .ok (.ifCond .eq 7, 3) := by decide +kernel
theorem dX8_isSaid_125 : decode cX8_isSaid 125 = .ok (.iconst 1, 1) := by decide +kernel
theorem dX8_isSaid_126 : decode cX8_isSaid 126 = .ok (.goto 4, 3) := by decide +kernel
theorem dX8_isSaid_129 : decode cX8_isSaid 129 = .ok (.iconst 0, 1) := by decide +kernel
theorem dX8_isSaid_130 : decode cX8_isSaid 130 = .ok (.ireturn, 1) := by decide +kernel
theorem dX8_findGuesses_0 : decode cX8_findGuesses 0 = .ok (.aload_n 0, 1) := by decide +kernel
theorem dX8_findGuesses_1 : decode cX8_findGuesses 1 = .ok (.iconst 0, 1) := by decide +kernel
theorem dX8_findGuesses_2 : decode cX8_findGuesses 2 = .ok (.putfield 181, 3) := by decide +kernel
theorem dX8_findGuesses_5 : decode cX8_findGuesses 5 = .ok (.aload_n 0, 1) := by decide +kernel
theorem dX8_findGuesses_6 : decode cX8_findGuesses 6 = .ok (.iload_n 1, 1) := by decide +kernel
theorem dX8_findGuesses_7 : decode cX8_findGuesses 7 = .ok (.iload_n 2, 1) := by decide +kernel
theorem dX8_findGuesses_8 : decode cX8_findGuesses 8 = .ok (.invokevirtual 134, 3) := by decide +kernel
theorem dX8_findGuesses_11 : decode cX8_findGuesses 11 = .ok (.ifCond .ne 4, 3) := by decide +kernel
theorem dX8_findGuesses_14 : decode cX8_findGuesses 14 = .ok (.return_, 1) := by decide +kernel
theorem dX8_findGuesses_15 : decode cX8_findGuesses 15 = .ok (.iconst 0, 1) := by decide +kernel
theorem dX8_findGuesses_16 : decode cX8_findGuesses 16 = .ok (.istore 4, 2) := by decide +kernel
theorem dX8_findGuesses_18 : decode cX8_findGuesses 18 = .ok (.iload 4, 2) := by decide +kernel
theorem dX8_findGuesses_20 : decode cX8_findGuesses 20 = .ok (.bipush 10, 2) := by decide +kernel
theorem dX8_findGuesses_22 : decode cX8_findGuesses 22 = .ok (.if_icmp .ge 140, 3) := by decide +kernel
theorem dX8_findGuesses_25 : decode cX8_findGuesses 25 = .ok (.iconst 0, 1) := by decide +kernel
theorem dX8_findGuesses_26 : decode cX8_findGuesses 26 = .ok (.istore 5, 2) := by decide +kernel
theorem dX8_findGuesses_28 : decode cX8_findGuesses 28 = .ok (.iload 5, 2) := by decide +kernel
theorem dX8_findGuesses_30 : decode cX8_findGuesses 30 = .ok (.aload_n 0, 1) := by decide +kernel
theorem dX8_findGuesses_31 : decode cX8_findGuesses 31 = .ok (.getfield 7, 3) := by decide +kernel
theorem dX8_findGuesses_34 : decode cX8_findGuesses 34 = .ok (.iload_n 1, 1) := by decide +kernel
theorem dX8_findGuesses_35 : decode cX8_findGuesses 35 = .ok (.iaload, 1) := by decide +kernel
theorem dX8_findGuesses_36 : decode cX8_findGuesses 36 = .ok (.if_icmp .ge 120, 3) := by decide +kernel
theorem dX8_findGuesses_39 : decode cX8_findGuesses 39 = .ok (.iconst 0, 1) := by decide +kernel
theorem dX8_findGuesses_40 : decode cX8_findGuesses 40 = .ok (.istore 6, 2) := by decide +kernel
theorem dX8_findGuesses_42 : decode cX8_findGuesses 42 = .ok (.iload 6, 2) := by decide +kernel
theorem dX8_findGuesses_44 : decode cX8_findGuesses 44 = .ok (.iload 4, 2) := by decide +kernel
theorem dX8_findGuesses_46 : decode cX8_findGuesses 46 = .ok (.invokestatic 168, 3) := by decide +kernel
theorem dX8_findGuesses_49 : decode cX8_findGuesses 49 = .ok (.ifCond .eq 12, 3) := by decide +kernel
theorem dX8_findGuesses_52 : decode cX8_findGuesses 52 = .ok (.aload_n 0, 1) := by decide +kernel
theorem dX8_findGuesses_53 : decode cX8_findGuesses 53 = .ok (.getfield 7, 3) := by decide +kernel
theorem dX8_findGuesses_56 : decode cX8_findGuesses 56 = .ok (.iload_n 1, 1) := by decide +kernel
theorem dX8_findGuesses_57 : decode cX8_findGuesses 57 = .ok (.iaload, 1) := by decide +kernel
theorem dX8_findGuesses_58 : decode cX8_findGuesses 58 = .ok (.goto 4, 3) := by decide +kernel
theorem dX8_findGuesses_61 : decode cX8_findGuesses 61 = .ok (.iconst 1, 1) := by decide +kernel
theorem dX8_findGuesses_62 : decode cX8_findGuesses 62 = .ok (.if_icmp .ge 88, 3) := by decide +kernel
theorem dX8_findGuesses_65 : decode cX8_findGuesses 65 = .ok (.iload 4, 2) := by decide +kernel
theorem dX8_findGuesses_67 : decode cX8_findGuesses 67 = .ok (.iload 5, 2) := by decide +kernel
theorem dX8_findGuesses_69 : decode cX8_findGuesses 69 = .ok (.iload 6, 2) := by decide +kernel
theorem dX8_findGuesses_71 : decode cX8_findGuesses 71 = .ok (.invokestatic 171, 3) := by decide +kernel
theorem dX8_findGuesses_74 : decode cX8_findGuesses 74 = .ok (.ifCond .eq 70, 3) := by decide +kernel
theorem dX8_findGuesses_77 : decode cX8_findGuesses 77 = .ok (.aload_n 0, 1) := by decide +kernel
theorem dX8_findGuesses_78 : decode cX8_findGuesses 78 = .ok (.iload_n 1, 1) := by decide +kernel
theorem dX8_findGuesses_79 : decode cX8_findGuesses 79 = .ok (.iload_n 2, 1) := by decide +kernel
theorem dX8_findGuesses_80 : decode cX8_findGuesses 80 = .ok (.iload 4, 2) := by decide +kernel
theorem dX8_findGuesses_82 : decode cX8_findGuesses 82 = .ok (.iload 5, 2) := by decide +kernel
theorem dX8_findGuesses_84 : decode cX8_findGuesses 84 = .ok (.iload 6, 2) := by decide +kernel
theorem dX8_findGuesses_86 : decode cX8_findGuesses 86 = .ok (.invokevirtual 174, 3) := by decide +kernel
theorem dX8_findGuesses_89 : decode cX8_findGuesses 89 = .ok (.ifCond .eq 55, 3) := by decide +kernel
theorem dX8_findGuesses_92 : decode cX8_findGuesses 92 = .ok (.iload_n 3, 1) := by decide +kernel
theorem dX8_findGuesses_93 : decode cX8_findGuesses 93 = .ok (.ifCond .eq 18, 3) := by decide +kernel
theorem dX8_findGuesses_96 : decode cX8_findGuesses 96 = .ok (.aload_n 0, 1) := by decide +kernel
theorem dX8_findGuesses_97 : decode cX8_findGuesses 97 = .ok (.iload_n 1, 1) := by decide +kernel
theorem dX8_findGuesses_98 : decode cX8_findGuesses 98 = .ok (.iload_n 2, 1) := by decide +kernel
theorem dX8_findGuesses_99 : decode cX8_findGuesses 99 = .ok (.iload 4, 2) := by decide +kernel
theorem dX8_findGuesses_101 : decode cX8_findGuesses 101 = .ok (.iload 5, 2) := by decide +kernel
theorem dX8_findGuesses_103 : decode cX8_findGuesses 103 = .ok (.iload 6, 2) := by decide +kernel
theorem dX8_findGuesses_105 : decode cX8_findGuesses 105 = .ok (.invokevirtual 184, 3) := by decide +kernel
theorem dX8_findGuesses_108 : decode cX8_findGuesses 108 = .ok (.ifCond .ne 36, 3) := by decide +kernel
theorem dX8_findGuesses_111 : decode cX8_findGuesses 111 = .ok (.aload_n 0, 1) := by decide +kernel
theorem dX8_findGuesses_112 : decode cX8_findGuesses 112 = .ok (.getfield 32, 3) := by decide +kernel
theorem dX8_findGuesses_115 : decode cX8_findGuesses 115 = .ok (.aload_n 0, 1) := by decide +kernel
theorem dX8_findGuesses_116 : decode cX8_findGuesses 116 = .ok (.getfield 181, 3) := by decide +kernel
theorem dX8_findGuesses_119 : decode cX8_findGuesses 119 = .ok (.bipush 100, 2) := by decide +kernel
theorem dX8_findGuesses_121 : decode cX8_findGuesses 121 = .ok (.iload 4, 2) := by decide +kernel
theorem dX8_findGuesses_123 : decode cX8_findGuesses 123 = .ok (.imul, 1) := by decide +kernel
theorem dX8_findGuesses_124 : decode cX8_findGuesses 124 = .ok (.bipush 10, 2) := by decide +kernel
theorem dX8_findGuesses_126 : decode cX8_findGuesses 126 = .ok (.iload 5, 2) := by decide +kernel
theorem dX8_findGuesses_128 : decode cX8_findGuesses 128 = .ok (.imul, 1) := by decide +kernel
theorem dX8_findGuesses_129 : decode cX8_findGuesses 129 = .ok (.iadd, 1) := by decide +kernel
theorem dX8_findGuesses_130 : decode cX8_findGuesses 130 = .ok (.iload 6, 2) := by decide +kernel
theorem dX8_findGuesses_132 : decode cX8_findGuesses 132 = .ok (.iadd, 1) := by decide +kernel
theorem dX8_findGuesses_133 : decode cX8_findGuesses 133 = .ok (.iastore, 1) := by decide +kernel
theorem dX8_findGuesses_134 : decode cX8_findGuesses 134 = .ok (.aload_n 0, 1) := by decide +kernel
theorem dX8_findGuesses_135 : decode cX8_findGuesses 135 = .ok (.dup, 1) := by decide +kernel
theorem dX8_findGuesses_136 : decode cX8_findGuesses 136 = .ok (.getfield 181, 3) := by decide +kernel
theorem dX8_findGuesses_139 : decode cX8_findGuesses 139 = .ok (.iconst 1, 1) := by decide +kernel
theorem dX8_findGuesses_140 : decode cX8_findGuesses 140 = .ok (.iadd, 1) := by decide +kernel
theorem dX8_findGuesses_141 : decode cX8_findGuesses 141 = .ok (.putfield 181, 3) := by decide +kernel
theorem dX8_findGuesses_144 : decode cX8_findGuesses 144 = .ok (.iinc 6 1, 3) := by decide +kernel
theorem dX8_findGuesses_147 : decode cX8_findGuesses 147 = .ok (.goto (-105), 3) := by decide +kernel
theorem dX8_findGuesses_150 : decode cX8_findGuesses 150 = .ok (.iinc 5 1, 3) := by decide +kernel
theorem dX8_findGuesses_153 : decode cX8_findGuesses 153 = .ok (.goto (-125), 3) := by decide +kernel
theorem dX8_findGuesses_156 : decode cX8_findGuesses 156 = .ok (.iinc 4 1, 3) := by decide +kernel
theorem dX8_findGuesses_159 : decode cX8_findGuesses 159 = .ok (.goto (-141), 3) := by decide +kernel
theorem dX8_findGuesses_162 : decode cX8_findGuesses 162 = .ok (.return_, 1) := by decide +kernel
theorem dX8_guesses_0 : decode cX8_guesses 0 = .ok (.aload_n 0, 1) := by decide +kernel
theorem dX8_guesses_1 : decode cX8_guesses 1 = .ok (.iload_n 1, 1) := by decide +kernel
theorem dX8_guesses_2 : decode cX8_guesses 2 = .ok (.iload_n 2, 1) := by decide +kernel
theorem dX8_guesses_3 : decode cX8_guesses 3 = .ok (.invokevirtual 138, 3) := by decide +kernel
theorem dX8_guesses_6 : decode cX8_guesses 6 = .ok (.ifCond .eq 5, 3) := by decide +kernel
theorem dX8_guesses_9 : decode cX8_guesses 9 = .ok (.iconst (-1), 1) := by decide +kernel
theorem dX8_guesses_10 : decode cX8_guesses 10 = .ok (.ireturn, 1) := by decide +kernel
theorem dX8_guesses_11 : decode cX8_guesses 11 = .ok (.aload_n 0, 1) := by decide +kernel
theorem dX8_guesses_12 : decode cX8_guesses 12 = .ok (.iload_n 1, 1) := by decide +kernel
theorem dX8_guesses_13 : decode cX8_guesses 13 = .ok (.iload_n 2, 1) := by decide +kernel
theorem dX8_guesses_14 : decode cX8_guesses 14 = .ok (.iconst 1, 1) := by decide +kernel
theorem dX8_guesses_15 : decode cX8_guesses 15 = .ok (.invokevirtual 187, 3) := by decide +kernel
theorem dX8_guesses_18 : decode cX8_guesses 18 = .ok (.aload_n 0, 1) := by decide +kernel
theorem dX8_guesses_19 : decode cX8_guesses 19 = .ok (.getfield 181, 3) := by decide +kernel
theorem dX8_guesses_22 : decode cX8_guesses 22 = .ok (.ireturn, 1) := by decide +kernel
theorem dX8_guess_0 : decode cX8_guess 0 = .ok (.aload_n 0, 1) := by decide +kernel
theorem dX8_guess_1 : decode cX8_guess 1 = .ok (.iload_n 1, 1) := by decide +kernel
theorem dX8_guess_2 : decode cX8_guess 2 = .ok (.iload_n 2, 1) := by decide +kernel
theorem dX8_guess_3 : decode cX8_guess 3 = .ok (.invokevirtual 138, 3) := by decide +kernel
theorem dX8_guess_6 : decode cX8_guess 6 = .ok (.ifCond .eq 5, 3) := by decide +kernel
theorem dX8_guess_9 : decode cX8_guess 9 = .ok (.iconst (-1), 1) := by decide +kernel
theorem dX8_guess_10 : decode cX8_guess 10 = .ok (.ireturn, 1) := by decide +kernel
theorem dX8_guess_11 : decode cX8_guess 11 = .ok (.aload_n 0, 1) := by decide +kernel
theorem dX8_guess_12 : decode cX8_guess 12 = .ok (.iload_n 1, 1) := by decide +kernel
theorem dX8_guess_13 : decode cX8_guess 13 = .ok (.iload_n 2, 1) := by decide +kernel
theorem dX8_guess_14 : decode cX8_guess 14 = .ok (.iconst 1, 1) := by decide +kernel
theorem dX8_guess_15 : decode cX8_guess 15 = .ok (.invokevirtual 187, 3) := by decide +kernel
theorem dX8_guess_18 : decode cX8_guess 18 = .ok (.iload_n 3, 1) := by decide +kernel
theorem dX8_guess_19 : decode cX8_guess 19 = .ok (.iconst 0, 1) := by decide +kernel
theorem dX8_guess_20 : decode cX8_guess 20 = .ok (.aload_n 0, 1) := by decide +kernel
theorem dX8_guess_21 : decode cX8_guess 21 = .ok (.getfield 181, 3) := by decide +kernel
theorem dX8_guess_24 : decode cX8_guess 24 = .ok (.iconst 1, 1) := by decide +kernel
theorem dX8_guess_25 : decode cX8_guess 25 = .ok (.isub, 1) := by decide +kernel
theorem dX8_guess_26 : decode cX8_guess 26 = .ok (.invokestatic 115, 3) := by decide +kernel
theorem dX8_guess_29 : decode cX8_guess 29 = .ok (.ifCond .eq 12, 3) := by decide +kernel
theorem dX8_guess_32 : decode cX8_guess 32 = .ok (.aload_n 0, 1) := by decide +kernel
theorem dX8_guess_33 : decode cX8_guess 33 = .ok (.getfield 32, 3) := by decide +kernel
theorem dX8_guess_36 : decode cX8_guess 36 = .ok (.iload_n 3, 1) := by decide +kernel
theorem dX8_guess_37 : decode cX8_guess 37 = .ok (.iaload, 1) := by decide +kernel
theorem dX8_guess_38 : decode cX8_guess 38 = .ok (.goto 4, 3) := by decide +kernel
theorem dX8_guess_41 : decode cX8_guess 41 = .ok (.iconst (-1), 1) := by decide +kernel
theorem dX8_guess_42 : decode cX8_guess 42 = .ok (.ireturn, 1) := by decide +kernel
theorem dX8_noteHeld_0 : decode cX8_noteHeld 0 = .ok (.aload_n 0, 1) := by decide +kernel
theorem dX8_noteHeld_1 : decode cX8_noteHeld 1 = .ok (.iconst 0, 1) := by decide +kernel
theorem dX8_noteHeld_2 : decode cX8_noteHeld 2 = .ok (.putfield 191, 3) := by decide +kernel
theorem dX8_noteHeld_5 : decode cX8_noteHeld 5 = .ok (.iconst 0, 1) := by decide +kernel
theorem dX8_noteHeld_6 : decode cX8_noteHeld 6 = .ok (.istore_n 2, 1) := by decide +kernel
theorem dX8_noteHeld_7 : decode cX8_noteHeld 7 = .ok (.iload_n 2, 1) := by decide +kernel
theorem dX8_noteHeld_8 : decode cX8_noteHeld 8 = .ok (.iconst 3, 1) := by decide +kernel
theorem dX8_noteHeld_9 : decode cX8_noteHeld 9 = .ok (.if_icmp .ge 67, 3) := by decide +kernel
theorem dX8_noteHeld_12 : decode cX8_noteHeld 12 = .ok (.aload_n 0, 1) := by decide +kernel
theorem dX8_noteHeld_13 : decode cX8_noteHeld 13 = .ok (.iload_n 1, 1) := by decide +kernel
theorem dX8_noteHeld_14 : decode cX8_noteHeld 14 = .ok (.iload_n 2, 1) := by decide +kernel
theorem dX8_noteHeld_15 : decode cX8_noteHeld 15 = .ok (.iconst 0, 1) := by decide +kernel
theorem dX8_noteHeld_16 : decode cX8_noteHeld 16 = .ok (.invokevirtual 187, 3) := by decide +kernel
theorem dX8_noteHeld_19 : decode cX8_noteHeld 19 = .ok (.iconst 0, 1) := by decide +kernel
theorem dX8_noteHeld_20 : decode cX8_noteHeld 20 = .ok (.istore_n 3, 1) := by decide +kernel
theorem dX8_noteHeld_21 : decode cX8_noteHeld 21 = .ok (.iload_n 3, 1) := by decide +kernel
theorem dX8_noteHeld_22 : decode cX8_noteHeld 22 = .ok (.aload_n 0, 1) := by decide +kernel
theorem dX8_noteHeld_23 : decode cX8_noteHeld 23 = .ok (.getfield 181, 3) := by decide +kernel
theorem dX8_noteHeld_26 : decode cX8_noteHeld 26 = .ok (.if_icmp .ge 44, 3) := by decide +kernel
theorem dX8_noteHeld_29 : decode cX8_noteHeld 29 = .ok (.aload_n 0, 1) := by decide +kernel
theorem dX8_noteHeld_30 : decode cX8_noteHeld 30 = .ok (.getfield 35, 3) := by decide +kernel
theorem dX8_noteHeld_33 : decode cX8_noteHeld 33 = .ok (.aload_n 0, 1) := by decide +kernel
theorem dX8_noteHeld_34 : decode cX8_noteHeld 34 = .ok (.getfield 191, 3) := by decide +kernel
theorem dX8_noteHeld_37 : decode cX8_noteHeld 37 = .ok (.iload_n 2, 1) := by decide +kernel
theorem dX8_noteHeld_38 : decode cX8_noteHeld 38 = .ok (.iastore, 1) := by decide +kernel
theorem dX8_noteHeld_39 : decode cX8_noteHeld 39 = .ok (.aload_n 0, 1) := by decide +kernel
theorem dX8_noteHeld_40 : decode cX8_noteHeld 40 = .ok (.getfield 38, 3) := by decide +kernel
theorem dX8_noteHeld_43 : decode cX8_noteHeld 43 = .ok (.aload_n 0, 1) := by decide +kernel
theorem dX8_noteHeld_44 : decode cX8_noteHeld 44 = .ok (.getfield 191, 3) := by decide +kernel
theorem dX8_noteHeld_47 : decode cX8_noteHeld 47 = .ok (.aload_n 0, 1) := by decide +kernel
theorem dX8_noteHeld_48 : decode cX8_noteHeld 48 = .ok (.getfield 32, 3) := by decide +kernel
theorem dX8_noteHeld_51 : decode cX8_noteHeld 51 = .ok (.iload_n 3, 1) := by decide +kernel
theorem dX8_noteHeld_52 : decode cX8_noteHeld 52 = .ok (.iaload, 1) := by decide +kernel
theorem dX8_noteHeld_53 : decode cX8_noteHeld 53 = .ok (.iastore, 1) := by decide +kernel
theorem dX8_noteHeld_54 : decode cX8_noteHeld 54 = .ok (.aload_n 0, 1) := by decide +kernel
theorem dX8_noteHeld_55 : decode cX8_noteHeld 55 = .ok (.dup, 1) := by decide +kernel
theorem dX8_noteHeld_56 : decode cX8_noteHeld 56 = .ok (.getfield 191, 3) := by decide +kernel
theorem dX8_noteHeld_59 : decode cX8_noteHeld 59 = .ok (.iconst 1, 1) := by decide +kernel
theorem dX8_noteHeld_60 : decode cX8_noteHeld 60 = .ok (.iadd, 1) := by decide +kernel
theorem dX8_noteHeld_61 : decode cX8_noteHeld 61 = .ok (.putfield 191, 3) := by decide +kernel
theorem dX8_noteHeld_64 : decode cX8_noteHeld 64 = .ok (.iinc 3 1, 3) := by decide +kernel
theorem dX8_noteHeld_67 : decode cX8_noteHeld 67 = .ok (.goto (-46), 3) := by decide +kernel
theorem dX8_noteHeld_70 : decode cX8_noteHeld 70 = .ok (.iinc 2 1, 3) := by decide +kernel
theorem dX8_noteHeld_73 : decode cX8_noteHeld 73 = .ok (.goto (-66), 3) := by decide +kernel
theorem dX8_noteHeld_76 : decode cX8_noteHeld 76 = .ok (.return_, 1) := by decide +kernel
theorem dX8_readRow_0 : decode cX8_readRow 0 = .ok (.aload_n 0, 1) := by decide +kernel
theorem dX8_readRow_1 : decode cX8_readRow 1 = .ok (.iload_n 1, 1) := by decide +kernel
theorem dX8_readRow_2 : decode cX8_readRow 2 = .ok (.invokevirtual 194, 3) := by decide +kernel
theorem dX8_readRow_5 : decode cX8_readRow 5 = .ok (.sipush 160, 3) := by decide +kernel
theorem dX8_readRow_8 : decode cX8_readRow 8 = .ok (.iload_n 1, 1) := by decide +kernel
theorem dX8_readRow_9 : decode cX8_readRow 9 = .ok (.imul, 1) := by decide +kernel
theorem dX8_readRow_10 : decode cX8_readRow 10 = .ok (.iconst 4, 1) := by decide +kernel
theorem dX8_readRow_11 : decode cX8_readRow 11 = .ok (.aload_n 0, 1) := by decide +kernel
theorem dX8_readRow_12 : decode cX8_readRow 12 = .ok (.getfield 13, 3) := by decide +kernel
theorem dX8_readRow_15 : decode cX8_readRow 15 = .ok (.iload_n 1, 1) := by decide +kernel
theorem dX8_readRow_16 : decode cX8_readRow 16 = .ok (.iaload, 1) := by decide +kernel
theorem dX8_readRow_17 : decode cX8_readRow 17 = .ok (.imul, 1) := by decide +kernel
theorem dX8_readRow_18 : decode cX8_readRow 18 = .ok (.iadd, 1) := by decide +kernel
theorem dX8_readRow_19 : decode cX8_readRow 19 = .ok (.istore 6, 2) := by decide +kernel
theorem dX8_readRow_21 : decode cX8_readRow 21 = .ok (.aload_n 0, 1) := by decide +kernel
theorem dX8_readRow_22 : decode cX8_readRow 22 = .ok (.getfield 26, 3) := by decide +kernel
theorem dX8_readRow_25 : decode cX8_readRow 25 = .ok (.iload 6, 2) := by decide +kernel
theorem dX8_readRow_27 : decode cX8_readRow 27 = .ok (.iload_n 2, 1) := by decide +kernel
theorem dX8_readRow_28 : decode cX8_readRow 28 = .ok (.iastore, 1) := by decide +kernel
theorem dX8_readRow_29 : decode cX8_readRow 29 = .ok (.aload_n 0, 1) := by decide +kernel
theorem dX8_readRow_30 : decode cX8_readRow 30 = .ok (.getfield 26, 3) := by decide +kernel
theorem dX8_readRow_33 : decode cX8_readRow 33 = .ok (.iload 6, 2) := by decide +kernel
theorem dX8_readRow_35 : decode cX8_readRow 35 = .ok (.iconst 1, 1) := by decide +kernel
theorem dX8_readRow_36 : decode cX8_readRow 36 = .ok (.iadd, 1) := by decide +kernel
theorem dX8_readRow_37 : decode cX8_readRow 37 = .ok (.iload_n 3, 1) := by decide +kernel
theorem dX8_readRow_38 : decode cX8_readRow 38 = .ok (.iastore, 1) := by decide +kernel
theorem dX8_readRow_39 : decode cX8_readRow 39 = .ok (.aload_n 0, 1) := by decide +kernel
theorem dX8_readRow_40 : decode cX8_readRow 40 = .ok (.getfield 26, 3) := by decide +kernel
theorem dX8_readRow_43 : decode cX8_readRow 43 = .ok (.iload 6, 2) := by decide +kernel
theorem dX8_readRow_45 : decode cX8_readRow 45 = .ok (.iconst 2, 1) := by decide +kernel
theorem dX8_readRow_46 : decode cX8_readRow 46 = .ok (.iadd, 1) := by decide +kernel
theorem dX8_readRow_47 : decode cX8_readRow 47 = .ok (.iload 4, 2) := by decide +kernel
theorem dX8_readRow_49 : decode cX8_readRow 49 = .ok (.iastore, 1) := by decide +kernel
theorem dX8_readRow_50 : decode cX8_readRow 50 = .ok (.aload_n 0, 1) := by decide +kernel
theorem dX8_readRow_51 : decode cX8_readRow 51 = .ok (.getfield 26, 3) := by decide +kernel
theorem dX8_readRow_54 : decode cX8_readRow 54 = .ok (.iload 6, 2) := by decide +kernel
theorem dX8_readRow_56 : decode cX8_readRow 56 = .ok (.iconst 3, 1) := by decide +kernel
theorem dX8_readRow_57 : decode cX8_readRow 57 = .ok (.iadd, 1) := by decide +kernel
theorem dX8_readRow_58 : decode cX8_readRow 58 = .ok (.iload 5, 2) := by decide +kernel
theorem dX8_readRow_60 : decode cX8_readRow 60 = .ok (.iastore, 1) := by decide +kernel
theorem dX8_readRow_61 : decode cX8_readRow 61 = .ok (.aload_n 0, 1) := by decide +kernel
theorem dX8_readRow_62 : decode cX8_readRow 62 = .ok (.getfield 13, 3) := by decide +kernel
theorem dX8_readRow_65 : decode cX8_readRow 65 = .ok (.iload_n 1, 1) := by decide +kernel
theorem dX8_readRow_66 : decode cX8_readRow 66 = .ok (.dup2, 1) := by decide +kernel
theorem dX8_readRow_67 : decode cX8_readRow 67 = .ok (.iaload, 1) := by decide +kernel
theorem dX8_readRow_68 : decode cX8_readRow 68 = .ok (.iconst 1, 1) := by decide +kernel
theorem dX8_readRow_69 : decode cX8_readRow 69 = .ok (.iadd, 1) := by decide +kernel
theorem dX8_readRow_70 : decode cX8_readRow 70 = .ok (.iastore, 1) := by decide +kernel
theorem dX8_readRow_71 : decode cX8_readRow 71 = .ok (.aload_n 0, 1) := by decide +kernel
theorem dX8_readRow_72 : decode cX8_readRow 72 = .ok (.iconst 0, 1) := by decide +kernel
theorem dX8_readRow_73 : decode cX8_readRow 73 = .ok (.putfield 197, 3) := by decide +kernel
theorem dX8_readRow_76 : decode cX8_readRow 76 = .ok (.iconst 0, 1) := by decide +kernel
theorem dX8_readRow_77 : decode cX8_readRow 77 = .ok (.istore 7, 2) := by decide +kernel
theorem dX8_readRow_79 : decode cX8_readRow 79 = .ok (.iload 7, 2) := by decide +kernel
theorem dX8_readRow_81 : decode cX8_readRow 81 = .ok (.aload_n 0, 1) := by decide +kernel
theorem dX8_readRow_82 : decode cX8_readRow 82 = .ok (.getfield 191, 3) := by decide +kernel
theorem dX8_readRow_85 : decode cX8_readRow 85 = .ok (.if_icmp .ge 84, 3) := by decide +kernel
theorem dX8_readRow_88 : decode cX8_readRow 88 = .ok (.aload_n 0, 1) := by decide +kernel
theorem dX8_readRow_89 : decode cX8_readRow 89 = .ok (.getfield 38, 3) := by decide +kernel
theorem dX8_readRow_92 : decode cX8_readRow 92 = .ok (.iload 7, 2) := by decide +kernel
theorem dX8_readRow_94 : decode cX8_readRow 94 = .ok (.iaload, 1) := by decide +kernel
theorem dX8_readRow_95 : decode cX8_readRow 95 = .ok (.istore 8, 2) := by decide +kernel
theorem dX8_readRow_97 : decode cX8_readRow 97 = .ok (.aload_n 0, 1) := by decide +kernel
theorem dX8_readRow_98 : decode cX8_readRow 98 = .ok (.iload_n 1, 1) := by decide +kernel
theorem dX8_readRow_99 : decode cX8_readRow 99 = .ok (.aload_n 0, 1) := by decide +kernel
theorem dX8_readRow_100 : decode cX8_readRow 100 = .ok (.getfield 35, 3) := by decide +kernel
theorem dX8_readRow_103 : decode cX8_readRow 103 = .ok (.iload 7, 2) := by decide +kernel
theorem dX8_readRow_105 : decode cX8_readRow 105 = .ok (.iaload, 1) := by decide +kernel
theorem dX8_readRow_106 : decode cX8_readRow 106 = .ok (.iload 8, 2) := by decide +kernel
theorem dX8_readRow_108 : decode cX8_readRow 108 = .ok (.bipush 100, 2) := by decide +kernel
theorem dX8_readRow_110 : decode cX8_readRow 110 = .ok (.idiv, 1) := by decide +kernel
theorem dX8_readRow_111 : decode cX8_readRow 111 = .ok (.iload 8, 2) := by decide +kernel
theorem dX8_readRow_113 : decode cX8_readRow 113 = .ok (.bipush 10, 2) := by decide +kernel
theorem dX8_readRow_115 : decode cX8_readRow 115 = .ok (.idiv, 1) := by decide +kernel
theorem dX8_readRow_116 : decode cX8_readRow 116 = .ok (.bipush 10, 2) := by decide +kernel
theorem dX8_readRow_118 : decode cX8_readRow 118 = .ok (.irem, 1) := by decide +kernel
theorem dX8_readRow_119 : decode cX8_readRow 119 = .ok (.iload 8, 2) := by decide +kernel
theorem dX8_readRow_121 : decode cX8_readRow 121 = .ok (.bipush 10, 2) := by decide +kernel
theorem dX8_readRow_123 : decode cX8_readRow 123 = .ok (.irem, 1) := by decide +kernel
theorem dX8_readRow_124 : decode cX8_readRow 124 = .ok (.invokevirtual 174, 3) := by decide +kernel
theorem dX8_readRow_127 : decode cX8_readRow 127 = .ok (.ifCond .ne 36, 3) := by decide +kernel
theorem dX8_readRow_130 : decode cX8_readRow 130 = .ok (.aload_n 0, 1) := by decide +kernel
theorem dX8_readRow_131 : decode cX8_readRow 131 = .ok (.getfield 41, 3) := by decide +kernel
theorem dX8_readRow_134 : decode cX8_readRow 134 = .ok (.aload_n 0, 1) := by decide +kernel
theorem dX8_readRow_135 : decode cX8_readRow 135 = .ok (.getfield 197, 3) := by decide +kernel
theorem dX8_readRow_138 : decode cX8_readRow 138 = .ok (.sipush 1000, 3) := by decide +kernel
theorem dX8_readRow_141 : decode cX8_readRow 141 = .ok (.aload_n 0, 1) := by decide +kernel
theorem dX8_readRow_142 : decode cX8_readRow 142 = .ok (.getfield 35, 3) := by decide +kernel
theorem dX8_readRow_145 : decode cX8_readRow 145 = .ok (.iload 7, 2) := by decide +kernel
theorem dX8_readRow_147 : decode cX8_readRow 147 = .ok (.iaload, 1) := by decide +kernel
theorem dX8_readRow_148 : decode cX8_readRow 148 = .ok (.imul, 1) := by decide +kernel
theorem dX8_readRow_149 : decode cX8_readRow 149 = .ok (.iload 8, 2) := by decide +kernel
theorem dX8_readRow_151 : decode cX8_readRow 151 = .ok (.iadd, 1) := by decide +kernel
theorem dX8_readRow_152 : decode cX8_readRow 152 = .ok (.iastore, 1) := by decide +kernel
theorem dX8_readRow_153 : decode cX8_readRow 153 = .ok (.aload_n 0, 1) := by decide +kernel
theorem dX8_readRow_154 : decode cX8_readRow 154 = .ok (.dup, 1) := by decide +kernel
theorem dX8_readRow_155 : decode cX8_readRow 155 = .ok (.getfield 197, 3) := by decide +kernel
theorem dX8_readRow_158 : decode cX8_readRow 158 = .ok (.iconst 1, 1) := by decide +kernel
theorem dX8_readRow_159 : decode cX8_readRow 159 = .ok (.iadd, 1) := by decide +kernel
theorem dX8_readRow_160 : decode cX8_readRow 160 = .ok (.putfield 197, 3) := by decide +kernel
theorem dX8_readRow_163 : decode cX8_readRow 163 = .ok (.iinc 7 1, 3) := by decide +kernel
theorem dX8_readRow_166 : decode cX8_readRow 166 = .ok (.goto (-87), 3) := by decide +kernel
theorem dX8_readRow_169 : decode cX8_readRow 169 = .ok (.aload_n 0, 1) := by decide +kernel
theorem dX8_readRow_170 : decode cX8_readRow 170 = .ok (.getfield 197, 3) := by decide +kernel
theorem dX8_readRow_173 : decode cX8_readRow 173 = .ok (.ireturn, 1) := by decide +kernel
theorem dX8_areIn_0 : decode cX8_areIn 0 = .ok (.iload_n 2, 1) := by decide +kernel
theorem dX8_areIn_1 : decode cX8_areIn 1 = .ok (.bipush (-30), 2) := by decide +kernel
theorem dX8_areIn_3 : decode cX8_areIn 3 = .ok (.bipush 30, 2) := by decide +kernel
theorem dX8_areIn_5 : decode cX8_areIn 5 = .ok (.invokestatic 115, 3) := by decide +kernel
theorem dX8_areIn_8 : decode cX8_areIn 8 = .ok (.ifCond .eq 72, 3) := by decide +kernel
theorem dX8_areIn_11 : decode cX8_areIn 11 = .ok (.aload_n 0, 1) := by decide +kernel
theorem dX8_areIn_12 : decode cX8_areIn 12 = .ok (.getfield 7, 3) := by decide +kernel
theorem dX8_areIn_15 : decode cX8_areIn 15 = .ok (.iload_n 1, 1) := by decide +kernel
theorem dX8_areIn_16 : decode cX8_areIn 16 = .ok (.iaload, 1) := by decide +kernel
theorem dX8_areIn_17 : decode cX8_areIn 17 = .ok (.iconst 2, 1) := by decide +kernel
theorem dX8_areIn_18 : decode cX8_areIn 18 = .ok (.if_icmp .lt 14, 3) := by decide +kernel
theorem dX8_areIn_21 : decode cX8_areIn 21 = .ok (.iload_n 3, 1) := by decide +kernel
theorem dX8_areIn_22 : decode cX8_areIn 22 = .ok (.bipush (-30), 2) := by decide +kernel
theorem dX8_areIn_24 : decode cX8_areIn 24 = .ok (.bipush 30, 2) := by decide +kernel
theorem dX8_areIn_26 : decode cX8_areIn 26 = .ok (.invokestatic 115, 3) := by decide +kernel
theorem dX8_areIn_29 : decode cX8_areIn 29 = .ok (.ifCond .eq 51, 3) := by decide +kernel
theorem dX8_areIn_32 : decode cX8_areIn 32 = .ok (.aload_n 0, 1) := by decide +kernel
theorem dX8_areIn_33 : decode cX8_areIn 33 = .ok (.getfield 7, 3) := by decide +kernel
theorem dX8_areIn_36 : decode cX8_areIn 36 = .ok (.iload_n 1, 1) := by decide +kernel
theorem dX8_areIn_37 : decode cX8_areIn 37 = .ok (.iaload, 1) := by decide +kernel
theorem dX8_areIn_38 : decode cX8_areIn 38 = .ok (.iconst 3, 1) := by decide +kernel
theorem dX8_areIn_39 : decode cX8_areIn 39 = .ok (.if_icmp .lt 15, 3) := by decide +kernel
theorem dX8_areIn_42 : decode cX8_areIn 42 = .ok (.iload 4, 2) := by decide +kernel
theorem dX8_areIn_44 : decode cX8_areIn 44 = .ok (.bipush (-30), 2) := by decide +kernel
theorem dX8_areIn_46 : decode cX8_areIn 46 = .ok (.bipush 30, 2) := by decide +kernel
theorem dX8_areIn_48 : decode cX8_areIn 48 = .ok (.invokestatic 115, 3) := by decide +kernel
theorem dX8_areIn_51 : decode cX8_areIn 51 = .ok (.ifCond .eq 29, 3) := by decide +kernel
theorem dX8_areIn_54 : decode cX8_areIn 54 = .ok (.aload_n 0, 1) := by decide +kernel
theorem dX8_areIn_55 : decode cX8_areIn 55 = .ok (.getfield 7, 3) := by decide +kernel
theorem dX8_areIn_58 : decode cX8_areIn 58 = .ok (.iload_n 1, 1) := by decide +kernel
theorem dX8_areIn_59 : decode cX8_areIn 59 = .ok (.iaload, 1) := by decide +kernel
theorem dX8_areIn_60 : decode cX8_areIn 60 = .ok (.iconst 4, 1) := by decide +kernel
theorem dX8_areIn_61 : decode cX8_areIn 61 = .ok (.if_icmp .lt 15, 3) := by decide +kernel
theorem dX8_areIn_64 : decode cX8_areIn 64 = .ok (.iload 5, 2) := by decide +kernel
theorem dX8_areIn_66 : decode cX8_areIn 66 = .ok (.bipush (-30), 2) := by decide +kernel
theorem dX8_areIn_68 : decode cX8_areIn 68 = .ok (.bipush 30, 2) := by decide +kernel
theorem dX8_areIn_70 : decode cX8_areIn 70 = .ok (.invokestatic 115, 3) := by decide +kernel
theorem dX8_areIn_73 : decode cX8_areIn 73 = .ok (.ifCond .eq 7, 3) := by decide +kernel
theorem dX8_areIn_76 : decode cX8_areIn 76 = .ok (.iconst 1, 1) := by decide +kernel
theorem dX8_areIn_77 : decode cX8_areIn 77 = .ok (.goto 4, 3) := by decide +kernel
theorem dX8_areIn_80 : decode cX8_areIn 80 = .ok (.iconst 0, 1) := by decide +kernel
theorem dX8_areIn_81 : decode cX8_areIn 81 = .ok (.ireturn, 1) := by decide +kernel
theorem dX8_read_0 : decode cX8_read 0 = .ok (.aload_n 0, 1) := by decide +kernel
theorem dX8_read_1 : decode cX8_read 1 = .ok (.iload_n 1, 1) := by decide +kernel
theorem dX8_read_2 : decode cX8_read 2 = .ok (.invokevirtual 119, 3) := by decide +kernel
theorem dX8_read_5 : decode cX8_read 5 = .ok (.ifCond .eq 5, 3) := by decide +kernel
theorem dX8_read_8 : decode cX8_read 8 = .ok (.iconst (-1), 1) := by decide +kernel
theorem dX8_read_9 : decode cX8_read 9 = .ok (.ireturn, 1) := by decide +kernel
theorem dX8_read_10 : decode cX8_read 10 = .ok (.aload_n 0, 1) := by decide +kernel
theorem dX8_read_11 : decode cX8_read 11 = .ok (.iload_n 1, 1) := by decide +kernel
theorem dX8_read_12 : decode cX8_read 12 = .ok (.iload_n 2, 1) := by decide +kernel
theorem dX8_read_13 : decode cX8_read 13 = .ok (.iload_n 3, 1) := by decide +kernel
theorem dX8_read_14 : decode cX8_read 14 = .ok (.iload 4, 2) := by decide +kernel
theorem dX8_read_16 : decode cX8_read 16 = .ok (.iload 5, 2) := by decide +kernel
theorem dX8_read_18 : decode cX8_read 18 = .ok (.invokevirtual 200, 3) := by decide +kernel
theorem dX8_read_21 : decode cX8_read 21 = .ok (.ifCond .ne 6, 3) := by decide +kernel
theorem dX8_read_24 : decode cX8_read 24 = .ok (.bipush (-2), 2) := by decide +kernel
theorem dX8_read_26 : decode cX8_read 26 = .ok (.ireturn, 1) := by decide +kernel
theorem dX8_read_27 : decode cX8_read 27 = .ok (.aload_n 0, 1) := by decide +kernel
theorem dX8_read_28 : decode cX8_read 28 = .ok (.getfield 13, 3) := by decide +kernel
theorem dX8_read_31 : decode cX8_read 31 = .ok (.iload_n 1, 1) := by decide +kernel
theorem dX8_read_32 : decode cX8_read 32 = .ok (.iaload, 1) := by decide +kernel
theorem dX8_read_33 : decode cX8_read 33 = .ok (.bipush 40, 2) := by decide +kernel
theorem dX8_read_35 : decode cX8_read 35 = .ok (.if_icmp .ne 8, 3) := by decide +kernel
theorem dX8_read_38 : decode cX8_read 38 = .ok (.bipush (-4), 2) := by decide +kernel
theorem dX8_read_40 : decode cX8_read 40 = .ok (.goto 14, 3) := by decide +kernel
theorem dX8_read_43 : decode cX8_read 43 = .ok (.aload_n 0, 1) := by decide +kernel
theorem dX8_read_44 : decode cX8_read 44 = .ok (.iload_n 1, 1) := by decide +kernel
theorem dX8_read_45 : decode cX8_read 45 = .ok (.iload_n 2, 1) := by decide +kernel
theorem dX8_read_46 : decode cX8_read 46 = .ok (.iload_n 3, 1) := by decide +kernel
theorem dX8_read_47 : decode cX8_read 47 = .ok (.iload 4, 2) := by decide +kernel
theorem dX8_read_49 : decode cX8_read 49 = .ok (.iload 5, 2) := by decide +kernel
theorem dX8_read_51 : decode cX8_read 51 = .ok (.invokevirtual 203, 3) := by decide +kernel
theorem dX8_read_54 : decode cX8_read 54 = .ok (.ireturn, 1) := by decide +kernel
theorem dX8_died_0 : decode cX8_died 0 = .ok (.iload_n 1, 1) := by decide +kernel
theorem dX8_died_1 : decode cX8_died 1 = .ok (.iconst 0, 1) := by decide +kernel
theorem dX8_died_2 : decode cX8_died 2 = .ok (.aload_n 0, 1) := by decide +kernel
theorem dX8_died_3 : decode cX8_died 3 = .ok (.getfield 197, 3) := by decide +kernel
theorem dX8_died_6 : decode cX8_died 6 = .ok (.iconst 1, 1) := by decide +kernel
theorem dX8_died_7 : decode cX8_died 7 = .ok (.isub, 1) := by decide +kernel
theorem dX8_died_8 : decode cX8_died 8 = .ok (.invokestatic 115, 3) := by decide +kernel
theorem dX8_died_11 : decode cX8_died 11 = .ok (.ifCond .eq 12, 3) := by decide +kernel
theorem dX8_died_14 : decode cX8_died 14 = .ok (.aload_n 0, 1) := by decide +kernel
theorem dX8_died_15 : decode cX8_died 15 = .ok (.getfield 41, 3) := by decide +kernel
theorem dX8_died_18 : decode cX8_died 18 = .ok (.iload_n 1, 1) := by decide +kernel
theorem dX8_died_19 : decode cX8_died 19 = .ok (.iaload, 1) := by decide +kernel
theorem dX8_died_20 : decode cX8_died 20 = .ok (.goto 4, 3) := by decide +kernel
theorem dX8_died_23 : decode cX8_died 23 = .ok (.iconst (-1), 1) := by decide +kernel
theorem dX8_died_24 : decode cX8_died 24 = .ok (.ireturn, 1) := by decide +kernel
theorem dX8_bring_0 : decode cX8_bring 0 = .ok (.aload_n 0, 1) := by decide +kernel
theorem dX8_bring_1 : decode cX8_bring 1 = .ok (.iconst 0, 1) := by decide +kernel
theorem dX8_bring_2 : decode cX8_bring 2 = .ok (.putfield 207, 3) := by decide +kernel
theorem dX8_bring_5 : decode cX8_bring 5 = .ok (.aload_n 0, 1) := by decide +kernel
theorem dX8_bring_6 : decode cX8_bring 6 = .ok (.lconst 1, 1) := by decide +kernel
theorem dX8_bring_7 : decode cX8_bring 7 = .ok (.putfield 210, 3) := by decide +kernel
theorem dX8_bring_10 : decode cX8_bring 10 = .ok (.iconst 0, 1) := by decide +kernel
theorem dX8_bring_11 : decode cX8_bring 11 = .ok (.istore_n 1, 1) := by decide +kernel
theorem dX8_bring_12 : decode cX8_bring 12 = .ok (.iload_n 1, 1) := by decide +kernel
theorem dX8_bring_13 : decode cX8_bring 13 = .ok (.aload_n 0, 1) := by decide +kernel
theorem dX8_bring_14 : decode cX8_bring 14 = .ok (.getfield 214, 3) := by decide +kernel
theorem dX8_bring_17 : decode cX8_bring 17 = .ok (.if_icmp .ge 220, 3) := by decide +kernel
theorem dX8_bring_20 : decode cX8_bring 20 = .ok (.aload_n 0, 1) := by decide +kernel
theorem dX8_bring_21 : decode cX8_bring 21 = .ok (.getfield 51, 3) := by decide +kernel
theorem dX8_bring_24 : decode cX8_bring 24 = .ok (.iload_n 1, 1) := by decide +kernel
theorem dX8_bring_25 : decode cX8_bring 25 = .ok (.iconst 1, 1) := by decide +kernel
theorem dX8_bring_26 : decode cX8_bring 26 = .ok (.bastore, 1) := by decide +kernel
theorem dX8_bring_27 : decode cX8_bring 27 = .ok (.aload_n 0, 1) := by decide +kernel
theorem dX8_bring_28 : decode cX8_bring 28 = .ok (.getfield 207, 3) := by decide +kernel
theorem dX8_bring_31 : decode cX8_bring 31 = .ok (.istore_n 2, 1) := by decide +kernel
theorem dX8_bring_32 : decode cX8_bring 32 = .ok (.iload_n 2, 1) := by decide +kernel
theorem dX8_bring_33 : decode cX8_bring 33 = .ok (.aload_n 0, 1) := by decide +kernel
theorem dX8_bring_34 : decode cX8_bring 34 = .ok (.getfield 217, 3) := by decide +kernel
theorem dX8_bring_37 : decode cX8_bring 37 = .ok (.if_icmp .ge 24, 3) := by decide +kernel
theorem dX8_bring_40 : decode cX8_bring 40 = .ok (.aload_n 0, 1) := by decide +kernel
theorem dX8_bring_41 : decode cX8_bring 41 = .ok (.getfield 44, 3) := by decide +kernel
theorem dX8_bring_44 : decode cX8_bring 44 = .ok (.iconst 5, 1) := by decide +kernel
theorem dX8_bring_45 : decode cX8_bring 45 = .ok (.iload_n 2, 1) := by decide +kernel
theorem dX8_bring_46 : decode cX8_bring 46 = .ok (.imul, 1) := by decide +kernel
theorem dX8_bring_47 : decode cX8_bring 47 = .ok (.iload_n 1, 1) := by decide +kernel
theorem dX8_bring_48 : decode cX8_bring 48 = .ok (.iadd, 1) := by decide +kernel
theorem dX8_bring_49 : decode cX8_bring 49 = .ok (.laload, 1) := by decide +kernel
theorem dX8_bring_50 : decode cX8_bring 50 = .ok (.lconst 0, 1) := by decide +kernel
theorem dX8_bring_51 : decode cX8_bring 51 = .ok (.lcmp, 1) := by decide +kernel
theorem dX8_bring_52 : decode cX8_bring 52 = .ok (.ifCond .ne 9, 3) := by decide +kernel
theorem dX8_bring_55 : decode cX8_bring 55 = .ok (.iinc 2 1, 3) := by decide +kernel
theorem dX8_bring_58 : decode cX8_bring 58 = .ok (.goto (-26), 3) := by decide +kernel
theorem dX8_bring_61 : decode cX8_bring 61 = .ok (.iload_n 2, 1) := by decide +kernel
theorem dX8_bring_62 : decode cX8_bring 62 = .ok (.aload_n 0, 1) := by decide +kernel
theorem dX8_bring_63 : decode cX8_bring 63 = .ok (.getfield 217, 3) := by decide +kernel
theorem dX8_bring_66 : decode cX8_bring 66 = .ok (.if_icmp .ge 165, 3) := by decide +kernel
theorem dX8_bring_69 : decode cX8_bring 69 = .ok (.aload_n 0, 1) := by decide +kernel
theorem dX8_bring_70 : decode cX8_bring 70 = .ok (.getfield 51, 3) := by decide +kernel
theorem dX8_bring_73 : decode cX8_bring 73 = .ok (.iload_n 1, 1) := by decide +kernel
theorem dX8_bring_74 : decode cX8_bring 74 = .ok (.iconst 0, 1) := by decide +kernel
theorem dX8_bring_75 : decode cX8_bring 75 = .ok (.bastore, 1) := by decide +kernel
theorem dX8_bring_76 : decode cX8_bring 76 = .ok (.aload_n 0, 1) := by decide +kernel
theorem dX8_bring_77 : decode cX8_bring 77 = .ok (.iload_n 2, 1) := by decide +kernel
theorem dX8_bring_78 : decode cX8_bring 78 = .ok (.aload_n 0, 1) := by decide +kernel
theorem dX8_bring_79 : decode cX8_bring 79 = .ok (.getfield 207, 3) := by decide +kernel
theorem dX8_bring_82 : decode cX8_bring 82 = .ok (.invokevirtual 220, 3) := by decide +kernel
theorem dX8_bring_85 : decode cX8_bring 85 = .ok (.aload_n 0, 1) := by decide +kernel
theorem dX8_bring_86 : decode cX8_bring 86 = .ok (.getfield 44, 3) := by decide +kernel
theorem dX8_bring_89 : decode cX8_bring 89 = .ok (.iconst 5, 1) := by decide +kernel
theorem dX8_bring_90 : decode cX8_bring 90 = .ok (.aload_n 0, 1) := by decide +kernel
theorem dX8_bring_91 : decode cX8_bring 91 = .ok (.getfield 207, 3) := by decide +kernel
theorem dX8_bring_94 : decode cX8_bring 94 = .ok (.imul, 1) := by decide +kernel
theorem dX8_bring_95 : decode cX8_bring 95 = .ok (.iload_n 1, 1) := by decide +kernel
theorem dX8_bring_96 : decode cX8_bring 96 = .ok (.iadd, 1) := by decide +kernel
theorem dX8_bring_97 : decode cX8_bring 97 = .ok (.laload, 1) := by decide +kernel
theorem dX8_bring_98 : decode cX8_bring 98 = .ok (.lstore_n 3, 1) := by decide +kernel
theorem dX8_bring_99 : decode cX8_bring 99 = .ok (.iconst 0, 1) := by decide +kernel
theorem dX8_bring_100 : decode cX8_bring 100 = .ok (.istore 5, 2) := by decide +kernel
theorem dX8_bring_102 : decode cX8_bring 102 = .ok (.iload 5, 2) := by decide +kernel
theorem dX8_bring_104 : decode cX8_bring 104 = .ok (.aload_n 0, 1) := by decide +kernel
theorem dX8_bring_105 : decode cX8_bring 105 = .ok (.getfield 217, 3) := by decide +kernel
theorem dX8_bring_108 : decode cX8_bring 108 = .ok (.if_icmp .ge 98, 3) := by decide +kernel
theorem dX8_bring_111 : decode cX8_bring 111 = .ok (.iload 5, 2) := by decide +kernel
theorem dX8_bring_113 : decode cX8_bring 113 = .ok (.aload_n 0, 1) := by decide +kernel
theorem dX8_bring_114 : decode cX8_bring 114 = .ok (.getfield 207, 3) := by decide +kernel
theorem dX8_bring_117 : decode cX8_bring 117 = .ok (.if_icmp .eq 83, 3) := by decide +kernel
theorem dX8_bring_120 : decode cX8_bring 120 = .ok (.aload_n 0, 1) := by decide +kernel
theorem dX8_bring_121 : decode cX8_bring 121 = .ok (.getfield 44, 3) := by decide +kernel
theorem dX8_bring_124 : decode cX8_bring 124 = .ok (.iconst 5, 1) := by decide +kernel
theorem dX8_bring_125 : decode cX8_bring 125 = .ok (.iload 5, 2) := by decide +kernel
theorem dX8_bring_127 : decode cX8_bring 127 = .ok (.imul, 1) := by decide +kernel
theorem dX8_bring_128 : decode cX8_bring 128 = .ok (.iload_n 1, 1) := by decide +kernel
theorem dX8_bring_129 : decode cX8_bring 129 = .ok (.iadd, 1) := by decide +kernel
theorem dX8_bring_130 : decode cX8_bring 130 = .ok (.laload, 1) := by decide +kernel
theorem dX8_bring_131 : decode cX8_bring 131 = .ok (.lstore 6, 2) := by decide +kernel
theorem dX8_bring_133 : decode cX8_bring 133 = .ok (.iconst 0, 1) := by decide +kernel
theorem dX8_bring_134 : decode cX8_bring 134 = .ok (.istore 8, 2) := by decide +kernel
theorem dX8_bring_136 : decode cX8_bring 136 = .ok (.iload 8, 2) := by decide +kernel
theorem dX8_bring_138 : decode cX8_bring 138 = .ok (.aload_n 0, 1) := by decide +kernel
theorem dX8_bring_139 : decode cX8_bring 139 = .ok (.getfield 214, 3) := by decide +kernel
theorem dX8_bring_142 : decode cX8_bring 142 = .ok (.if_icmp .ge 58, 3) := by decide +kernel
theorem dX8_bring_145 : decode cX8_bring 145 = .ok (.aload_n 0, 1) := by decide +kernel
theorem dX8_bring_146 : decode cX8_bring 146 = .ok (.getfield 44, 3) := by decide +kernel
theorem dX8_bring_149 : decode cX8_bring 149 = .ok (.iconst 5, 1) := by decide +kernel
theorem dX8_bring_150 : decode cX8_bring 150 = .ok (.iload 5, 2) := by decide +kernel
theorem dX8_bring_152 : decode cX8_bring 152 = .ok (.imul, 1) := by decide +kernel
theorem dX8_bring_153 : decode cX8_bring 153 = .ok (.iload 8, 2) := by decide +kernel
theorem dX8_bring_155 : decode cX8_bring 155 = .ok (.iadd, 1) := by decide +kernel
theorem dX8_bring_156 : decode cX8_bring 156 = .ok (.lload_n 3, 1) := by decide +kernel
theorem dX8_bring_157 : decode cX8_bring 157 = .ok (.aload_n 0, 1) := by decide +kernel
theorem dX8_bring_158 : decode cX8_bring 158 = .ok (.getfield 44, 3) := by decide +kernel
theorem dX8_bring_161 : decode cX8_bring 161 = .ok (.iconst 5, 1) := by decide +kernel
theorem dX8_bring_162 : decode cX8_bring 162 = .ok (.iload 5, 2) := by decide +kernel
theorem dX8_bring_164 : decode cX8_bring 164 = .ok (.imul, 1) := by decide +kernel
theorem dX8_bring_165 : decode cX8_bring 165 = .ok (.iload 8, 2) := by decide +kernel
theorem dX8_bring_167 : decode cX8_bring 167 = .ok (.iadd, 1) := by decide +kernel
theorem dX8_bring_168 : decode cX8_bring 168 = .ok (.laload, 1) := by decide +kernel
theorem dX8_bring_169 : decode cX8_bring 169 = .ok (.lmul, 1) := by decide +kernel
theorem dX8_bring_170 : decode cX8_bring 170 = .ok (.lload 6, 2) := by decide +kernel
theorem dX8_bring_172 : decode cX8_bring 172 = .ok (.aload_n 0, 1) := by decide +kernel
theorem dX8_bring_173 : decode cX8_bring 173 = .ok (.getfield 44, 3) := by decide +kernel
theorem dX8_bring_176 : decode cX8_bring 176 = .ok (.iconst 5, 1) := by decide +kernel
theorem dX8_bring_177 : decode cX8_bring 177 = .ok (.aload_n 0, 1) := by decide +kernel
theorem dX8_bring_178 : decode cX8_bring 178 = .ok (.getfield 207, 3) := by decide +kernel
theorem dX8_bring_181 : decode cX8_bring 181 = .ok (.imul, 1) := by decide +kernel
theorem dX8_bring_182 : decode cX8_bring 182 = .ok (.iload 8, 2) := by decide +kernel
theorem dX8_bring_184 : decode cX8_bring 184 = .ok (.iadd, 1) := by decide +kernel
theorem dX8_bring_185 : decode cX8_bring 185 = .ok (.laload, 1) := by decide +kernel
theorem dX8_bring_186 : decode cX8_bring 186 = .ok (.lmul, 1) := by decide +kernel
theorem dX8_bring_187 : decode cX8_bring 187 = .ok (.lsub, 1) := by decide +kernel
theorem dX8_bring_188 : decode cX8_bring 188 = .ok (.aload_n 0, 1) := by decide +kernel
theorem dX8_bring_189 : decode cX8_bring 189 = .ok (.getfield 210, 3) := by decide +kernel
theorem dX8_bring_192 : decode cX8_bring 192 = .ok (.ldiv, 1) := by decide +kernel
theorem dX8_bring_193 : decode cX8_bring 193 = .ok (.lastore, 1) := by decide +kernel
theorem dX8_bring_194 : decode cX8_bring 194 = .ok (.iinc 8 1, 3) := by decide +kernel
theorem dX8_bring_197 : decode cX8_bring 197 = .ok (.goto (-61), 3) := by decide +kernel
theorem dX8_bring_200 : decode cX8_bring 200 = .ok (.iinc 5 1, 3) := by decide +kernel
theorem dX8_bring_203 : decode cX8_bring 203 = .ok (.goto (-101), 3) := by decide +kernel
theorem dX8_bring_206 : decode cX8_bring 206 = .ok (.aload_n 0, 1) := by decide +kernel
theorem dX8_bring_207 : decode cX8_bring 207 = .ok (.lload_n 3, 1) := by decide +kernel
theorem dX8_bring_208 : decode cX8_bring 208 = .ok (.putfield 210, 3) := by decide +kernel
theorem dX8_bring_211 : decode cX8_bring 211 = .ok (.aload_n 0, 1) := by decide +kernel
theorem dX8_bring_212 : decode cX8_bring 212 = .ok (.getfield 48, 3) := by decide +kernel
theorem dX8_bring_215 : decode cX8_bring 215 = .ok (.aload_n 0, 1) := by decide +kernel
theorem dX8_bring_216 : decode cX8_bring 216 = .ok (.getfield 207, 3) := by decide +kernel
theorem dX8_bring_219 : decode cX8_bring 219 = .ok (.iload_n 1, 1) := by decide +kernel
theorem dX8_bring_220 : decode cX8_bring 220 = .ok (.iastore, 1) := by decide +kernel
theorem dX8_bring_221 : decode cX8_bring 221 = .ok (.aload_n 0, 1) := by decide +kernel
theorem dX8_bring_222 : decode cX8_bring 222 = .ok (.dup, 1) := by decide +kernel
theorem dX8_bring_223 : decode cX8_bring 223 = .ok (.getfield 207, 3) := by decide +kernel
theorem dX8_bring_226 : decode cX8_bring 226 = .ok (.iconst 1, 1) := by decide +kernel
theorem dX8_bring_227 : decode cX8_bring 227 = .ok (.iadd, 1) := by decide +kernel
theorem dX8_bring_228 : decode cX8_bring 228 = .ok (.putfield 207, 3) := by decide +kernel
theorem dX8_bring_231 : decode cX8_bring 231 = .ok (.iinc 1 1, 3) := by decide +kernel
theorem dX8_bring_234 : decode cX8_bring 234 = .ok (.goto (-222), 3) := by decide +kernel
theorem dX8_bring_237 : decode cX8_bring 237 = .ok (.return_, 1) := by decide +kernel
theorem dX8_exchange_0 : decode cX8_exchange 0 = .ok (.iconst 0, 1) := by decide +kernel
theorem dX8_exchange_1 : decode cX8_exchange 1 = .ok (.istore_n 3, 1) := by decide +kernel
theorem dX8_exchange_2 : decode cX8_exchange 2 = .ok (.iload_n 3, 1) := by decide +kernel
theorem dX8_exchange_3 : decode cX8_exchange 3 = .ok (.aload_n 0, 1) := by decide +kernel
theorem dX8_exchange_4 : decode cX8_exchange 4 = .ok (.getfield 214, 3) := by decide +kernel
theorem dX8_exchange_7 : decode cX8_exchange 7 = .ok (.if_icmp .ge 53, 3) := by decide +kernel
theorem dX8_exchange_10 : decode cX8_exchange 10 = .ok (.aload_n 0, 1) := by decide +kernel
theorem dX8_exchange_11 : decode cX8_exchange 11 = .ok (.getfield 44, 3) := by decide +kernel
theorem dX8_exchange_14 : decode cX8_exchange 14 = .ok (.iconst 5, 1) := by decide +kernel
theorem dX8_exchange_15 : decode cX8_exchange 15 = .ok (.iload_n 1, 1) := by decide +kernel
theorem dX8_exchange_16 : decode cX8_exchange 16 = .ok (.imul, 1) := by decide +kernel
theorem dX8_exchange_17 : decode cX8_exchange 17 = .ok (.iload_n 3, 1) := by decide +kernel
theorem dX8_exchange_18 : decode cX8_exchange 18 = .ok (.iadd, 1) := by decide +kernel
theorem dX8_exchange_19 : decode cX8_exchange 19 = .ok (.laload, 1) := by decide +kernel
theorem dX8_exchange_20 : decode cX8_exchange 20 = .ok (.lstore 4, 2) := by decide +kernel
theorem dX8_exchange_22 : decode cX8_exchange 22 = .ok (.aload_n 0, 1) := by decide +kernel
theorem dX8_exchange_23 : decode cX8_exchange 23 = .ok (.getfield 44, 3) := by decide +kernel
theorem dX8_exchange_26 : decode cX8_exchange 26 = .ok (.iconst 5, 1) := by decide +kernel
theorem dX8_exchange_27 : decode cX8_exchange 27 = .ok (.iload_n 1, 1) := by decide +kernel
theorem dX8_exchange_28 : decode cX8_exchange 28 = .ok (.imul, 1) := by decide +kernel
theorem dX8_exchange_29 : decode cX8_exchange 29 = .ok (.iload_n 3, 1) := by decide +kernel
theorem dX8_exchange_30 : decode cX8_exchange 30 = .ok (.iadd, 1) := by decide +kernel
theorem dX8_exchange_31 : decode cX8_exchange 31 = .ok (.aload_n 0, 1) := by decide +kernel
theorem dX8_exchange_32 : decode cX8_exchange 32 = .ok (.getfield 44, 3) := by decide +kernel
theorem dX8_exchange_35 : decode cX8_exchange 35 = .ok (.iconst 5, 1) := by decide +kernel
theorem dX8_exchange_36 : decode cX8_exchange 36 = .ok (.iload_n 2, 1) := by decide +kernel
theorem dX8_exchange_37 : decode cX8_exchange 37 = .ok (.imul, 1) := by decide +kernel
theorem dX8_exchange_38 : decode cX8_exchange 38 = .ok (.iload_n 3, 1) := by decide +kernel
theorem dX8_exchange_39 : decode cX8_exchange 39 = .ok (.iadd, 1) := by decide +kernel
theorem dX8_exchange_40 : decode cX8_exchange 40 = .ok (.laload, 1) := by decide +kernel
theorem dX8_exchange_41 : decode cX8_exchange 41 = .ok (.lastore, 1) := by decide +kernel
theorem dX8_exchange_42 : decode cX8_exchange 42 = .ok (.aload_n 0, 1) := by decide +kernel
theorem dX8_exchange_43 : decode cX8_exchange 43 = .ok (.getfield 44, 3) := by decide +kernel
theorem dX8_exchange_46 : decode cX8_exchange 46 = .ok (.iconst 5, 1) := by decide +kernel
theorem dX8_exchange_47 : decode cX8_exchange 47 = .ok (.iload_n 2, 1) := by decide +kernel
theorem dX8_exchange_48 : decode cX8_exchange 48 = .ok (.imul, 1) := by decide +kernel
theorem dX8_exchange_49 : decode cX8_exchange 49 = .ok (.iload_n 3, 1) := by decide +kernel
theorem dX8_exchange_50 : decode cX8_exchange 50 = .ok (.iadd, 1) := by decide +kernel
theorem dX8_exchange_51 : decode cX8_exchange 51 = .ok (.lload 4, 2) := by decide +kernel
theorem dX8_exchange_53 : decode cX8_exchange 53 = .ok (.lastore, 1) := by decide +kernel
theorem dX8_exchange_54 : decode cX8_exchange 54 = .ok (.iinc 3 1, 3) := by decide +kernel
theorem dX8_exchange_57 : decode cX8_exchange 57 = .ok (.goto (-55), 3) := by decide +kernel
theorem dX8_exchange_60 : decode cX8_exchange 60 = .ok (.return_, 1) := by decide +kernel
theorem dX8_layTable_0 : decode cX8_layTable 0 = .ok (.aload_n 0, 1) := by decide +kernel
theorem dX8_layTable_1 : decode cX8_layTable 1 = .ok (.iconst 0, 1) := by decide +kernel
theorem dX8_layTable_2 : decode cX8_layTable 2 = .ok (.putfield 217, 3) := by decide +kernel
theorem dX8_layTable_5 : decode cX8_layTable 5 = .ok (.aload_n 0, 1) := by decide +kernel
theorem dX8_layTable_6 : decode cX8_layTable 6 = .ok (.aload_n 0, 1) := by decide +kernel
theorem dX8_layTable_7 : decode cX8_layTable 7 = .ok (.getfield 7, 3) := by decide +kernel
theorem dX8_layTable_10 : decode cX8_layTable 10 = .ok (.iload_n 1, 1) := by decide +kernel
theorem dX8_layTable_11 : decode cX8_layTable 11 = .ok (.iaload, 1) := by decide +kernel
theorem dX8_layTable_12 : decode cX8_layTable 12 = .ok (.iconst 1, 1) := by decide +kernel
theorem dX8_layTable_13 : decode cX8_layTable 13 = .ok (.iadd, 1) := by decide +kernel
theorem dX8_layTable_14 : decode cX8_layTable 14 = .ok (.putfield 214, 3) := by decide +kernel
theorem dX8_layTable_17 : decode cX8_layTable 17 = .ok (.iconst 0, 1) := by decide +kernel
theorem dX8_layTable_18 : decode cX8_layTable 18 = .ok (.istore_n 3, 1) := by decide +kernel
theorem dX8_layTable_19 : decode cX8_layTable 19 = .ok (.iload_n 3, 1) := by decide +kernel
theorem dX8_layTable_20 : decode cX8_layTable 20 = .ok (.aload_n 0, 1) := by decide +kernel
theorem dX8_layTable_21 : decode cX8_layTable 21 = .ok (.getfield 13, 3) := by decide +kernel
theorem dX8_layTable_24 : decode cX8_layTable 24 = .ok (.iload_n 1, 1) := by decide +kernel
theorem dX8_layTable_25 : decode cX8_layTable 25 = .ok (.iaload, 1) := by decide +kernel
theorem dX8_layTable_26 : decode cX8_layTable 26 = .ok (.if_icmp .ge 91, 3) := by decide +kernel
theorem dX8_layTable_29 : decode cX8_layTable 29 = .ok (.aload_n 0, 1) := by decide +kernel
theorem dX8_layTable_30 : decode cX8_layTable 30 = .ok (.iload_n 1, 1) := by decide +kernel
theorem dX8_layTable_31 : decode cX8_layTable 31 = .ok (.iload_n 2, 1) := by decide +kernel
theorem dX8_layTable_32 : decode cX8_layTable 32 = .ok (.iload_n 3, 1) := by decide +kernel
theorem dX8_layTable_33 : decode cX8_layTable 33 = .ok (.invokevirtual 127, 3) := by decide +kernel
theorem dX8_layTable_36 : decode cX8_layTable 36 = .ok (.ifCond .eq 75, 3) := by decide +kernel
theorem dX8_layTable_39 : decode cX8_layTable 39 = .ok (.iconst 0, 1) := by decide +kernel
theorem dX8_layTable_40 : decode cX8_layTable 40 = .ok (.istore 4, 2) := by decide +kernel
theorem dX8_layTable_42 : decode cX8_layTable 42 = .ok (.iload 4, 2) := by decide +kernel
theorem dX8_layTable_44 : decode cX8_layTable 44 = .ok (.aload_n 0, 1) := by decide +kernel
theorem dX8_layTable_45 : decode cX8_layTable 45 = .ok (.getfield 7, 3) := by decide +kernel
theorem dX8_layTable_48 : decode cX8_layTable 48 = .ok (.iload_n 1, 1) := by decide +kernel
theorem dX8_layTable_49 : decode cX8_layTable 49 = .ok (.iaload, 1) := by decide +kernel
theorem dX8_layTable_50 : decode cX8_layTable 50 = .ok (.if_icmp .ge 32, 3) := by decide +kernel
theorem dX8_layTable_53 : decode cX8_layTable 53 = .ok (.aload_n 0, 1) := by decide +kernel
theorem dX8_layTable_54 : decode cX8_layTable 54 = .ok (.getfield 44, 3) := by decide +kernel
theorem dX8_layTable_57 : decode cX8_layTable 57 = .ok (.iconst 5, 1) := by decide +kernel
theorem dX8_layTable_58 : decode cX8_layTable 58 = .ok (.aload_n 0, 1) := by decide +kernel
theorem dX8_layTable_59 : decode cX8_layTable 59 = .ok (.getfield 217, 3) := by decide +kernel
theorem dX8_layTable_62 : decode cX8_layTable 62 = .ok (.imul, 1) := by decide +kernel
theorem dX8_layTable_63 : decode cX8_layTable 63 = .ok (.iload 4, 2) := by decide +kernel
theorem dX8_layTable_65 : decode cX8_layTable 65 = .ok (.iadd, 1) := by decide +kernel
theorem dX8_layTable_66 : decode cX8_layTable 66 = .ok (.aload_n 0, 1) := by decide +kernel
theorem dX8_layTable_67 : decode cX8_layTable 67 = .ok (.iload_n 1, 1) := by decide +kernel
theorem dX8_layTable_68 : decode cX8_layTable 68 = .ok (.iload_n 3, 1) := by decide +kernel
theorem dX8_layTable_69 : decode cX8_layTable 69 = .ok (.iload 4, 2) := by decide +kernel
theorem dX8_layTable_71 : decode cX8_layTable 71 = .ok (.invokevirtual 123, 3) := by decide +kernel
theorem dX8_layTable_74 : decode cX8_layTable 74 = .ok (.i2l, 1) := by decide +kernel
theorem dX8_layTable_75 : decode cX8_layTable 75 = .ok (.lastore, 1) := by decide +kernel
theorem dX8_layTable_76 : decode cX8_layTable 76 = .ok (.iinc 4 1, 3) := by decide +kernel
theorem dX8_layTable_79 : decode cX8_layTable 79 = .ok (.goto (-37), 3) := by decide +kernel
theorem dX8_layTable_82 : decode cX8_layTable 82 = .ok (.aload_n 0, 1) := by decide +kernel
theorem dX8_layTable_83 : decode cX8_layTable 83 = .ok (.getfield 44, 3) := by decide +kernel
theorem dX8_layTable_86 : decode cX8_layTable 86 = .ok (.iconst 5, 1) := by decide +kernel
theorem dX8_layTable_87 : decode cX8_layTable 87 = .ok (.aload_n 0, 1) := by decide +kernel
theorem dX8_layTable_88 : decode cX8_layTable 88 = .ok (.getfield 217, 3) := by decide +kernel
theorem dX8_layTable_91 : decode cX8_layTable 91 = .ok (.imul, 1) := by decide +kernel
theorem dX8_layTable_92 : decode cX8_layTable 92 = .ok (.aload_n 0, 1) := by decide +kernel
theorem dX8_layTable_93 : decode cX8_layTable 93 = .ok (.getfield 7, 3) := by decide +kernel
theorem dX8_layTable_96 : decode cX8_layTable 96 = .ok (.iload_n 1, 1) := by decide +kernel
theorem dX8_layTable_97 : decode cX8_layTable 97 = .ok (.iaload, 1) := by decide +kernel
theorem dX8_layTable_98 : decode cX8_layTable 98 = .ok (.iadd, 1) := by decide +kernel
theorem dX8_layTable_99 : decode cX8_layTable 99 = .ok (.lconst 1, 1) := by decide +kernel
theorem dX8_layTable_100 : decode cX8_layTable 100 = .ok (.lastore, 1) := by decide +kernel
theorem dX8_layTable_101 : decode cX8_layTable 101 = .ok (.aload_n 0, 1) := by decide +kernel
theorem dX8_layTable_102 : decode cX8_layTable 102 = .ok (.dup, 1) := by decide +kernel
theorem dX8_layTable_103 : decode cX8_layTable 103 = .ok (.getfield 217, 3) := by decide +kernel
theorem dX8_layTable_106 : decode cX8_layTable 106 = .ok (.iconst 1, 1) := by decide +kernel
theorem dX8_layTable_107 : decode cX8_layTable 107 = .ok (.iadd, 1) := by decide +kernel
theorem dX8_layTable_108 : decode cX8_layTable 108 = .ok (.putfield 217, 3) := by decide +kernel
theorem dX8_layTable_111 : decode cX8_layTable 111 = .ok (.iinc 3 1, 3) := by decide +kernel
theorem dX8_layTable_114 : decode cX8_layTable 114 = .ok (.goto (-95), 3) := by decide +kernel
theorem dX8_layTable_117 : decode cX8_layTable 117 = .ok (.aload_n 0, 1) := by decide +kernel
theorem dX8_layTable_118 : decode cX8_layTable 118 = .ok (.invokevirtual 224, 3) := by decide +kernel
theorem dX8_layTable_121 : decode cX8_layTable 121 = .ok (.return_, 1) := by decide +kernel
theorem dX8_findBasis_0 : decode cX8_findBasis 0 = .ok (.aload_n 0, 1) := by decide +kernel
theorem dX8_findBasis_1 : decode cX8_findBasis 1 = .ok (.iload_n 1, 1) := by decide +kernel
theorem dX8_findBasis_2 : decode cX8_findBasis 2 = .ok (.iload_n 2, 1) := by decide +kernel
theorem dX8_findBasis_3 : decode cX8_findBasis 3 = .ok (.invokevirtual 227, 3) := by decide +kernel
theorem dX8_findBasis_6 : decode cX8_findBasis 6 = .ok (.aload_n 0, 1) := by decide +kernel
theorem dX8_findBasis_7 : decode cX8_findBasis 7 = .ok (.iconst 0, 1) := by decide +kernel
theorem dX8_findBasis_8 : decode cX8_findBasis 8 = .ok (.putfield 230, 3) := by decide +kernel
theorem dX8_findBasis_11 : decode cX8_findBasis 11 = .ok (.iconst 0, 1) := by decide +kernel
theorem dX8_findBasis_12 : decode cX8_findBasis 12 = .ok (.istore_n 3, 1) := by decide +kernel
theorem dX8_findBasis_13 : decode cX8_findBasis 13 = .ok (.iload_n 3, 1) := by decide +kernel
theorem dX8_findBasis_14 : decode cX8_findBasis 14 = .ok (.aload_n 0, 1) := by decide +kernel
theorem dX8_findBasis_15 : decode cX8_findBasis 15 = .ok (.getfield 214, 3) := by decide +kernel
theorem dX8_findBasis_18 : decode cX8_findBasis 18 = .ok (.if_icmp .ge 143, 3) := by decide +kernel
theorem dX8_findBasis_21 : decode cX8_findBasis 21 = .ok (.aload_n 0, 1) := by decide +kernel
theorem dX8_findBasis_22 : decode cX8_findBasis 22 = .ok (.getfield 217, 3) := by decide +kernel
theorem dX8_findBasis_25 : decode cX8_findBasis 25 = .ok (.ifCond .le 136, 3) := by decide +kernel
theorem dX8_findBasis_28 : decode cX8_findBasis 28 = .ok (.aload_n 0, 1) := by decide +kernel
theorem dX8_findBasis_29 : decode cX8_findBasis 29 = .ok (.getfield 51, 3) := by decide +kernel
theorem dX8_findBasis_32 : decode cX8_findBasis 32 = .ok (.iload_n 3, 1) := by decide +kernel
theorem dX8_findBasis_33 : decode cX8_findBasis 33 = .ok (.baload, 1) := by decide +kernel
theorem dX8_findBasis_34 : decode cX8_findBasis 34 = .ok (.ifCond .eq 121, 3) := by decide +kernel
theorem dX8_findBasis_37 : decode cX8_findBasis 37 = .ok (.iconst 0, 1) := by decide +kernel
theorem dX8_findBasis_38 : decode cX8_findBasis 38 = .ok (.istore 4, 2) := by decide +kernel
theorem dX8_findBasis_40 : decode cX8_findBasis 40 = .ok (.iload 4, 2) := by decide +kernel
theorem dX8_findBasis_42 : decode cX8_findBasis 42 = .ok (.aload_n 0, 1) := by decide +kernel
theorem dX8_findBasis_43 : decode cX8_findBasis 43 = .ok (.getfield 214, 3) := by decide +kernel
theorem dX8_findBasis_46 : decode cX8_findBasis 46 = .ok (.if_icmp .ge 24, 3) := by decide +kernel
theorem dX8_findBasis_49 : decode cX8_findBasis 49 = .ok (.aload_n 0, 1) := by decide +kernel
theorem dX8_findBasis_50 : decode cX8_findBasis 50 = .ok (.getfield 54, 3) := by decide +kernel
theorem dX8_findBasis_53 : decode cX8_findBasis 53 = .ok (.iconst 5, 1) := by decide +kernel
theorem dX8_findBasis_54 : decode cX8_findBasis 54 = .ok (.aload_n 0, 1) := by decide +kernel
theorem dX8_findBasis_55 : decode cX8_findBasis 55 = .ok (.getfield 230, 3) := by decide +kernel
theorem dX8_findBasis_58 : decode cX8_findBasis 58 = .ok (.imul, 1) := by decide +kernel
theorem dX8_findBasis_59 : decode cX8_findBasis 59 = .ok (.iload 4, 2) := by decide +kernel
theorem dX8_findBasis_61 : decode cX8_findBasis 61 = .ok (.iadd, 1) := by decide +kernel
theorem dX8_findBasis_62 : decode cX8_findBasis 62 = .ok (.lconst 0, 1) := by decide +kernel
theorem dX8_findBasis_63 : decode cX8_findBasis 63 = .ok (.lastore, 1) := by decide +kernel
theorem dX8_findBasis_64 : decode cX8_findBasis 64 = .ok (.iinc 4 1, 3) := by decide +kernel
theorem dX8_findBasis_67 : decode cX8_findBasis 67 = .ok (.goto (-27), 3) := by decide +kernel
theorem dX8_findBasis_70 : decode cX8_findBasis 70 = .ok (.aload_n 0, 1) := by decide +kernel
theorem dX8_findBasis_71 : decode cX8_findBasis 71 = .ok (.getfield 54, 3) := by decide +kernel
theorem dX8_findBasis_74 : decode cX8_findBasis 74 = .ok (.iconst 5, 1) := by decide +kernel
theorem dX8_findBasis_75 : decode cX8_findBasis 75 = .ok (.aload_n 0, 1) := by decide +kernel
theorem dX8_findBasis_76 : decode cX8_findBasis 76 = .ok (.getfield 230, 3) := by decide +kernel
theorem dX8_findBasis_79 : decode cX8_findBasis 79 = .ok (.imul, 1) := by decide +kernel
theorem dX8_findBasis_80 : decode cX8_findBasis 80 = .ok (.iload_n 3, 1) := by decide +kernel
theorem dX8_findBasis_81 : decode cX8_findBasis 81 = .ok (.iadd, 1) := by decide +kernel
theorem dX8_findBasis_82 : decode cX8_findBasis 82 = .ok (.aload_n 0, 1) := by decide +kernel
theorem dX8_findBasis_83 : decode cX8_findBasis 83 = .ok (.getfield 210, 3) := by decide +kernel
theorem dX8_findBasis_86 : decode cX8_findBasis 86 = .ok (.lastore, 1) := by decide +kernel
theorem dX8_findBasis_87 : decode cX8_findBasis 87 = .ok (.iconst 0, 1) := by decide +kernel
theorem dX8_findBasis_88 : decode cX8_findBasis 88 = .ok (.istore 4, 2) := by decide +kernel
theorem dX8_findBasis_90 : decode cX8_findBasis 90 = .ok (.iload 4, 2) := by decide +kernel
theorem dX8_findBasis_92 : decode cX8_findBasis 92 = .ok (.aload_n 0, 1) := by decide +kernel
theorem dX8_findBasis_93 : decode cX8_findBasis 93 = .ok (.getfield 207, 3) := by decide +kernel
theorem dX8_findBasis_96 : decode cX8_findBasis 96 = .ok (.if_icmp .ge 40, 3) := by decide +kernel
theorem dX8_findBasis_99 : decode cX8_findBasis 99 = .ok (.aload_n 0, 1) := by decide +kernel
theorem dX8_findBasis_100 : decode cX8_findBasis 100 = .ok (.getfield 54, 3) := by decide +kernel
theorem dX8_findBasis_103 : decode cX8_findBasis 103 = .ok (.iconst 5, 1) := by decide +kernel
theorem dX8_findBasis_104 : decode cX8_findBasis 104 = .ok (.aload_n 0, 1) := by decide +kernel
theorem dX8_findBasis_105 : decode cX8_findBasis 105 = .ok (.getfield 230, 3) := by decide +kernel
theorem dX8_findBasis_108 : decode cX8_findBasis 108 = .ok (.imul, 1) := by decide +kernel
theorem dX8_findBasis_109 : decode cX8_findBasis 109 = .ok (.aload_n 0, 1) := by decide +kernel
theorem dX8_findBasis_110 : decode cX8_findBasis 110 = .ok (.getfield 48, 3) := by decide +kernel
theorem dX8_findBasis_113 : decode cX8_findBasis 113 = .ok (.iload 4, 2) := by decide +kernel
theorem dX8_findBasis_115 : decode cX8_findBasis 115 = .ok (.iaload, 1) := by decide +kernel
theorem dX8_findBasis_116 : decode cX8_findBasis 116 = .ok (.iadd, 1) := by decide +kernel
theorem dX8_findBasis_117 : decode cX8_findBasis 117 = .ok (.aload_n 0, 1) := by decide +kernel
theorem dX8_findBasis_118 : decode cX8_findBasis 118 = .ok (.getfield 44, 3) := by decide +kernel
theorem dX8_findBasis_121 : decode cX8_findBasis 121 = .ok (.iconst 5, 1) := by decide +kernel
theorem dX8_findBasis_122 : decode cX8_findBasis 122 = .ok (.iload 4, 2) := by decide +kernel
theorem dX8_findBasis_124 : decode cX8_findBasis 124 = .ok (.imul, 1) := by decide +kernel
theorem dX8_findBasis_125 : decode cX8_findBasis 125 = .ok (.iload_n 3, 1) := by decide +kernel
theorem dX8_findBasis_126 : decode cX8_findBasis 126 = .ok (.iadd, 1) := by decide +kernel
theorem dX8_findBasis_127 : decode cX8_findBasis 127 = .ok (.laload, 1) := by decide +kernel
theorem dX8_findBasis_128 : decode cX8_findBasis 128 = .ok (.lneg, 1) := by decide +kernel
theorem dX8_findBasis_129 : decode cX8_findBasis 129 = .ok (.lastore, 1) := by decide +kernel
theorem dX8_findBasis_130 : decode cX8_findBasis 130 = .ok (.iinc 4 1, 3) := by decide +kernel
theorem dX8_findBasis_133 : decode cX8_findBasis 133 = .ok (.goto (-43), 3) := by decide +kernel
theorem dX8_findBasis_136 : decode cX8_findBasis 136 = .ok (.aload_n 0, 1) := by decide +kernel
theorem dX8_findBasis_137 : decode cX8_findBasis 137 = .ok (.aload_n 0, 1) := by decide +kernel
theorem dX8_findBasis_138 : decode cX8_findBasis 138 = .ok (.getfield 230, 3) := by decide +kernel
theorem dX8_findBasis_141 : decode cX8_findBasis 141 = .ok (.iload_n 3, 1) := by decide +kernel
theorem dX8_findBasis_142 : decode cX8_findBasis 142 = .ok (.invokevirtual 233, 3) := by decide +kernel
theorem dX8_findBasis_145 : decode cX8_findBasis 145 = .ok (.aload_n 0, 1) := by decide +kernel
theorem dX8_findBasis_146 : decode cX8_findBasis 146 = .ok (.dup, 1) := by decide +kernel
theorem dX8_findBasis_147 : decode cX8_findBasis 147 = .ok (.getfield 230, 3) := by decide +kernel
theorem dX8_findBasis_150 : decode cX8_findBasis 150 = .ok (.iconst 1, 1) := by decide +kernel
theorem dX8_findBasis_151 : decode cX8_findBasis 151 = .ok (.iadd, 1) := by decide +kernel
theorem dX8_findBasis_152 : decode cX8_findBasis 152 = .ok (.putfield 230, 3) := by decide +kernel
theorem dX8_findBasis_155 : decode cX8_findBasis 155 = .ok (.iinc 3 1, 3) := by decide +kernel
theorem dX8_findBasis_158 : decode cX8_findBasis 158 = .ok (.goto (-145), 3) := by decide +kernel
theorem dX8_findBasis_161 : decode cX8_findBasis 161 = .ok (.return_, 1) := by decide +kernel
theorem dX8_shorten_0 : decode cX8_shorten 0 = .ok (.lconst 0, 1) := by decide +kernel
theorem dX8_shorten_1 : decode cX8_shorten 1 = .ok (.lstore_n 3, 1) := by decide +kernel
theorem dX8_shorten_2 : decode cX8_shorten 2 = .ok (.iconst 0, 1) := by decide +kernel
theorem dX8_shorten_3 : decode cX8_shorten 3 = .ok (.istore 5, 2) := by decide +kernel
theorem dX8_shorten_5 : decode cX8_shorten 5 = .ok (.iload 5, 2) := by decide +kernel
theorem dX8_shorten_7 : decode cX8_shorten 7 = .ok (.aload_n 0, 1) := by decide +kernel
theorem dX8_shorten_8 : decode cX8_shorten 8 = .ok (.getfield 214, 3) := by decide +kernel
theorem dX8_shorten_11 : decode cX8_shorten 11 = .ok (.if_icmp .ge 76, 3) := by decide +kernel
theorem dX8_shorten_14 : decode cX8_shorten 14 = .ok (.aload_n 0, 1) := by decide +kernel
theorem dX8_shorten_15 : decode cX8_shorten 15 = .ok (.getfield 54, 3) := by decide +kernel
theorem dX8_shorten_18 : decode cX8_shorten 18 = .ok (.iconst 5, 1) := by decide +kernel
theorem dX8_shorten_19 : decode cX8_shorten 19 = .ok (.iload_n 1, 1) := by decide +kernel
theorem dX8_shorten_20 : decode cX8_shorten 20 = .ok (.imul, 1) := by decide +kernel
theorem dX8_shorten_21 : decode cX8_shorten 21 = .ok (.iload 5, 2) := by decide +kernel
theorem dX8_shorten_23 : decode cX8_shorten 23 = .ok (.iadd, 1) := by decide +kernel
theorem dX8_shorten_24 : decode cX8_shorten 24 = .ok (.laload, 1) := by decide +kernel
theorem dX8_shorten_25 : decode cX8_shorten 25 = .ok (.lconst 0, 1) := by decide +kernel
theorem dX8_shorten_26 : decode cX8_shorten 26 = .ok (.lcmp, 1) := by decide +kernel
theorem dX8_shorten_27 : decode cX8_shorten 27 = .ok (.ifCond .ge 18, 3) := by decide +kernel
theorem dX8_shorten_30 : decode cX8_shorten 30 = .ok (.aload_n 0, 1) := by decide +kernel
theorem dX8_shorten_31 : decode cX8_shorten 31 = .ok (.getfield 54, 3) := by decide +kernel
theorem dX8_shorten_34 : decode cX8_shorten 34 = .ok (.iconst 5, 1) := by decide +kernel
theorem dX8_shorten_35 : decode cX8_shorten 35 = .ok (.iload_n 1, 1) := by decide +kernel
theorem dX8_shorten_36 : decode cX8_shorten 36 = .ok (.imul, 1) := by decide +kernel
theorem dX8_shorten_37 : decode cX8_shorten 37 = .ok (.iload 5, 2) := by decide +kernel
theorem dX8_shorten_39 : decode cX8_shorten 39 = .ok (.iadd, 1) := by decide +kernel
theorem dX8_shorten_40 : decode cX8_shorten 40 = .ok (.laload, 1) := by decide +kernel
theorem dX8_shorten_41 : decode cX8_shorten 41 = .ok (.lneg, 1) := by decide +kernel
theorem dX8_shorten_42 : decode cX8_shorten 42 = .ok (.goto 14, 3) := by decide +kernel
theorem dX8_shorten_45 : decode cX8_shorten 45 = .ok (.aload_n 0, 1) := by decide +kernel
theorem dX8_shorten_46 : decode cX8_shorten 46 = .ok (.getfield 54, 3) := by decide +kernel
theorem dX8_shorten_49 : decode cX8_shorten 49 = .ok (.iconst 5, 1) := by decide +kernel
theorem dX8_shorten_50 : decode cX8_shorten 50 = .ok (.iload_n 1, 1) := by decide +kernel
theorem dX8_shorten_51 : decode cX8_shorten 51 = .ok (.imul, 1) := by decide +kernel
theorem dX8_shorten_52 : decode cX8_shorten 52 = .ok (.iload 5, 2) := by decide +kernel
theorem dX8_shorten_54 : decode cX8_shorten 54 = .ok (.iadd, 1) := by decide +kernel
theorem dX8_shorten_55 : decode cX8_shorten 55 = .ok (.laload, 1) := by decide +kernel
theorem dX8_shorten_56 : decode cX8_shorten 56 = .ok (.lstore 6, 2) := by decide +kernel
theorem dX8_shorten_58 : decode cX8_shorten 58 = .ok (.lload 6, 2) := by decide +kernel
theorem dX8_shorten_60 : decode cX8_shorten 60 = .ok (.lconst 0, 1) := by decide +kernel
theorem dX8_shorten_61 : decode cX8_shorten 61 = .ok (.lcmp, 1) := by decide +kernel
theorem dX8_shorten_62 : decode cX8_shorten 62 = .ok (.ifCond .eq 19, 3) := by decide +kernel
theorem dX8_shorten_65 : decode cX8_shorten 65 = .ok (.lload_n 3, 1) := by decide +kernel
theorem dX8_shorten_66 : decode cX8_shorten 66 = .ok (.lload 6, 2) := by decide +kernel
theorem dX8_shorten_68 : decode cX8_shorten 68 = .ok (.lrem, 1) := by decide +kernel
theorem dX8_shorten_69 : decode cX8_shorten 69 = .ok (.lstore 8, 2) := by decide +kernel
theorem dX8_shorten_71 : decode cX8_shorten 71 = .ok (.lload 6, 2) := by decide +kernel
theorem dX8_shorten_73 : decode cX8_shorten 73 = .ok (.lstore_n 3, 1) := by decide +kernel
theorem dX8_shorten_74 : decode cX8_shorten 74 = .ok (.lload 8, 2) := by decide +kernel
theorem dX8_shorten_76 : decode cX8_shorten 76 = .ok (.lstore 6, 2) := by decide +kernel
theorem dX8_shorten_78 : decode cX8_shorten 78 = .ok (.goto (-20), 3) := by decide +kernel
theorem dX8_shorten_81 : decode cX8_shorten 81 = .ok (.iinc 5 1, 3) := by decide +kernel
theorem dX8_shorten_84 : decode cX8_shorten 84 = .ok (.goto (-79), 3) := by decide +kernel
theorem dX8_shorten_87 : decode cX8_shorten 87 = .ok (.aload_n 0, 1) := by decide +kernel
theorem dX8_shorten_88 : decode cX8_shorten 88 = .ok (.getfield 54, 3) := by decide +kernel
theorem dX8_shorten_91 : decode cX8_shorten 91 = .ok (.iconst 5, 1) := by decide +kernel
theorem dX8_shorten_92 : decode cX8_shorten 92 = .ok (.iload_n 1, 1) := by decide +kernel
theorem dX8_shorten_93 : decode cX8_shorten 93 = .ok (.imul, 1) := by decide +kernel
theorem dX8_shorten_94 : decode cX8_shorten 94 = .ok (.iload_n 2, 1) := by decide +kernel
theorem dX8_shorten_95 : decode cX8_shorten 95 = .ok (.iadd, 1) := by decide +kernel
theorem dX8_shorten_96 : decode cX8_shorten 96 = .ok (.laload, 1) := by decide +kernel
theorem dX8_shorten_97 : decode cX8_shorten 97 = .ok (.lconst 0, 1) := by decide +kernel
theorem dX8_shorten_98 : decode cX8_shorten 98 = .ok (.lcmp, 1) := by decide +kernel
theorem dX8_shorten_99 : decode cX8_shorten 99 = .ok (.ifCond .ge 8, 3) := by decide +kernel
theorem dX8_shorten_102 : decode cX8_shorten 102 = .ok (.lload_n 3, 1) := by decide +kernel
theorem dX8_shorten_103 : decode cX8_shorten 103 = .ok (.lneg, 1) := by decide +kernel
theorem dX8_shorten_104 : decode cX8_shorten 104 = .ok (.goto 4, 3) := by decide +kernel
theorem dX8_shorten_107 : decode cX8_shorten 107 = .ok (.lload_n 3, 1) := by decide +kernel
theorem dX8_shorten_108 : decode cX8_shorten 108 = .ok (.lstore_n 3, 1) := by decide +kernel
theorem dX8_shorten_109 : decode cX8_shorten 109 = .ok (.iconst 0, 1) := by decide +kernel
theorem dX8_shorten_110 : decode cX8_shorten 110 = .ok (.istore 5, 2) := by decide +kernel
theorem dX8_shorten_112 : decode cX8_shorten 112 = .ok (.iload 5, 2) := by decide +kernel
theorem dX8_shorten_114 : decode cX8_shorten 114 = .ok (.aload_n 0, 1) := by decide +kernel
theorem dX8_shorten_115 : decode cX8_shorten 115 = .ok (.getfield 214, 3) := by decide +kernel
theorem dX8_shorten_118 : decode cX8_shorten 118 = .ok (.if_icmp .ge 24, 3) := by decide +kernel
theorem dX8_shorten_121 : decode cX8_shorten 121 = .ok (.aload_n 0, 1) := by decide +kernel
theorem dX8_shorten_122 : decode cX8_shorten 122 = .ok (.getfield 54, 3) := by decide +kernel
theorem dX8_shorten_125 : decode cX8_shorten 125 = .ok (.iconst 5, 1) := by decide +kernel
theorem dX8_shorten_126 : decode cX8_shorten 126 = .ok (.iload_n 1, 1) := by decide +kernel
theorem dX8_shorten_127 : decode cX8_shorten 127 = .ok (.imul, 1) := by decide +kernel
theorem dX8_shorten_128 : decode cX8_shorten 128 = .ok (.iload 5, 2) := by decide +kernel
theorem dX8_shorten_130 : decode cX8_shorten 130 = .ok (.iadd, 1) := by decide +kernel
theorem dX8_shorten_131 : decode cX8_shorten 131 = .ok (.dup2, 1) := by decide +kernel
theorem dX8_shorten_132 : decode cX8_shorten 132 = .ok (.laload, 1) := by decide +kernel
theorem dX8_shorten_133 : decode cX8_shorten 133 = .ok (.lload_n 3, 1) := by decide +kernel
theorem dX8_shorten_134 : decode cX8_shorten 134 = .ok (.ldiv, 1) := by decide +kernel
theorem dX8_shorten_135 : decode cX8_shorten 135 = .ok (.lastore, 1) := by decide +kernel
theorem dX8_shorten_136 : decode cX8_shorten 136 = .ok (.iinc 5 1, 3) := by decide +kernel
theorem dX8_shorten_139 : decode cX8_shorten 139 = .ok (.goto (-27), 3) := by decide +kernel
theorem dX8_shorten_142 : decode cX8_shorten 142 = .ok (.return_, 1) := by decide +kernel
theorem dX8_sums_0 : decode cX8_sums 0 = .ok (.aload_n 0, 1) := by decide +kernel
theorem dX8_sums_1 : decode cX8_sums 1 = .ok (.iload_n 1, 1) := by decide +kernel
theorem dX8_sums_2 : decode cX8_sums 2 = .ok (.iload_n 2, 1) := by decide +kernel
theorem dX8_sums_3 : decode cX8_sums 3 = .ok (.invokevirtual 138, 3) := by decide +kernel
theorem dX8_sums_6 : decode cX8_sums 6 = .ok (.ifCond .eq 5, 3) := by decide +kernel
theorem dX8_sums_9 : decode cX8_sums 9 = .ok (.iconst (-1), 1) := by decide +kernel
theorem dX8_sums_10 : decode cX8_sums 10 = .ok (.ireturn, 1) := by decide +kernel
theorem dX8_sums_11 : decode cX8_sums 11 = .ok (.aload_n 0, 1) := by decide +kernel
theorem dX8_sums_12 : decode cX8_sums 12 = .ok (.iload_n 1, 1) := by decide +kernel
theorem dX8_sums_13 : decode cX8_sums 13 = .ok (.iload_n 2, 1) := by decide +kernel
theorem dX8_sums_14 : decode cX8_sums 14 = .ok (.invokevirtual 236, 3) := by decide +kernel
theorem dX8_sums_17 : decode cX8_sums 17 = .ok (.aload_n 0, 1) := by decide +kernel
theorem dX8_sums_18 : decode cX8_sums 18 = .ok (.getfield 217, 3) := by decide +kernel
theorem dX8_sums_21 : decode cX8_sums 21 = .ok (.ifCond .ne 8, 3) := by decide +kernel
theorem dX8_sums_24 : decode cX8_sums 24 = .ok (.bipush (-9), 2) := by decide +kernel
theorem dX8_sums_26 : decode cX8_sums 26 = .ok (.goto 7, 3) := by decide +kernel
theorem dX8_sums_29 : decode cX8_sums 29 = .ok (.aload_n 0, 1) := by decide +kernel
theorem dX8_sums_30 : decode cX8_sums 30 = .ok (.getfield 230, 3) := by decide +kernel
theorem dX8_sums_33 : decode cX8_sums 33 = .ok (.ireturn, 1) := by decide +kernel
theorem dX8_sum_0 : decode cX8_sum 0 = .ok (.aload_n 0, 1) := by decide +kernel
theorem dX8_sum_1 : decode cX8_sum 1 = .ok (.iload_n 1, 1) := by decide +kernel
theorem dX8_sum_2 : decode cX8_sum 2 = .ok (.iload_n 2, 1) := by decide +kernel
theorem dX8_sum_3 : decode cX8_sum 3 = .ok (.invokevirtual 138, 3) := by decide +kernel
theorem dX8_sum_6 : decode cX8_sum 6 = .ok (.ifCond .eq 7, 3) := by decide +kernel
theorem dX8_sum_9 : decode cX8_sum 9 = .ok (.ldc2_w 239, 3) := by decide +kernel
theorem dX8_sum_12 : decode cX8_sum 12 = .ok (.lreturn, 1) := by decide +kernel
theorem dX8_sum_13 : decode cX8_sum 13 = .ok (.aload_n 0, 1) := by decide +kernel
theorem dX8_sum_14 : decode cX8_sum 14 = .ok (.iload_n 1, 1) := by decide +kernel
theorem dX8_sum_15 : decode cX8_sum 15 = .ok (.iload_n 2, 1) := by decide +kernel
theorem dX8_sum_16 : decode cX8_sum 16 = .ok (.invokevirtual 236, 3) := by decide +kernel
theorem dX8_sum_19 : decode cX8_sum 19 = .ok (.iload_n 3, 1) := by decide +kernel
theorem dX8_sum_20 : decode cX8_sum 20 = .ok (.iconst 0, 1) := by decide +kernel
theorem dX8_sum_21 : decode cX8_sum 21 = .ok (.aload_n 0, 1) := by decide +kernel
theorem dX8_sum_22 : decode cX8_sum 22 = .ok (.getfield 230, 3) := by decide +kernel
theorem dX8_sum_25 : decode cX8_sum 25 = .ok (.iconst 1, 1) := by decide +kernel
theorem dX8_sum_26 : decode cX8_sum 26 = .ok (.isub, 1) := by decide +kernel
theorem dX8_sum_27 : decode cX8_sum 27 = .ok (.invokestatic 115, 3) := by decide +kernel
theorem dX8_sum_30 : decode cX8_sum 30 = .ok (.ifCond .eq 32, 3) := by decide +kernel
theorem dX8_sum_33 : decode cX8_sum 33 = .ok (.iload 4, 2) := by decide +kernel
theorem dX8_sum_35 : decode cX8_sum 35 = .ok (.iconst 0, 1) := by decide +kernel
theorem dX8_sum_36 : decode cX8_sum 36 = .ok (.aload_n 0, 1) := by decide +kernel
theorem dX8_sum_37 : decode cX8_sum 37 = .ok (.getfield 214, 3) := by decide +kernel
theorem dX8_sum_40 : decode cX8_sum 40 = .ok (.iconst 1, 1) := by decide +kernel
theorem dX8_sum_41 : decode cX8_sum 41 = .ok (.isub, 1) := by decide +kernel
theorem dX8_sum_42 : decode cX8_sum 42 = .ok (.invokestatic 115, 3) := by decide +kernel
theorem dX8_sum_45 : decode cX8_sum 45 = .ok (.ifCond .eq 17, 3) := by decide +kernel
theorem dX8_sum_48 : decode cX8_sum 48 = .ok (.aload_n 0, 1) := by decide +kernel
theorem dX8_sum_49 : decode cX8_sum 49 = .ok (.getfield 54, 3) := by decide +kernel
theorem dX8_sum_52 : decode cX8_sum 52 = .ok (.iconst 5, 1) := by decide +kernel
theorem dX8_sum_53 : decode cX8_sum 53 = .ok (.iload_n 3, 1) := by decide +kernel
theorem dX8_sum_54 : decode cX8_sum 54 = .ok (.imul, 1) := by decide +kernel
theorem dX8_sum_55 : decode cX8_sum 55 = .ok (.iload 4, 2) := by decide +kernel
theorem dX8_sum_57 : decode cX8_sum 57 = .ok (.iadd, 1) := by decide +kernel
theorem dX8_sum_58 : decode cX8_sum 58 = .ok (.laload, 1) := by decide +kernel
theorem dX8_sum_59 : decode cX8_sum 59 = .ok (.goto 6, 3) := by decide +kernel
theorem dX8_sum_62 : decode cX8_sum 62 = .ok (.ldc2_w 239, 3) := by decide +kernel
theorem dX8_sum_65 : decode cX8_sum 65 = .ok (.lreturn, 1) := by decide +kernel
theorem dX8_start_0 : decode cX8_start 0 = .ok (.aload_n 0, 1) := by decide +kernel
theorem dX8_start_1 : decode cX8_start 1 = .ok (.iload_n 1, 1) := by decide +kernel
theorem dX8_start_2 : decode cX8_start 2 = .ok (.invokevirtual 119, 3) := by decide +kernel
theorem dX8_start_5 : decode cX8_start 5 = .ok (.ifCond .eq 5, 3) := by decide +kernel
theorem dX8_start_8 : decode cX8_start 8 = .ok (.iconst (-1), 1) := by decide +kernel
theorem dX8_start_9 : decode cX8_start 9 = .ok (.ireturn, 1) := by decide +kernel
theorem dX8_start_10 : decode cX8_start 10 = .ok (.aload_n 0, 1) := by decide +kernel
theorem dX8_start_11 : decode cX8_start 11 = .ok (.iload_n 1, 1) := by decide +kernel
theorem dX8_start_12 : decode cX8_start 12 = .ok (.iload_n 2, 1) := by decide +kernel
theorem dX8_start_13 : decode cX8_start 13 = .ok (.iload_n 3, 1) := by decide +kernel
theorem dX8_start_14 : decode cX8_start 14 = .ok (.iload 4, 2) := by decide +kernel
theorem dX8_start_16 : decode cX8_start 16 = .ok (.iload 5, 2) := by decide +kernel
theorem dX8_start_18 : decode cX8_start 18 = .ok (.invokevirtual 200, 3) := by decide +kernel
theorem dX8_start_21 : decode cX8_start 21 = .ok (.ifCond .ne 6, 3) := by decide +kernel
theorem dX8_start_24 : decode cX8_start 24 = .ok (.bipush (-2), 2) := by decide +kernel
theorem dX8_start_26 : decode cX8_start 26 = .ok (.ireturn, 1) := by decide +kernel
theorem dX8_start_27 : decode cX8_start 27 = .ok (.aload_n 0, 1) := by decide +kernel
theorem dX8_start_28 : decode cX8_start 28 = .ok (.iload_n 1, 1) := by decide +kernel
theorem dX8_start_29 : decode cX8_start 29 = .ok (.putfield 109, 3) := by decide +kernel
theorem dX8_start_32 : decode cX8_start 32 = .ok (.aload_n 0, 1) := by decide +kernel
theorem dX8_start_33 : decode cX8_start 33 = .ok (.getfield 57, 3) := by decide +kernel
theorem dX8_start_36 : decode cX8_start 36 = .ok (.iconst 0, 1) := by decide +kernel
theorem dX8_start_37 : decode cX8_start 37 = .ok (.iload_n 2, 1) := by decide +kernel
theorem dX8_start_38 : decode cX8_start 38 = .ok (.iastore, 1) := by decide +kernel
theorem dX8_start_39 : decode cX8_start 39 = .ok (.aload_n 0, 1) := by decide +kernel
theorem dX8_start_40 : decode cX8_start 40 = .ok (.getfield 57, 3) := by decide +kernel
theorem dX8_start_43 : decode cX8_start 43 = .ok (.iconst 1, 1) := by decide +kernel
theorem dX8_start_44 : decode cX8_start 44 = .ok (.iload_n 3, 1) := by decide +kernel
theorem dX8_start_45 : decode cX8_start 45 = .ok (.iastore, 1) := by decide +kernel
theorem dX8_start_46 : decode cX8_start 46 = .ok (.aload_n 0, 1) := by decide +kernel
theorem dX8_start_47 : decode cX8_start 47 = .ok (.getfield 57, 3) := by decide +kernel
theorem dX8_start_50 : decode cX8_start 50 = .ok (.iconst 2, 1) := by decide +kernel
theorem dX8_start_51 : decode cX8_start 51 = .ok (.iload 4, 2) := by decide +kernel
theorem dX8_start_53 : decode cX8_start 53 = .ok (.iastore, 1) := by decide +kernel
theorem dX8_start_54 : decode cX8_start 54 = .ok (.aload_n 0, 1) := by decide +kernel
theorem dX8_start_55 : decode cX8_start 55 = .ok (.getfield 57, 3) := by decide +kernel
theorem dX8_start_58 : decode cX8_start 58 = .ok (.iconst 3, 1) := by decide +kernel
theorem dX8_start_59 : decode cX8_start 59 = .ok (.iload 5, 2) := by decide +kernel
theorem dX8_start_61 : decode cX8_start 61 = .ok (.iastore, 1) := by decide +kernel
theorem dX8_start_62 : decode cX8_start 62 = .ok (.iconst 1, 1) := by decide +kernel
theorem dX8_start_63 : decode cX8_start 63 = .ok (.ireturn, 1) := by decide +kernel
theorem dX8_act_0 : decode cX8_act 0 = .ok (.aload_n 0, 1) := by decide +kernel
theorem dX8_act_1 : decode cX8_act 1 = .ok (.iload_n 1, 1) := by decide +kernel
theorem dX8_act_2 : decode cX8_act 2 = .ok (.invokevirtual 119, 3) := by decide +kernel
theorem dX8_act_5 : decode cX8_act 5 = .ok (.ifCond .ne 11, 3) := by decide +kernel
theorem dX8_act_8 : decode cX8_act 8 = .ok (.aload_n 0, 1) := by decide +kernel
theorem dX8_act_9 : decode cX8_act 9 = .ok (.iload_n 2, 1) := by decide +kernel
theorem dX8_act_10 : decode cX8_act 10 = .ok (.invokevirtual 119, 3) := by decide +kernel
theorem dX8_act_13 : decode cX8_act 13 = .ok (.ifCond .eq 5, 3) := by decide +kernel
theorem dX8_act_16 : decode cX8_act 16 = .ok (.iconst (-1), 1) := by decide +kernel
theorem dX8_act_17 : decode cX8_act 17 = .ok (.ireturn, 1) := by decide +kernel
theorem dX8_act_18 : decode cX8_act 18 = .ok (.aload_n 0, 1) := by decide +kernel
theorem dX8_act_19 : decode cX8_act 19 = .ok (.getfield 241, 3) := by decide +kernel
theorem dX8_act_22 : decode cX8_act 22 = .ok (.bipush 10, 2) := by decide +kernel
theorem dX8_act_24 : decode cX8_act 24 = .ok (.if_icmp .ne 6, 3) := by decide +kernel
theorem dX8_act_27 : decode cX8_act 27 = .ok (.bipush (-4), 2) := by decide +kernel
theorem dX8_act_29 : decode cX8_act 29 = .ok (.ireturn, 1) := by decide +kernel
theorem dX8_act_30 : decode cX8_act 30 = .ok (.aload_n 0, 1) := by decide +kernel
theorem dX8_act_31 : decode cX8_act 31 = .ok (.getfield 60, 3) := by decide +kernel
theorem dX8_act_34 : decode cX8_act 34 = .ok (.aload_n 0, 1) := by decide +kernel
theorem dX8_act_35 : decode cX8_act 35 = .ok (.getfield 241, 3) := by decide +kernel
theorem dX8_act_38 : decode cX8_act 38 = .ok (.iload_n 1, 1) := by decide +kernel
theorem dX8_act_39 : decode cX8_act 39 = .ok (.iastore, 1) := by decide +kernel
theorem dX8_act_40 : decode cX8_act 40 = .ok (.aload_n 0, 1) := by decide +kernel
theorem dX8_act_41 : decode cX8_act 41 = .ok (.getfield 63, 3) := by decide +kernel
theorem dX8_act_44 : decode cX8_act 44 = .ok (.aload_n 0, 1) := by decide +kernel
theorem dX8_act_45 : decode cX8_act 45 = .ok (.getfield 241, 3) := by decide +kernel
theorem dX8_act_48 : decode cX8_act 48 = .ok (.iload_n 2, 1) := by decide +kernel
theorem dX8_act_49 : decode cX8_act 49 = .ok (.iastore, 1) := by decide +kernel
theorem dX8_act_50 : decode cX8_act 50 = .ok (.aload_n 0, 1) := by decide +kernel
theorem dX8_act_51 : decode cX8_act 51 = .ok (.dup, 1) := by decide +kernel
theorem dX8_act_52 : decode cX8_act 52 = .ok (.getfield 241, 3) := by decide +kernel
end
section
theorem dX8_act_55 : decode cX8_act 55 = .ok (.iconst 1, 1) := by decide +kernel
theorem dX8_act_56 : decode cX8_act 56 = .ok (.iadd, 1) := by decide +kernel
theorem dX8_act_57 : decode cX8_act 57 = .ok (.putfield 241, 3) := by decide +kernel
theorem dX8_act_60 : decode cX8_act 60 = .ok (.aload_n 0, 1) := by decide +kernel
theorem dX8_act_61 : decode cX8_act 61 = .ok (.getfield 241, 3) := by decide +kernel
theorem dX8_act_64 : decode cX8_act 64 = .ok (.iconst 1, 1) := by decide +kernel
theorem dX8_act_65 : decode cX8_act 65 = .ok (.isub, 1) := by decide +kernel
theorem dX8_act_66 : decode cX8_act 66 = .ok (.ireturn, 1) := by decide +kernel
theorem dX8_noMade_0 : decode cX8_noMade 0 = .ok (.iload_n 1, 1) := by decide +kernel
theorem dX8_noMade_1 : decode cX8_noMade 1 = .ok (.iconst 0, 1) := by decide +kernel
theorem dX8_noMade_2 : decode cX8_noMade 2 = .ok (.aload_n 0, 1) := by decide +kernel
theorem dX8_noMade_3 : decode cX8_noMade 3 = .ok (.getfield 241, 3) := by decide +kernel
theorem dX8_noMade_6 : decode cX8_noMade 6 = .ok (.iconst 1, 1) := by decide +kernel
theorem dX8_noMade_7 : decode cX8_noMade 7 = .ok (.isub, 1) := by decide +kernel
theorem dX8_noMade_8 : decode cX8_noMade 8 = .ok (.invokestatic 115, 3) := by decide +kernel
theorem dX8_noMade_11 : decode cX8_noMade 11 = .ok (.ifCond .eq 24, 3) := by decide +kernel
theorem dX8_noMade_14 : decode cX8_noMade 14 = .ok (.iload_n 2, 1) := by decide +kernel
theorem dX8_noMade_15 : decode cX8_noMade 15 = .ok (.iconst 0, 1) := by decide +kernel
theorem dX8_noMade_16 : decode cX8_noMade 16 = .ok (.aload_n 0, 1) := by decide +kernel
theorem dX8_noMade_17 : decode cX8_noMade 17 = .ok (.getfield 7, 3) := by decide +kernel
theorem dX8_noMade_20 : decode cX8_noMade 20 = .ok (.aload_n 0, 1) := by decide +kernel
theorem dX8_noMade_21 : decode cX8_noMade 21 = .ok (.getfield 63, 3) := by decide +kernel
theorem dX8_noMade_24 : decode cX8_noMade 24 = .ok (.iload_n 1, 1) := by decide +kernel
theorem dX8_noMade_25 : decode cX8_noMade 25 = .ok (.iaload, 1) := by decide +kernel
theorem dX8_noMade_26 : decode cX8_noMade 26 = .ok (.iaload, 1) := by decide +kernel
theorem dX8_noMade_27 : decode cX8_noMade 27 = .ok (.iconst 1, 1) := by decide +kernel
theorem dX8_noMade_28 : decode cX8_noMade 28 = .ok (.isub, 1) := by decide +kernel
theorem dX8_noMade_29 : decode cX8_noMade 29 = .ok (.invokestatic 115, 3) := by decide +kernel
theorem dX8_noMade_32 : decode cX8_noMade 32 = .ok (.ifCond .ne 7, 3) := by decide +kernel
theorem dX8_noMade_35 : decode cX8_noMade 35 = .ok (.iconst 1, 1) := by decide +kernel
theorem dX8_noMade_36 : decode cX8_noMade 36 = .ok (.goto 4, 3) := by decide +kernel
theorem dX8_noMade_39 : decode cX8_noMade 39 = .ok (.iconst 0, 1) := by decide +kernel
theorem dX8_noMade_40 : decode cX8_noMade 40 = .ok (.ireturn, 1) := by decide +kernel
theorem dX8_makes_0 : decode cX8_makes 0 = .ok (.aload_n 0, 1) := by decide +kernel
theorem dX8_makes_1 : decode cX8_makes 1 = .ok (.iload_n 1, 1) := by decide +kernel
theorem dX8_makes_2 : decode cX8_makes 2 = .ok (.iload_n 2, 1) := by decide +kernel
theorem dX8_makes_3 : decode cX8_makes 3 = .ok (.invokevirtual 244, 3) := by decide +kernel
theorem dX8_makes_6 : decode cX8_makes 6 = .ok (.ifCond .eq 5, 3) := by decide +kernel
theorem dX8_makes_9 : decode cX8_makes 9 = .ok (.iconst (-1), 1) := by decide +kernel
theorem dX8_makes_10 : decode cX8_makes 10 = .ok (.ireturn, 1) := by decide +kernel
theorem dX8_makes_11 : decode cX8_makes 11 = .ok (.aload_n 0, 1) := by decide +kernel
theorem dX8_makes_12 : decode cX8_makes 12 = .ok (.getfield 7, 3) := by decide +kernel
theorem dX8_makes_15 : decode cX8_makes 15 = .ok (.aload_n 0, 1) := by decide +kernel
theorem dX8_makes_16 : decode cX8_makes 16 = .ok (.getfield 60, 3) := by decide +kernel
theorem dX8_makes_19 : decode cX8_makes 19 = .ok (.iload_n 1, 1) := by decide +kernel
theorem dX8_makes_20 : decode cX8_makes 20 = .ok (.iaload, 1) := by decide +kernel
theorem dX8_makes_21 : decode cX8_makes 21 = .ok (.iaload, 1) := by decide +kernel
theorem dX8_makes_22 : decode cX8_makes 22 = .ok (.istore 8, 2) := by decide +kernel
theorem dX8_makes_24 : decode cX8_makes 24 = .ok (.iload_n 3, 1) := by decide +kernel
theorem dX8_makes_25 : decode cX8_makes 25 = .ok (.bipush (-9), 2) := by decide +kernel
theorem dX8_makes_27 : decode cX8_makes 27 = .ok (.bipush 9, 2) := by decide +kernel
theorem dX8_makes_29 : decode cX8_makes 29 = .ok (.invokestatic 115, 3) := by decide +kernel
theorem dX8_makes_32 : decode cX8_makes 32 = .ok (.ifCond .eq 69, 3) := by decide +kernel
theorem dX8_makes_35 : decode cX8_makes 35 = .ok (.iload 8, 2) := by decide +kernel
theorem dX8_makes_37 : decode cX8_makes 37 = .ok (.iconst 1, 1) := by decide +kernel
theorem dX8_makes_38 : decode cX8_makes 38 = .ok (.if_icmp .le 15, 3) := by decide +kernel
theorem dX8_makes_41 : decode cX8_makes 41 = .ok (.iload 4, 2) := by decide +kernel
theorem dX8_makes_43 : decode cX8_makes 43 = .ok (.bipush (-9), 2) := by decide +kernel
theorem dX8_makes_45 : decode cX8_makes 45 = .ok (.bipush 9, 2) := by decide +kernel
theorem dX8_makes_47 : decode cX8_makes 47 = .ok (.invokestatic 115, 3) := by decide +kernel
theorem dX8_makes_50 : decode cX8_makes 50 = .ok (.ifCond .eq 51, 3) := by decide +kernel
theorem dX8_makes_53 : decode cX8_makes 53 = .ok (.iload 8, 2) := by decide +kernel
theorem dX8_makes_55 : decode cX8_makes 55 = .ok (.iconst 2, 1) := by decide +kernel
theorem dX8_makes_56 : decode cX8_makes 56 = .ok (.if_icmp .le 15, 3) := by decide +kernel
theorem dX8_makes_59 : decode cX8_makes 59 = .ok (.iload 5, 2) := by decide +kernel
theorem dX8_makes_61 : decode cX8_makes 61 = .ok (.bipush (-9), 2) := by decide +kernel
theorem dX8_makes_63 : decode cX8_makes 63 = .ok (.bipush 9, 2) := by decide +kernel
theorem dX8_makes_65 : decode cX8_makes 65 = .ok (.invokestatic 115, 3) := by decide +kernel
theorem dX8_makes_68 : decode cX8_makes 68 = .ok (.ifCond .eq 33, 3) := by decide +kernel
theorem dX8_makes_71 : decode cX8_makes 71 = .ok (.iload 8, 2) := by decide +kernel
theorem dX8_makes_73 : decode cX8_makes 73 = .ok (.iconst 3, 1) := by decide +kernel
theorem dX8_makes_74 : decode cX8_makes 74 = .ok (.if_icmp .le 15, 3) := by decide +kernel
theorem dX8_makes_77 : decode cX8_makes 77 = .ok (.iload 6, 2) := by decide +kernel
theorem dX8_makes_79 : decode cX8_makes 79 = .ok (.bipush (-9), 2) := by decide +kernel
theorem dX8_makes_81 : decode cX8_makes 81 = .ok (.bipush 9, 2) := by decide +kernel
theorem dX8_makes_83 : decode cX8_makes 83 = .ok (.invokestatic 115, 3) := by decide +kernel
theorem dX8_makes_86 : decode cX8_makes 86 = .ok (.ifCond .eq 15, 3) := by decide +kernel
theorem dX8_makes_89 : decode cX8_makes 89 = .ok (.iload 7, 2) := by decide +kernel
theorem dX8_makes_91 : decode cX8_makes 91 = .ok (.bipush (-99), 2) := by decide +kernel
theorem dX8_makes_93 : decode cX8_makes 93 = .ok (.bipush 99, 2) := by decide +kernel
theorem dX8_makes_95 : decode cX8_makes 95 = .ok (.invokestatic 115, 3) := by decide +kernel
theorem dX8_makes_98 : decode cX8_makes 98 = .ok (.ifCond .ne 6, 3) := by decide +kernel
theorem dX8_makes_101 : decode cX8_makes 101 = .ok (.bipush (-2), 2) := by decide +kernel
theorem dX8_makes_103 : decode cX8_makes 103 = .ok (.ireturn, 1) := by decide +kernel
theorem dX8_makes_104 : decode cX8_makes 104 = .ok (.bipush 20, 2) := by decide +kernel
theorem dX8_makes_106 : decode cX8_makes 106 = .ok (.iload_n 1, 1) := by decide +kernel
theorem dX8_makes_107 : decode cX8_makes 107 = .ok (.imul, 1) := by decide +kernel
theorem dX8_makes_108 : decode cX8_makes 108 = .ok (.iconst 5, 1) := by decide +kernel
theorem dX8_makes_109 : decode cX8_makes 109 = .ok (.iload_n 2, 1) := by decide +kernel
theorem dX8_makes_110 : decode cX8_makes 110 = .ok (.imul, 1) := by decide +kernel
theorem dX8_makes_111 : decode cX8_makes 111 = .ok (.iadd, 1) := by decide +kernel
theorem dX8_makes_112 : decode cX8_makes 112 = .ok (.istore 9, 2) := by decide +kernel
theorem dX8_makes_114 : decode cX8_makes 114 = .ok (.aload_n 0, 1) := by decide +kernel
theorem dX8_makes_115 : decode cX8_makes 115 = .ok (.getfield 66, 3) := by decide +kernel
theorem dX8_makes_118 : decode cX8_makes 118 = .ok (.iload 9, 2) := by decide +kernel
theorem dX8_makes_120 : decode cX8_makes 120 = .ok (.iload_n 3, 1) := by decide +kernel
theorem dX8_makes_121 : decode cX8_makes 121 = .ok (.iastore, 1) := by decide +kernel
theorem dX8_makes_122 : decode cX8_makes 122 = .ok (.aload_n 0, 1) := by decide +kernel
theorem dX8_makes_123 : decode cX8_makes 123 = .ok (.getfield 66, 3) := by decide +kernel
theorem dX8_makes_126 : decode cX8_makes 126 = .ok (.iload 9, 2) := by decide +kernel
theorem dX8_makes_128 : decode cX8_makes 128 = .ok (.iconst 1, 1) := by decide +kernel
theorem dX8_makes_129 : decode cX8_makes 129 = .ok (.iadd, 1) := by decide +kernel
theorem dX8_makes_130 : decode cX8_makes 130 = .ok (.iload 8, 2) := by decide +kernel
theorem dX8_makes_132 : decode cX8_makes 132 = .ok (.iconst 1, 1) := by decide +kernel
theorem dX8_makes_133 : decode cX8_makes 133 = .ok (.if_icmp .le 8, 3) := by decide +kernel
theorem dX8_makes_136 : decode cX8_makes 136 = .ok (.iload 4, 2) := by decide +kernel
theorem dX8_makes_138 : decode cX8_makes 138 = .ok (.goto 4, 3) := by decide +kernel
theorem dX8_makes_141 : decode cX8_makes 141 = .ok (.iconst 0, 1) := by decide +kernel
theorem dX8_makes_142 : decode cX8_makes 142 = .ok (.iastore, 1) := by decide +kernel
theorem dX8_makes_143 : decode cX8_makes 143 = .ok (.aload_n 0, 1) := by decide +kernel
theorem dX8_makes_144 : decode cX8_makes 144 = .ok (.getfield 66, 3) := by decide +kernel
theorem dX8_makes_147 : decode cX8_makes 147 = .ok (.iload 9, 2) := by decide +kernel
theorem dX8_makes_149 : decode cX8_makes 149 = .ok (.iconst 2, 1) := by decide +kernel
theorem dX8_makes_150 : decode cX8_makes 150 = .ok (.iadd, 1) := by decide +kernel
theorem dX8_makes_151 : decode cX8_makes 151 = .ok (.iload 8, 2) := by decide +kernel
theorem dX8_makes_153 : decode cX8_makes 153 = .ok (.iconst 2, 1) := by decide +kernel
theorem dX8_makes_154 : decode cX8_makes 154 = .ok (.if_icmp .le 8, 3) := by decide +kernel
theorem dX8_makes_157 : decode cX8_makes 157 = .ok (.iload 5, 2) := by decide +kernel
theorem dX8_makes_159 : decode cX8_makes 159 = .ok (.goto 4, 3) := by decide +kernel
theorem dX8_makes_162 : decode cX8_makes 162 = .ok (.iconst 0, 1) := by decide +kernel
theorem dX8_makes_163 : decode cX8_makes 163 = .ok (.iastore, 1) := by decide +kernel
theorem dX8_makes_164 : decode cX8_makes 164 = .ok (.aload_n 0, 1) := by decide +kernel
theorem dX8_makes_165 : decode cX8_makes 165 = .ok (.getfield 66, 3) := by decide +kernel
theorem dX8_makes_168 : decode cX8_makes 168 = .ok (.iload 9, 2) := by decide +kernel
theorem dX8_makes_170 : decode cX8_makes 170 = .ok (.iconst 3, 1) := by decide +kernel
theorem dX8_makes_171 : decode cX8_makes 171 = .ok (.iadd, 1) := by decide +kernel
theorem dX8_makes_172 : decode cX8_makes 172 = .ok (.iload 8, 2) := by decide +kernel
theorem dX8_makes_174 : decode cX8_makes 174 = .ok (.iconst 3, 1) := by decide +kernel
theorem dX8_makes_175 : decode cX8_makes 175 = .ok (.if_icmp .le 8, 3) := by decide +kernel
theorem dX8_makes_178 : decode cX8_makes 178 = .ok (.iload 6, 2) := by decide +kernel
theorem dX8_makes_180 : decode cX8_makes 180 = .ok (.goto 4, 3) := by decide +kernel
theorem dX8_makes_183 : decode cX8_makes 183 = .ok (.iconst 0, 1) := by decide +kernel
theorem dX8_makes_184 : decode cX8_makes 184 = .ok (.iastore, 1) := by decide +kernel
theorem dX8_makes_185 : decode cX8_makes 185 = .ok (.aload_n 0, 1) := by decide +kernel
theorem dX8_makes_186 : decode cX8_makes 186 = .ok (.getfield 66, 3) := by decide +kernel
theorem dX8_makes_189 : decode cX8_makes 189 = .ok (.iload 9, 2) := by decide +kernel
theorem dX8_makes_191 : decode cX8_makes 191 = .ok (.iconst 4, 1) := by decide +kernel
theorem dX8_makes_192 : decode cX8_makes 192 = .ok (.iadd, 1) := by decide +kernel
theorem dX8_makes_193 : decode cX8_makes 193 = .ok (.iload 7, 2) := by decide +kernel
theorem dX8_makes_195 : decode cX8_makes 195 = .ok (.iastore, 1) := by decide +kernel
theorem dX8_makes_196 : decode cX8_makes 196 = .ok (.iconst 1, 1) := by decide +kernel
theorem dX8_makes_197 : decode cX8_makes 197 = .ok (.ireturn, 1) := by decide +kernel
theorem dX8_made_0 : decode cX8_made 0 = .ok (.aload_n 0, 1) := by decide +kernel
theorem dX8_made_1 : decode cX8_made 1 = .ok (.iload_n 1, 1) := by decide +kernel
theorem dX8_made_2 : decode cX8_made 2 = .ok (.iload_n 2, 1) := by decide +kernel
theorem dX8_made_3 : decode cX8_made 3 = .ok (.invokevirtual 244, 3) := by decide +kernel
theorem dX8_made_6 : decode cX8_made 6 = .ok (.ifCond .eq 7, 3) := by decide +kernel
theorem dX8_made_9 : decode cX8_made 9 = .ok (.iconst (-1), 1) := by decide +kernel
theorem dX8_made_10 : decode cX8_made 10 = .ok (.goto 32, 3) := by decide +kernel
theorem dX8_made_13 : decode cX8_made 13 = .ok (.iload_n 3, 1) := by decide +kernel
theorem dX8_made_14 : decode cX8_made 14 = .ok (.iconst 0, 1) := by decide +kernel
theorem dX8_made_15 : decode cX8_made 15 = .ok (.iconst 4, 1) := by decide +kernel
theorem dX8_made_16 : decode cX8_made 16 = .ok (.invokestatic 115, 3) := by decide +kernel
theorem dX8_made_19 : decode cX8_made 19 = .ok (.ifCond .eq 21, 3) := by decide +kernel
theorem dX8_made_22 : decode cX8_made 22 = .ok (.aload_n 0, 1) := by decide +kernel
theorem dX8_made_23 : decode cX8_made 23 = .ok (.getfield 66, 3) := by decide +kernel
theorem dX8_made_26 : decode cX8_made 26 = .ok (.bipush 20, 2) := by decide +kernel
theorem dX8_made_28 : decode cX8_made 28 = .ok (.iload_n 1, 1) := by decide +kernel
theorem dX8_made_29 : decode cX8_made 29 = .ok (.imul, 1) := by decide +kernel
theorem dX8_made_30 : decode cX8_made 30 = .ok (.iconst 5, 1) := by decide +kernel
theorem dX8_made_31 : decode cX8_made 31 = .ok (.iload_n 2, 1) := by decide +kernel
theorem dX8_made_32 : decode cX8_made 32 = .ok (.imul, 1) := by decide +kernel
theorem dX8_made_33 : decode cX8_made 33 = .ok (.iadd, 1) := by decide +kernel
theorem dX8_made_34 : decode cX8_made 34 = .ok (.iload_n 3, 1) := by decide +kernel
theorem dX8_made_35 : decode cX8_made 35 = .ok (.iadd, 1) := by decide +kernel
theorem dX8_made_36 : decode cX8_made 36 = .ok (.iaload, 1) := by decide +kernel
theorem dX8_made_37 : decode cX8_made 37 = .ok (.goto 5, 3) := by decide +kernel
theorem dX8_made_40 : decode cX8_made 40 = .ok (.bipush (-2), 2) := by decide +kernel
theorem dX8_made_42 : decode cX8_made 42 = .ok (.ireturn, 1) := by decide +kernel
theorem dX8_isSum_0 : decode cX8_isSum 0 = .ok (.aload_n 0, 1) := by decide +kernel
theorem dX8_isSum_1 : decode cX8_isSum 1 = .ok (.iload_n 1, 1) := by decide +kernel
theorem dX8_isSum_2 : decode cX8_isSum 2 = .ok (.iconst 0, 1) := by decide +kernel
theorem dX8_isSum_3 : decode cX8_isSum 3 = .ok (.invokevirtual 227, 3) := by decide +kernel
theorem dX8_isSum_6 : decode cX8_isSum 6 = .ok (.iconst 1, 1) := by decide +kernel
theorem dX8_isSum_7 : decode cX8_isSum 7 = .ok (.istore_n 2, 1) := by decide +kernel
theorem dX8_isSum_8 : decode cX8_isSum 8 = .ok (.iconst 0, 1) := by decide +kernel
theorem dX8_isSum_9 : decode cX8_isSum 9 = .ok (.istore_n 3, 1) := by decide +kernel
theorem dX8_isSum_10 : decode cX8_isSum 10 = .ok (.iload_n 3, 1) := by decide +kernel
theorem dX8_isSum_11 : decode cX8_isSum 11 = .ok (.aload_n 0, 1) := by decide +kernel
theorem dX8_isSum_12 : decode cX8_isSum 12 = .ok (.getfield 214, 3) := by decide +kernel
theorem dX8_isSum_15 : decode cX8_isSum 15 = .ok (.if_icmp .ge 37, 3) := by decide +kernel
theorem dX8_isSum_18 : decode cX8_isSum 18 = .ok (.aload_n 0, 1) := by decide +kernel
theorem dX8_isSum_19 : decode cX8_isSum 19 = .ok (.getfield 217, 3) := by decide +kernel
theorem dX8_isSum_22 : decode cX8_isSum 22 = .ok (.ifCond .ne 30, 3) := by decide +kernel
theorem dX8_isSum_25 : decode cX8_isSum 25 = .ok (.iload_n 2, 1) := by decide +kernel
theorem dX8_isSum_26 : decode cX8_isSum 26 = .ok (.ifCond .eq 18, 3) := by decide +kernel
theorem dX8_isSum_29 : decode cX8_isSum 29 = .ok (.aload_n 0, 1) := by decide +kernel
theorem dX8_isSum_30 : decode cX8_isSum 30 = .ok (.getfield 69, 3) := by decide +kernel
theorem dX8_isSum_33 : decode cX8_isSum 33 = .ok (.iload_n 3, 1) := by decide +kernel
theorem dX8_isSum_34 : decode cX8_isSum 34 = .ok (.laload, 1) := by decide +kernel
theorem dX8_isSum_35 : decode cX8_isSum 35 = .ok (.lconst 0, 1) := by decide +kernel
theorem dX8_isSum_36 : decode cX8_isSum 36 = .ok (.lcmp, 1) := by decide +kernel
theorem dX8_isSum_37 : decode cX8_isSum 37 = .ok (.ifCond .ne 7, 3) := by decide +kernel
theorem dX8_isSum_40 : decode cX8_isSum 40 = .ok (.iconst 1, 1) := by decide +kernel
theorem dX8_isSum_41 : decode cX8_isSum 41 = .ok (.goto 4, 3) := by decide +kernel
theorem dX8_isSum_44 : decode cX8_isSum 44 = .ok (.iconst 0, 1) := by decide +kernel
theorem dX8_isSum_45 : decode cX8_isSum 45 = .ok (.istore_n 2, 1) := by decide +kernel
theorem dX8_isSum_46 : decode cX8_isSum 46 = .ok (.iinc 3 1, 3) := by decide +kernel
theorem dX8_isSum_49 : decode cX8_isSum 49 = .ok (.goto (-39), 3) := by decide +kernel
theorem dX8_isSum_52 : decode cX8_isSum 52 = .ok (.iconst 0, 1) := by decide +kernel
theorem dX8_isSum_53 : decode cX8_isSum 53 = .ok (.istore_n 3, 1) := by decide +kernel
theorem dX8_isSum_54 : decode cX8_isSum 54 = .ok (.iload_n 3, 1) := by decide +kernel
theorem dX8_isSum_55 : decode cX8_isSum 55 = .ok (.aload_n 0, 1) := by decide +kernel
theorem dX8_isSum_56 : decode cX8_isSum 56 = .ok (.getfield 207, 3) := by decide +kernel
theorem dX8_isSum_59 : decode cX8_isSum 59 = .ok (.if_icmp .ge 107, 3) := by decide +kernel
theorem dX8_isSum_62 : decode cX8_isSum 62 = .ok (.aload_n 0, 1) := by decide +kernel
theorem dX8_isSum_63 : decode cX8_isSum 63 = .ok (.getfield 217, 3) := by decide +kernel
theorem dX8_isSum_66 : decode cX8_isSum 66 = .ok (.ifCond .le 100, 3) := by decide +kernel
theorem dX8_isSum_69 : decode cX8_isSum 69 = .ok (.aload_n 0, 1) := by decide +kernel
theorem dX8_isSum_70 : decode cX8_isSum 70 = .ok (.getfield 210, 3) := by decide +kernel
theorem dX8_isSum_73 : decode cX8_isSum 73 = .ok (.aload_n 0, 1) := by decide +kernel
theorem dX8_isSum_74 : decode cX8_isSum 74 = .ok (.getfield 69, 3) := by decide +kernel
theorem dX8_isSum_77 : decode cX8_isSum 77 = .ok (.aload_n 0, 1) := by decide +kernel
theorem dX8_isSum_78 : decode cX8_isSum 78 = .ok (.getfield 48, 3) := by decide +kernel
theorem dX8_isSum_81 : decode cX8_isSum 81 = .ok (.iload_n 3, 1) := by decide +kernel
theorem dX8_isSum_82 : decode cX8_isSum 82 = .ok (.iaload, 1) := by decide +kernel
theorem dX8_isSum_83 : decode cX8_isSum 83 = .ok (.laload, 1) := by decide +kernel
theorem dX8_isSum_84 : decode cX8_isSum 84 = .ok (.lmul, 1) := by decide +kernel
theorem dX8_isSum_85 : decode cX8_isSum 85 = .ok (.lstore 4, 2) := by decide +kernel
theorem dX8_isSum_87 : decode cX8_isSum 87 = .ok (.iconst 0, 1) := by decide +kernel
theorem dX8_isSum_88 : decode cX8_isSum 88 = .ok (.istore 6, 2) := by decide +kernel
theorem dX8_isSum_90 : decode cX8_isSum 90 = .ok (.iload 6, 2) := by decide +kernel
theorem dX8_isSum_92 : decode cX8_isSum 92 = .ok (.aload_n 0, 1) := by decide +kernel
theorem dX8_isSum_93 : decode cX8_isSum 93 = .ok (.getfield 214, 3) := by decide +kernel
theorem dX8_isSum_96 : decode cX8_isSum 96 = .ok (.if_icmp .ge 47, 3) := by decide +kernel
theorem dX8_isSum_99 : decode cX8_isSum 99 = .ok (.lload 4, 2) := by decide +kernel
theorem dX8_isSum_101 : decode cX8_isSum 101 = .ok (.aload_n 0, 1) := by decide +kernel
theorem dX8_isSum_102 : decode cX8_isSum 102 = .ok (.getfield 51, 3) := by decide +kernel
theorem dX8_isSum_105 : decode cX8_isSum 105 = .ok (.iload 6, 2) := by decide +kernel
theorem dX8_isSum_107 : decode cX8_isSum 107 = .ok (.baload, 1) := by decide +kernel
theorem dX8_isSum_108 : decode cX8_isSum 108 = .ok (.ifCond .eq 25, 3) := by decide +kernel
theorem dX8_isSum_111 : decode cX8_isSum 111 = .ok (.aload_n 0, 1) := by decide +kernel
theorem dX8_isSum_112 : decode cX8_isSum 112 = .ok (.getfield 69, 3) := by decide +kernel
theorem dX8_isSum_115 : decode cX8_isSum 115 = .ok (.iload 6, 2) := by decide +kernel
theorem dX8_isSum_117 : decode cX8_isSum 117 = .ok (.laload, 1) := by decide +kernel
theorem dX8_isSum_118 : decode cX8_isSum 118 = .ok (.aload_n 0, 1) := by decide +kernel
theorem dX8_isSum_119 : decode cX8_isSum 119 = .ok (.getfield 44, 3) := by decide +kernel
theorem dX8_isSum_122 : decode cX8_isSum 122 = .ok (.iconst 5, 1) := by decide +kernel
theorem dX8_isSum_123 : decode cX8_isSum 123 = .ok (.iload_n 3, 1) := by decide +kernel
theorem dX8_isSum_124 : decode cX8_isSum 124 = .ok (.imul, 1) := by decide +kernel
theorem dX8_isSum_125 : decode cX8_isSum 125 = .ok (.iload 6, 2) := by decide +kernel
theorem dX8_isSum_127 : decode cX8_isSum 127 = .ok (.iadd, 1) := by decide +kernel
theorem dX8_isSum_128 : decode cX8_isSum 128 = .ok (.laload, 1) := by decide +kernel
theorem dX8_isSum_129 : decode cX8_isSum 129 = .ok (.lmul, 1) := by decide +kernel
theorem dX8_isSum_130 : decode cX8_isSum 130 = .ok (.goto 4, 3) := by decide +kernel
theorem dX8_isSum_133 : decode cX8_isSum 133 = .ok (.lconst 0, 1) := by decide +kernel
theorem dX8_isSum_134 : decode cX8_isSum 134 = .ok (.ladd, 1) := by decide +kernel
theorem dX8_isSum_135 : decode cX8_isSum 135 = .ok (.lstore 4, 2) := by decide +kernel
theorem dX8_isSum_137 : decode cX8_isSum 137 = .ok (.iinc 6 1, 3) := by decide +kernel
theorem dX8_isSum_140 : decode cX8_isSum 140 = .ok (.goto (-50), 3) := by decide +kernel
theorem dX8_isSum_143 : decode cX8_isSum 143 = .ok (.iload_n 2, 1) := by decide +kernel
theorem dX8_isSum_144 : decode cX8_isSum 144 = .ok (.ifCond .eq 14, 3) := by decide +kernel
theorem dX8_isSum_147 : decode cX8_isSum 147 = .ok (.lload 4, 2) := by decide +kernel
theorem dX8_isSum_149 : decode cX8_isSum 149 = .ok (.lconst 0, 1) := by decide +kernel
theorem dX8_isSum_150 : decode cX8_isSum 150 = .ok (.lcmp, 1) := by decide +kernel
theorem dX8_isSum_151 : decode cX8_isSum 151 = .ok (.ifCond .ne 7, 3) := by decide +kernel
theorem dX8_isSum_154 : decode cX8_isSum 154 = .ok (.iconst 1, 1) := by decide +kernel
theorem dX8_isSum_155 : decode cX8_isSum 155 = .ok (.goto 4, 3) := by decide +kernel
theorem dX8_isSum_158 : decode cX8_isSum 158 = .ok (.iconst 0, 1) := by decide +kernel
theorem dX8_isSum_159 : decode cX8_isSum 159 = .ok (.istore_n 2, 1) := by decide +kernel
theorem dX8_isSum_160 : decode cX8_isSum 160 = .ok (.iinc 3 1, 3) := by decide +kernel
theorem dX8_isSum_163 : decode cX8_isSum 163 = .ok (.goto (-109), 3) := by decide +kernel
theorem dX8_isSum_166 : decode cX8_isSum 166 = .ok (.iload_n 2, 1) := by decide +kernel
theorem dX8_isSum_167 : decode cX8_isSum 167 = .ok (.ireturn, 1) := by decide +kernel
theorem dX8_layRow_0 : decode cX8_layRow 0 = .ok (.aload_n 0, 1) := by decide +kernel
theorem dX8_layRow_1 : decode cX8_layRow 1 = .ok (.getfield 7, 3) := by decide +kernel
theorem dX8_layRow_4 : decode cX8_layRow 4 = .ok (.aload_n 0, 1) := by decide +kernel
theorem dX8_layRow_5 : decode cX8_layRow 5 = .ok (.getfield 60, 3) := by decide +kernel
theorem dX8_layRow_8 : decode cX8_layRow 8 = .ok (.iload_n 1, 1) := by decide +kernel
theorem dX8_layRow_9 : decode cX8_layRow 9 = .ok (.iaload, 1) := by decide +kernel
theorem dX8_layRow_10 : decode cX8_layRow 10 = .ok (.iaload, 1) := by decide +kernel
theorem dX8_layRow_11 : decode cX8_layRow 11 = .ok (.istore_n 3, 1) := by decide +kernel
theorem dX8_layRow_12 : decode cX8_layRow 12 = .ok (.aload_n 0, 1) := by decide +kernel
theorem dX8_layRow_13 : decode cX8_layRow 13 = .ok (.getfield 7, 3) := by decide +kernel
theorem dX8_layRow_16 : decode cX8_layRow 16 = .ok (.aload_n 0, 1) := by decide +kernel
theorem dX8_layRow_17 : decode cX8_layRow 17 = .ok (.getfield 63, 3) := by decide +kernel
theorem dX8_layRow_20 : decode cX8_layRow 20 = .ok (.iload_n 1, 1) := by decide +kernel
theorem dX8_layRow_21 : decode cX8_layRow 21 = .ok (.iaload, 1) := by decide +kernel
theorem dX8_layRow_22 : decode cX8_layRow 22 = .ok (.iaload, 1) := by decide +kernel
theorem dX8_layRow_23 : decode cX8_layRow 23 = .ok (.istore 4, 2) := by decide +kernel
theorem dX8_layRow_25 : decode cX8_layRow 25 = .ok (.iconst 0, 1) := by decide +kernel
theorem dX8_layRow_26 : decode cX8_layRow 26 = .ok (.istore 5, 2) := by decide +kernel
theorem dX8_layRow_28 : decode cX8_layRow 28 = .ok (.iload 5, 2) := by decide +kernel
theorem dX8_layRow_30 : decode cX8_layRow 30 = .ok (.iload_n 3, 1) := by decide +kernel
theorem dX8_layRow_31 : decode cX8_layRow 31 = .ok (.if_icmp .gt 103, 3) := by decide +kernel
theorem dX8_layRow_34 : decode cX8_layRow 34 = .ok (.aload_n 0, 1) := by decide +kernel
theorem dX8_layRow_35 : decode cX8_layRow 35 = .ok (.getfield 69, 3) := by decide +kernel
theorem dX8_layRow_38 : decode cX8_layRow 38 = .ok (.iload 5, 2) := by decide +kernel
theorem dX8_layRow_40 : decode cX8_layRow 40 = .ok (.iload 5, 2) := by decide +kernel
theorem dX8_layRow_42 : decode cX8_layRow 42 = .ok (.iload_n 3, 1) := by decide +kernel
theorem dX8_layRow_43 : decode cX8_layRow 43 = .ok (.if_icmp .ne 17, 3) := by decide +kernel
theorem dX8_layRow_46 : decode cX8_layRow 46 = .ok (.aload_n 0, 1) := by decide +kernel
theorem dX8_layRow_47 : decode cX8_layRow 47 = .ok (.getfield 72, 3) := by decide +kernel
theorem dX8_layRow_50 : decode cX8_layRow 50 = .ok (.iconst 5, 1) := by decide +kernel
theorem dX8_layRow_51 : decode cX8_layRow 51 = .ok (.iload_n 2, 1) := by decide +kernel
theorem dX8_layRow_52 : decode cX8_layRow 52 = .ok (.imul, 1) := by decide +kernel
theorem dX8_layRow_53 : decode cX8_layRow 53 = .ok (.iload 4, 2) := by decide +kernel
theorem dX8_layRow_55 : decode cX8_layRow 55 = .ok (.iadd, 1) := by decide +kernel
theorem dX8_layRow_56 : decode cX8_layRow 56 = .ok (.laload, 1) := by decide +kernel
theorem dX8_layRow_57 : decode cX8_layRow 57 = .ok (.goto 4, 3) := by decide +kernel
theorem dX8_layRow_60 : decode cX8_layRow 60 = .ok (.lconst 0, 1) := by decide +kernel
theorem dX8_layRow_61 : decode cX8_layRow 61 = .ok (.lastore, 1) := by decide +kernel
theorem dX8_layRow_62 : decode cX8_layRow 62 = .ok (.iconst 0, 1) := by decide +kernel
theorem dX8_layRow_63 : decode cX8_layRow 63 = .ok (.istore 6, 2) := by decide +kernel
theorem dX8_layRow_65 : decode cX8_layRow 65 = .ok (.iload 6, 2) := by decide +kernel
theorem dX8_layRow_67 : decode cX8_layRow 67 = .ok (.iload 4, 2) := by decide +kernel
theorem dX8_layRow_69 : decode cX8_layRow 69 = .ok (.if_icmp .ge 59, 3) := by decide +kernel
theorem dX8_layRow_72 : decode cX8_layRow 72 = .ok (.aload_n 0, 1) := by decide +kernel
theorem dX8_layRow_73 : decode cX8_layRow 73 = .ok (.getfield 69, 3) := by decide +kernel
theorem dX8_layRow_76 : decode cX8_layRow 76 = .ok (.iload 5, 2) := by decide +kernel
theorem dX8_layRow_78 : decode cX8_layRow 78 = .ok (.dup2, 1) := by decide +kernel
theorem dX8_layRow_79 : decode cX8_layRow 79 = .ok (.laload, 1) := by decide +kernel
theorem dX8_layRow_80 : decode cX8_layRow 80 = .ok (.aload_n 0, 1) := by decide +kernel
theorem dX8_layRow_81 : decode cX8_layRow 81 = .ok (.getfield 72, 3) := by decide +kernel
theorem dX8_layRow_84 : decode cX8_layRow 84 = .ok (.iconst 5, 1) := by decide +kernel
theorem dX8_layRow_85 : decode cX8_layRow 85 = .ok (.iload_n 2, 1) := by decide +kernel
theorem dX8_layRow_86 : decode cX8_layRow 86 = .ok (.imul, 1) := by decide +kernel
theorem dX8_layRow_87 : decode cX8_layRow 87 = .ok (.iload 6, 2) := by decide +kernel
theorem dX8_layRow_89 : decode cX8_layRow 89 = .ok (.iadd, 1) := by decide +kernel
theorem dX8_layRow_90 : decode cX8_layRow 90 = .ok (.laload, 1) := by decide +kernel
theorem dX8_layRow_91 : decode cX8_layRow 91 = .ok (.aload_n 0, 1) := by decide +kernel
theorem dX8_layRow_92 : decode cX8_layRow 92 = .ok (.getfield 66, 3) := by decide +kernel
theorem dX8_layRow_95 : decode cX8_layRow 95 = .ok (.bipush 20, 2) := by decide +kernel
theorem dX8_layRow_97 : decode cX8_layRow 97 = .ok (.iload_n 1, 1) := by decide +kernel
theorem dX8_layRow_98 : decode cX8_layRow 98 = .ok (.imul, 1) := by decide +kernel
theorem dX8_layRow_99 : decode cX8_layRow 99 = .ok (.iconst 5, 1) := by decide +kernel
theorem dX8_layRow_100 : decode cX8_layRow 100 = .ok (.iload 6, 2) := by decide +kernel
theorem dX8_layRow_102 : decode cX8_layRow 102 = .ok (.imul, 1) := by decide +kernel
theorem dX8_layRow_103 : decode cX8_layRow 103 = .ok (.iadd, 1) := by decide +kernel
theorem dX8_layRow_104 : decode cX8_layRow 104 = .ok (.iload 5, 2) := by decide +kernel
theorem dX8_layRow_106 : decode cX8_layRow 106 = .ok (.iload_n 3, 1) := by decide +kernel
theorem dX8_layRow_107 : decode cX8_layRow 107 = .ok (.if_icmp .ne 7, 3) := by decide +kernel
theorem dX8_layRow_110 : decode cX8_layRow 110 = .ok (.iconst 4, 1) := by decide +kernel
theorem dX8_layRow_111 : decode cX8_layRow 111 = .ok (.goto 5, 3) := by decide +kernel
theorem dX8_layRow_114 : decode cX8_layRow 114 = .ok (.iload 5, 2) := by decide +kernel
theorem dX8_layRow_116 : decode cX8_layRow 116 = .ok (.iadd, 1) := by decide +kernel
theorem dX8_layRow_117 : decode cX8_layRow 117 = .ok (.iaload, 1) := by decide +kernel
theorem dX8_layRow_118 : decode cX8_layRow 118 = .ok (.i2l, 1) := by decide +kernel
theorem dX8_layRow_119 : decode cX8_layRow 119 = .ok (.lmul, 1) := by decide +kernel
theorem dX8_layRow_120 : decode cX8_layRow 120 = .ok (.ladd, 1) := by decide +kernel
theorem dX8_layRow_121 : decode cX8_layRow 121 = .ok (.lastore, 1) := by decide +kernel
theorem dX8_layRow_122 : decode cX8_layRow 122 = .ok (.iinc 6 1, 3) := by decide +kernel
theorem dX8_layRow_125 : decode cX8_layRow 125 = .ok (.goto (-60), 3) := by decide +kernel
theorem dX8_layRow_128 : decode cX8_layRow 128 = .ok (.iinc 5 1, 3) := by decide +kernel
theorem dX8_layRow_131 : decode cX8_layRow 131 = .ok (.goto (-103), 3) := by decide +kernel
theorem dX8_layRow_134 : decode cX8_layRow 134 = .ok (.return_, 1) := by decide +kernel
theorem dX8_kept_0 : decode cX8_kept 0 = .ok (.aload_n 0, 1) := by decide +kernel
theorem dX8_kept_1 : decode cX8_kept 1 = .ok (.getfield 109, 3) := by decide +kernel
theorem dX8_kept_4 : decode cX8_kept 4 = .ok (.ifCond .ge 6, 3) := by decide +kernel
theorem dX8_kept_7 : decode cX8_kept 7 = .ok (.bipush (-3), 2) := by decide +kernel
theorem dX8_kept_9 : decode cX8_kept 9 = .ok (.ireturn, 1) := by decide +kernel
theorem dX8_kept_10 : decode cX8_kept 10 = .ok (.aload_n 0, 1) := by decide +kernel
theorem dX8_kept_11 : decode cX8_kept 11 = .ok (.aload_n 0, 1) := by decide +kernel
theorem dX8_kept_12 : decode cX8_kept 12 = .ok (.getfield 109, 3) := by decide +kernel
theorem dX8_kept_15 : decode cX8_kept 15 = .ok (.iconst 0, 1) := by decide +kernel
theorem dX8_kept_16 : decode cX8_kept 16 = .ok (.invokevirtual 236, 3) := by decide +kernel
theorem dX8_kept_19 : decode cX8_kept 19 = .ok (.iconst 0, 1) := by decide +kernel
theorem dX8_kept_20 : decode cX8_kept 20 = .ok (.istore_n 1, 1) := by decide +kernel
theorem dX8_kept_21 : decode cX8_kept 21 = .ok (.iload_n 1, 1) := by decide +kernel
theorem dX8_kept_22 : decode cX8_kept 22 = .ok (.aload_n 0, 1) := by decide +kernel
theorem dX8_kept_23 : decode cX8_kept 23 = .ok (.getfield 230, 3) := by decide +kernel
theorem dX8_kept_26 : decode cX8_kept 26 = .ok (.if_icmp .ge 85, 3) := by decide +kernel
theorem dX8_kept_29 : decode cX8_kept 29 = .ok (.aload_n 0, 1) := by decide +kernel
theorem dX8_kept_30 : decode cX8_kept 30 = .ok (.getfield 54, 3) := by decide +kernel
theorem dX8_kept_33 : decode cX8_kept 33 = .ok (.iconst 5, 1) := by decide +kernel
theorem dX8_kept_34 : decode cX8_kept 34 = .ok (.iload_n 1, 1) := by decide +kernel
theorem dX8_kept_35 : decode cX8_kept 35 = .ok (.imul, 1) := by decide +kernel
theorem dX8_kept_36 : decode cX8_kept 36 = .ok (.aload_n 0, 1) := by decide +kernel
theorem dX8_kept_37 : decode cX8_kept 37 = .ok (.getfield 7, 3) := by decide +kernel
theorem dX8_kept_40 : decode cX8_kept 40 = .ok (.aload_n 0, 1) := by decide +kernel
theorem dX8_kept_41 : decode cX8_kept 41 = .ok (.getfield 109, 3) := by decide +kernel
theorem dX8_kept_44 : decode cX8_kept 44 = .ok (.iaload, 1) := by decide +kernel
theorem dX8_kept_45 : decode cX8_kept 45 = .ok (.iadd, 1) := by decide +kernel
theorem dX8_kept_46 : decode cX8_kept 46 = .ok (.laload, 1) := by decide +kernel
theorem dX8_kept_47 : decode cX8_kept 47 = .ok (.lstore_n 2, 1) := by decide +kernel
theorem dX8_kept_48 : decode cX8_kept 48 = .ok (.iconst 0, 1) := by decide +kernel
theorem dX8_kept_49 : decode cX8_kept 49 = .ok (.istore 4, 2) := by decide +kernel
theorem dX8_kept_51 : decode cX8_kept 51 = .ok (.iload 4, 2) := by decide +kernel
theorem dX8_kept_53 : decode cX8_kept 53 = .ok (.aload_n 0, 1) := by decide +kernel
theorem dX8_kept_54 : decode cX8_kept 54 = .ok (.getfield 7, 3) := by decide +kernel
theorem dX8_kept_57 : decode cX8_kept 57 = .ok (.aload_n 0, 1) := by decide +kernel
theorem dX8_kept_58 : decode cX8_kept 58 = .ok (.getfield 109, 3) := by decide +kernel
theorem dX8_kept_61 : decode cX8_kept 61 = .ok (.iaload, 1) := by decide +kernel
theorem dX8_kept_62 : decode cX8_kept 62 = .ok (.if_icmp .ge 32, 3) := by decide +kernel
theorem dX8_kept_65 : decode cX8_kept 65 = .ok (.lload_n 2, 1) := by decide +kernel
theorem dX8_kept_66 : decode cX8_kept 66 = .ok (.aload_n 0, 1) := by decide +kernel
theorem dX8_kept_67 : decode cX8_kept 67 = .ok (.getfield 54, 3) := by decide +kernel
theorem dX8_kept_70 : decode cX8_kept 70 = .ok (.iconst 5, 1) := by decide +kernel
theorem dX8_kept_71 : decode cX8_kept 71 = .ok (.iload_n 1, 1) := by decide +kernel
theorem dX8_kept_72 : decode cX8_kept 72 = .ok (.imul, 1) := by decide +kernel
theorem dX8_kept_73 : decode cX8_kept 73 = .ok (.iload 4, 2) := by decide +kernel
theorem dX8_kept_75 : decode cX8_kept 75 = .ok (.iadd, 1) := by decide +kernel
theorem dX8_kept_76 : decode cX8_kept 76 = .ok (.laload, 1) := by decide +kernel
theorem dX8_kept_77 : decode cX8_kept 77 = .ok (.aload_n 0, 1) := by decide +kernel
theorem dX8_kept_78 : decode cX8_kept 78 = .ok (.getfield 57, 3) := by decide +kernel
theorem dX8_kept_81 : decode cX8_kept 81 = .ok (.iload 4, 2) := by decide +kernel
theorem dX8_kept_83 : decode cX8_kept 83 = .ok (.iaload, 1) := by decide +kernel
theorem dX8_kept_84 : decode cX8_kept 84 = .ok (.i2l, 1) := by decide +kernel
theorem dX8_kept_85 : decode cX8_kept 85 = .ok (.lmul, 1) := by decide +kernel
theorem dX8_kept_86 : decode cX8_kept 86 = .ok (.ladd, 1) := by decide +kernel
theorem dX8_kept_87 : decode cX8_kept 87 = .ok (.lstore_n 2, 1) := by decide +kernel
theorem dX8_kept_88 : decode cX8_kept 88 = .ok (.iinc 4 1, 3) := by decide +kernel
theorem dX8_kept_91 : decode cX8_kept 91 = .ok (.goto (-40), 3) := by decide +kernel
theorem dX8_kept_94 : decode cX8_kept 94 = .ok (.lload_n 2, 1) := by decide +kernel
theorem dX8_kept_95 : decode cX8_kept 95 = .ok (.lconst 0, 1) := by decide +kernel
theorem dX8_kept_96 : decode cX8_kept 96 = .ok (.lcmp, 1) := by decide +kernel
theorem dX8_kept_97 : decode cX8_kept 97 = .ok (.ifCond .eq 8, 3) := by decide +kernel
theorem dX8_kept_100 : decode cX8_kept 100 = .ok (.bipush (-20), 2) := by decide +kernel
theorem dX8_kept_102 : decode cX8_kept 102 = .ok (.iload_n 1, 1) := by decide +kernel
theorem dX8_kept_103 : decode cX8_kept 103 = .ok (.isub, 1) := by decide +kernel
theorem dX8_kept_104 : decode cX8_kept 104 = .ok (.ireturn, 1) := by decide +kernel
theorem dX8_kept_105 : decode cX8_kept 105 = .ok (.iinc 1 1, 3) := by decide +kernel
theorem dX8_kept_108 : decode cX8_kept 108 = .ok (.goto (-87), 3) := by decide +kernel
theorem dX8_kept_111 : decode cX8_kept 111 = .ok (.iconst 0, 1) := by decide +kernel
theorem dX8_kept_112 : decode cX8_kept 112 = .ok (.istore_n 1, 1) := by decide +kernel
theorem dX8_kept_113 : decode cX8_kept 113 = .ok (.iload_n 1, 1) := by decide +kernel
theorem dX8_kept_114 : decode cX8_kept 114 = .ok (.aload_n 0, 1) := by decide +kernel
theorem dX8_kept_115 : decode cX8_kept 115 = .ok (.getfield 241, 3) := by decide +kernel
theorem dX8_kept_118 : decode cX8_kept 118 = .ok (.if_icmp .ge 93, 3) := by decide +kernel
theorem dX8_kept_121 : decode cX8_kept 121 = .ok (.aload_n 0, 1) := by decide +kernel
theorem dX8_kept_122 : decode cX8_kept 122 = .ok (.aload_n 0, 1) := by decide +kernel
theorem dX8_kept_123 : decode cX8_kept 123 = .ok (.getfield 63, 3) := by decide +kernel
theorem dX8_kept_126 : decode cX8_kept 126 = .ok (.iload_n 1, 1) := by decide +kernel
theorem dX8_kept_127 : decode cX8_kept 127 = .ok (.iaload, 1) := by decide +kernel
theorem dX8_kept_128 : decode cX8_kept 128 = .ok (.iconst 0, 1) := by decide +kernel
theorem dX8_kept_129 : decode cX8_kept 129 = .ok (.invokevirtual 236, 3) := by decide +kernel
theorem dX8_kept_132 : decode cX8_kept 132 = .ok (.aload_n 0, 1) := by decide +kernel
theorem dX8_kept_133 : decode cX8_kept 133 = .ok (.getfield 230, 3) := by decide +kernel
theorem dX8_kept_136 : decode cX8_kept 136 = .ok (.istore_n 2, 1) := by decide +kernel
theorem dX8_kept_137 : decode cX8_kept 137 = .ok (.iconst 0, 1) := by decide +kernel
theorem dX8_kept_138 : decode cX8_kept 138 = .ok (.istore_n 3, 1) := by decide +kernel
theorem dX8_kept_139 : decode cX8_kept 139 = .ok (.iload_n 3, 1) := by decide +kernel
theorem dX8_kept_140 : decode cX8_kept 140 = .ok (.bipush 25, 2) := by decide +kernel
theorem dX8_kept_142 : decode cX8_kept 142 = .ok (.if_icmp .ge 21, 3) := by decide +kernel
theorem dX8_kept_145 : decode cX8_kept 145 = .ok (.aload_n 0, 1) := by decide +kernel
theorem dX8_kept_146 : decode cX8_kept 146 = .ok (.getfield 72, 3) := by decide +kernel
theorem dX8_kept_149 : decode cX8_kept 149 = .ok (.iload_n 3, 1) := by decide +kernel
theorem dX8_kept_150 : decode cX8_kept 150 = .ok (.aload_n 0, 1) := by decide +kernel
theorem dX8_kept_151 : decode cX8_kept 151 = .ok (.getfield 54, 3) := by decide +kernel
theorem dX8_kept_154 : decode cX8_kept 154 = .ok (.iload_n 3, 1) := by decide +kernel
theorem dX8_kept_155 : decode cX8_kept 155 = .ok (.laload, 1) := by decide +kernel
theorem dX8_kept_156 : decode cX8_kept 156 = .ok (.lastore, 1) := by decide +kernel
theorem dX8_kept_157 : decode cX8_kept 157 = .ok (.iinc 3 1, 3) := by decide +kernel
theorem dX8_kept_160 : decode cX8_kept 160 = .ok (.goto (-21), 3) := by decide +kernel
theorem dX8_kept_163 : decode cX8_kept 163 = .ok (.iconst 0, 1) := by decide +kernel
theorem dX8_kept_164 : decode cX8_kept 164 = .ok (.istore_n 3, 1) := by decide +kernel
theorem dX8_kept_165 : decode cX8_kept 165 = .ok (.iload_n 3, 1) := by decide +kernel
theorem dX8_kept_166 : decode cX8_kept 166 = .ok (.iload_n 2, 1) := by decide +kernel
theorem dX8_kept_167 : decode cX8_kept 167 = .ok (.if_icmp .ge 38, 3) := by decide +kernel
theorem dX8_kept_170 : decode cX8_kept 170 = .ok (.aload_n 0, 1) := by decide +kernel
theorem dX8_kept_171 : decode cX8_kept 171 = .ok (.iload_n 1, 1) := by decide +kernel
theorem dX8_kept_172 : decode cX8_kept 172 = .ok (.iload_n 3, 1) := by decide +kernel
theorem dX8_kept_173 : decode cX8_kept 173 = .ok (.invokevirtual 247, 3) := by decide +kernel
theorem dX8_kept_176 : decode cX8_kept 176 = .ok (.aload_n 0, 1) := by decide +kernel
theorem dX8_kept_177 : decode cX8_kept 177 = .ok (.aload_n 0, 1) := by decide +kernel
theorem dX8_kept_178 : decode cX8_kept 178 = .ok (.getfield 60, 3) := by decide +kernel
theorem dX8_kept_181 : decode cX8_kept 181 = .ok (.iload_n 1, 1) := by decide +kernel
theorem dX8_kept_182 : decode cX8_kept 182 = .ok (.iaload, 1) := by decide +kernel
theorem dX8_kept_183 : decode cX8_kept 183 = .ok (.invokevirtual 250, 3) := by decide +kernel
theorem dX8_kept_186 : decode cX8_kept 186 = .ok (.ifCond .ne 13, 3) := by decide +kernel
theorem dX8_kept_189 : decode cX8_kept 189 = .ok (.bipush (-120), 2) := by decide +kernel
theorem dX8_kept_191 : decode cX8_kept 191 = .ok (.bipush 100, 2) := by decide +kernel
theorem dX8_kept_193 : decode cX8_kept 193 = .ok (.iload_n 1, 1) := by decide +kernel
theorem dX8_kept_194 : decode cX8_kept 194 = .ok (.imul, 1) := by decide +kernel
theorem dX8_kept_195 : decode cX8_kept 195 = .ok (.isub, 1) := by decide +kernel
theorem dX8_kept_196 : decode cX8_kept 196 = .ok (.iload_n 3, 1) := by decide +kernel
theorem dX8_kept_197 : decode cX8_kept 197 = .ok (.isub, 1) := by decide +kernel
theorem dX8_kept_198 : decode cX8_kept 198 = .ok (.ireturn, 1) := by decide +kernel
theorem dX8_kept_199 : decode cX8_kept 199 = .ok (.iinc 3 1, 3) := by decide +kernel
theorem dX8_kept_202 : decode cX8_kept 202 = .ok (.goto (-37), 3) := by decide +kernel
theorem dX8_kept_205 : decode cX8_kept 205 = .ok (.iinc 1 1, 3) := by decide +kernel
theorem dX8_kept_208 : decode cX8_kept 208 = .ok (.goto (-95), 3) := by decide +kernel
theorem dX8_kept_211 : decode cX8_kept 211 = .ok (.iconst 1, 1) := by decide +kernel
theorem dX8_kept_212 : decode cX8_kept 212 = .ok (.ireturn, 1) := by decide +kernel
theorem dX8_begin_0 : decode cX8_begin 0 = .ok (.aload_n 0, 1) := by decide +kernel
theorem dX8_begin_1 : decode cX8_begin 1 = .ok (.getfield 75, 3) := by decide +kernel
theorem dX8_begin_4 : decode cX8_begin 4 = .ok (.iconst 0, 1) := by decide +kernel
theorem dX8_begin_5 : decode cX8_begin 5 = .ok (.aload_n 0, 1) := by decide +kernel
theorem dX8_begin_6 : decode cX8_begin 6 = .ok (.getfield 109, 3) := by decide +kernel
theorem dX8_begin_9 : decode cX8_begin 9 = .ok (.iastore, 1) := by decide +kernel
theorem dX8_begin_10 : decode cX8_begin 10 = .ok (.iconst 0, 1) := by decide +kernel
theorem dX8_begin_11 : decode cX8_begin 11 = .ok (.istore_n 1, 1) := by decide +kernel
theorem dX8_begin_12 : decode cX8_begin 12 = .ok (.iload_n 1, 1) := by decide +kernel
theorem dX8_begin_13 : decode cX8_begin 13 = .ok (.iconst 4, 1) := by decide +kernel
theorem dX8_begin_14 : decode cX8_begin 14 = .ok (.if_icmp .ge 21, 3) := by decide +kernel
theorem dX8_begin_17 : decode cX8_begin 17 = .ok (.aload_n 0, 1) := by decide +kernel
theorem dX8_begin_18 : decode cX8_begin 18 = .ok (.getfield 78, 3) := by decide +kernel
theorem dX8_begin_21 : decode cX8_begin 21 = .ok (.iload_n 1, 1) := by decide +kernel
theorem dX8_begin_22 : decode cX8_begin 22 = .ok (.aload_n 0, 1) := by decide +kernel
theorem dX8_begin_23 : decode cX8_begin 23 = .ok (.getfield 57, 3) := by decide +kernel
theorem dX8_begin_26 : decode cX8_begin 26 = .ok (.iload_n 1, 1) := by decide +kernel
theorem dX8_begin_27 : decode cX8_begin 27 = .ok (.iaload, 1) := by decide +kernel
theorem dX8_begin_28 : decode cX8_begin 28 = .ok (.iastore, 1) := by decide +kernel
theorem dX8_begin_29 : decode cX8_begin 29 = .ok (.iinc 1 1, 3) := by decide +kernel
theorem dX8_begin_32 : decode cX8_begin 32 = .ok (.goto (-20), 3) := by decide +kernel
theorem dX8_begin_35 : decode cX8_begin 35 = .ok (.return_, 1) := by decide +kernel
theorem dX8_leads_0 : decode cX8_leads 0 = .ok (.iconst 1, 1) := by decide +kernel
theorem dX8_leads_1 : decode cX8_leads 1 = .ok (.istore_n 3, 1) := by decide +kernel
theorem dX8_leads_2 : decode cX8_leads 2 = .ok (.aload_n 0, 1) := by decide +kernel
theorem dX8_leads_3 : decode cX8_leads 3 = .ok (.getfield 75, 3) := by decide +kernel
theorem dX8_leads_6 : decode cX8_leads 6 = .ok (.iload_n 1, 1) := by decide +kernel
theorem dX8_leads_7 : decode cX8_leads 7 = .ok (.iconst 1, 1) := by decide +kernel
theorem dX8_leads_8 : decode cX8_leads 8 = .ok (.iadd, 1) := by decide +kernel
theorem dX8_leads_9 : decode cX8_leads 9 = .ok (.aload_n 0, 1) := by decide +kernel
theorem dX8_leads_10 : decode cX8_leads 10 = .ok (.getfield 63, 3) := by decide +kernel
theorem dX8_leads_13 : decode cX8_leads 13 = .ok (.iload_n 2, 1) := by decide +kernel
theorem dX8_leads_14 : decode cX8_leads 14 = .ok (.iaload, 1) := by decide +kernel
theorem dX8_leads_15 : decode cX8_leads 15 = .ok (.iastore, 1) := by decide +kernel
theorem dX8_leads_16 : decode cX8_leads 16 = .ok (.iconst 0, 1) := by decide +kernel
theorem dX8_leads_17 : decode cX8_leads 17 = .ok (.istore 4, 2) := by decide +kernel
theorem dX8_leads_19 : decode cX8_leads 19 = .ok (.iload 4, 2) := by decide +kernel
theorem dX8_leads_21 : decode cX8_leads 21 = .ok (.aload_n 0, 1) := by decide +kernel
theorem dX8_leads_22 : decode cX8_leads 22 = .ok (.getfield 7, 3) := by decide +kernel
theorem dX8_leads_25 : decode cX8_leads 25 = .ok (.aload_n 0, 1) := by decide +kernel
theorem dX8_leads_26 : decode cX8_leads 26 = .ok (.getfield 63, 3) := by decide +kernel
theorem dX8_leads_29 : decode cX8_leads 29 = .ok (.iload_n 2, 1) := by decide +kernel
theorem dX8_leads_30 : decode cX8_leads 30 = .ok (.iaload, 1) := by decide +kernel
theorem dX8_leads_31 : decode cX8_leads 31 = .ok (.iaload, 1) := by decide +kernel
theorem dX8_leads_32 : decode cX8_leads 32 = .ok (.if_icmp .ge 123, 3) := by decide +kernel
theorem dX8_leads_35 : decode cX8_leads 35 = .ok (.aload_n 0, 1) := by decide +kernel
theorem dX8_leads_36 : decode cX8_leads 36 = .ok (.getfield 66, 3) := by decide +kernel
theorem dX8_leads_39 : decode cX8_leads 39 = .ok (.bipush 20, 2) := by decide +kernel
theorem dX8_leads_41 : decode cX8_leads 41 = .ok (.iload_n 2, 1) := by decide +kernel
theorem dX8_leads_42 : decode cX8_leads 42 = .ok (.imul, 1) := by decide +kernel
theorem dX8_leads_43 : decode cX8_leads 43 = .ok (.iconst 5, 1) := by decide +kernel
theorem dX8_leads_44 : decode cX8_leads 44 = .ok (.iload 4, 2) := by decide +kernel
theorem dX8_leads_46 : decode cX8_leads 46 = .ok (.imul, 1) := by decide +kernel
theorem dX8_leads_47 : decode cX8_leads 47 = .ok (.iadd, 1) := by decide +kernel
theorem dX8_leads_48 : decode cX8_leads 48 = .ok (.iconst 4, 1) := by decide +kernel
theorem dX8_leads_49 : decode cX8_leads 49 = .ok (.iadd, 1) := by decide +kernel
theorem dX8_leads_50 : decode cX8_leads 50 = .ok (.iaload, 1) := by decide +kernel
theorem dX8_leads_51 : decode cX8_leads 51 = .ok (.istore 5, 2) := by decide +kernel
theorem dX8_leads_53 : decode cX8_leads 53 = .ok (.iconst 0, 1) := by decide +kernel
theorem dX8_leads_54 : decode cX8_leads 54 = .ok (.istore 6, 2) := by decide +kernel
theorem dX8_leads_56 : decode cX8_leads 56 = .ok (.iload 6, 2) := by decide +kernel
theorem dX8_leads_58 : decode cX8_leads 58 = .ok (.aload_n 0, 1) := by decide +kernel
theorem dX8_leads_59 : decode cX8_leads 59 = .ok (.getfield 7, 3) := by decide +kernel
theorem dX8_leads_62 : decode cX8_leads 62 = .ok (.aload_n 0, 1) := by decide +kernel
theorem dX8_leads_63 : decode cX8_leads 63 = .ok (.getfield 60, 3) := by decide +kernel
theorem dX8_leads_66 : decode cX8_leads 66 = .ok (.iload_n 2, 1) := by decide +kernel
theorem dX8_leads_67 : decode cX8_leads 67 = .ok (.iaload, 1) := by decide +kernel
theorem dX8_leads_68 : decode cX8_leads 68 = .ok (.iaload, 1) := by decide +kernel
theorem dX8_leads_69 : decode cX8_leads 69 = .ok (.if_icmp .ge 43, 3) := by decide +kernel
theorem dX8_leads_72 : decode cX8_leads 72 = .ok (.iload 5, 2) := by decide +kernel
theorem dX8_leads_74 : decode cX8_leads 74 = .ok (.aload_n 0, 1) := by decide +kernel
theorem dX8_leads_75 : decode cX8_leads 75 = .ok (.getfield 66, 3) := by decide +kernel
theorem dX8_leads_78 : decode cX8_leads 78 = .ok (.bipush 20, 2) := by decide +kernel
theorem dX8_leads_80 : decode cX8_leads 80 = .ok (.iload_n 2, 1) := by decide +kernel
theorem dX8_leads_81 : decode cX8_leads 81 = .ok (.imul, 1) := by decide +kernel
theorem dX8_leads_82 : decode cX8_leads 82 = .ok (.iconst 5, 1) := by decide +kernel
theorem dX8_leads_83 : decode cX8_leads 83 = .ok (.iload 4, 2) := by decide +kernel
theorem dX8_leads_85 : decode cX8_leads 85 = .ok (.imul, 1) := by decide +kernel
theorem dX8_leads_86 : decode cX8_leads 86 = .ok (.iadd, 1) := by decide +kernel
theorem dX8_leads_87 : decode cX8_leads 87 = .ok (.iload 6, 2) := by decide +kernel
theorem dX8_leads_89 : decode cX8_leads 89 = .ok (.iadd, 1) := by decide +kernel
theorem dX8_leads_90 : decode cX8_leads 90 = .ok (.iaload, 1) := by decide +kernel
theorem dX8_leads_91 : decode cX8_leads 91 = .ok (.aload_n 0, 1) := by decide +kernel
theorem dX8_leads_92 : decode cX8_leads 92 = .ok (.getfield 78, 3) := by decide +kernel
theorem dX8_leads_95 : decode cX8_leads 95 = .ok (.iconst 4, 1) := by decide +kernel
theorem dX8_leads_96 : decode cX8_leads 96 = .ok (.iload_n 1, 1) := by decide +kernel
theorem dX8_leads_97 : decode cX8_leads 97 = .ok (.imul, 1) := by decide +kernel
theorem dX8_leads_98 : decode cX8_leads 98 = .ok (.iload 6, 2) := by decide +kernel
theorem dX8_leads_100 : decode cX8_leads 100 = .ok (.iadd, 1) := by decide +kernel
theorem dX8_leads_101 : decode cX8_leads 101 = .ok (.iaload, 1) := by decide +kernel
theorem dX8_leads_102 : decode cX8_leads 102 = .ok (.imul, 1) := by decide +kernel
theorem dX8_leads_103 : decode cX8_leads 103 = .ok (.iadd, 1) := by decide +kernel
theorem dX8_leads_104 : decode cX8_leads 104 = .ok (.istore 5, 2) := by decide +kernel
theorem dX8_leads_106 : decode cX8_leads 106 = .ok (.iinc 6 1, 3) := by decide +kernel
theorem dX8_leads_109 : decode cX8_leads 109 = .ok (.goto (-53), 3) := by decide +kernel
theorem dX8_leads_112 : decode cX8_leads 112 = .ok (.aload_n 0, 1) := by decide +kernel
theorem dX8_leads_113 : decode cX8_leads 113 = .ok (.getfield 78, 3) := by decide +kernel
theorem dX8_leads_116 : decode cX8_leads 116 = .ok (.iconst 4, 1) := by decide +kernel
theorem dX8_leads_117 : decode cX8_leads 117 = .ok (.iload_n 1, 1) := by decide +kernel
theorem dX8_leads_118 : decode cX8_leads 118 = .ok (.imul, 1) := by decide +kernel
theorem dX8_leads_119 : decode cX8_leads 119 = .ok (.iconst 4, 1) := by decide +kernel
theorem dX8_leads_120 : decode cX8_leads 120 = .ok (.iadd, 1) := by decide +kernel
theorem dX8_leads_121 : decode cX8_leads 121 = .ok (.iload 4, 2) := by decide +kernel
theorem dX8_leads_123 : decode cX8_leads 123 = .ok (.iadd, 1) := by decide +kernel
theorem dX8_leads_124 : decode cX8_leads 124 = .ok (.iload 5, 2) := by decide +kernel
theorem dX8_leads_126 : decode cX8_leads 126 = .ok (.iastore, 1) := by decide +kernel
theorem dX8_leads_127 : decode cX8_leads 127 = .ok (.iload_n 3, 1) := by decide +kernel
theorem dX8_leads_128 : decode cX8_leads 128 = .ok (.ifCond .eq 19, 3) := by decide +kernel
theorem dX8_leads_131 : decode cX8_leads 131 = .ok (.iload 5, 2) := by decide +kernel
theorem dX8_leads_133 : decode cX8_leads 133 = .ok (.bipush (-30), 2) := by decide +kernel
theorem dX8_leads_135 : decode cX8_leads 135 = .ok (.bipush 30, 2) := by decide +kernel
theorem dX8_leads_137 : decode cX8_leads 137 = .ok (.invokestatic 115, 3) := by decide +kernel
theorem dX8_leads_140 : decode cX8_leads 140 = .ok (.ifCond .eq 7, 3) := by decide +kernel
theorem dX8_leads_143 : decode cX8_leads 143 = .ok (.iconst 1, 1) := by decide +kernel
theorem dX8_leads_144 : decode cX8_leads 144 = .ok (.goto 4, 3) := by decide +kernel
theorem dX8_leads_147 : decode cX8_leads 147 = .ok (.iconst 0, 1) := by decide +kernel
theorem dX8_leads_148 : decode cX8_leads 148 = .ok (.istore_n 3, 1) := by decide +kernel
theorem dX8_leads_149 : decode cX8_leads 149 = .ok (.iinc 4 1, 3) := by decide +kernel
theorem dX8_leads_152 : decode cX8_leads 152 = .ok (.goto (-133), 3) := by decide +kernel
theorem dX8_leads_155 : decode cX8_leads 155 = .ok (.iload_n 3, 1) := by decide +kernel
theorem dX8_leads_156 : decode cX8_leads 156 = .ok (.ireturn, 1) := by decide +kernel
theorem dX8_noteTold_0 : decode cX8_noteTold 0 = .ok (.iconst 0, 1) := by decide +kernel
theorem dX8_noteTold_1 : decode cX8_noteTold 1 = .ok (.istore_n 1, 1) := by decide +kernel
theorem dX8_noteTold_2 : decode cX8_noteTold 2 = .ok (.iload_n 1, 1) := by decide +kernel
theorem dX8_noteTold_3 : decode cX8_noteTold 3 = .ok (.aload_n 0, 1) := by decide +kernel
theorem dX8_noteTold_4 : decode cX8_noteTold 4 = .ok (.getfield 105, 3) := by decide +kernel
theorem dX8_noteTold_7 : decode cX8_noteTold 7 = .ok (.if_icmp .ge 202, 3) := by decide +kernel
theorem dX8_noteTold_10 : decode cX8_noteTold 10 = .ok (.aload_n 0, 1) := by decide +kernel
theorem dX8_noteTold_11 : decode cX8_noteTold 11 = .ok (.iload_n 1, 1) := by decide +kernel
theorem dX8_noteTold_12 : decode cX8_noteTold 12 = .ok (.iconst 0, 1) := by decide +kernel
theorem dX8_noteTold_13 : decode cX8_noteTold 13 = .ok (.iconst 1, 1) := by decide +kernel
theorem dX8_noteTold_14 : decode cX8_noteTold 14 = .ok (.invokevirtual 187, 3) := by decide +kernel
theorem dX8_noteTold_17 : decode cX8_noteTold 17 = .ok (.aload_n 0, 1) := by decide +kernel
theorem dX8_noteTold_18 : decode cX8_noteTold 18 = .ok (.getfield 84, 3) := by decide +kernel
theorem dX8_noteTold_21 : decode cX8_noteTold 21 = .ok (.iload_n 1, 1) := by decide +kernel
theorem dX8_noteTold_22 : decode cX8_noteTold 22 = .ok (.aload_n 0, 1) := by decide +kernel
theorem dX8_noteTold_23 : decode cX8_noteTold 23 = .ok (.getfield 181, 3) := by decide +kernel
theorem dX8_noteTold_26 : decode cX8_noteTold 26 = .ok (.iastore, 1) := by decide +kernel
theorem dX8_noteTold_27 : decode cX8_noteTold 27 = .ok (.iconst 0, 1) := by decide +kernel
theorem dX8_noteTold_28 : decode cX8_noteTold 28 = .ok (.istore_n 2, 1) := by decide +kernel
theorem dX8_noteTold_29 : decode cX8_noteTold 29 = .ok (.iload_n 2, 1) := by decide +kernel
theorem dX8_noteTold_30 : decode cX8_noteTold 30 = .ok (.aload_n 0, 1) := by decide +kernel
theorem dX8_noteTold_31 : decode cX8_noteTold 31 = .ok (.getfield 181, 3) := by decide +kernel
theorem dX8_noteTold_34 : decode cX8_noteTold 34 = .ok (.if_icmp .ge 169, 3) := by decide +kernel
theorem dX8_noteTold_37 : decode cX8_noteTold 37 = .ok (.aload_n 0, 1) := by decide +kernel
theorem dX8_noteTold_38 : decode cX8_noteTold 38 = .ok (.getfield 32, 3) := by decide +kernel
theorem dX8_noteTold_41 : decode cX8_noteTold 41 = .ok (.iload_n 2, 1) := by decide +kernel
theorem dX8_noteTold_42 : decode cX8_noteTold 42 = .ok (.iaload, 1) := by decide +kernel
theorem dX8_noteTold_43 : decode cX8_noteTold 43 = .ok (.istore_n 3, 1) := by decide +kernel
theorem dX8_noteTold_44 : decode cX8_noteTold 44 = .ok (.bipush 100, 2) := by decide +kernel
theorem dX8_noteTold_46 : decode cX8_noteTold 46 = .ok (.iload_n 1, 1) := by decide +kernel
theorem dX8_noteTold_47 : decode cX8_noteTold 47 = .ok (.imul, 1) := by decide +kernel
theorem dX8_noteTold_48 : decode cX8_noteTold 48 = .ok (.iload_n 2, 1) := by decide +kernel
theorem dX8_noteTold_49 : decode cX8_noteTold 49 = .ok (.iadd, 1) := by decide +kernel
theorem dX8_noteTold_50 : decode cX8_noteTold 50 = .ok (.istore 4, 2) := by decide +kernel
theorem dX8_noteTold_52 : decode cX8_noteTold 52 = .ok (.aload_n 0, 1) := by decide +kernel
theorem dX8_noteTold_53 : decode cX8_noteTold 53 = .ok (.getfield 87, 3) := by decide +kernel
theorem dX8_noteTold_56 : decode cX8_noteTold 56 = .ok (.iload 4, 2) := by decide +kernel
theorem dX8_noteTold_58 : decode cX8_noteTold 58 = .ok (.iload_n 3, 1) := by decide +kernel
theorem dX8_noteTold_59 : decode cX8_noteTold 59 = .ok (.iastore, 1) := by decide +kernel
theorem dX8_noteTold_60 : decode cX8_noteTold 60 = .ok (.iload_n 3, 1) := by decide +kernel
theorem dX8_noteTold_61 : decode cX8_noteTold 61 = .ok (.bipush 100, 2) := by decide +kernel
theorem dX8_noteTold_63 : decode cX8_noteTold 63 = .ok (.idiv, 1) := by decide +kernel
theorem dX8_noteTold_64 : decode cX8_noteTold 64 = .ok (.iconst 4, 1) := by decide +kernel
theorem dX8_noteTold_65 : decode cX8_noteTold 65 = .ok (.if_icmp .gt 132, 3) := by decide +kernel
theorem dX8_noteTold_68 : decode cX8_noteTold 68 = .ok (.iload_n 3, 1) := by decide +kernel
theorem dX8_noteTold_69 : decode cX8_noteTold 69 = .ok (.bipush 100, 2) := by decide +kernel
theorem dX8_noteTold_71 : decode cX8_noteTold 71 = .ok (.idiv, 1) := by decide +kernel
theorem dX8_noteTold_72 : decode cX8_noteTold 72 = .ok (.istore 5, 2) := by decide +kernel
theorem dX8_noteTold_74 : decode cX8_noteTold 74 = .ok (.iload_n 3, 1) := by decide +kernel
theorem dX8_noteTold_75 : decode cX8_noteTold 75 = .ok (.bipush 10, 2) := by decide +kernel
theorem dX8_noteTold_77 : decode cX8_noteTold 77 = .ok (.idiv, 1) := by decide +kernel
theorem dX8_noteTold_78 : decode cX8_noteTold 78 = .ok (.bipush 10, 2) := by decide +kernel
theorem dX8_noteTold_80 : decode cX8_noteTold 80 = .ok (.irem, 1) := by decide +kernel
theorem dX8_noteTold_81 : decode cX8_noteTold 81 = .ok (.istore 6, 2) := by decide +kernel
theorem dX8_noteTold_83 : decode cX8_noteTold 83 = .ok (.aload_n 0, 1) := by decide +kernel
theorem dX8_noteTold_84 : decode cX8_noteTold 84 = .ok (.getfield 90, 3) := by decide +kernel
theorem dX8_noteTold_87 : decode cX8_noteTold 87 = .ok (.iload 4, 2) := by decide +kernel
theorem dX8_noteTold_89 : decode cX8_noteTold 89 = .ok (.iload 5, 2) := by decide +kernel
theorem dX8_noteTold_91 : decode cX8_noteTold 91 = .ok (.iconst 1, 1) := by decide +kernel
theorem dX8_noteTold_92 : decode cX8_noteTold 92 = .ok (.if_icmp .ne 17, 3) := by decide +kernel
theorem dX8_noteTold_95 : decode cX8_noteTold 95 = .ok (.aload_n 0, 1) := by decide +kernel
theorem dX8_noteTold_96 : decode cX8_noteTold 96 = .ok (.iload_n 1, 1) := by decide +kernel
theorem dX8_noteTold_97 : decode cX8_noteTold 97 = .ok (.iconst 0, 1) := by decide +kernel
theorem dX8_noteTold_98 : decode cX8_noteTold 98 = .ok (.iload 5, 2) := by decide +kernel
theorem dX8_noteTold_100 : decode cX8_noteTold 100 = .ok (.iload 6, 2) := by decide +kernel
theorem dX8_noteTold_102 : decode cX8_noteTold 102 = .ok (.iconst 2, 1) := by decide +kernel
theorem dX8_noteTold_103 : decode cX8_noteTold 103 = .ok (.invokevirtual 253, 3) := by decide +kernel
theorem dX8_noteTold_106 : decode cX8_noteTold 106 = .ok (.goto 14, 3) := by decide +kernel
theorem dX8_noteTold_109 : decode cX8_noteTold 109 = .ok (.aload_n 0, 1) := by decide +kernel
theorem dX8_noteTold_110 : decode cX8_noteTold 110 = .ok (.iload_n 1, 1) := by decide +kernel
theorem dX8_noteTold_111 : decode cX8_noteTold 111 = .ok (.iconst 0, 1) := by decide +kernel
theorem dX8_noteTold_112 : decode cX8_noteTold 112 = .ok (.iload 5, 2) := by decide +kernel
theorem dX8_noteTold_114 : decode cX8_noteTold 114 = .ok (.iload 6, 2) := by decide +kernel
theorem dX8_noteTold_116 : decode cX8_noteTold 116 = .ok (.iconst 0, 1) := by decide +kernel
theorem dX8_noteTold_117 : decode cX8_noteTold 117 = .ok (.invokevirtual 253, 3) := by decide +kernel
theorem dX8_noteTold_120 : decode cX8_noteTold 120 = .ok (.iastore, 1) := by decide +kernel
theorem dX8_noteTold_121 : decode cX8_noteTold 121 = .ok (.aload_n 0, 1) := by decide +kernel
theorem dX8_noteTold_122 : decode cX8_noteTold 122 = .ok (.getfield 93, 3) := by decide +kernel
theorem dX8_noteTold_125 : decode cX8_noteTold 125 = .ok (.iload 4, 2) := by decide +kernel
theorem dX8_noteTold_127 : decode cX8_noteTold 127 = .ok (.iload 5, 2) := by decide +kernel
theorem dX8_noteTold_129 : decode cX8_noteTold 129 = .ok (.iconst 1, 1) := by decide +kernel
theorem dX8_noteTold_130 : decode cX8_noteTold 130 = .ok (.if_icmp .ne 17, 3) := by decide +kernel
theorem dX8_noteTold_133 : decode cX8_noteTold 133 = .ok (.aload_n 0, 1) := by decide +kernel
theorem dX8_noteTold_134 : decode cX8_noteTold 134 = .ok (.iload_n 1, 1) := by decide +kernel
theorem dX8_noteTold_135 : decode cX8_noteTold 135 = .ok (.iconst 0, 1) := by decide +kernel
theorem dX8_noteTold_136 : decode cX8_noteTold 136 = .ok (.iload 5, 2) := by decide +kernel
theorem dX8_noteTold_138 : decode cX8_noteTold 138 = .ok (.iload 6, 2) := by decide +kernel
theorem dX8_noteTold_140 : decode cX8_noteTold 140 = .ok (.iconst 3, 1) := by decide +kernel
theorem dX8_noteTold_141 : decode cX8_noteTold 141 = .ok (.invokevirtual 253, 3) := by decide +kernel
theorem dX8_noteTold_144 : decode cX8_noteTold 144 = .ok (.goto 24, 3) := by decide +kernel
theorem dX8_noteTold_147 : decode cX8_noteTold 147 = .ok (.iload 5, 2) := by decide +kernel
theorem dX8_noteTold_149 : decode cX8_noteTold 149 = .ok (.iconst 4, 1) := by decide +kernel
theorem dX8_noteTold_150 : decode cX8_noteTold 150 = .ok (.if_icmp .ne 17, 3) := by decide +kernel
theorem dX8_noteTold_153 : decode cX8_noteTold 153 = .ok (.aload_n 0, 1) := by decide +kernel
theorem dX8_noteTold_154 : decode cX8_noteTold 154 = .ok (.iload_n 1, 1) := by decide +kernel
theorem dX8_noteTold_155 : decode cX8_noteTold 155 = .ok (.iconst 0, 1) := by decide +kernel
theorem dX8_noteTold_156 : decode cX8_noteTold 156 = .ok (.iload 5, 2) := by decide +kernel
theorem dX8_noteTold_158 : decode cX8_noteTold 158 = .ok (.iload 6, 2) := by decide +kernel
theorem dX8_noteTold_160 : decode cX8_noteTold 160 = .ok (.iconst 1, 1) := by decide +kernel
theorem dX8_noteTold_161 : decode cX8_noteTold 161 = .ok (.invokevirtual 253, 3) := by decide +kernel
theorem dX8_noteTold_164 : decode cX8_noteTold 164 = .ok (.goto 4, 3) := by decide +kernel
theorem dX8_noteTold_167 : decode cX8_noteTold 167 = .ok (.iconst 0, 1) := by decide +kernel
theorem dX8_noteTold_168 : decode cX8_noteTold 168 = .ok (.iastore, 1) := by decide +kernel
theorem dX8_noteTold_169 : decode cX8_noteTold 169 = .ok (.aload_n 0, 1) := by decide +kernel
theorem dX8_noteTold_170 : decode cX8_noteTold 170 = .ok (.getfield 96, 3) := by decide +kernel
theorem dX8_noteTold_173 : decode cX8_noteTold 173 = .ok (.iload 4, 2) := by decide +kernel
theorem dX8_noteTold_175 : decode cX8_noteTold 175 = .ok (.iload 5, 2) := by decide +kernel
theorem dX8_noteTold_177 : decode cX8_noteTold 177 = .ok (.iconst 1, 1) := by decide +kernel
theorem dX8_noteTold_178 : decode cX8_noteTold 178 = .ok (.if_icmp .ne 17, 3) := by decide +kernel
theorem dX8_noteTold_181 : decode cX8_noteTold 181 = .ok (.aload_n 0, 1) := by decide +kernel
theorem dX8_noteTold_182 : decode cX8_noteTold 182 = .ok (.iload_n 1, 1) := by decide +kernel
theorem dX8_noteTold_183 : decode cX8_noteTold 183 = .ok (.iconst 0, 1) := by decide +kernel
theorem dX8_noteTold_184 : decode cX8_noteTold 184 = .ok (.iload 5, 2) := by decide +kernel
theorem dX8_noteTold_186 : decode cX8_noteTold 186 = .ok (.iload 6, 2) := by decide +kernel
theorem dX8_noteTold_188 : decode cX8_noteTold 188 = .ok (.iconst 4, 1) := by decide +kernel
theorem dX8_noteTold_189 : decode cX8_noteTold 189 = .ok (.invokevirtual 253, 3) := by decide +kernel
theorem dX8_noteTold_192 : decode cX8_noteTold 192 = .ok (.goto 4, 3) := by decide +kernel
theorem dX8_noteTold_195 : decode cX8_noteTold 195 = .ok (.iconst 0, 1) := by decide +kernel
theorem dX8_noteTold_196 : decode cX8_noteTold 196 = .ok (.iastore, 1) := by decide +kernel
theorem dX8_noteTold_197 : decode cX8_noteTold 197 = .ok (.iinc 2 1, 3) := by decide +kernel
theorem dX8_noteTold_200 : decode cX8_noteTold 200 = .ok (.goto (-171), 3) := by decide +kernel
theorem dX8_noteTold_203 : decode cX8_noteTold 203 = .ok (.iinc 1 1, 3) := by decide +kernel
theorem dX8_noteTold_206 : decode cX8_noteTold 206 = .ok (.goto (-204), 3) := by decide +kernel
theorem dX8_noteTold_209 : decode cX8_noteTold 209 = .ok (.return_, 1) := by decide +kernel
theorem dX8_isBroken_0 : decode cX8_isBroken 0 = .ok (.aload_n 0, 1) := by decide +kernel
theorem dX8_isBroken_1 : decode cX8_isBroken 1 = .ok (.getfield 87, 3) := by decide +kernel
theorem dX8_isBroken_4 : decode cX8_isBroken 4 = .ok (.iload_n 1, 1) := by decide +kernel
theorem dX8_isBroken_5 : decode cX8_isBroken 5 = .ok (.iaload, 1) := by decide +kernel
theorem dX8_isBroken_6 : decode cX8_isBroken 6 = .ok (.bipush 100, 2) := by decide +kernel
theorem dX8_isBroken_8 : decode cX8_isBroken 8 = .ok (.idiv, 1) := by decide +kernel
theorem dX8_isBroken_9 : decode cX8_isBroken 9 = .ok (.istore_n 3, 1) := by decide +kernel
theorem dX8_isBroken_10 : decode cX8_isBroken 10 = .ok (.aload_n 0, 1) := by decide +kernel
theorem dX8_isBroken_11 : decode cX8_isBroken 11 = .ok (.getfield 78, 3) := by decide +kernel
theorem dX8_isBroken_14 : decode cX8_isBroken 14 = .ok (.iconst 4, 1) := by decide +kernel
theorem dX8_isBroken_15 : decode cX8_isBroken 15 = .ok (.iload_n 2, 1) := by decide +kernel
theorem dX8_isBroken_16 : decode cX8_isBroken 16 = .ok (.imul, 1) := by decide +kernel
theorem dX8_isBroken_17 : decode cX8_isBroken 17 = .ok (.aload_n 0, 1) := by decide +kernel
theorem dX8_isBroken_18 : decode cX8_isBroken 18 = .ok (.getfield 87, 3) := by decide +kernel
theorem dX8_isBroken_21 : decode cX8_isBroken 21 = .ok (.iload_n 1, 1) := by decide +kernel
theorem dX8_isBroken_22 : decode cX8_isBroken 22 = .ok (.iaload, 1) := by decide +kernel
theorem dX8_isBroken_23 : decode cX8_isBroken 23 = .ok (.bipush 10, 2) := by decide +kernel
theorem dX8_isBroken_25 : decode cX8_isBroken 25 = .ok (.idiv, 1) := by decide +kernel
theorem dX8_isBroken_26 : decode cX8_isBroken 26 = .ok (.bipush 10, 2) := by decide +kernel
theorem dX8_isBroken_28 : decode cX8_isBroken 28 = .ok (.irem, 1) := by decide +kernel
theorem dX8_isBroken_29 : decode cX8_isBroken 29 = .ok (.iadd, 1) := by decide +kernel
theorem dX8_isBroken_30 : decode cX8_isBroken 30 = .ok (.iaload, 1) := by decide +kernel
theorem dX8_isBroken_31 : decode cX8_isBroken 31 = .ok (.istore 4, 2) := by decide +kernel
theorem dX8_isBroken_33 : decode cX8_isBroken 33 = .ok (.aload_n 0, 1) := by decide +kernel
theorem dX8_isBroken_34 : decode cX8_isBroken 34 = .ok (.getfield 78, 3) := by decide +kernel
theorem dX8_isBroken_37 : decode cX8_isBroken 37 = .ok (.iconst 4, 1) := by decide +kernel
theorem dX8_isBroken_38 : decode cX8_isBroken 38 = .ok (.iload_n 2, 1) := by decide +kernel
theorem dX8_isBroken_39 : decode cX8_isBroken 39 = .ok (.imul, 1) := by decide +kernel
theorem dX8_isBroken_40 : decode cX8_isBroken 40 = .ok (.aload_n 0, 1) := by decide +kernel
theorem dX8_isBroken_41 : decode cX8_isBroken 41 = .ok (.getfield 87, 3) := by decide +kernel
theorem dX8_isBroken_44 : decode cX8_isBroken 44 = .ok (.iload_n 1, 1) := by decide +kernel
theorem dX8_isBroken_45 : decode cX8_isBroken 45 = .ok (.iaload, 1) := by decide +kernel
theorem dX8_isBroken_46 : decode cX8_isBroken 46 = .ok (.bipush 10, 2) := by decide +kernel
theorem dX8_isBroken_48 : decode cX8_isBroken 48 = .ok (.irem, 1) := by decide +kernel
theorem dX8_isBroken_49 : decode cX8_isBroken 49 = .ok (.iadd, 1) := by decide +kernel
theorem dX8_isBroken_50 : decode cX8_isBroken 50 = .ok (.iaload, 1) := by decide +kernel
theorem dX8_isBroken_51 : decode cX8_isBroken 51 = .ok (.istore 5, 2) := by decide +kernel
theorem dX8_isBroken_53 : decode cX8_isBroken 53 = .ok (.iload_n 3, 1) := by decide +kernel
theorem dX8_isBroken_54 : decode cX8_isBroken 54 = .ok (.tableswitch 172 0 9 #[54, 71, 110, 127, 144, 172, 172, 172, 172, 170], 54) := by decide +kernel
theorem dX8_isBroken_108 : decode cX8_isBroken 108 = .ok (.iload 4, 2) := by decide +kernel
theorem dX8_isBroken_110 : decode cX8_isBroken 110 = .ok (.aload_n 0, 1) := by decide +kernel
theorem dX8_isBroken_111 : decode cX8_isBroken 111 = .ok (.getfield 90, 3) := by decide +kernel
theorem dX8_isBroken_114 : decode cX8_isBroken 114 = .ok (.iload_n 1, 1) := by decide +kernel
theorem dX8_isBroken_115 : decode cX8_isBroken 115 = .ok (.iaload, 1) := by decide +kernel
theorem dX8_isBroken_116 : decode cX8_isBroken 116 = .ok (.if_icmp .eq 7, 3) := by decide +kernel
theorem dX8_isBroken_119 : decode cX8_isBroken 119 = .ok (.iconst 1, 1) := by decide +kernel
theorem dX8_isBroken_120 : decode cX8_isBroken 120 = .ok (.goto 4, 3) := by decide +kernel
theorem dX8_isBroken_123 : decode cX8_isBroken 123 = .ok (.iconst 0, 1) := by decide +kernel
theorem dX8_isBroken_124 : decode cX8_isBroken 124 = .ok (.ireturn, 1) := by decide +kernel
theorem dX8_isBroken_125 : decode cX8_isBroken 125 = .ok (.iload 4, 2) := by decide +kernel
theorem dX8_isBroken_127 : decode cX8_isBroken 127 = .ok (.aload_n 0, 1) := by decide +kernel
theorem dX8_isBroken_128 : decode cX8_isBroken 128 = .ok (.getfield 90, 3) := by decide +kernel
theorem dX8_isBroken_131 : decode cX8_isBroken 131 = .ok (.iload_n 1, 1) := by decide +kernel
theorem dX8_isBroken_132 : decode cX8_isBroken 132 = .ok (.iaload, 1) := by decide +kernel
theorem dX8_isBroken_133 : decode cX8_isBroken 133 = .ok (.if_icmp .eq 29, 3) := by decide +kernel
theorem dX8_isBroken_136 : decode cX8_isBroken 136 = .ok (.iload 4, 2) := by decide +kernel
theorem dX8_isBroken_138 : decode cX8_isBroken 138 = .ok (.aload_n 0, 1) := by decide +kernel
theorem dX8_isBroken_139 : decode cX8_isBroken 139 = .ok (.getfield 93, 3) := by decide +kernel
theorem dX8_isBroken_142 : decode cX8_isBroken 142 = .ok (.iload_n 1, 1) := by decide +kernel
theorem dX8_isBroken_143 : decode cX8_isBroken 143 = .ok (.iaload, 1) := by decide +kernel
theorem dX8_isBroken_144 : decode cX8_isBroken 144 = .ok (.if_icmp .eq 18, 3) := by decide +kernel
theorem dX8_isBroken_147 : decode cX8_isBroken 147 = .ok (.iload 4, 2) := by decide +kernel
theorem dX8_isBroken_149 : decode cX8_isBroken 149 = .ok (.aload_n 0, 1) := by decide +kernel
theorem dX8_isBroken_150 : decode cX8_isBroken 150 = .ok (.getfield 96, 3) := by decide +kernel
theorem dX8_isBroken_153 : decode cX8_isBroken 153 = .ok (.iload_n 1, 1) := by decide +kernel
theorem dX8_isBroken_154 : decode cX8_isBroken 154 = .ok (.iaload, 1) := by decide +kernel
theorem dX8_isBroken_155 : decode cX8_isBroken 155 = .ok (.if_icmp .eq 7, 3) := by decide +kernel
theorem dX8_isBroken_158 : decode cX8_isBroken 158 = .ok (.iconst 1, 1) := by decide +kernel
theorem dX8_isBroken_159 : decode cX8_isBroken 159 = .ok (.goto 4, 3) := by decide +kernel
theorem dX8_isBroken_162 : decode cX8_isBroken 162 = .ok (.iconst 0, 1) := by decide +kernel
theorem dX8_isBroken_163 : decode cX8_isBroken 163 = .ok (.ireturn, 1) := by decide +kernel
theorem dX8_isBroken_164 : decode cX8_isBroken 164 = .ok (.iload 4, 2) := by decide +kernel
theorem dX8_isBroken_166 : decode cX8_isBroken 166 = .ok (.aload_n 0, 1) := by decide +kernel
theorem dX8_isBroken_167 : decode cX8_isBroken 167 = .ok (.getfield 90, 3) := by decide +kernel
theorem dX8_isBroken_170 : decode cX8_isBroken 170 = .ok (.iload_n 1, 1) := by decide +kernel
theorem dX8_isBroken_171 : decode cX8_isBroken 171 = .ok (.iaload, 1) := by decide +kernel
theorem dX8_isBroken_172 : decode cX8_isBroken 172 = .ok (.if_icmp .ge 7, 3) := by decide +kernel
theorem dX8_isBroken_175 : decode cX8_isBroken 175 = .ok (.iconst 1, 1) := by decide +kernel
theorem dX8_isBroken_176 : decode cX8_isBroken 176 = .ok (.goto 4, 3) := by decide +kernel
theorem dX8_isBroken_179 : decode cX8_isBroken 179 = .ok (.iconst 0, 1) := by decide +kernel
theorem dX8_isBroken_180 : decode cX8_isBroken 180 = .ok (.ireturn, 1) := by decide +kernel
theorem dX8_isBroken_181 : decode cX8_isBroken 181 = .ok (.iload 4, 2) := by decide +kernel
theorem dX8_isBroken_183 : decode cX8_isBroken 183 = .ok (.aload_n 0, 1) := by decide +kernel
theorem dX8_isBroken_184 : decode cX8_isBroken 184 = .ok (.getfield 90, 3) := by decide +kernel
theorem dX8_isBroken_187 : decode cX8_isBroken 187 = .ok (.iload_n 1, 1) := by decide +kernel
theorem dX8_isBroken_188 : decode cX8_isBroken 188 = .ok (.iaload, 1) := by decide +kernel
theorem dX8_isBroken_189 : decode cX8_isBroken 189 = .ok (.if_icmp .le 7, 3) := by decide +kernel
theorem dX8_isBroken_192 : decode cX8_isBroken 192 = .ok (.iconst 1, 1) := by decide +kernel
theorem dX8_isBroken_193 : decode cX8_isBroken 193 = .ok (.goto 4, 3) := by decide +kernel
theorem dX8_isBroken_196 : decode cX8_isBroken 196 = .ok (.iconst 0, 1) := by decide +kernel
theorem dX8_isBroken_197 : decode cX8_isBroken 197 = .ok (.ireturn, 1) := by decide +kernel
theorem dX8_isBroken_198 : decode cX8_isBroken 198 = .ok (.iload 4, 2) := by decide +kernel
theorem dX8_isBroken_200 : decode cX8_isBroken 200 = .ok (.aload_n 0, 1) := by decide +kernel
theorem dX8_isBroken_201 : decode cX8_isBroken 201 = .ok (.getfield 90, 3) := by decide +kernel
theorem dX8_isBroken_204 : decode cX8_isBroken 204 = .ok (.iload_n 1, 1) := by decide +kernel
theorem dX8_isBroken_205 : decode cX8_isBroken 205 = .ok (.iaload, 1) := by decide +kernel
theorem dX8_isBroken_206 : decode cX8_isBroken 206 = .ok (.invokestatic 148, 3) := by decide +kernel
theorem dX8_isBroken_209 : decode cX8_isBroken 209 = .ok (.aload_n 0, 1) := by decide +kernel
theorem dX8_isBroken_210 : decode cX8_isBroken 210 = .ok (.getfield 93, 3) := by decide +kernel
theorem dX8_isBroken_213 : decode cX8_isBroken 213 = .ok (.iload_n 1, 1) := by decide +kernel
theorem dX8_isBroken_214 : decode cX8_isBroken 214 = .ok (.iaload, 1) := by decide +kernel
theorem dX8_isBroken_215 : decode cX8_isBroken 215 = .ok (.if_icmp .eq 7, 3) := by decide +kernel
theorem dX8_isBroken_218 : decode cX8_isBroken 218 = .ok (.iconst 1, 1) := by decide +kernel
theorem dX8_isBroken_219 : decode cX8_isBroken 219 = .ok (.goto 4, 3) := by decide +kernel
theorem dX8_isBroken_222 : decode cX8_isBroken 222 = .ok (.iconst 0, 1) := by decide +kernel
theorem dX8_isBroken_223 : decode cX8_isBroken 223 = .ok (.ireturn, 1) := by decide +kernel
theorem dX8_isBroken_224 : decode cX8_isBroken 224 = .ok (.iconst 0, 1) := by decide +kernel
theorem dX8_isBroken_225 : decode cX8_isBroken 225 = .ok (.ireturn, 1) := by decide +kernel
theorem dX8_isBroken_226 : decode cX8_isBroken 226 = .ok (.iload_n 3, 1) := by decide +kernel
theorem dX8_isBroken_227 : decode cX8_isBroken 227 = .ok (.iload 4, 2) := by decide +kernel
theorem dX8_isBroken_229 : decode cX8_isBroken 229 = .ok (.iload 5, 2) := by decide +kernel
theorem dX8_isBroken_231 : decode cX8_isBroken 231 = .ok (.invokestatic 151, 3) := by decide +kernel
theorem dX8_isBroken_234 : decode cX8_isBroken 234 = .ok (.ifCond .ne 7, 3) := by decide +kernel
theorem dX8_isBroken_237 : decode cX8_isBroken 237 = .ok (.iconst 1, 1) := by decide +kernel
theorem dX8_isBroken_238 : decode cX8_isBroken 238 = .ok (.goto 4, 3) := by decide +kernel
theorem dX8_isBroken_241 : decode cX8_isBroken 241 = .ok (.iconst 0, 1) := by decide +kernel
theorem dX8_isBroken_242 : decode cX8_isBroken 242 = .ok (.ireturn, 1) := by decide +kernel
theorem dX8_broken_0 : decode cX8_broken 0 = .ok (.aload_n 0, 1) := by decide +kernel
theorem dX8_broken_1 : decode cX8_broken 1 = .ok (.getfield 75, 3) := by decide +kernel
theorem dX8_broken_4 : decode cX8_broken 4 = .ok (.iload_n 1, 1) := by decide +kernel
theorem dX8_broken_5 : decode cX8_broken 5 = .ok (.iaload, 1) := by decide +kernel
theorem dX8_broken_6 : decode cX8_broken 6 = .ok (.istore_n 2, 1) := by decide +kernel
theorem dX8_broken_7 : decode cX8_broken 7 = .ok (.iconst 0, 1) := by decide +kernel
theorem dX8_broken_8 : decode cX8_broken 8 = .ok (.istore_n 3, 1) := by decide +kernel
theorem dX8_broken_9 : decode cX8_broken 9 = .ok (.iload_n 3, 1) := by decide +kernel
theorem dX8_broken_10 : decode cX8_broken 10 = .ok (.aload_n 0, 1) := by decide +kernel
theorem dX8_broken_11 : decode cX8_broken 11 = .ok (.getfield 84, 3) := by decide +kernel
theorem dX8_broken_14 : decode cX8_broken 14 = .ok (.iload_n 2, 1) := by decide +kernel
theorem dX8_broken_15 : decode cX8_broken 15 = .ok (.iaload, 1) := by decide +kernel
theorem dX8_broken_16 : decode cX8_broken 16 = .ok (.if_icmp .ge 35, 3) := by decide +kernel
theorem dX8_broken_19 : decode cX8_broken 19 = .ok (.aload_n 0, 1) := by decide +kernel
theorem dX8_broken_20 : decode cX8_broken 20 = .ok (.bipush 100, 2) := by decide +kernel
theorem dX8_broken_22 : decode cX8_broken 22 = .ok (.iload_n 2, 1) := by decide +kernel
theorem dX8_broken_23 : decode cX8_broken 23 = .ok (.imul, 1) := by decide +kernel
theorem dX8_broken_24 : decode cX8_broken 24 = .ok (.iload_n 3, 1) := by decide +kernel
theorem dX8_broken_25 : decode cX8_broken 25 = .ok (.iadd, 1) := by decide +kernel
theorem dX8_broken_26 : decode cX8_broken 26 = .ok (.iload_n 1, 1) := by decide +kernel
theorem dX8_broken_27 : decode cX8_broken 27 = .ok (.invokevirtual 256, 3) := by decide +kernel
theorem dX8_broken_30 : decode cX8_broken 30 = .ok (.ifCond .eq 15, 3) := by decide +kernel
theorem dX8_broken_33 : decode cX8_broken 33 = .ok (.aload_n 0, 1) := by decide +kernel
theorem dX8_broken_34 : decode cX8_broken 34 = .ok (.getfield 87, 3) := by decide +kernel
theorem dX8_broken_37 : decode cX8_broken 37 = .ok (.bipush 100, 2) := by decide +kernel
theorem dX8_broken_39 : decode cX8_broken 39 = .ok (.iload_n 2, 1) := by decide +kernel
theorem dX8_broken_40 : decode cX8_broken 40 = .ok (.imul, 1) := by decide +kernel
theorem dX8_broken_41 : decode cX8_broken 41 = .ok (.iload_n 3, 1) := by decide +kernel
theorem dX8_broken_42 : decode cX8_broken 42 = .ok (.iadd, 1) := by decide +kernel
theorem dX8_broken_43 : decode cX8_broken 43 = .ok (.iaload, 1) := by decide +kernel
theorem dX8_broken_44 : decode cX8_broken 44 = .ok (.ireturn, 1) := by decide +kernel
theorem dX8_broken_45 : decode cX8_broken 45 = .ok (.iinc 3 1, 3) := by decide +kernel
theorem dX8_broken_48 : decode cX8_broken 48 = .ok (.goto (-39), 3) := by decide +kernel
theorem dX8_broken_51 : decode cX8_broken 51 = .ok (.iconst (-1), 1) := by decide +kernel
theorem dX8_broken_52 : decode cX8_broken 52 = .ok (.ireturn, 1) := by decide +kernel
theorem dX8_note_0 : decode cX8_note 0 = .ok (.aload_n 0, 1) := by decide +kernel
theorem dX8_note_1 : decode cX8_note 1 = .ok (.iload_n 1, 1) := by decide +kernel
theorem dX8_note_2 : decode cX8_note 2 = .ok (.putfield 112, 3) := by decide +kernel
theorem dX8_note_5 : decode cX8_note 5 = .ok (.aload_n 0, 1) := by decide +kernel
theorem dX8_note_6 : decode cX8_note 6 = .ok (.aload_n 0, 1) := by decide +kernel
theorem dX8_note_7 : decode cX8_note 7 = .ok (.getfield 75, 3) := by decide +kernel
theorem dX8_note_10 : decode cX8_note 10 = .ok (.iload_n 2, 1) := by decide +kernel
theorem dX8_note_11 : decode cX8_note 11 = .ok (.iaload, 1) := by decide +kernel
theorem dX8_note_12 : decode cX8_note 12 = .ok (.putfield 259, 3) := by decide +kernel
theorem dX8_note_15 : decode cX8_note 15 = .ok (.aload_n 0, 1) := by decide +kernel
theorem dX8_note_16 : decode cX8_note 16 = .ok (.iload_n 2, 1) := by decide +kernel
theorem dX8_note_17 : decode cX8_note 17 = .ok (.putfield 262, 3) := by decide +kernel
theorem dX8_note_20 : decode cX8_note 20 = .ok (.iconst 0, 1) := by decide +kernel
theorem dX8_note_21 : decode cX8_note 21 = .ok (.istore_n 3, 1) := by decide +kernel
theorem dX8_note_22 : decode cX8_note 22 = .ok (.iload_n 3, 1) := by decide +kernel
theorem dX8_note_23 : decode cX8_note 23 = .ok (.iconst 4, 1) := by decide +kernel
theorem dX8_note_24 : decode cX8_note 24 = .ok (.if_icmp .ge 25, 3) := by decide +kernel
theorem dX8_note_27 : decode cX8_note 27 = .ok (.aload_n 0, 1) := by decide +kernel
theorem dX8_note_28 : decode cX8_note 28 = .ok (.getfield 99, 3) := by decide +kernel
theorem dX8_note_31 : decode cX8_note 31 = .ok (.iload_n 3, 1) := by decide +kernel
theorem dX8_note_32 : decode cX8_note 32 = .ok (.aload_n 0, 1) := by decide +kernel
theorem dX8_note_33 : decode cX8_note 33 = .ok (.getfield 78, 3) := by decide +kernel
theorem dX8_note_36 : decode cX8_note 36 = .ok (.iconst 4, 1) := by decide +kernel
theorem dX8_note_37 : decode cX8_note 37 = .ok (.iload_n 2, 1) := by decide +kernel
theorem dX8_note_38 : decode cX8_note 38 = .ok (.imul, 1) := by decide +kernel
theorem dX8_note_39 : decode cX8_note 39 = .ok (.iload_n 3, 1) := by decide +kernel
theorem dX8_note_40 : decode cX8_note 40 = .ok (.iadd, 1) := by decide +kernel
theorem dX8_note_41 : decode cX8_note 41 = .ok (.iaload, 1) := by decide +kernel
theorem dX8_note_42 : decode cX8_note 42 = .ok (.iastore, 1) := by decide +kernel
theorem dX8_note_43 : decode cX8_note 43 = .ok (.iinc 3 1, 3) := by decide +kernel
theorem dX8_note_46 : decode cX8_note 46 = .ok (.goto (-24), 3) := by decide +kernel
theorem dX8_note_49 : decode cX8_note 49 = .ok (.iconst 0, 1) := by decide +kernel
theorem dX8_note_50 : decode cX8_note 50 = .ok (.istore_n 3, 1) := by decide +kernel
theorem dX8_note_51 : decode cX8_note 51 = .ok (.iload_n 3, 1) := by decide +kernel
theorem dX8_note_52 : decode cX8_note 52 = .ok (.iload_n 2, 1) := by decide +kernel
theorem dX8_note_53 : decode cX8_note 53 = .ok (.if_icmp .ge 21, 3) := by decide +kernel
theorem dX8_note_56 : decode cX8_note 56 = .ok (.aload_n 0, 1) := by decide +kernel
theorem dX8_note_57 : decode cX8_note 57 = .ok (.getfield 102, 3) := by decide +kernel
theorem dX8_note_60 : decode cX8_note 60 = .ok (.iload_n 3, 1) := by decide +kernel
theorem dX8_note_61 : decode cX8_note 61 = .ok (.aload_n 0, 1) := by decide +kernel
theorem dX8_note_62 : decode cX8_note 62 = .ok (.getfield 81, 3) := by decide +kernel
theorem dX8_note_65 : decode cX8_note 65 = .ok (.iload_n 3, 1) := by decide +kernel
theorem dX8_note_66 : decode cX8_note 66 = .ok (.iaload, 1) := by decide +kernel
theorem dX8_note_67 : decode cX8_note 67 = .ok (.iastore, 1) := by decide +kernel
theorem dX8_note_68 : decode cX8_note 68 = .ok (.iinc 3 1, 3) := by decide +kernel
theorem dX8_note_71 : decode cX8_note 71 = .ok (.goto (-20), 3) := by decide +kernel
theorem dX8_note_74 : decode cX8_note 74 = .ok (.return_, 1) := by decide +kernel
theorem dX8_goThrough_0 : decode cX8_goThrough 0 = .ok (.iconst 0, 1) := by decide +kernel
theorem dX8_goThrough_1 : decode cX8_goThrough 1 = .ok (.istore_n 2, 1) := by decide +kernel
theorem dX8_goThrough_2 : decode cX8_goThrough 2 = .ok (.aload_n 0, 1) := by decide +kernel
theorem dX8_goThrough_3 : decode cX8_goThrough 3 = .ok (.getfield 81, 3) := by decide +kernel
theorem dX8_goThrough_6 : decode cX8_goThrough 6 = .ok (.iconst 0, 1) := by decide +kernel
theorem dX8_goThrough_7 : decode cX8_goThrough 7 = .ok (.iconst (-1), 1) := by decide +kernel
theorem dX8_goThrough_8 : decode cX8_goThrough 8 = .ok (.iastore, 1) := by decide +kernel
theorem dX8_goThrough_9 : decode cX8_goThrough 9 = .ok (.iload_n 2, 1) := by decide +kernel
theorem dX8_goThrough_10 : decode cX8_goThrough 10 = .ok (.ifCond .lt 140, 3) := by decide +kernel
theorem dX8_goThrough_13 : decode cX8_goThrough 13 = .ok (.aload_n 0, 1) := by decide +kernel
theorem dX8_goThrough_14 : decode cX8_goThrough 14 = .ok (.getfield 81, 3) := by decide +kernel
theorem dX8_goThrough_17 : decode cX8_goThrough 17 = .ok (.iload_n 2, 1) := by decide +kernel
theorem dX8_goThrough_18 : decode cX8_goThrough 18 = .ok (.iaload, 1) := by decide +kernel
theorem dX8_goThrough_19 : decode cX8_goThrough 19 = .ok (.iconst 1, 1) := by decide +kernel
theorem dX8_goThrough_20 : decode cX8_goThrough 20 = .ok (.iadd, 1) := by decide +kernel
theorem dX8_goThrough_21 : decode cX8_goThrough 21 = .ok (.istore_n 3, 1) := by decide +kernel
theorem dX8_goThrough_22 : decode cX8_goThrough 22 = .ok (.iload_n 3, 1) := by decide +kernel
theorem dX8_goThrough_23 : decode cX8_goThrough 23 = .ok (.aload_n 0, 1) := by decide +kernel
theorem dX8_goThrough_24 : decode cX8_goThrough 24 = .ok (.getfield 241, 3) := by decide +kernel
theorem dX8_goThrough_27 : decode cX8_goThrough 27 = .ok (.if_icmp .ge 24, 3) := by decide +kernel
theorem dX8_goThrough_30 : decode cX8_goThrough 30 = .ok (.aload_n 0, 1) := by decide +kernel
theorem dX8_goThrough_31 : decode cX8_goThrough 31 = .ok (.getfield 60, 3) := by decide +kernel
theorem dX8_goThrough_34 : decode cX8_goThrough 34 = .ok (.iload_n 3, 1) := by decide +kernel
theorem dX8_goThrough_35 : decode cX8_goThrough 35 = .ok (.iaload, 1) := by decide +kernel
theorem dX8_goThrough_36 : decode cX8_goThrough 36 = .ok (.aload_n 0, 1) := by decide +kernel
theorem dX8_goThrough_37 : decode cX8_goThrough 37 = .ok (.getfield 75, 3) := by decide +kernel
theorem dX8_goThrough_40 : decode cX8_goThrough 40 = .ok (.iload_n 2, 1) := by decide +kernel
theorem dX8_goThrough_41 : decode cX8_goThrough 41 = .ok (.iaload, 1) := by decide +kernel
theorem dX8_goThrough_42 : decode cX8_goThrough 42 = .ok (.if_icmp .eq 9, 3) := by decide +kernel
theorem dX8_goThrough_45 : decode cX8_goThrough 45 = .ok (.iinc 3 1, 3) := by decide +kernel
theorem dX8_goThrough_48 : decode cX8_goThrough 48 = .ok (.goto (-26), 3) := by decide +kernel
theorem dX8_goThrough_51 : decode cX8_goThrough 51 = .ok (.aload_n 0, 1) := by decide +kernel
theorem dX8_goThrough_52 : decode cX8_goThrough 52 = .ok (.getfield 81, 3) := by decide +kernel
theorem dX8_goThrough_55 : decode cX8_goThrough 55 = .ok (.iload_n 2, 1) := by decide +kernel
theorem dX8_goThrough_56 : decode cX8_goThrough 56 = .ok (.iload_n 3, 1) := by decide +kernel
theorem dX8_goThrough_57 : decode cX8_goThrough 57 = .ok (.iastore, 1) := by decide +kernel
theorem dX8_goThrough_58 : decode cX8_goThrough 58 = .ok (.iload_n 3, 1) := by decide +kernel
theorem dX8_goThrough_59 : decode cX8_goThrough 59 = .ok (.aload_n 0, 1) := by decide +kernel
theorem dX8_goThrough_60 : decode cX8_goThrough 60 = .ok (.getfield 241, 3) := by decide +kernel
theorem dX8_goThrough_63 : decode cX8_goThrough 63 = .ok (.if_icmp .ne 9, 3) := by decide +kernel
theorem dX8_goThrough_66 : decode cX8_goThrough 66 = .ok (.iinc 2 (-1), 3) := by decide +kernel
theorem dX8_goThrough_69 : decode cX8_goThrough 69 = .ok (.goto (-60), 3) := by decide +kernel
theorem dX8_goThrough_72 : decode cX8_goThrough 72 = .ok (.aload_n 0, 1) := by decide +kernel
theorem dX8_goThrough_73 : decode cX8_goThrough 73 = .ok (.iload_n 2, 1) := by decide +kernel
theorem dX8_goThrough_74 : decode cX8_goThrough 74 = .ok (.iload_n 3, 1) := by decide +kernel
theorem dX8_goThrough_75 : decode cX8_goThrough 75 = .ok (.invokevirtual 265, 3) := by decide +kernel
theorem dX8_goThrough_78 : decode cX8_goThrough 78 = .ok (.istore 4, 2) := by decide +kernel
theorem dX8_goThrough_80 : decode cX8_goThrough 80 = .ok (.iload_n 2, 1) := by decide +kernel
theorem dX8_goThrough_81 : decode cX8_goThrough 81 = .ok (.iconst 1, 1) := by decide +kernel
theorem dX8_goThrough_82 : decode cX8_goThrough 82 = .ok (.iadd, 1) := by decide +kernel
theorem dX8_goThrough_83 : decode cX8_goThrough 83 = .ok (.iload_n 1, 1) := by decide +kernel
theorem dX8_goThrough_84 : decode cX8_goThrough 84 = .ok (.if_icmp .ne 48, 3) := by decide +kernel
theorem dX8_goThrough_87 : decode cX8_goThrough 87 = .ok (.aload_n 0, 1) := by decide +kernel
theorem dX8_goThrough_88 : decode cX8_goThrough 88 = .ok (.dup, 1) := by decide +kernel
theorem dX8_goThrough_89 : decode cX8_goThrough 89 = .ok (.getfield 268, 3) := by decide +kernel
theorem dX8_goThrough_92 : decode cX8_goThrough 92 = .ok (.iconst 1, 1) := by decide +kernel
theorem dX8_goThrough_93 : decode cX8_goThrough 93 = .ok (.iadd, 1) := by decide +kernel
theorem dX8_goThrough_94 : decode cX8_goThrough 94 = .ok (.putfield 268, 3) := by decide +kernel
theorem dX8_goThrough_97 : decode cX8_goThrough 97 = .ok (.iload 4, 2) := by decide +kernel
theorem dX8_goThrough_99 : decode cX8_goThrough 99 = .ok (.ifCond .eq 13, 3) := by decide +kernel
theorem dX8_goThrough_102 : decode cX8_goThrough 102 = .ok (.aload_n 0, 1) := by decide +kernel
theorem dX8_goThrough_103 : decode cX8_goThrough 103 = .ok (.iload_n 2, 1) := by decide +kernel
theorem dX8_goThrough_104 : decode cX8_goThrough 104 = .ok (.iconst 1, 1) := by decide +kernel
theorem dX8_goThrough_105 : decode cX8_goThrough 105 = .ok (.iadd, 1) := by decide +kernel
theorem dX8_goThrough_106 : decode cX8_goThrough 106 = .ok (.invokevirtual 271, 3) := by decide +kernel
theorem dX8_goThrough_109 : decode cX8_goThrough 109 = .ok (.goto 4, 3) := by decide +kernel
theorem dX8_goThrough_112 : decode cX8_goThrough 112 = .ok (.iconst (-1), 1) := by decide +kernel
theorem dX8_goThrough_113 : decode cX8_goThrough 113 = .ok (.istore 5, 2) := by decide +kernel
theorem dX8_goThrough_115 : decode cX8_goThrough 115 = .ok (.iload 5, 2) := by decide +kernel
theorem dX8_goThrough_117 : decode cX8_goThrough 117 = .ok (.ifCond .lt 12, 3) := by decide +kernel
theorem dX8_goThrough_120 : decode cX8_goThrough 120 = .ok (.aload_n 0, 1) := by decide +kernel
theorem dX8_goThrough_121 : decode cX8_goThrough 121 = .ok (.iload 5, 2) := by decide +kernel
theorem dX8_goThrough_123 : decode cX8_goThrough 123 = .ok (.iload_n 1, 1) := by decide +kernel
theorem dX8_goThrough_124 : decode cX8_goThrough 124 = .ok (.invokevirtual 275, 3) := by decide +kernel
theorem dX8_goThrough_127 : decode cX8_goThrough 127 = .ok (.iconst 1, 1) := by decide +kernel
theorem dX8_goThrough_128 : decode cX8_goThrough 128 = .ok (.ireturn, 1) := by decide +kernel
theorem dX8_goThrough_129 : decode cX8_goThrough 129 = .ok (.goto 18, 3) := by decide +kernel
theorem dX8_goThrough_132 : decode cX8_goThrough 132 = .ok (.iload 4, 2) := by decide +kernel
theorem dX8_goThrough_134 : decode cX8_goThrough 134 = .ok (.ifCond .eq 13, 3) := by decide +kernel
theorem dX8_goThrough_137 : decode cX8_goThrough 137 = .ok (.iinc 2 1, 3) := by decide +kernel
theorem dX8_goThrough_140 : decode cX8_goThrough 140 = .ok (.aload_n 0, 1) := by decide +kernel
theorem dX8_goThrough_141 : decode cX8_goThrough 141 = .ok (.getfield 81, 3) := by decide +kernel
theorem dX8_goThrough_144 : decode cX8_goThrough 144 = .ok (.iload_n 2, 1) := by decide +kernel
theorem dX8_goThrough_145 : decode cX8_goThrough 145 = .ok (.iconst (-1), 1) := by decide +kernel
theorem dX8_goThrough_146 : decode cX8_goThrough 146 = .ok (.iastore, 1) := by decide +kernel
theorem dX8_goThrough_147 : decode cX8_goThrough 147 = .ok (.goto (-138), 3) := by decide +kernel
theorem dX8_goThrough_150 : decode cX8_goThrough 150 = .ok (.iconst 0, 1) := by decide +kernel
theorem dX8_goThrough_151 : decode cX8_goThrough 151 = .ok (.ireturn, 1) := by decide +kernel
theorem dX8_search_0 : decode cX8_search 0 = .ok (.iload_n 1, 1) := by decide +kernel
theorem dX8_search_1 : decode cX8_search 1 = .ok (.iconst 0, 1) := by decide +kernel
theorem dX8_search_2 : decode cX8_search 2 = .ok (.iconst 5, 1) := by decide +kernel
theorem dX8_search_3 : decode cX8_search 3 = .ok (.invokestatic 115, 3) := by decide +kernel
theorem dX8_search_6 : decode cX8_search 6 = .ok (.ifCond .ne 6, 3) := by decide +kernel
theorem dX8_search_9 : decode cX8_search 9 = .ok (.bipush (-2), 2) := by decide +kernel
theorem dX8_search_11 : decode cX8_search 11 = .ok (.ireturn, 1) := by decide +kernel
theorem dX8_search_12 : decode cX8_search 12 = .ok (.aload_n 0, 1) := by decide +kernel
theorem dX8_search_13 : decode cX8_search 13 = .ok (.getfield 109, 3) := by decide +kernel
theorem dX8_search_16 : decode cX8_search 16 = .ok (.ifCond .ge 6, 3) := by decide +kernel
theorem dX8_search_19 : decode cX8_search 19 = .ok (.bipush (-3), 2) := by decide +kernel
theorem dX8_search_21 : decode cX8_search 21 = .ok (.ireturn, 1) := by decide +kernel
theorem dX8_search_22 : decode cX8_search 22 = .ok (.aload_n 0, 1) := by decide +kernel
theorem dX8_search_23 : decode cX8_search 23 = .ok (.invokevirtual 278, 3) := by decide +kernel
theorem dX8_search_26 : decode cX8_search 26 = .ok (.aload_n 0, 1) := by decide +kernel
theorem dX8_search_27 : decode cX8_search 27 = .ok (.invokevirtual 281, 3) := by decide +kernel
theorem dX8_search_30 : decode cX8_search 30 = .ok (.aload_n 0, 1) := by decide +kernel
theorem dX8_search_31 : decode cX8_search 31 = .ok (.iconst 1, 1) := by decide +kernel
theorem dX8_search_32 : decode cX8_search 32 = .ok (.putfield 268, 3) := by decide +kernel
theorem dX8_search_35 : decode cX8_search 35 = .ok (.aload_n 0, 1) := by decide +kernel
theorem dX8_search_36 : decode cX8_search 36 = .ok (.iconst 0, 1) := by decide +kernel
theorem dX8_search_37 : decode cX8_search 37 = .ok (.invokevirtual 271, 3) := by decide +kernel
theorem dX8_search_40 : decode cX8_search 40 = .ok (.istore_n 2, 1) := by decide +kernel
theorem dX8_search_41 : decode cX8_search 41 = .ok (.iload_n 2, 1) := by decide +kernel
theorem dX8_search_42 : decode cX8_search 42 = .ok (.ifCond .lt 11, 3) := by decide +kernel
theorem dX8_search_45 : decode cX8_search 45 = .ok (.aload_n 0, 1) := by decide +kernel
theorem dX8_search_46 : decode cX8_search 46 = .ok (.iload_n 2, 1) := by decide +kernel
theorem dX8_search_47 : decode cX8_search 47 = .ok (.iconst 0, 1) := by decide +kernel
theorem dX8_search_48 : decode cX8_search 48 = .ok (.invokevirtual 275, 3) := by decide +kernel
theorem dX8_search_51 : decode cX8_search 51 = .ok (.iconst 1, 1) := by decide +kernel
theorem dX8_search_52 : decode cX8_search 52 = .ok (.ireturn, 1) := by decide +kernel
theorem dX8_search_53 : decode cX8_search 53 = .ok (.iconst 1, 1) := by decide +kernel
theorem dX8_search_54 : decode cX8_search 54 = .ok (.istore_n 3, 1) := by decide +kernel
theorem dX8_search_55 : decode cX8_search 55 = .ok (.iload_n 3, 1) := by decide +kernel
theorem dX8_search_56 : decode cX8_search 56 = .ok (.iload_n 1, 1) := by decide +kernel
theorem dX8_search_57 : decode cX8_search 57 = .ok (.if_icmp .gt 22, 3) := by decide +kernel
theorem dX8_search_60 : decode cX8_search 60 = .ok (.aload_n 0, 1) := by decide +kernel
theorem dX8_search_61 : decode cX8_search 61 = .ok (.iload_n 3, 1) := by decide +kernel
theorem dX8_search_62 : decode cX8_search 62 = .ok (.invokevirtual 284, 3) := by decide +kernel
theorem dX8_search_65 : decode cX8_search 65 = .ok (.ifCond .eq 8, 3) := by decide +kernel
theorem dX8_search_68 : decode cX8_search 68 = .ok (.aload_n 0, 1) := by decide +kernel
theorem dX8_search_69 : decode cX8_search 69 = .ok (.getfield 268, 3) := by decide +kernel
theorem dX8_search_72 : decode cX8_search 72 = .ok (.ireturn, 1) := by decide +kernel
theorem dX8_search_73 : decode cX8_search 73 = .ok (.iinc 3 1, 3) := by decide +kernel
theorem dX8_search_76 : decode cX8_search 76 = .ok (.goto (-21), 3) := by decide +kernel
theorem dX8_search_79 : decode cX8_search 79 = .ok (.bipush (-9), 2) := by decide +kernel
theorem dX8_search_81 : decode cX8_search 81 = .ok (.ireturn, 1) := by decide +kernel
theorem dX8_broke_0 : decode cX8_broke 0 = .ok (.aload_n 0, 1) := by decide +kernel
theorem dX8_broke_1 : decode cX8_broke 1 = .ok (.getfield 112, 3) := by decide +kernel
theorem dX8_broke_4 : decode cX8_broke 4 = .ok (.ifCond .ge 6, 3) := by decide +kernel
theorem dX8_broke_7 : decode cX8_broke 7 = .ok (.bipush (-9), 2) := by decide +kernel
theorem dX8_broke_9 : decode cX8_broke 9 = .ok (.ireturn, 1) := by decide +kernel
theorem dX8_broke_10 : decode cX8_broke 10 = .ok (.iload_n 1, 1) := by decide +kernel
theorem dX8_broke_11 : decode cX8_broke 11 = .ok (.iconst 3, 1) := by decide +kernel
theorem dX8_broke_12 : decode cX8_broke 12 = .ok (.iconst 2, 1) := by decide +kernel
theorem dX8_broke_13 : decode cX8_broke 13 = .ok (.aload_n 0, 1) := by decide +kernel
theorem dX8_broke_14 : decode cX8_broke 14 = .ok (.getfield 7, 3) := by decide +kernel
theorem dX8_broke_17 : decode cX8_broke 17 = .ok (.aload_n 0, 1) := by decide +kernel
theorem dX8_broke_18 : decode cX8_broke 18 = .ok (.getfield 259, 3) := by decide +kernel
theorem dX8_broke_21 : decode cX8_broke 21 = .ok (.iaload, 1) := by decide +kernel
theorem dX8_broke_22 : decode cX8_broke 22 = .ok (.iadd, 1) := by decide +kernel
theorem dX8_broke_23 : decode cX8_broke 23 = .ok (.invokestatic 115, 3) := by decide +kernel
theorem dX8_broke_26 : decode cX8_broke 26 = .ok (.ifCond .eq 12, 3) := by decide +kernel
theorem dX8_broke_29 : decode cX8_broke 29 = .ok (.aload_n 0, 1) := by decide +kernel
theorem dX8_broke_30 : decode cX8_broke 30 = .ok (.getfield 99, 3) := by decide +kernel
theorem dX8_broke_33 : decode cX8_broke 33 = .ok (.iload_n 1, 1) := by decide +kernel
theorem dX8_broke_34 : decode cX8_broke 34 = .ok (.iconst 3, 1) := by decide +kernel
theorem dX8_broke_35 : decode cX8_broke 35 = .ok (.isub, 1) := by decide +kernel
theorem dX8_broke_36 : decode cX8_broke 36 = .ok (.iaload, 1) := by decide +kernel
theorem dX8_broke_37 : decode cX8_broke 37 = .ok (.ireturn, 1) := by decide +kernel
theorem dX8_broke_38 : decode cX8_broke 38 = .ok (.iload_n 1, 1) := by decide +kernel
theorem dX8_broke_39 : decode cX8_broke 39 = .ok (.bipush 10, 2) := by decide +kernel
theorem dX8_broke_41 : decode cX8_broke 41 = .ok (.bipush 9, 2) := by decide +kernel
theorem dX8_broke_43 : decode cX8_broke 43 = .ok (.aload_n 0, 1) := by decide +kernel
theorem dX8_broke_44 : decode cX8_broke 44 = .ok (.getfield 262, 3) := by decide +kernel
theorem dX8_broke_47 : decode cX8_broke 47 = .ok (.iadd, 1) := by decide +kernel
theorem dX8_broke_48 : decode cX8_broke 48 = .ok (.invokestatic 115, 3) := by decide +kernel
theorem dX8_broke_51 : decode cX8_broke 51 = .ok (.ifCond .eq 13, 3) := by decide +kernel
theorem dX8_broke_54 : decode cX8_broke 54 = .ok (.aload_n 0, 1) := by decide +kernel
theorem dX8_broke_55 : decode cX8_broke 55 = .ok (.getfield 102, 3) := by decide +kernel
theorem dX8_broke_58 : decode cX8_broke 58 = .ok (.iload_n 1, 1) := by decide +kernel
theorem dX8_broke_59 : decode cX8_broke 59 = .ok (.bipush 10, 2) := by decide +kernel
theorem dX8_broke_61 : decode cX8_broke 61 = .ok (.isub, 1) := by decide +kernel
theorem dX8_broke_62 : decode cX8_broke 62 = .ok (.iaload, 1) := by decide +kernel
theorem dX8_broke_63 : decode cX8_broke 63 = .ok (.ireturn, 1) := by decide +kernel
theorem dX8_broke_64 : decode cX8_broke 64 = .ok (.iload_n 1, 1) := by decide +kernel
theorem dX8_broke_65 : decode cX8_broke 65 = .ok (.ifCond .ne 10, 3) := by decide +kernel
theorem dX8_broke_68 : decode cX8_broke 68 = .ok (.aload_n 0, 1) := by decide +kernel
theorem dX8_broke_69 : decode cX8_broke 69 = .ok (.getfield 259, 3) := by decide +kernel
theorem dX8_broke_72 : decode cX8_broke 72 = .ok (.goto 29, 3) := by decide +kernel
theorem dX8_broke_75 : decode cX8_broke 75 = .ok (.iload_n 1, 1) := by decide +kernel
theorem dX8_broke_76 : decode cX8_broke 76 = .ok (.iconst 1, 1) := by decide +kernel
theorem dX8_broke_77 : decode cX8_broke 77 = .ok (.if_icmp .ne 10, 3) := by decide +kernel
theorem dX8_broke_80 : decode cX8_broke 80 = .ok (.aload_n 0, 1) := by decide +kernel
theorem dX8_broke_81 : decode cX8_broke 81 = .ok (.getfield 112, 3) := by decide +kernel
theorem dX8_broke_84 : decode cX8_broke 84 = .ok (.goto 17, 3) := by decide +kernel
theorem dX8_broke_87 : decode cX8_broke 87 = .ok (.iload_n 1, 1) := by decide +kernel
theorem dX8_broke_88 : decode cX8_broke 88 = .ok (.iconst 2, 1) := by decide +kernel
theorem dX8_broke_89 : decode cX8_broke 89 = .ok (.if_icmp .ne 10, 3) := by decide +kernel
theorem dX8_broke_92 : decode cX8_broke 92 = .ok (.aload_n 0, 1) := by decide +kernel
theorem dX8_broke_93 : decode cX8_broke 93 = .ok (.getfield 262, 3) := by decide +kernel
theorem dX8_broke_96 : decode cX8_broke 96 = .ok (.goto 5, 3) := by decide +kernel
theorem dX8_broke_99 : decode cX8_broke 99 = .ok (.bipush (-9), 2) := by decide +kernel
theorem dX8_broke_101 : decode cX8_broke 101 = .ok (.ireturn, 1) := by decide +kernel
theorem dX8_run_0 : decode cX8_run 0 = .ok (.iload_n 2, 1) := by decide +kernel
theorem dX8_run_1 : decode cX8_run 1 = .ok (.iconst 0, 1) := by decide +kernel
theorem dX8_run_2 : decode cX8_run 2 = .ok (.bipush 9, 2) := by decide +kernel
theorem dX8_run_4 : decode cX8_run 4 = .ok (.invokestatic 115, 3) := by decide +kernel
theorem dX8_run_7 : decode cX8_run 7 = .ok (.ifCond .eq 7, 3) := by decide +kernel
theorem dX8_run_10 : decode cX8_run 10 = .ok (.iload_n 1, 1) := by decide +kernel
theorem dX8_run_11 : decode cX8_run 11 = .ok (.ifCond .ge 6, 3) := by decide +kernel
theorem dX8_run_14 : decode cX8_run 14 = .ok (.bipush (-2), 2) := by decide +kernel
theorem dX8_run_16 : decode cX8_run 16 = .ok (.ireturn, 1) := by decide +kernel
theorem dX8_run_17 : decode cX8_run 17 = .ok (.aload_n 0, 1) := by decide +kernel
theorem dX8_run_18 : decode cX8_run 18 = .ok (.getfield 109, 3) := by decide +kernel
theorem dX8_run_21 : decode cX8_run 21 = .ok (.ifCond .ge 6, 3) := by decide +kernel
theorem dX8_run_24 : decode cX8_run 24 = .ok (.bipush (-3), 2) := by decide +kernel
theorem dX8_run_26 : decode cX8_run 26 = .ok (.ireturn, 1) := by decide +kernel
theorem dX8_run_27 : decode cX8_run 27 = .ok (.aload_n 0, 1) := by decide +kernel
theorem dX8_run_28 : decode cX8_run 28 = .ok (.invokevirtual 281, 3) := by decide +kernel
theorem dX8_run_31 : decode cX8_run 31 = .ok (.iload_n 1, 1) := by decide +kernel
theorem dX8_run_32 : decode cX8_run 32 = .ok (.istore_n 3, 1) := by decide +kernel
theorem dX8_run_33 : decode cX8_run 33 = .ok (.iconst 0, 1) := by decide +kernel
theorem dX8_run_34 : decode cX8_run 34 = .ok (.istore 4, 2) := by decide +kernel
theorem dX8_run_36 : decode cX8_run 36 = .ok (.iload 4, 2) := by decide +kernel
theorem dX8_run_38 : decode cX8_run 38 = .ok (.iload_n 2, 1) := by decide +kernel
theorem dX8_run_39 : decode cX8_run 39 = .ok (.if_icmp .ge 62, 3) := by decide +kernel
theorem dX8_run_42 : decode cX8_run 42 = .ok (.iload_n 3, 1) := by decide +kernel
theorem dX8_run_43 : decode cX8_run 43 = .ok (.bipush 10, 2) := by decide +kernel
theorem dX8_run_45 : decode cX8_run 45 = .ok (.irem, 1) := by decide +kernel
theorem dX8_run_46 : decode cX8_run 46 = .ok (.istore 5, 2) := by decide +kernel
theorem dX8_run_48 : decode cX8_run 48 = .ok (.iload_n 3, 1) := by decide +kernel
theorem dX8_run_49 : decode cX8_run 49 = .ok (.bipush 10, 2) := by decide +kernel
theorem dX8_run_51 : decode cX8_run 51 = .ok (.idiv, 1) := by decide +kernel
theorem dX8_run_52 : decode cX8_run 52 = .ok (.istore_n 3, 1) := by decide +kernel
theorem dX8_run_53 : decode cX8_run 53 = .ok (.iload 5, 2) := by decide +kernel
theorem dX8_run_55 : decode cX8_run 55 = .ok (.aload_n 0, 1) := by decide +kernel
theorem dX8_run_56 : decode cX8_run 56 = .ok (.getfield 241, 3) := by decide +kernel
theorem dX8_run_59 : decode cX8_run 59 = .ok (.if_icmp .ge 20, 3) := by decide +kernel
theorem dX8_run_62 : decode cX8_run 62 = .ok (.aload_n 0, 1) := by decide +kernel
theorem dX8_run_63 : decode cX8_run 63 = .ok (.getfield 60, 3) := by decide +kernel
theorem dX8_run_66 : decode cX8_run 66 = .ok (.iload 5, 2) := by decide +kernel
theorem dX8_run_68 : decode cX8_run 68 = .ok (.iaload, 1) := by decide +kernel
theorem dX8_run_69 : decode cX8_run 69 = .ok (.aload_n 0, 1) := by decide +kernel
theorem dX8_run_70 : decode cX8_run 70 = .ok (.getfield 75, 3) := by decide +kernel
theorem dX8_run_73 : decode cX8_run 73 = .ok (.iload 4, 2) := by decide +kernel
theorem dX8_run_75 : decode cX8_run 75 = .ok (.iaload, 1) := by decide +kernel
theorem dX8_run_76 : decode cX8_run 76 = .ok (.if_icmp .eq 5, 3) := by decide +kernel
theorem dX8_run_79 : decode cX8_run 79 = .ok (.iconst (-1), 1) := by decide +kernel
theorem dX8_run_80 : decode cX8_run 80 = .ok (.ireturn, 1) := by decide +kernel
theorem dX8_run_81 : decode cX8_run 81 = .ok (.aload_n 0, 1) := by decide +kernel
theorem dX8_run_82 : decode cX8_run 82 = .ok (.iload 4, 2) := by decide +kernel
theorem dX8_run_84 : decode cX8_run 84 = .ok (.iload 5, 2) := by decide +kernel
theorem dX8_run_86 : decode cX8_run 86 = .ok (.invokevirtual 265, 3) := by decide +kernel
theorem dX8_run_89 : decode cX8_run 89 = .ok (.ifCond .ne 6, 3) := by decide +kernel
theorem dX8_run_92 : decode cX8_run 92 = .ok (.bipush (-9), 2) := by decide +kernel
theorem dX8_run_94 : decode cX8_run 94 = .ok (.ireturn, 1) := by decide +kernel
theorem dX8_run_95 : decode cX8_run 95 = .ok (.iinc 4 1, 3) := by decide +kernel
theorem dX8_run_98 : decode cX8_run 98 = .ok (.goto (-62), 3) := by decide +kernel
theorem dX8_run_101 : decode cX8_run 101 = .ok (.aload_n 0, 1) := by decide +kernel
theorem dX8_run_102 : decode cX8_run 102 = .ok (.getfield 75, 3) := by decide +kernel
theorem dX8_run_105 : decode cX8_run 105 = .ok (.iload_n 2, 1) := by decide +kernel
theorem dX8_run_106 : decode cX8_run 106 = .ok (.iaload, 1) := by decide +kernel
theorem dX8_run_107 : decode cX8_run 107 = .ok (.istore 4, 2) := by decide +kernel
theorem dX8_run_109 : decode cX8_run 109 = .ok (.aload_n 0, 1) := by decide +kernel
theorem dX8_run_110 : decode cX8_run 110 = .ok (.getfield 13, 3) := by decide +kernel
theorem dX8_run_113 : decode cX8_run 113 = .ok (.iload 4, 2) := by decide +kernel
theorem dX8_run_115 : decode cX8_run 115 = .ok (.iaload, 1) := by decide +kernel
theorem dX8_run_116 : decode cX8_run 116 = .ok (.bipush 40, 2) := by decide +kernel
theorem dX8_run_118 : decode cX8_run 118 = .ok (.if_icmp .ne 8, 3) := by decide +kernel
theorem dX8_run_121 : decode cX8_run 121 = .ok (.bipush (-4), 2) := by decide +kernel
theorem dX8_run_123 : decode cX8_run 123 = .ok (.goto 47, 3) := by decide +kernel
theorem dX8_run_126 : decode cX8_run 126 = .ok (.aload_n 0, 1) := by decide +kernel
theorem dX8_run_127 : decode cX8_run 127 = .ok (.iload 4, 2) := by decide +kernel
theorem dX8_run_129 : decode cX8_run 129 = .ok (.aload_n 0, 1) := by decide +kernel
theorem dX8_run_130 : decode cX8_run 130 = .ok (.getfield 78, 3) := by decide +kernel
theorem dX8_run_133 : decode cX8_run 133 = .ok (.iconst 4, 1) := by decide +kernel
theorem dX8_run_134 : decode cX8_run 134 = .ok (.iload_n 2, 1) := by decide +kernel
theorem dX8_run_135 : decode cX8_run 135 = .ok (.imul, 1) := by decide +kernel
theorem dX8_run_136 : decode cX8_run 136 = .ok (.iaload, 1) := by decide +kernel
theorem dX8_run_137 : decode cX8_run 137 = .ok (.aload_n 0, 1) := by decide +kernel
theorem dX8_run_138 : decode cX8_run 138 = .ok (.getfield 78, 3) := by decide +kernel
theorem dX8_run_141 : decode cX8_run 141 = .ok (.iconst 4, 1) := by decide +kernel
theorem dX8_run_142 : decode cX8_run 142 = .ok (.iload_n 2, 1) := by decide +kernel
theorem dX8_run_143 : decode cX8_run 143 = .ok (.imul, 1) := by decide +kernel
theorem dX8_run_144 : decode cX8_run 144 = .ok (.iconst 1, 1) := by decide +kernel
theorem dX8_run_145 : decode cX8_run 145 = .ok (.iadd, 1) := by decide +kernel
theorem dX8_run_146 : decode cX8_run 146 = .ok (.iaload, 1) := by decide +kernel
theorem dX8_run_147 : decode cX8_run 147 = .ok (.aload_n 0, 1) := by decide +kernel
theorem dX8_run_148 : decode cX8_run 148 = .ok (.getfield 78, 3) := by decide +kernel
theorem dX8_run_151 : decode cX8_run 151 = .ok (.iconst 4, 1) := by decide +kernel
theorem dX8_run_152 : decode cX8_run 152 = .ok (.iload_n 2, 1) := by decide +kernel
theorem dX8_run_153 : decode cX8_run 153 = .ok (.imul, 1) := by decide +kernel
theorem dX8_run_154 : decode cX8_run 154 = .ok (.iconst 2, 1) := by decide +kernel
theorem dX8_run_155 : decode cX8_run 155 = .ok (.iadd, 1) := by decide +kernel
theorem dX8_run_156 : decode cX8_run 156 = .ok (.iaload, 1) := by decide +kernel
theorem dX8_run_157 : decode cX8_run 157 = .ok (.aload_n 0, 1) := by decide +kernel
theorem dX8_run_158 : decode cX8_run 158 = .ok (.getfield 78, 3) := by decide +kernel
theorem dX8_run_161 : decode cX8_run 161 = .ok (.iconst 4, 1) := by decide +kernel
theorem dX8_run_162 : decode cX8_run 162 = .ok (.iload_n 2, 1) := by decide +kernel
theorem dX8_run_163 : decode cX8_run 163 = .ok (.imul, 1) := by decide +kernel
theorem dX8_run_164 : decode cX8_run 164 = .ok (.iconst 3, 1) := by decide +kernel
theorem dX8_run_165 : decode cX8_run 165 = .ok (.iadd, 1) := by decide +kernel
theorem dX8_run_166 : decode cX8_run 166 = .ok (.iaload, 1) := by decide +kernel
theorem dX8_run_167 : decode cX8_run 167 = .ok (.invokevirtual 203, 3) := by decide +kernel
theorem dX8_run_170 : decode cX8_run 170 = .ok (.ireturn, 1) := by decide +kernel
theorem dX8_told_0 : decode cX8_told 0 = .ok (.iload_n 1, 1) := by decide +kernel
theorem dX8_told_1 : decode cX8_told 1 = .ok (.ifCond .ne 10, 3) := by decide +kernel
theorem dX8_told_4 : decode cX8_told 4 = .ok (.aload_n 0, 1) := by decide +kernel
theorem dX8_told_5 : decode cX8_told 5 = .ok (.getfield 105, 3) := by decide +kernel
theorem dX8_told_8 : decode cX8_told 8 = .ok (.goto 49, 3) := by decide +kernel
theorem dX8_told_11 : decode cX8_told 11 = .ok (.iload_n 1, 1) := by decide +kernel
theorem dX8_told_12 : decode cX8_told 12 = .ok (.iconst 1, 1) := by decide +kernel
theorem dX8_told_13 : decode cX8_told 13 = .ok (.if_icmp .ne 10, 3) := by decide +kernel
theorem dX8_told_16 : decode cX8_told 16 = .ok (.aload_n 0, 1) := by decide +kernel
theorem dX8_told_17 : decode cX8_told 17 = .ok (.getfield 241, 3) := by decide +kernel
theorem dX8_told_20 : decode cX8_told 20 = .ok (.goto 37, 3) := by decide +kernel
theorem dX8_told_23 : decode cX8_told 23 = .ok (.iload_n 1, 1) := by decide +kernel
theorem dX8_told_24 : decode cX8_told 24 = .ok (.iconst 2, 1) := by decide +kernel
theorem dX8_told_25 : decode cX8_told 25 = .ok (.if_icmp .ne 18, 3) := by decide +kernel
theorem dX8_told_28 : decode cX8_told 28 = .ok (.aload_n 0, 1) := by decide +kernel
theorem dX8_told_29 : decode cX8_told 29 = .ok (.getfield 109, 3) := by decide +kernel
theorem dX8_told_32 : decode cX8_told 32 = .ok (.ifCond .ge 7, 3) := by decide +kernel
theorem dX8_told_35 : decode cX8_told 35 = .ok (.iconst 0, 1) := by decide +kernel
theorem dX8_told_36 : decode cX8_told 36 = .ok (.goto 21, 3) := by decide +kernel
theorem dX8_told_39 : decode cX8_told 39 = .ok (.iconst 1, 1) := by decide +kernel
theorem dX8_told_40 : decode cX8_told 40 = .ok (.goto 17, 3) := by decide +kernel
theorem dX8_told_43 : decode cX8_told 43 = .ok (.iload_n 1, 1) := by decide +kernel
theorem dX8_told_44 : decode cX8_told 44 = .ok (.iconst 3, 1) := by decide +kernel
theorem dX8_told_45 : decode cX8_told 45 = .ok (.if_icmp .ne 10, 3) := by decide +kernel
theorem dX8_told_48 : decode cX8_told 48 = .ok (.aload_n 0, 1) := by decide +kernel
theorem dX8_told_49 : decode cX8_told 49 = .ok (.getfield 197, 3) := by decide +kernel
theorem dX8_told_52 : decode cX8_told 52 = .ok (.goto 5, 3) := by decide +kernel
theorem dX8_told_55 : decode cX8_told 55 = .ok (.bipush (-2), 2) := by decide +kernel
theorem dX8_told_57 : decode cX8_told 57 = .ok (.ireturn, 1) := by decide +kernel
theorem dJ9_floorMod_7cf53_0 : decode cJ9_floorMod_7cf53 0 = .ok (.iload_n 0, 1) := by decide +kernel
theorem dJ9_floorMod_7cf53_1 : decode cJ9_floorMod_7cf53 1 = .ok (.iload_n 1, 1) := by decide +kernel
theorem dJ9_floorMod_7cf53_2 : decode cJ9_floorMod_7cf53 2 = .ok (.irem, 1) := by decide +kernel
theorem dJ9_floorMod_7cf53_3 : decode cJ9_floorMod_7cf53 3 = .ok (.istore_n 2, 1) := by decide +kernel
theorem dJ9_floorMod_7cf53_4 : decode cJ9_floorMod_7cf53 4 = .ok (.iload_n 0, 1) := by decide +kernel
theorem dJ9_floorMod_7cf53_5 : decode cJ9_floorMod_7cf53 5 = .ok (.iload_n 1, 1) := by decide +kernel
theorem dJ9_floorMod_7cf53_6 : decode cJ9_floorMod_7cf53 6 = .ok (.ixor, 1) := by decide +kernel
theorem dJ9_floorMod_7cf53_7 : decode cJ9_floorMod_7cf53 7 = .ok (.ifCond .ge 11, 3) := by decide +kernel
theorem dJ9_floorMod_7cf53_10 : decode cJ9_floorMod_7cf53 10 = .ok (.iload_n 2, 1) := by decide +kernel
theorem dJ9_floorMod_7cf53_11 : decode cJ9_floorMod_7cf53 11 = .ok (.ifCond .eq 7, 3) := by decide +kernel
theorem dJ9_floorMod_7cf53_14 : decode cJ9_floorMod_7cf53 14 = .ok (.iload_n 2, 1) := by decide +kernel
theorem dJ9_floorMod_7cf53_15 : decode cJ9_floorMod_7cf53 15 = .ok (.iload_n 1, 1) := by decide +kernel
theorem dJ9_floorMod_7cf53_16 : decode cJ9_floorMod_7cf53 16 = .ok (.iadd, 1) := by decide +kernel
theorem dJ9_floorMod_7cf53_17 : decode cJ9_floorMod_7cf53 17 = .ok (.ireturn, 1) := by decide +kernel
theorem dJ9_floorMod_7cf53_18 : decode cJ9_floorMod_7cf53 18 = .ok (.iload_n 2, 1) := by decide +kernel
theorem dJ9_floorMod_7cf53_19 : decode cJ9_floorMod_7cf53 19 = .ok (.ireturn, 1) := by decide +kernel
theorem dJ9_max_7cf53_0 : decode cJ9_max_7cf53 0 = .ok (.iload_n 0, 1) := by decide +kernel
theorem dJ9_max_7cf53_1 : decode cJ9_max_7cf53 1 = .ok (.iload_n 1, 1) := by decide +kernel
theorem dJ9_max_7cf53_2 : decode cJ9_max_7cf53 2 = .ok (.if_icmp .lt 7, 3) := by decide +kernel
theorem dJ9_max_7cf53_5 : decode cJ9_max_7cf53 5 = .ok (.iload_n 0, 1) := by decide +kernel
theorem dJ9_max_7cf53_6 : decode cJ9_max_7cf53 6 = .ok (.goto 4, 3) := by decide +kernel
theorem dJ9_max_7cf53_9 : decode cJ9_max_7cf53 9 = .ok (.iload_n 1, 1) := by decide +kernel
theorem dJ9_max_7cf53_10 : decode cJ9_max_7cf53 10 = .ok (.ireturn, 1) := by decide +kernel
theorem dJ9_min_7cf53_0 : decode cJ9_min_7cf53 0 = .ok (.iload_n 0, 1) := by decide +kernel
theorem dJ9_min_7cf53_1 : decode cJ9_min_7cf53 1 = .ok (.iload_n 1, 1) := by decide +kernel
theorem dJ9_min_7cf53_2 : decode cJ9_min_7cf53 2 = .ok (.if_icmp .gt 7, 3) := by decide +kernel
theorem dJ9_min_7cf53_5 : decode cJ9_min_7cf53 5 = .ok (.iload_n 0, 1) := by decide +kernel
theorem dJ9_min_7cf53_6 : decode cJ9_min_7cf53 6 = .ok (.goto 4, 3) := by decide +kernel
theorem dJ9_min_7cf53_9 : decode cJ9_min_7cf53 9 = .ok (.iload_n 1, 1) := by decide +kernel
theorem dJ9_min_7cf53_10 : decode cJ9_min_7cf53 10 = .ok (.ireturn, 1) := by decide +kernel
theorem dL_law_0 : decode cL_law 0 = .ok (.new 7, 3) := by decide +kernel
theorem dL_law_3 : decode cL_law 3 = .ok (.dup, 1) := by decide +kernel
theorem dL_law_4 : decode cL_law 4 = .ok (.invokespecial 9, 3) := by decide +kernel
theorem dL_law_7 : decode cL_law 7 = .ok (.astore_n 1, 1) := by decide +kernel
theorem dL_law_8 : decode cL_law 8 = .ok (.new 10, 3) := by decide +kernel
theorem dL_law_11 : decode cL_law 11 = .ok (.dup, 1) := by decide +kernel
theorem dL_law_12 : decode cL_law 12 = .ok (.invokespecial 12, 3) := by decide +kernel
theorem dL_law_15 : decode cL_law 15 = .ok (.astore_n 2, 1) := by decide +kernel
theorem dL_law_16 : decode cL_law 16 = .ok (.iconst 0, 1) := by decide +kernel
theorem dL_law_17 : decode cL_law 17 = .ok (.istore_n 3, 1) := by decide +kernel
theorem dL_law_18 : decode cL_law 18 = .ok (.iload_n 3, 1) := by decide +kernel
theorem dL_law_19 : decode cL_law 19 = .ok (.aload_n 0, 1) := by decide +kernel
theorem dL_law_20 : decode cL_law 20 = .ok (.arraylength, 1) := by decide +kernel
theorem dL_law_21 : decode cL_law 21 = .ok (.bipush 8, 2) := by decide +kernel
theorem dL_law_23 : decode cL_law 23 = .ok (.isub, 1) := by decide +kernel
theorem dL_law_24 : decode cL_law 24 = .ok (.if_icmp .gt 999, 3) := by decide +kernel
theorem dL_law_27 : decode cL_law 27 = .ok (.aload_n 0, 1) := by decide +kernel
theorem dL_law_28 : decode cL_law 28 = .ok (.iload_n 3, 1) := by decide +kernel
theorem dL_law_29 : decode cL_law 29 = .ok (.iaload, 1) := by decide +kernel
theorem dL_law_30 : decode cL_law 30 = .ok (.bipush 31, 2) := by decide +kernel
theorem dL_law_32 : decode cL_law 32 = .ok (.iand, 1) := by decide +kernel
theorem dL_law_33 : decode cL_law 33 = .ok (.tableswitch 984 0 21 #[103, 126, 169, 232, 255, 298, 331, 394, 457, 490, 533, 566, 620, 683, 716, 803, 846, 859, 882, 905, 938, 961], 103) := by decide +kernel
theorem dL_law_136 : decode cL_law 136 = .ok (.aload_n 1, 1) := by decide +kernel
theorem dL_law_137 : decode cL_law 137 = .ok (.aload_n 0, 1) := by decide +kernel
theorem dL_law_138 : decode cL_law 138 = .ok (.iload_n 3, 1) := by decide +kernel
theorem dL_law_139 : decode cL_law 139 = .ok (.iconst 1, 1) := by decide +kernel
theorem dL_law_140 : decode cL_law 140 = .ok (.iadd, 1) := by decide +kernel
theorem dL_law_141 : decode cL_law 141 = .ok (.iaload, 1) := by decide +kernel
theorem dL_law_142 : decode cL_law 142 = .ok (.invokevirtual 13, 3) := by decide +kernel
end
section
theorem dL_law_145 : decode cL_law 145 = .ok (.aload_n 2, 1) := by decide +kernel
theorem dL_law_146 : decode cL_law 146 = .ok (.aload_n 0, 1) := by decide +kernel
theorem dL_law_147 : decode cL_law 147 = .ok (.iload_n 3, 1) := by decide +kernel
theorem dL_law_148 : decode cL_law 148 = .ok (.iconst 1, 1) := by decide +kernel
theorem dL_law_149 : decode cL_law 149 = .ok (.iadd, 1) := by decide +kernel
theorem dL_law_150 : decode cL_law 150 = .ok (.iaload, 1) := by decide +kernel
theorem dL_law_151 : decode cL_law 151 = .ok (.invokevirtual 17, 3) := by decide +kernel
theorem dL_law_154 : decode cL_law 154 = .ok (.if_icmp .eq 863, 3) := by decide +kernel
theorem dL_law_157 : decode cL_law 157 = .ok (.iconst 0, 1) := by decide +kernel
theorem dL_law_158 : decode cL_law 158 = .ok (.ireturn, 1) := by decide +kernel
theorem dL_law_159 : decode cL_law 159 = .ok (.aload_n 1, 1) := by decide +kernel
theorem dL_law_160 : decode cL_law 160 = .ok (.aload_n 0, 1) := by decide +kernel
theorem dL_law_161 : decode cL_law 161 = .ok (.iload_n 3, 1) := by decide +kernel
theorem dL_law_162 : decode cL_law 162 = .ok (.iconst 1, 1) := by decide +kernel
theorem dL_law_163 : decode cL_law 163 = .ok (.iadd, 1) := by decide +kernel
theorem dL_law_164 : decode cL_law 164 = .ok (.iaload, 1) := by decide +kernel
theorem dL_law_165 : decode cL_law 165 = .ok (.aload_n 0, 1) := by decide +kernel
theorem dL_law_166 : decode cL_law 166 = .ok (.iload_n 3, 1) := by decide +kernel
theorem dL_law_167 : decode cL_law 167 = .ok (.iconst 2, 1) := by decide +kernel
theorem dL_law_168 : decode cL_law 168 = .ok (.iadd, 1) := by decide +kernel
theorem dL_law_169 : decode cL_law 169 = .ok (.iaload, 1) := by decide +kernel
theorem dL_law_170 : decode cL_law 170 = .ok (.aload_n 0, 1) := by decide +kernel
theorem dL_law_171 : decode cL_law 171 = .ok (.iload_n 3, 1) := by decide +kernel
theorem dL_law_172 : decode cL_law 172 = .ok (.iconst 3, 1) := by decide +kernel
theorem dL_law_173 : decode cL_law 173 = .ok (.iadd, 1) := by decide +kernel
theorem dL_law_174 : decode cL_law 174 = .ok (.iaload, 1) := by decide +kernel
theorem dL_law_175 : decode cL_law 175 = .ok (.invokevirtual 18, 3) := by decide +kernel
theorem dL_law_178 : decode cL_law 178 = .ok (.aload_n 2, 1) := by decide +kernel
theorem dL_law_179 : decode cL_law 179 = .ok (.aload_n 0, 1) := by decide +kernel
theorem dL_law_180 : decode cL_law 180 = .ok (.iload_n 3, 1) := by decide +kernel
theorem dL_law_181 : decode cL_law 181 = .ok (.iconst 1, 1) := by decide +kernel
theorem dL_law_182 : decode cL_law 182 = .ok (.iadd, 1) := by decide +kernel
theorem dL_law_183 : decode cL_law 183 = .ok (.iaload, 1) := by decide +kernel
theorem dL_law_184 : decode cL_law 184 = .ok (.aload_n 0, 1) := by decide +kernel
theorem dL_law_185 : decode cL_law 185 = .ok (.iload_n 3, 1) := by decide +kernel
theorem dL_law_186 : decode cL_law 186 = .ok (.iconst 2, 1) := by decide +kernel
theorem dL_law_187 : decode cL_law 187 = .ok (.iadd, 1) := by decide +kernel
theorem dL_law_188 : decode cL_law 188 = .ok (.iaload, 1) := by decide +kernel
theorem dL_law_189 : decode cL_law 189 = .ok (.aload_n 0, 1) := by decide +kernel
theorem dL_law_190 : decode cL_law 190 = .ok (.iload_n 3, 1) := by decide +kernel
theorem dL_law_191 : decode cL_law 191 = .ok (.iconst 3, 1) := by decide +kernel
theorem dL_law_192 : decode cL_law 192 = .ok (.iadd, 1) := by decide +kernel
theorem dL_law_193 : decode cL_law 193 = .ok (.iaload, 1) := by decide +kernel
theorem dL_law_194 : decode cL_law 194 = .ok (.invokevirtual 22, 3) := by decide +kernel
theorem dL_law_197 : decode cL_law 197 = .ok (.if_icmp .eq 820, 3) := by decide +kernel
theorem dL_law_200 : decode cL_law 200 = .ok (.iconst 0, 1) := by decide +kernel
theorem dL_law_201 : decode cL_law 201 = .ok (.ireturn, 1) := by decide +kernel
theorem dL_law_202 : decode cL_law 202 = .ok (.aload_n 1, 1) := by decide +kernel
theorem dL_law_203 : decode cL_law 203 = .ok (.aload_n 0, 1) := by decide +kernel
theorem dL_law_204 : decode cL_law 204 = .ok (.iload_n 3, 1) := by decide +kernel
theorem dL_law_205 : decode cL_law 205 = .ok (.iconst 1, 1) := by decide +kernel
theorem dL_law_206 : decode cL_law 206 = .ok (.iadd, 1) := by decide +kernel
theorem dL_law_207 : decode cL_law 207 = .ok (.iaload, 1) := by decide +kernel
theorem dL_law_208 : decode cL_law 208 = .ok (.aload_n 0, 1) := by decide +kernel
theorem dL_law_209 : decode cL_law 209 = .ok (.iload_n 3, 1) := by decide +kernel
theorem dL_law_210 : decode cL_law 210 = .ok (.iconst 2, 1) := by decide +kernel
theorem dL_law_211 : decode cL_law 211 = .ok (.iadd, 1) := by decide +kernel
theorem dL_law_212 : decode cL_law 212 = .ok (.iaload, 1) := by decide +kernel
theorem dL_law_213 : decode cL_law 213 = .ok (.aload_n 0, 1) := by decide +kernel
theorem dL_law_214 : decode cL_law 214 = .ok (.iload_n 3, 1) := by decide +kernel
theorem dL_law_215 : decode cL_law 215 = .ok (.iconst 3, 1) := by decide +kernel
theorem dL_law_216 : decode cL_law 216 = .ok (.iadd, 1) := by decide +kernel
theorem dL_law_217 : decode cL_law 217 = .ok (.iaload, 1) := by decide +kernel
theorem dL_law_218 : decode cL_law 218 = .ok (.aload_n 0, 1) := by decide +kernel
theorem dL_law_219 : decode cL_law 219 = .ok (.iload_n 3, 1) := by decide +kernel
theorem dL_law_220 : decode cL_law 220 = .ok (.iconst 4, 1) := by decide +kernel
theorem dL_law_221 : decode cL_law 221 = .ok (.iadd, 1) := by decide +kernel
theorem dL_law_222 : decode cL_law 222 = .ok (.iaload, 1) := by decide +kernel
theorem dL_law_223 : decode cL_law 223 = .ok (.aload_n 0, 1) := by decide +kernel
theorem dL_law_224 : decode cL_law 224 = .ok (.iload_n 3, 1) := by decide +kernel
theorem dL_law_225 : decode cL_law 225 = .ok (.iconst 5, 1) := by decide +kernel
theorem dL_law_226 : decode cL_law 226 = .ok (.iadd, 1) := by decide +kernel
theorem dL_law_227 : decode cL_law 227 = .ok (.iaload, 1) := by decide +kernel
theorem dL_law_228 : decode cL_law 228 = .ok (.invokevirtual 23, 3) := by decide +kernel
theorem dL_law_231 : decode cL_law 231 = .ok (.aload_n 2, 1) := by decide +kernel
theorem dL_law_232 : decode cL_law 232 = .ok (.aload_n 0, 1) := by decide +kernel
theorem dL_law_233 : decode cL_law 233 = .ok (.iload_n 3, 1) := by decide +kernel
theorem dL_law_234 : decode cL_law 234 = .ok (.iconst 1, 1) := by decide +kernel
theorem dL_law_235 : decode cL_law 235 = .ok (.iadd, 1) := by decide +kernel
theorem dL_law_236 : decode cL_law 236 = .ok (.iaload, 1) := by decide +kernel
theorem dL_law_237 : decode cL_law 237 = .ok (.aload_n 0, 1) := by decide +kernel
theorem dL_law_238 : decode cL_law 238 = .ok (.iload_n 3, 1) := by decide +kernel
theorem dL_law_239 : decode cL_law 239 = .ok (.iconst 2, 1) := by decide +kernel
theorem dL_law_240 : decode cL_law 240 = .ok (.iadd, 1) := by decide +kernel
theorem dL_law_241 : decode cL_law 241 = .ok (.iaload, 1) := by decide +kernel
theorem dL_law_242 : decode cL_law 242 = .ok (.aload_n 0, 1) := by decide +kernel
theorem dL_law_243 : decode cL_law 243 = .ok (.iload_n 3, 1) := by decide +kernel
theorem dL_law_244 : decode cL_law 244 = .ok (.iconst 3, 1) := by decide +kernel
theorem dL_law_245 : decode cL_law 245 = .ok (.iadd, 1) := by decide +kernel
theorem dL_law_246 : decode cL_law 246 = .ok (.iaload, 1) := by decide +kernel
theorem dL_law_247 : decode cL_law 247 = .ok (.aload_n 0, 1) := by decide +kernel
theorem dL_law_248 : decode cL_law 248 = .ok (.iload_n 3, 1) := by decide +kernel
theorem dL_law_249 : decode cL_law 249 = .ok (.iconst 4, 1) := by decide +kernel
theorem dL_law_250 : decode cL_law 250 = .ok (.iadd, 1) := by decide +kernel
theorem dL_law_251 : decode cL_law 251 = .ok (.iaload, 1) := by decide +kernel
theorem dL_law_252 : decode cL_law 252 = .ok (.aload_n 0, 1) := by decide +kernel
theorem dL_law_253 : decode cL_law 253 = .ok (.iload_n 3, 1) := by decide +kernel
theorem dL_law_254 : decode cL_law 254 = .ok (.iconst 5, 1) := by decide +kernel
theorem dL_law_255 : decode cL_law 255 = .ok (.iadd, 1) := by decide +kernel
theorem dL_law_256 : decode cL_law 256 = .ok (.iaload, 1) := by decide +kernel
theorem dL_law_257 : decode cL_law 257 = .ok (.invokevirtual 27, 3) := by decide +kernel
theorem dL_law_260 : decode cL_law 260 = .ok (.if_icmp .eq 757, 3) := by decide +kernel
theorem dL_law_263 : decode cL_law 263 = .ok (.iconst 0, 1) := by decide +kernel
theorem dL_law_264 : decode cL_law 264 = .ok (.ireturn, 1) := by decide +kernel
theorem dL_law_265 : decode cL_law 265 = .ok (.aload_n 1, 1) := by decide +kernel
theorem dL_law_266 : decode cL_law 266 = .ok (.aload_n 0, 1) := by decide +kernel
theorem dL_law_267 : decode cL_law 267 = .ok (.iload_n 3, 1) := by decide +kernel
theorem dL_law_268 : decode cL_law 268 = .ok (.iconst 1, 1) := by decide +kernel
theorem dL_law_269 : decode cL_law 269 = .ok (.iadd, 1) := by decide +kernel
theorem dL_law_270 : decode cL_law 270 = .ok (.iaload, 1) := by decide +kernel
theorem dL_law_271 : decode cL_law 271 = .ok (.invokevirtual 28, 3) := by decide +kernel
theorem dL_law_274 : decode cL_law 274 = .ok (.aload_n 2, 1) := by decide +kernel
theorem dL_law_275 : decode cL_law 275 = .ok (.aload_n 0, 1) := by decide +kernel
theorem dL_law_276 : decode cL_law 276 = .ok (.iload_n 3, 1) := by decide +kernel
theorem dL_law_277 : decode cL_law 277 = .ok (.iconst 1, 1) := by decide +kernel
theorem dL_law_278 : decode cL_law 278 = .ok (.iadd, 1) := by decide +kernel
theorem dL_law_279 : decode cL_law 279 = .ok (.iaload, 1) := by decide +kernel
theorem dL_law_280 : decode cL_law 280 = .ok (.invokevirtual 31, 3) := by decide +kernel
theorem dL_law_283 : decode cL_law 283 = .ok (.if_icmp .eq 734, 3) := by decide +kernel
theorem dL_law_286 : decode cL_law 286 = .ok (.iconst 0, 1) := by decide +kernel
theorem dL_law_287 : decode cL_law 287 = .ok (.ireturn, 1) := by decide +kernel
theorem dL_law_288 : decode cL_law 288 = .ok (.aload_n 1, 1) := by decide +kernel
theorem dL_law_289 : decode cL_law 289 = .ok (.aload_n 0, 1) := by decide +kernel
theorem dL_law_290 : decode cL_law 290 = .ok (.iload_n 3, 1) := by decide +kernel
theorem dL_law_291 : decode cL_law 291 = .ok (.iconst 1, 1) := by decide +kernel
theorem dL_law_292 : decode cL_law 292 = .ok (.iadd, 1) := by decide +kernel
theorem dL_law_293 : decode cL_law 293 = .ok (.iaload, 1) := by decide +kernel
theorem dL_law_294 : decode cL_law 294 = .ok (.aload_n 0, 1) := by decide +kernel
theorem dL_law_295 : decode cL_law 295 = .ok (.iload_n 3, 1) := by decide +kernel
theorem dL_law_296 : decode cL_law 296 = .ok (.iconst 2, 1) := by decide +kernel
theorem dL_law_297 : decode cL_law 297 = .ok (.iadd, 1) := by decide +kernel
theorem dL_law_298 : decode cL_law 298 = .ok (.iaload, 1) := by decide +kernel
theorem dL_law_299 : decode cL_law 299 = .ok (.aload_n 0, 1) := by decide +kernel
theorem dL_law_300 : decode cL_law 300 = .ok (.iload_n 3, 1) := by decide +kernel
theorem dL_law_301 : decode cL_law 301 = .ok (.iconst 3, 1) := by decide +kernel
theorem dL_law_302 : decode cL_law 302 = .ok (.iadd, 1) := by decide +kernel
theorem dL_law_303 : decode cL_law 303 = .ok (.iaload, 1) := by decide +kernel
theorem dL_law_304 : decode cL_law 304 = .ok (.invokevirtual 32, 3) := by decide +kernel
theorem dL_law_307 : decode cL_law 307 = .ok (.aload_n 2, 1) := by decide +kernel
theorem dL_law_308 : decode cL_law 308 = .ok (.aload_n 0, 1) := by decide +kernel
theorem dL_law_309 : decode cL_law 309 = .ok (.iload_n 3, 1) := by decide +kernel
theorem dL_law_310 : decode cL_law 310 = .ok (.iconst 1, 1) := by decide +kernel
theorem dL_law_311 : decode cL_law 311 = .ok (.iadd, 1) := by decide +kernel
theorem dL_law_312 : decode cL_law 312 = .ok (.iaload, 1) := by decide +kernel
theorem dL_law_313 : decode cL_law 313 = .ok (.aload_n 0, 1) := by decide +kernel
theorem dL_law_314 : decode cL_law 314 = .ok (.iload_n 3, 1) := by decide +kernel
theorem dL_law_315 : decode cL_law 315 = .ok (.iconst 2, 1) := by decide +kernel
theorem dL_law_316 : decode cL_law 316 = .ok (.iadd, 1) := by decide +kernel
theorem dL_law_317 : decode cL_law 317 = .ok (.iaload, 1) := by decide +kernel
theorem dL_law_318 : decode cL_law 318 = .ok (.aload_n 0, 1) := by decide +kernel
theorem dL_law_319 : decode cL_law 319 = .ok (.iload_n 3, 1) := by decide +kernel
theorem dL_law_320 : decode cL_law 320 = .ok (.iconst 3, 1) := by decide +kernel
theorem dL_law_321 : decode cL_law 321 = .ok (.iadd, 1) := by decide +kernel
theorem dL_law_322 : decode cL_law 322 = .ok (.iaload, 1) := by decide +kernel
theorem dL_law_323 : decode cL_law 323 = .ok (.invokevirtual 35, 3) := by decide +kernel
theorem dL_law_326 : decode cL_law 326 = .ok (.if_icmp .eq 691, 3) := by decide +kernel
theorem dL_law_329 : decode cL_law 329 = .ok (.iconst 0, 1) := by decide +kernel
theorem dL_law_330 : decode cL_law 330 = .ok (.ireturn, 1) := by decide +kernel
theorem dL_law_331 : decode cL_law 331 = .ok (.aload_n 1, 1) := by decide +kernel
theorem dL_law_332 : decode cL_law 332 = .ok (.aload_n 0, 1) := by decide +kernel
theorem dL_law_333 : decode cL_law 333 = .ok (.iload_n 3, 1) := by decide +kernel
theorem dL_law_334 : decode cL_law 334 = .ok (.iconst 1, 1) := by decide +kernel
theorem dL_law_335 : decode cL_law 335 = .ok (.iadd, 1) := by decide +kernel
theorem dL_law_336 : decode cL_law 336 = .ok (.iaload, 1) := by decide +kernel
theorem dL_law_337 : decode cL_law 337 = .ok (.aload_n 0, 1) := by decide +kernel
theorem dL_law_338 : decode cL_law 338 = .ok (.iload_n 3, 1) := by decide +kernel
theorem dL_law_339 : decode cL_law 339 = .ok (.iconst 2, 1) := by decide +kernel
theorem dL_law_340 : decode cL_law 340 = .ok (.iadd, 1) := by decide +kernel
theorem dL_law_341 : decode cL_law 341 = .ok (.iaload, 1) := by decide +kernel
theorem dL_law_342 : decode cL_law 342 = .ok (.invokevirtual 36, 3) := by decide +kernel
theorem dL_law_345 : decode cL_law 345 = .ok (.aload_n 2, 1) := by decide +kernel
theorem dL_law_346 : decode cL_law 346 = .ok (.aload_n 0, 1) := by decide +kernel
theorem dL_law_347 : decode cL_law 347 = .ok (.iload_n 3, 1) := by decide +kernel
theorem dL_law_348 : decode cL_law 348 = .ok (.iconst 1, 1) := by decide +kernel
theorem dL_law_349 : decode cL_law 349 = .ok (.iadd, 1) := by decide +kernel
theorem dL_law_350 : decode cL_law 350 = .ok (.iaload, 1) := by decide +kernel
theorem dL_law_351 : decode cL_law 351 = .ok (.aload_n 0, 1) := by decide +kernel
theorem dL_law_352 : decode cL_law 352 = .ok (.iload_n 3, 1) := by decide +kernel
theorem dL_law_353 : decode cL_law 353 = .ok (.iconst 2, 1) := by decide +kernel
theorem dL_law_354 : decode cL_law 354 = .ok (.iadd, 1) := by decide +kernel
theorem dL_law_355 : decode cL_law 355 = .ok (.iaload, 1) := by decide +kernel
theorem dL_law_356 : decode cL_law 356 = .ok (.invokevirtual 40, 3) := by decide +kernel
theorem dL_law_359 : decode cL_law 359 = .ok (.if_icmp .eq 658, 3) := by decide +kernel
theorem dL_law_362 : decode cL_law 362 = .ok (.iconst 0, 1) := by decide +kernel
theorem dL_law_363 : decode cL_law 363 = .ok (.ireturn, 1) := by decide +kernel
theorem dL_law_364 : decode cL_law 364 = .ok (.aload_n 1, 1) := by decide +kernel
theorem dL_law_365 : decode cL_law 365 = .ok (.aload_n 0, 1) := by decide +kernel
theorem dL_law_366 : decode cL_law 366 = .ok (.iload_n 3, 1) := by decide +kernel
theorem dL_law_367 : decode cL_law 367 = .ok (.iconst 1, 1) := by decide +kernel
theorem dL_law_368 : decode cL_law 368 = .ok (.iadd, 1) := by decide +kernel
theorem dL_law_369 : decode cL_law 369 = .ok (.iaload, 1) := by decide +kernel
theorem dL_law_370 : decode cL_law 370 = .ok (.aload_n 0, 1) := by decide +kernel
theorem dL_law_371 : decode cL_law 371 = .ok (.iload_n 3, 1) := by decide +kernel
theorem dL_law_372 : decode cL_law 372 = .ok (.iconst 2, 1) := by decide +kernel
theorem dL_law_373 : decode cL_law 373 = .ok (.iadd, 1) := by decide +kernel
theorem dL_law_374 : decode cL_law 374 = .ok (.iaload, 1) := by decide +kernel
theorem dL_law_375 : decode cL_law 375 = .ok (.aload_n 0, 1) := by decide +kernel
theorem dL_law_376 : decode cL_law 376 = .ok (.iload_n 3, 1) := by decide +kernel
theorem dL_law_377 : decode cL_law 377 = .ok (.iconst 3, 1) := by decide +kernel
theorem dL_law_378 : decode cL_law 378 = .ok (.iadd, 1) := by decide +kernel
theorem dL_law_379 : decode cL_law 379 = .ok (.iaload, 1) := by decide +kernel
theorem dL_law_380 : decode cL_law 380 = .ok (.aload_n 0, 1) := by decide +kernel
theorem dL_law_381 : decode cL_law 381 = .ok (.iload_n 3, 1) := by decide +kernel
theorem dL_law_382 : decode cL_law 382 = .ok (.iconst 4, 1) := by decide +kernel
theorem dL_law_383 : decode cL_law 383 = .ok (.iadd, 1) := by decide +kernel
theorem dL_law_384 : decode cL_law 384 = .ok (.iaload, 1) := by decide +kernel
theorem dL_law_385 : decode cL_law 385 = .ok (.aload_n 0, 1) := by decide +kernel
theorem dL_law_386 : decode cL_law 386 = .ok (.iload_n 3, 1) := by decide +kernel
theorem dL_law_387 : decode cL_law 387 = .ok (.iconst 5, 1) := by decide +kernel
theorem dL_law_388 : decode cL_law 388 = .ok (.iadd, 1) := by decide +kernel
theorem dL_law_389 : decode cL_law 389 = .ok (.iaload, 1) := by decide +kernel
theorem dL_law_390 : decode cL_law 390 = .ok (.invokevirtual 41, 3) := by decide +kernel
theorem dL_law_393 : decode cL_law 393 = .ok (.aload_n 2, 1) := by decide +kernel
theorem dL_law_394 : decode cL_law 394 = .ok (.aload_n 0, 1) := by decide +kernel
theorem dL_law_395 : decode cL_law 395 = .ok (.iload_n 3, 1) := by decide +kernel
theorem dL_law_396 : decode cL_law 396 = .ok (.iconst 1, 1) := by decide +kernel
theorem dL_law_397 : decode cL_law 397 = .ok (.iadd, 1) := by decide +kernel
theorem dL_law_398 : decode cL_law 398 = .ok (.iaload, 1) := by decide +kernel
theorem dL_law_399 : decode cL_law 399 = .ok (.aload_n 0, 1) := by decide +kernel
theorem dL_law_400 : decode cL_law 400 = .ok (.iload_n 3, 1) := by decide +kernel
theorem dL_law_401 : decode cL_law 401 = .ok (.iconst 2, 1) := by decide +kernel
theorem dL_law_402 : decode cL_law 402 = .ok (.iadd, 1) := by decide +kernel
theorem dL_law_403 : decode cL_law 403 = .ok (.iaload, 1) := by decide +kernel
theorem dL_law_404 : decode cL_law 404 = .ok (.aload_n 0, 1) := by decide +kernel
theorem dL_law_405 : decode cL_law 405 = .ok (.iload_n 3, 1) := by decide +kernel
theorem dL_law_406 : decode cL_law 406 = .ok (.iconst 3, 1) := by decide +kernel
theorem dL_law_407 : decode cL_law 407 = .ok (.iadd, 1) := by decide +kernel
theorem dL_law_408 : decode cL_law 408 = .ok (.iaload, 1) := by decide +kernel
theorem dL_law_409 : decode cL_law 409 = .ok (.aload_n 0, 1) := by decide +kernel
theorem dL_law_410 : decode cL_law 410 = .ok (.iload_n 3, 1) := by decide +kernel
theorem dL_law_411 : decode cL_law 411 = .ok (.iconst 4, 1) := by decide +kernel
theorem dL_law_412 : decode cL_law 412 = .ok (.iadd, 1) := by decide +kernel
theorem dL_law_413 : decode cL_law 413 = .ok (.iaload, 1) := by decide +kernel
theorem dL_law_414 : decode cL_law 414 = .ok (.aload_n 0, 1) := by decide +kernel
theorem dL_law_415 : decode cL_law 415 = .ok (.iload_n 3, 1) := by decide +kernel
theorem dL_law_416 : decode cL_law 416 = .ok (.iconst 5, 1) := by decide +kernel
theorem dL_law_417 : decode cL_law 417 = .ok (.iadd, 1) := by decide +kernel
theorem dL_law_418 : decode cL_law 418 = .ok (.iaload, 1) := by decide +kernel
theorem dL_law_419 : decode cL_law 419 = .ok (.invokevirtual 44, 3) := by decide +kernel
theorem dL_law_422 : decode cL_law 422 = .ok (.if_icmp .eq 595, 3) := by decide +kernel
theorem dL_law_425 : decode cL_law 425 = .ok (.iconst 0, 1) := by decide +kernel
theorem dL_law_426 : decode cL_law 426 = .ok (.ireturn, 1) := by decide +kernel
theorem dL_law_427 : decode cL_law 427 = .ok (.aload_n 1, 1) := by decide +kernel
theorem dL_law_428 : decode cL_law 428 = .ok (.aload_n 0, 1) := by decide +kernel
theorem dL_law_429 : decode cL_law 429 = .ok (.iload_n 3, 1) := by decide +kernel
theorem dL_law_430 : decode cL_law 430 = .ok (.iconst 1, 1) := by decide +kernel
theorem dL_law_431 : decode cL_law 431 = .ok (.iadd, 1) := by decide +kernel
theorem dL_law_432 : decode cL_law 432 = .ok (.iaload, 1) := by decide +kernel
theorem dL_law_433 : decode cL_law 433 = .ok (.aload_n 0, 1) := by decide +kernel
theorem dL_law_434 : decode cL_law 434 = .ok (.iload_n 3, 1) := by decide +kernel
theorem dL_law_435 : decode cL_law 435 = .ok (.iconst 2, 1) := by decide +kernel
theorem dL_law_436 : decode cL_law 436 = .ok (.iadd, 1) := by decide +kernel
theorem dL_law_437 : decode cL_law 437 = .ok (.iaload, 1) := by decide +kernel
theorem dL_law_438 : decode cL_law 438 = .ok (.aload_n 0, 1) := by decide +kernel
theorem dL_law_439 : decode cL_law 439 = .ok (.iload_n 3, 1) := by decide +kernel
theorem dL_law_440 : decode cL_law 440 = .ok (.iconst 3, 1) := by decide +kernel
theorem dL_law_441 : decode cL_law 441 = .ok (.iadd, 1) := by decide +kernel
theorem dL_law_442 : decode cL_law 442 = .ok (.iaload, 1) := by decide +kernel
theorem dL_law_443 : decode cL_law 443 = .ok (.aload_n 0, 1) := by decide +kernel
theorem dL_law_444 : decode cL_law 444 = .ok (.iload_n 3, 1) := by decide +kernel
theorem dL_law_445 : decode cL_law 445 = .ok (.iconst 4, 1) := by decide +kernel
theorem dL_law_446 : decode cL_law 446 = .ok (.iadd, 1) := by decide +kernel
theorem dL_law_447 : decode cL_law 447 = .ok (.iaload, 1) := by decide +kernel
theorem dL_law_448 : decode cL_law 448 = .ok (.aload_n 0, 1) := by decide +kernel
theorem dL_law_449 : decode cL_law 449 = .ok (.iload_n 3, 1) := by decide +kernel
theorem dL_law_450 : decode cL_law 450 = .ok (.iconst 5, 1) := by decide +kernel
theorem dL_law_451 : decode cL_law 451 = .ok (.iadd, 1) := by decide +kernel
theorem dL_law_452 : decode cL_law 452 = .ok (.iaload, 1) := by decide +kernel
theorem dL_law_453 : decode cL_law 453 = .ok (.invokevirtual 45, 3) := by decide +kernel
theorem dL_law_456 : decode cL_law 456 = .ok (.aload_n 2, 1) := by decide +kernel
theorem dL_law_457 : decode cL_law 457 = .ok (.aload_n 0, 1) := by decide +kernel
theorem dL_law_458 : decode cL_law 458 = .ok (.iload_n 3, 1) := by decide +kernel
theorem dL_law_459 : decode cL_law 459 = .ok (.iconst 1, 1) := by decide +kernel
theorem dL_law_460 : decode cL_law 460 = .ok (.iadd, 1) := by decide +kernel
theorem dL_law_461 : decode cL_law 461 = .ok (.iaload, 1) := by decide +kernel
theorem dL_law_462 : decode cL_law 462 = .ok (.aload_n 0, 1) := by decide +kernel
theorem dL_law_463 : decode cL_law 463 = .ok (.iload_n 3, 1) := by decide +kernel
theorem dL_law_464 : decode cL_law 464 = .ok (.iconst 2, 1) := by decide +kernel
theorem dL_law_465 : decode cL_law 465 = .ok (.iadd, 1) := by decide +kernel
theorem dL_law_466 : decode cL_law 466 = .ok (.iaload, 1) := by decide +kernel
theorem dL_law_467 : decode cL_law 467 = .ok (.aload_n 0, 1) := by decide +kernel
theorem dL_law_468 : decode cL_law 468 = .ok (.iload_n 3, 1) := by decide +kernel
theorem dL_law_469 : decode cL_law 469 = .ok (.iconst 3, 1) := by decide +kernel
theorem dL_law_470 : decode cL_law 470 = .ok (.iadd, 1) := by decide +kernel
theorem dL_law_471 : decode cL_law 471 = .ok (.iaload, 1) := by decide +kernel
theorem dL_law_472 : decode cL_law 472 = .ok (.aload_n 0, 1) := by decide +kernel
theorem dL_law_473 : decode cL_law 473 = .ok (.iload_n 3, 1) := by decide +kernel
theorem dL_law_474 : decode cL_law 474 = .ok (.iconst 4, 1) := by decide +kernel
theorem dL_law_475 : decode cL_law 475 = .ok (.iadd, 1) := by decide +kernel
theorem dL_law_476 : decode cL_law 476 = .ok (.iaload, 1) := by decide +kernel
theorem dL_law_477 : decode cL_law 477 = .ok (.aload_n 0, 1) := by decide +kernel
theorem dL_law_478 : decode cL_law 478 = .ok (.iload_n 3, 1) := by decide +kernel
theorem dL_law_479 : decode cL_law 479 = .ok (.iconst 5, 1) := by decide +kernel
theorem dL_law_480 : decode cL_law 480 = .ok (.iadd, 1) := by decide +kernel
theorem dL_law_481 : decode cL_law 481 = .ok (.iaload, 1) := by decide +kernel
theorem dL_law_482 : decode cL_law 482 = .ok (.invokevirtual 48, 3) := by decide +kernel
theorem dL_law_485 : decode cL_law 485 = .ok (.if_icmp .eq 532, 3) := by decide +kernel
theorem dL_law_488 : decode cL_law 488 = .ok (.iconst 0, 1) := by decide +kernel
theorem dL_law_489 : decode cL_law 489 = .ok (.ireturn, 1) := by decide +kernel
theorem dL_law_490 : decode cL_law 490 = .ok (.aload_n 1, 1) := by decide +kernel
theorem dL_law_491 : decode cL_law 491 = .ok (.aload_n 0, 1) := by decide +kernel
theorem dL_law_492 : decode cL_law 492 = .ok (.iload_n 3, 1) := by decide +kernel
theorem dL_law_493 : decode cL_law 493 = .ok (.iconst 1, 1) := by decide +kernel
theorem dL_law_494 : decode cL_law 494 = .ok (.iadd, 1) := by decide +kernel
theorem dL_law_495 : decode cL_law 495 = .ok (.iaload, 1) := by decide +kernel
theorem dL_law_496 : decode cL_law 496 = .ok (.aload_n 0, 1) := by decide +kernel
theorem dL_law_497 : decode cL_law 497 = .ok (.iload_n 3, 1) := by decide +kernel
theorem dL_law_498 : decode cL_law 498 = .ok (.iconst 2, 1) := by decide +kernel
theorem dL_law_499 : decode cL_law 499 = .ok (.iadd, 1) := by decide +kernel
theorem dL_law_500 : decode cL_law 500 = .ok (.iaload, 1) := by decide +kernel
theorem dL_law_501 : decode cL_law 501 = .ok (.invokevirtual 49, 3) := by decide +kernel
theorem dL_law_504 : decode cL_law 504 = .ok (.aload_n 2, 1) := by decide +kernel
theorem dL_law_505 : decode cL_law 505 = .ok (.aload_n 0, 1) := by decide +kernel
theorem dL_law_506 : decode cL_law 506 = .ok (.iload_n 3, 1) := by decide +kernel
theorem dL_law_507 : decode cL_law 507 = .ok (.iconst 1, 1) := by decide +kernel
theorem dL_law_508 : decode cL_law 508 = .ok (.iadd, 1) := by decide +kernel
theorem dL_law_509 : decode cL_law 509 = .ok (.iaload, 1) := by decide +kernel
theorem dL_law_510 : decode cL_law 510 = .ok (.aload_n 0, 1) := by decide +kernel
theorem dL_law_511 : decode cL_law 511 = .ok (.iload_n 3, 1) := by decide +kernel
theorem dL_law_512 : decode cL_law 512 = .ok (.iconst 2, 1) := by decide +kernel
theorem dL_law_513 : decode cL_law 513 = .ok (.iadd, 1) := by decide +kernel
theorem dL_law_514 : decode cL_law 514 = .ok (.iaload, 1) := by decide +kernel
theorem dL_law_515 : decode cL_law 515 = .ok (.invokevirtual 52, 3) := by decide +kernel
theorem dL_law_518 : decode cL_law 518 = .ok (.if_icmp .eq 499, 3) := by decide +kernel
theorem dL_law_521 : decode cL_law 521 = .ok (.iconst 0, 1) := by decide +kernel
theorem dL_law_522 : decode cL_law 522 = .ok (.ireturn, 1) := by decide +kernel
theorem dL_law_523 : decode cL_law 523 = .ok (.aload_n 1, 1) := by decide +kernel
theorem dL_law_524 : decode cL_law 524 = .ok (.aload_n 0, 1) := by decide +kernel
theorem dL_law_525 : decode cL_law 525 = .ok (.iload_n 3, 1) := by decide +kernel
theorem dL_law_526 : decode cL_law 526 = .ok (.iconst 1, 1) := by decide +kernel
theorem dL_law_527 : decode cL_law 527 = .ok (.iadd, 1) := by decide +kernel
theorem dL_law_528 : decode cL_law 528 = .ok (.iaload, 1) := by decide +kernel
theorem dL_law_529 : decode cL_law 529 = .ok (.aload_n 0, 1) := by decide +kernel
theorem dL_law_530 : decode cL_law 530 = .ok (.iload_n 3, 1) := by decide +kernel
theorem dL_law_531 : decode cL_law 531 = .ok (.iconst 2, 1) := by decide +kernel
theorem dL_law_532 : decode cL_law 532 = .ok (.iadd, 1) := by decide +kernel
theorem dL_law_533 : decode cL_law 533 = .ok (.iaload, 1) := by decide +kernel
theorem dL_law_534 : decode cL_law 534 = .ok (.aload_n 0, 1) := by decide +kernel
theorem dL_law_535 : decode cL_law 535 = .ok (.iload_n 3, 1) := by decide +kernel
theorem dL_law_536 : decode cL_law 536 = .ok (.iconst 3, 1) := by decide +kernel
theorem dL_law_537 : decode cL_law 537 = .ok (.iadd, 1) := by decide +kernel
theorem dL_law_538 : decode cL_law 538 = .ok (.iaload, 1) := by decide +kernel
theorem dL_law_539 : decode cL_law 539 = .ok (.invokevirtual 53, 3) := by decide +kernel
theorem dL_law_542 : decode cL_law 542 = .ok (.aload_n 2, 1) := by decide +kernel
theorem dL_law_543 : decode cL_law 543 = .ok (.aload_n 0, 1) := by decide +kernel
theorem dL_law_544 : decode cL_law 544 = .ok (.iload_n 3, 1) := by decide +kernel
theorem dL_law_545 : decode cL_law 545 = .ok (.iconst 1, 1) := by decide +kernel
theorem dL_law_546 : decode cL_law 546 = .ok (.iadd, 1) := by decide +kernel
theorem dL_law_547 : decode cL_law 547 = .ok (.iaload, 1) := by decide +kernel
theorem dL_law_548 : decode cL_law 548 = .ok (.aload_n 0, 1) := by decide +kernel
theorem dL_law_549 : decode cL_law 549 = .ok (.iload_n 3, 1) := by decide +kernel
theorem dL_law_550 : decode cL_law 550 = .ok (.iconst 2, 1) := by decide +kernel
theorem dL_law_551 : decode cL_law 551 = .ok (.iadd, 1) := by decide +kernel
theorem dL_law_552 : decode cL_law 552 = .ok (.iaload, 1) := by decide +kernel
theorem dL_law_553 : decode cL_law 553 = .ok (.aload_n 0, 1) := by decide +kernel
theorem dL_law_554 : decode cL_law 554 = .ok (.iload_n 3, 1) := by decide +kernel
theorem dL_law_555 : decode cL_law 555 = .ok (.iconst 3, 1) := by decide +kernel
theorem dL_law_556 : decode cL_law 556 = .ok (.iadd, 1) := by decide +kernel
theorem dL_law_557 : decode cL_law 557 = .ok (.iaload, 1) := by decide +kernel
theorem dL_law_558 : decode cL_law 558 = .ok (.invokevirtual 56, 3) := by decide +kernel
theorem dL_law_561 : decode cL_law 561 = .ok (.if_icmp .eq 456, 3) := by decide +kernel
theorem dL_law_564 : decode cL_law 564 = .ok (.iconst 0, 1) := by decide +kernel
theorem dL_law_565 : decode cL_law 565 = .ok (.ireturn, 1) := by decide +kernel
theorem dL_law_566 : decode cL_law 566 = .ok (.aload_n 1, 1) := by decide +kernel
theorem dL_law_567 : decode cL_law 567 = .ok (.aload_n 0, 1) := by decide +kernel
theorem dL_law_568 : decode cL_law 568 = .ok (.iload_n 3, 1) := by decide +kernel
theorem dL_law_569 : decode cL_law 569 = .ok (.iconst 1, 1) := by decide +kernel
theorem dL_law_570 : decode cL_law 570 = .ok (.iadd, 1) := by decide +kernel
theorem dL_law_571 : decode cL_law 571 = .ok (.iaload, 1) := by decide +kernel
theorem dL_law_572 : decode cL_law 572 = .ok (.aload_n 0, 1) := by decide +kernel
theorem dL_law_573 : decode cL_law 573 = .ok (.iload_n 3, 1) := by decide +kernel
theorem dL_law_574 : decode cL_law 574 = .ok (.iconst 2, 1) := by decide +kernel
theorem dL_law_575 : decode cL_law 575 = .ok (.iadd, 1) := by decide +kernel
theorem dL_law_576 : decode cL_law 576 = .ok (.iaload, 1) := by decide +kernel
theorem dL_law_577 : decode cL_law 577 = .ok (.invokevirtual 57, 3) := by decide +kernel
theorem dL_law_580 : decode cL_law 580 = .ok (.aload_n 2, 1) := by decide +kernel
theorem dL_law_581 : decode cL_law 581 = .ok (.aload_n 0, 1) := by decide +kernel
theorem dL_law_582 : decode cL_law 582 = .ok (.iload_n 3, 1) := by decide +kernel
theorem dL_law_583 : decode cL_law 583 = .ok (.iconst 1, 1) := by decide +kernel
theorem dL_law_584 : decode cL_law 584 = .ok (.iadd, 1) := by decide +kernel
theorem dL_law_585 : decode cL_law 585 = .ok (.iaload, 1) := by decide +kernel
theorem dL_law_586 : decode cL_law 586 = .ok (.aload_n 0, 1) := by decide +kernel
theorem dL_law_587 : decode cL_law 587 = .ok (.iload_n 3, 1) := by decide +kernel
theorem dL_law_588 : decode cL_law 588 = .ok (.iconst 2, 1) := by decide +kernel
theorem dL_law_589 : decode cL_law 589 = .ok (.iadd, 1) := by decide +kernel
theorem dL_law_590 : decode cL_law 590 = .ok (.iaload, 1) := by decide +kernel
theorem dL_law_591 : decode cL_law 591 = .ok (.invokevirtual 60, 3) := by decide +kernel
theorem dL_law_594 : decode cL_law 594 = .ok (.if_icmp .eq 423, 3) := by decide +kernel
theorem dL_law_597 : decode cL_law 597 = .ok (.iconst 0, 1) := by decide +kernel
theorem dL_law_598 : decode cL_law 598 = .ok (.ireturn, 1) := by decide +kernel
theorem dL_law_599 : decode cL_law 599 = .ok (.aload_n 1, 1) := by decide +kernel
theorem dL_law_600 : decode cL_law 600 = .ok (.aload_n 0, 1) := by decide +kernel
theorem dL_law_601 : decode cL_law 601 = .ok (.iload_n 3, 1) := by decide +kernel
theorem dL_law_602 : decode cL_law 602 = .ok (.iconst 1, 1) := by decide +kernel
theorem dL_law_603 : decode cL_law 603 = .ok (.iadd, 1) := by decide +kernel
theorem dL_law_604 : decode cL_law 604 = .ok (.iaload, 1) := by decide +kernel
theorem dL_law_605 : decode cL_law 605 = .ok (.aload_n 0, 1) := by decide +kernel
theorem dL_law_606 : decode cL_law 606 = .ok (.iload_n 3, 1) := by decide +kernel
theorem dL_law_607 : decode cL_law 607 = .ok (.iconst 2, 1) := by decide +kernel
theorem dL_law_608 : decode cL_law 608 = .ok (.iadd, 1) := by decide +kernel
theorem dL_law_609 : decode cL_law 609 = .ok (.iaload, 1) := by decide +kernel
theorem dL_law_610 : decode cL_law 610 = .ok (.aload_n 0, 1) := by decide +kernel
theorem dL_law_611 : decode cL_law 611 = .ok (.iload_n 3, 1) := by decide +kernel
theorem dL_law_612 : decode cL_law 612 = .ok (.iconst 3, 1) := by decide +kernel
theorem dL_law_613 : decode cL_law 613 = .ok (.iadd, 1) := by decide +kernel
theorem dL_law_614 : decode cL_law 614 = .ok (.iaload, 1) := by decide +kernel
theorem dL_law_615 : decode cL_law 615 = .ok (.aload_n 0, 1) := by decide +kernel
theorem dL_law_616 : decode cL_law 616 = .ok (.iload_n 3, 1) := by decide +kernel
theorem dL_law_617 : decode cL_law 617 = .ok (.iconst 4, 1) := by decide +kernel
theorem dL_law_618 : decode cL_law 618 = .ok (.iadd, 1) := by decide +kernel
theorem dL_law_619 : decode cL_law 619 = .ok (.iaload, 1) := by decide +kernel
theorem dL_law_620 : decode cL_law 620 = .ok (.invokevirtual 61, 3) := by decide +kernel
theorem dL_law_623 : decode cL_law 623 = .ok (.aload_n 2, 1) := by decide +kernel
theorem dL_law_624 : decode cL_law 624 = .ok (.aload_n 0, 1) := by decide +kernel
theorem dL_law_625 : decode cL_law 625 = .ok (.iload_n 3, 1) := by decide +kernel
theorem dL_law_626 : decode cL_law 626 = .ok (.iconst 1, 1) := by decide +kernel
theorem dL_law_627 : decode cL_law 627 = .ok (.iadd, 1) := by decide +kernel
theorem dL_law_628 : decode cL_law 628 = .ok (.iaload, 1) := by decide +kernel
theorem dL_law_629 : decode cL_law 629 = .ok (.aload_n 0, 1) := by decide +kernel
theorem dL_law_630 : decode cL_law 630 = .ok (.iload_n 3, 1) := by decide +kernel
theorem dL_law_631 : decode cL_law 631 = .ok (.iconst 2, 1) := by decide +kernel
theorem dL_law_632 : decode cL_law 632 = .ok (.iadd, 1) := by decide +kernel
theorem dL_law_633 : decode cL_law 633 = .ok (.iaload, 1) := by decide +kernel
theorem dL_law_634 : decode cL_law 634 = .ok (.aload_n 0, 1) := by decide +kernel
theorem dL_law_635 : decode cL_law 635 = .ok (.iload_n 3, 1) := by decide +kernel
theorem dL_law_636 : decode cL_law 636 = .ok (.iconst 3, 1) := by decide +kernel
theorem dL_law_637 : decode cL_law 637 = .ok (.iadd, 1) := by decide +kernel
theorem dL_law_638 : decode cL_law 638 = .ok (.iaload, 1) := by decide +kernel
theorem dL_law_639 : decode cL_law 639 = .ok (.aload_n 0, 1) := by decide +kernel
theorem dL_law_640 : decode cL_law 640 = .ok (.iload_n 3, 1) := by decide +kernel
theorem dL_law_641 : decode cL_law 641 = .ok (.iconst 4, 1) := by decide +kernel
theorem dL_law_642 : decode cL_law 642 = .ok (.iadd, 1) := by decide +kernel
theorem dL_law_643 : decode cL_law 643 = .ok (.iaload, 1) := by decide +kernel
theorem dL_law_644 : decode cL_law 644 = .ok (.invokevirtual 65, 3) := by decide +kernel
theorem dL_law_647 : decode cL_law 647 = .ok (.lcmp, 1) := by decide +kernel
theorem dL_law_648 : decode cL_law 648 = .ok (.ifCond .eq 369, 3) := by decide +kernel
theorem dL_law_651 : decode cL_law 651 = .ok (.iconst 0, 1) := by decide +kernel
theorem dL_law_652 : decode cL_law 652 = .ok (.ireturn, 1) := by decide +kernel
theorem dL_law_653 : decode cL_law 653 = .ok (.aload_n 1, 1) := by decide +kernel
theorem dL_law_654 : decode cL_law 654 = .ok (.aload_n 0, 1) := by decide +kernel
theorem dL_law_655 : decode cL_law 655 = .ok (.iload_n 3, 1) := by decide +kernel
theorem dL_law_656 : decode cL_law 656 = .ok (.iconst 1, 1) := by decide +kernel
theorem dL_law_657 : decode cL_law 657 = .ok (.iadd, 1) := by decide +kernel
theorem dL_law_658 : decode cL_law 658 = .ok (.iaload, 1) := by decide +kernel
theorem dL_law_659 : decode cL_law 659 = .ok (.aload_n 0, 1) := by decide +kernel
theorem dL_law_660 : decode cL_law 660 = .ok (.iload_n 3, 1) := by decide +kernel
theorem dL_law_661 : decode cL_law 661 = .ok (.iconst 2, 1) := by decide +kernel
theorem dL_law_662 : decode cL_law 662 = .ok (.iadd, 1) := by decide +kernel
theorem dL_law_663 : decode cL_law 663 = .ok (.iaload, 1) := by decide +kernel
theorem dL_law_664 : decode cL_law 664 = .ok (.aload_n 0, 1) := by decide +kernel
theorem dL_law_665 : decode cL_law 665 = .ok (.iload_n 3, 1) := by decide +kernel
theorem dL_law_666 : decode cL_law 666 = .ok (.iconst 3, 1) := by decide +kernel
theorem dL_law_667 : decode cL_law 667 = .ok (.iadd, 1) := by decide +kernel
theorem dL_law_668 : decode cL_law 668 = .ok (.iaload, 1) := by decide +kernel
theorem dL_law_669 : decode cL_law 669 = .ok (.aload_n 0, 1) := by decide +kernel
theorem dL_law_670 : decode cL_law 670 = .ok (.iload_n 3, 1) := by decide +kernel
theorem dL_law_671 : decode cL_law 671 = .ok (.iconst 4, 1) := by decide +kernel
theorem dL_law_672 : decode cL_law 672 = .ok (.iadd, 1) := by decide +kernel
theorem dL_law_673 : decode cL_law 673 = .ok (.iaload, 1) := by decide +kernel
theorem dL_law_674 : decode cL_law 674 = .ok (.aload_n 0, 1) := by decide +kernel
theorem dL_law_675 : decode cL_law 675 = .ok (.iload_n 3, 1) := by decide +kernel
theorem dL_law_676 : decode cL_law 676 = .ok (.iconst 5, 1) := by decide +kernel
theorem dL_law_677 : decode cL_law 677 = .ok (.iadd, 1) := by decide +kernel
theorem dL_law_678 : decode cL_law 678 = .ok (.iaload, 1) := by decide +kernel
theorem dL_law_679 : decode cL_law 679 = .ok (.invokevirtual 66, 3) := by decide +kernel
theorem dL_law_682 : decode cL_law 682 = .ok (.aload_n 2, 1) := by decide +kernel
theorem dL_law_683 : decode cL_law 683 = .ok (.aload_n 0, 1) := by decide +kernel
theorem dL_law_684 : decode cL_law 684 = .ok (.iload_n 3, 1) := by decide +kernel
theorem dL_law_685 : decode cL_law 685 = .ok (.iconst 1, 1) := by decide +kernel
theorem dL_law_686 : decode cL_law 686 = .ok (.iadd, 1) := by decide +kernel
theorem dL_law_687 : decode cL_law 687 = .ok (.iaload, 1) := by decide +kernel
theorem dL_law_688 : decode cL_law 688 = .ok (.aload_n 0, 1) := by decide +kernel
theorem dL_law_689 : decode cL_law 689 = .ok (.iload_n 3, 1) := by decide +kernel
theorem dL_law_690 : decode cL_law 690 = .ok (.iconst 2, 1) := by decide +kernel
theorem dL_law_691 : decode cL_law 691 = .ok (.iadd, 1) := by decide +kernel
theorem dL_law_692 : decode cL_law 692 = .ok (.iaload, 1) := by decide +kernel
theorem dL_law_693 : decode cL_law 693 = .ok (.aload_n 0, 1) := by decide +kernel
theorem dL_law_694 : decode cL_law 694 = .ok (.iload_n 3, 1) := by decide +kernel
theorem dL_law_695 : decode cL_law 695 = .ok (.iconst 3, 1) := by decide +kernel
theorem dL_law_696 : decode cL_law 696 = .ok (.iadd, 1) := by decide +kernel
theorem dL_law_697 : decode cL_law 697 = .ok (.iaload, 1) := by decide +kernel
theorem dL_law_698 : decode cL_law 698 = .ok (.aload_n 0, 1) := by decide +kernel
theorem dL_law_699 : decode cL_law 699 = .ok (.iload_n 3, 1) := by decide +kernel
theorem dL_law_700 : decode cL_law 700 = .ok (.iconst 4, 1) := by decide +kernel
theorem dL_law_701 : decode cL_law 701 = .ok (.iadd, 1) := by decide +kernel
theorem dL_law_702 : decode cL_law 702 = .ok (.iaload, 1) := by decide +kernel
theorem dL_law_703 : decode cL_law 703 = .ok (.aload_n 0, 1) := by decide +kernel
theorem dL_law_704 : decode cL_law 704 = .ok (.iload_n 3, 1) := by decide +kernel
theorem dL_law_705 : decode cL_law 705 = .ok (.iconst 5, 1) := by decide +kernel
theorem dL_law_706 : decode cL_law 706 = .ok (.iadd, 1) := by decide +kernel
theorem dL_law_707 : decode cL_law 707 = .ok (.iaload, 1) := by decide +kernel
theorem dL_law_708 : decode cL_law 708 = .ok (.invokevirtual 69, 3) := by decide +kernel
theorem dL_law_711 : decode cL_law 711 = .ok (.if_icmp .eq 306, 3) := by decide +kernel
theorem dL_law_714 : decode cL_law 714 = .ok (.iconst 0, 1) := by decide +kernel
theorem dL_law_715 : decode cL_law 715 = .ok (.ireturn, 1) := by decide +kernel
theorem dL_law_716 : decode cL_law 716 = .ok (.aload_n 1, 1) := by decide +kernel
theorem dL_law_717 : decode cL_law 717 = .ok (.aload_n 0, 1) := by decide +kernel
theorem dL_law_718 : decode cL_law 718 = .ok (.iload_n 3, 1) := by decide +kernel
theorem dL_law_719 : decode cL_law 719 = .ok (.iconst 1, 1) := by decide +kernel
theorem dL_law_720 : decode cL_law 720 = .ok (.iadd, 1) := by decide +kernel
theorem dL_law_721 : decode cL_law 721 = .ok (.iaload, 1) := by decide +kernel
theorem dL_law_722 : decode cL_law 722 = .ok (.aload_n 0, 1) := by decide +kernel
theorem dL_law_723 : decode cL_law 723 = .ok (.iload_n 3, 1) := by decide +kernel
theorem dL_law_724 : decode cL_law 724 = .ok (.iconst 2, 1) := by decide +kernel
theorem dL_law_725 : decode cL_law 725 = .ok (.iadd, 1) := by decide +kernel
theorem dL_law_726 : decode cL_law 726 = .ok (.iaload, 1) := by decide +kernel
theorem dL_law_727 : decode cL_law 727 = .ok (.invokevirtual 70, 3) := by decide +kernel
theorem dL_law_730 : decode cL_law 730 = .ok (.aload_n 2, 1) := by decide +kernel
theorem dL_law_731 : decode cL_law 731 = .ok (.aload_n 0, 1) := by decide +kernel
theorem dL_law_732 : decode cL_law 732 = .ok (.iload_n 3, 1) := by decide +kernel
theorem dL_law_733 : decode cL_law 733 = .ok (.iconst 1, 1) := by decide +kernel
theorem dL_law_734 : decode cL_law 734 = .ok (.iadd, 1) := by decide +kernel
theorem dL_law_735 : decode cL_law 735 = .ok (.iaload, 1) := by decide +kernel
theorem dL_law_736 : decode cL_law 736 = .ok (.aload_n 0, 1) := by decide +kernel
theorem dL_law_737 : decode cL_law 737 = .ok (.iload_n 3, 1) := by decide +kernel
theorem dL_law_738 : decode cL_law 738 = .ok (.iconst 2, 1) := by decide +kernel
theorem dL_law_739 : decode cL_law 739 = .ok (.iadd, 1) := by decide +kernel
theorem dL_law_740 : decode cL_law 740 = .ok (.iaload, 1) := by decide +kernel
theorem dL_law_741 : decode cL_law 741 = .ok (.invokevirtual 73, 3) := by decide +kernel
theorem dL_law_744 : decode cL_law 744 = .ok (.if_icmp .eq 273, 3) := by decide +kernel
theorem dL_law_747 : decode cL_law 747 = .ok (.iconst 0, 1) := by decide +kernel
theorem dL_law_748 : decode cL_law 748 = .ok (.ireturn, 1) := by decide +kernel
theorem dL_law_749 : decode cL_law 749 = .ok (.aload_n 1, 1) := by decide +kernel
theorem dL_law_750 : decode cL_law 750 = .ok (.aload_n 0, 1) := by decide +kernel
theorem dL_law_751 : decode cL_law 751 = .ok (.iload_n 3, 1) := by decide +kernel
theorem dL_law_752 : decode cL_law 752 = .ok (.iconst 1, 1) := by decide +kernel
theorem dL_law_753 : decode cL_law 753 = .ok (.iadd, 1) := by decide +kernel
theorem dL_law_754 : decode cL_law 754 = .ok (.iaload, 1) := by decide +kernel
theorem dL_law_755 : decode cL_law 755 = .ok (.aload_n 0, 1) := by decide +kernel
theorem dL_law_756 : decode cL_law 756 = .ok (.iload_n 3, 1) := by decide +kernel
theorem dL_law_757 : decode cL_law 757 = .ok (.iconst 2, 1) := by decide +kernel
theorem dL_law_758 : decode cL_law 758 = .ok (.iadd, 1) := by decide +kernel
theorem dL_law_759 : decode cL_law 759 = .ok (.iaload, 1) := by decide +kernel
theorem dL_law_760 : decode cL_law 760 = .ok (.aload_n 0, 1) := by decide +kernel
theorem dL_law_761 : decode cL_law 761 = .ok (.iload_n 3, 1) := by decide +kernel
theorem dL_law_762 : decode cL_law 762 = .ok (.iconst 3, 1) := by decide +kernel
theorem dL_law_763 : decode cL_law 763 = .ok (.iadd, 1) := by decide +kernel
theorem dL_law_764 : decode cL_law 764 = .ok (.iaload, 1) := by decide +kernel
theorem dL_law_765 : decode cL_law 765 = .ok (.aload_n 0, 1) := by decide +kernel
theorem dL_law_766 : decode cL_law 766 = .ok (.iload_n 3, 1) := by decide +kernel
theorem dL_law_767 : decode cL_law 767 = .ok (.iconst 4, 1) := by decide +kernel
theorem dL_law_768 : decode cL_law 768 = .ok (.iadd, 1) := by decide +kernel
theorem dL_law_769 : decode cL_law 769 = .ok (.iaload, 1) := by decide +kernel
theorem dL_law_770 : decode cL_law 770 = .ok (.aload_n 0, 1) := by decide +kernel
theorem dL_law_771 : decode cL_law 771 = .ok (.iload_n 3, 1) := by decide +kernel
theorem dL_law_772 : decode cL_law 772 = .ok (.iconst 5, 1) := by decide +kernel
theorem dL_law_773 : decode cL_law 773 = .ok (.iadd, 1) := by decide +kernel
theorem dL_law_774 : decode cL_law 774 = .ok (.iaload, 1) := by decide +kernel
theorem dL_law_775 : decode cL_law 775 = .ok (.aload_n 0, 1) := by decide +kernel
theorem dL_law_776 : decode cL_law 776 = .ok (.iload_n 3, 1) := by decide +kernel
theorem dL_law_777 : decode cL_law 777 = .ok (.bipush 6, 2) := by decide +kernel
theorem dL_law_779 : decode cL_law 779 = .ok (.iadd, 1) := by decide +kernel
theorem dL_law_780 : decode cL_law 780 = .ok (.iaload, 1) := by decide +kernel
theorem dL_law_781 : decode cL_law 781 = .ok (.aload_n 0, 1) := by decide +kernel
theorem dL_law_782 : decode cL_law 782 = .ok (.iload_n 3, 1) := by decide +kernel
theorem dL_law_783 : decode cL_law 783 = .ok (.bipush 7, 2) := by decide +kernel
theorem dL_law_785 : decode cL_law 785 = .ok (.iadd, 1) := by decide +kernel
theorem dL_law_786 : decode cL_law 786 = .ok (.iaload, 1) := by decide +kernel
theorem dL_law_787 : decode cL_law 787 = .ok (.invokevirtual 74, 3) := by decide +kernel
theorem dL_law_790 : decode cL_law 790 = .ok (.aload_n 2, 1) := by decide +kernel
theorem dL_law_791 : decode cL_law 791 = .ok (.aload_n 0, 1) := by decide +kernel
theorem dL_law_792 : decode cL_law 792 = .ok (.iload_n 3, 1) := by decide +kernel
theorem dL_law_793 : decode cL_law 793 = .ok (.iconst 1, 1) := by decide +kernel
theorem dL_law_794 : decode cL_law 794 = .ok (.iadd, 1) := by decide +kernel
theorem dL_law_795 : decode cL_law 795 = .ok (.iaload, 1) := by decide +kernel
theorem dL_law_796 : decode cL_law 796 = .ok (.aload_n 0, 1) := by decide +kernel
theorem dL_law_797 : decode cL_law 797 = .ok (.iload_n 3, 1) := by decide +kernel
theorem dL_law_798 : decode cL_law 798 = .ok (.iconst 2, 1) := by decide +kernel
theorem dL_law_799 : decode cL_law 799 = .ok (.iadd, 1) := by decide +kernel
theorem dL_law_800 : decode cL_law 800 = .ok (.iaload, 1) := by decide +kernel
theorem dL_law_801 : decode cL_law 801 = .ok (.aload_n 0, 1) := by decide +kernel
theorem dL_law_802 : decode cL_law 802 = .ok (.iload_n 3, 1) := by decide +kernel
theorem dL_law_803 : decode cL_law 803 = .ok (.iconst 3, 1) := by decide +kernel
theorem dL_law_804 : decode cL_law 804 = .ok (.iadd, 1) := by decide +kernel
theorem dL_law_805 : decode cL_law 805 = .ok (.iaload, 1) := by decide +kernel
theorem dL_law_806 : decode cL_law 806 = .ok (.aload_n 0, 1) := by decide +kernel
theorem dL_law_807 : decode cL_law 807 = .ok (.iload_n 3, 1) := by decide +kernel
theorem dL_law_808 : decode cL_law 808 = .ok (.iconst 4, 1) := by decide +kernel
theorem dL_law_809 : decode cL_law 809 = .ok (.iadd, 1) := by decide +kernel
theorem dL_law_810 : decode cL_law 810 = .ok (.iaload, 1) := by decide +kernel
theorem dL_law_811 : decode cL_law 811 = .ok (.aload_n 0, 1) := by decide +kernel
theorem dL_law_812 : decode cL_law 812 = .ok (.iload_n 3, 1) := by decide +kernel
theorem dL_law_813 : decode cL_law 813 = .ok (.iconst 5, 1) := by decide +kernel
theorem dL_law_814 : decode cL_law 814 = .ok (.iadd, 1) := by decide +kernel
theorem dL_law_815 : decode cL_law 815 = .ok (.iaload, 1) := by decide +kernel
theorem dL_law_816 : decode cL_law 816 = .ok (.aload_n 0, 1) := by decide +kernel
theorem dL_law_817 : decode cL_law 817 = .ok (.iload_n 3, 1) := by decide +kernel
theorem dL_law_818 : decode cL_law 818 = .ok (.bipush 6, 2) := by decide +kernel
theorem dL_law_820 : decode cL_law 820 = .ok (.iadd, 1) := by decide +kernel
theorem dL_law_821 : decode cL_law 821 = .ok (.iaload, 1) := by decide +kernel
theorem dL_law_822 : decode cL_law 822 = .ok (.aload_n 0, 1) := by decide +kernel
theorem dL_law_823 : decode cL_law 823 = .ok (.iload_n 3, 1) := by decide +kernel
theorem dL_law_824 : decode cL_law 824 = .ok (.bipush 7, 2) := by decide +kernel
theorem dL_law_826 : decode cL_law 826 = .ok (.iadd, 1) := by decide +kernel
theorem dL_law_827 : decode cL_law 827 = .ok (.iaload, 1) := by decide +kernel
theorem dL_law_828 : decode cL_law 828 = .ok (.invokevirtual 78, 3) := by decide +kernel
theorem dL_law_831 : decode cL_law 831 = .ok (.if_icmp .eq 186, 3) := by decide +kernel
theorem dL_law_834 : decode cL_law 834 = .ok (.iconst 0, 1) := by decide +kernel
theorem dL_law_835 : decode cL_law 835 = .ok (.ireturn, 1) := by decide +kernel
theorem dL_law_836 : decode cL_law 836 = .ok (.aload_n 1, 1) := by decide +kernel
theorem dL_law_837 : decode cL_law 837 = .ok (.aload_n 0, 1) := by decide +kernel
theorem dL_law_838 : decode cL_law 838 = .ok (.iload_n 3, 1) := by decide +kernel
theorem dL_law_839 : decode cL_law 839 = .ok (.iconst 1, 1) := by decide +kernel
theorem dL_law_840 : decode cL_law 840 = .ok (.iadd, 1) := by decide +kernel
theorem dL_law_841 : decode cL_law 841 = .ok (.iaload, 1) := by decide +kernel
theorem dL_law_842 : decode cL_law 842 = .ok (.aload_n 0, 1) := by decide +kernel
theorem dL_law_843 : decode cL_law 843 = .ok (.iload_n 3, 1) := by decide +kernel
theorem dL_law_844 : decode cL_law 844 = .ok (.iconst 2, 1) := by decide +kernel
theorem dL_law_845 : decode cL_law 845 = .ok (.iadd, 1) := by decide +kernel
theorem dL_law_846 : decode cL_law 846 = .ok (.iaload, 1) := by decide +kernel
theorem dL_law_847 : decode cL_law 847 = .ok (.aload_n 0, 1) := by decide +kernel
theorem dL_law_848 : decode cL_law 848 = .ok (.iload_n 3, 1) := by decide +kernel
theorem dL_law_849 : decode cL_law 849 = .ok (.iconst 3, 1) := by decide +kernel
theorem dL_law_850 : decode cL_law 850 = .ok (.iadd, 1) := by decide +kernel
theorem dL_law_851 : decode cL_law 851 = .ok (.iaload, 1) := by decide +kernel
theorem dL_law_852 : decode cL_law 852 = .ok (.invokevirtual 79, 3) := by decide +kernel
theorem dL_law_855 : decode cL_law 855 = .ok (.aload_n 2, 1) := by decide +kernel
theorem dL_law_856 : decode cL_law 856 = .ok (.aload_n 0, 1) := by decide +kernel
theorem dL_law_857 : decode cL_law 857 = .ok (.iload_n 3, 1) := by decide +kernel
theorem dL_law_858 : decode cL_law 858 = .ok (.iconst 1, 1) := by decide +kernel
theorem dL_law_859 : decode cL_law 859 = .ok (.iadd, 1) := by decide +kernel
theorem dL_law_860 : decode cL_law 860 = .ok (.iaload, 1) := by decide +kernel
theorem dL_law_861 : decode cL_law 861 = .ok (.aload_n 0, 1) := by decide +kernel
theorem dL_law_862 : decode cL_law 862 = .ok (.iload_n 3, 1) := by decide +kernel
theorem dL_law_863 : decode cL_law 863 = .ok (.iconst 2, 1) := by decide +kernel
theorem dL_law_864 : decode cL_law 864 = .ok (.iadd, 1) := by decide +kernel
theorem dL_law_865 : decode cL_law 865 = .ok (.iaload, 1) := by decide +kernel
theorem dL_law_866 : decode cL_law 866 = .ok (.aload_n 0, 1) := by decide +kernel
theorem dL_law_867 : decode cL_law 867 = .ok (.iload_n 3, 1) := by decide +kernel
theorem dL_law_868 : decode cL_law 868 = .ok (.iconst 3, 1) := by decide +kernel
theorem dL_law_869 : decode cL_law 869 = .ok (.iadd, 1) := by decide +kernel
theorem dL_law_870 : decode cL_law 870 = .ok (.iaload, 1) := by decide +kernel
theorem dL_law_871 : decode cL_law 871 = .ok (.invokevirtual 82, 3) := by decide +kernel
theorem dL_law_874 : decode cL_law 874 = .ok (.if_icmp .eq 143, 3) := by decide +kernel
theorem dL_law_877 : decode cL_law 877 = .ok (.iconst 0, 1) := by decide +kernel
theorem dL_law_878 : decode cL_law 878 = .ok (.ireturn, 1) := by decide +kernel
theorem dL_law_879 : decode cL_law 879 = .ok (.aload_n 1, 1) := by decide +kernel
theorem dL_law_880 : decode cL_law 880 = .ok (.invokevirtual 83, 3) := by decide +kernel
theorem dL_law_883 : decode cL_law 883 = .ok (.aload_n 2, 1) := by decide +kernel
theorem dL_law_884 : decode cL_law 884 = .ok (.invokevirtual 87, 3) := by decide +kernel
theorem dL_law_887 : decode cL_law 887 = .ok (.if_icmp .eq 130, 3) := by decide +kernel
theorem dL_law_890 : decode cL_law 890 = .ok (.iconst 0, 1) := by decide +kernel
theorem dL_law_891 : decode cL_law 891 = .ok (.ireturn, 1) := by decide +kernel
theorem dL_law_892 : decode cL_law 892 = .ok (.aload_n 1, 1) := by decide +kernel
theorem dL_law_893 : decode cL_law 893 = .ok (.aload_n 0, 1) := by decide +kernel
theorem dL_law_894 : decode cL_law 894 = .ok (.iload_n 3, 1) := by decide +kernel
theorem dL_law_895 : decode cL_law 895 = .ok (.iconst 1, 1) := by decide +kernel
theorem dL_law_896 : decode cL_law 896 = .ok (.iadd, 1) := by decide +kernel
theorem dL_law_897 : decode cL_law 897 = .ok (.iaload, 1) := by decide +kernel
theorem dL_law_898 : decode cL_law 898 = .ok (.invokevirtual 88, 3) := by decide +kernel
theorem dL_law_901 : decode cL_law 901 = .ok (.aload_n 2, 1) := by decide +kernel
theorem dL_law_902 : decode cL_law 902 = .ok (.aload_n 0, 1) := by decide +kernel
theorem dL_law_903 : decode cL_law 903 = .ok (.iload_n 3, 1) := by decide +kernel
theorem dL_law_904 : decode cL_law 904 = .ok (.iconst 1, 1) := by decide +kernel
theorem dL_law_905 : decode cL_law 905 = .ok (.iadd, 1) := by decide +kernel
theorem dL_law_906 : decode cL_law 906 = .ok (.iaload, 1) := by decide +kernel
theorem dL_law_907 : decode cL_law 907 = .ok (.invokevirtual 91, 3) := by decide +kernel
theorem dL_law_910 : decode cL_law 910 = .ok (.if_icmp .eq 107, 3) := by decide +kernel
theorem dL_law_913 : decode cL_law 913 = .ok (.iconst 0, 1) := by decide +kernel
theorem dL_law_914 : decode cL_law 914 = .ok (.ireturn, 1) := by decide +kernel
theorem dL_law_915 : decode cL_law 915 = .ok (.aload_n 1, 1) := by decide +kernel
theorem dL_law_916 : decode cL_law 916 = .ok (.aload_n 0, 1) := by decide +kernel
theorem dL_law_917 : decode cL_law 917 = .ok (.iload_n 3, 1) := by decide +kernel
theorem dL_law_918 : decode cL_law 918 = .ok (.iconst 1, 1) := by decide +kernel
theorem dL_law_919 : decode cL_law 919 = .ok (.iadd, 1) := by decide +kernel
theorem dL_law_920 : decode cL_law 920 = .ok (.iaload, 1) := by decide +kernel
theorem dL_law_921 : decode cL_law 921 = .ok (.invokevirtual 92, 3) := by decide +kernel
theorem dL_law_924 : decode cL_law 924 = .ok (.aload_n 2, 1) := by decide +kernel
theorem dL_law_925 : decode cL_law 925 = .ok (.aload_n 0, 1) := by decide +kernel
theorem dL_law_926 : decode cL_law 926 = .ok (.iload_n 3, 1) := by decide +kernel
theorem dL_law_927 : decode cL_law 927 = .ok (.iconst 1, 1) := by decide +kernel
theorem dL_law_928 : decode cL_law 928 = .ok (.iadd, 1) := by decide +kernel
theorem dL_law_929 : decode cL_law 929 = .ok (.iaload, 1) := by decide +kernel
theorem dL_law_930 : decode cL_law 930 = .ok (.invokevirtual 95, 3) := by decide +kernel
theorem dL_law_933 : decode cL_law 933 = .ok (.if_icmp .eq 84, 3) := by decide +kernel
theorem dL_law_936 : decode cL_law 936 = .ok (.iconst 0, 1) := by decide +kernel
theorem dL_law_937 : decode cL_law 937 = .ok (.ireturn, 1) := by decide +kernel
theorem dL_law_938 : decode cL_law 938 = .ok (.aload_n 1, 1) := by decide +kernel
theorem dL_law_939 : decode cL_law 939 = .ok (.aload_n 0, 1) := by decide +kernel
theorem dL_law_940 : decode cL_law 940 = .ok (.iload_n 3, 1) := by decide +kernel
theorem dL_law_941 : decode cL_law 941 = .ok (.iconst 1, 1) := by decide +kernel
theorem dL_law_942 : decode cL_law 942 = .ok (.iadd, 1) := by decide +kernel
theorem dL_law_943 : decode cL_law 943 = .ok (.iaload, 1) := by decide +kernel
theorem dL_law_944 : decode cL_law 944 = .ok (.aload_n 0, 1) := by decide +kernel
theorem dL_law_945 : decode cL_law 945 = .ok (.iload_n 3, 1) := by decide +kernel
theorem dL_law_946 : decode cL_law 946 = .ok (.iconst 2, 1) := by decide +kernel
theorem dL_law_947 : decode cL_law 947 = .ok (.iadd, 1) := by decide +kernel
theorem dL_law_948 : decode cL_law 948 = .ok (.iaload, 1) := by decide +kernel
theorem dL_law_949 : decode cL_law 949 = .ok (.invokevirtual 96, 3) := by decide +kernel
theorem dL_law_952 : decode cL_law 952 = .ok (.aload_n 2, 1) := by decide +kernel
theorem dL_law_953 : decode cL_law 953 = .ok (.aload_n 0, 1) := by decide +kernel
theorem dL_law_954 : decode cL_law 954 = .ok (.iload_n 3, 1) := by decide +kernel
theorem dL_law_955 : decode cL_law 955 = .ok (.iconst 1, 1) := by decide +kernel
theorem dL_law_956 : decode cL_law 956 = .ok (.iadd, 1) := by decide +kernel
theorem dL_law_957 : decode cL_law 957 = .ok (.iaload, 1) := by decide +kernel
theorem dL_law_958 : decode cL_law 958 = .ok (.aload_n 0, 1) := by decide +kernel
theorem dL_law_959 : decode cL_law 959 = .ok (.iload_n 3, 1) := by decide +kernel
theorem dL_law_960 : decode cL_law 960 = .ok (.iconst 2, 1) := by decide +kernel
theorem dL_law_961 : decode cL_law 961 = .ok (.iadd, 1) := by decide +kernel
theorem dL_law_962 : decode cL_law 962 = .ok (.iaload, 1) := by decide +kernel
theorem dL_law_963 : decode cL_law 963 = .ok (.invokevirtual 99, 3) := by decide +kernel
theorem dL_law_966 : decode cL_law 966 = .ok (.if_icmp .eq 51, 3) := by decide +kernel
theorem dL_law_969 : decode cL_law 969 = .ok (.iconst 0, 1) := by decide +kernel
theorem dL_law_970 : decode cL_law 970 = .ok (.ireturn, 1) := by decide +kernel
theorem dL_law_971 : decode cL_law 971 = .ok (.aload_n 1, 1) := by decide +kernel
theorem dL_law_972 : decode cL_law 972 = .ok (.aload_n 0, 1) := by decide +kernel
theorem dL_law_973 : decode cL_law 973 = .ok (.iload_n 3, 1) := by decide +kernel
theorem dL_law_974 : decode cL_law 974 = .ok (.iconst 1, 1) := by decide +kernel
theorem dL_law_975 : decode cL_law 975 = .ok (.iadd, 1) := by decide +kernel
theorem dL_law_976 : decode cL_law 976 = .ok (.iaload, 1) := by decide +kernel
theorem dL_law_977 : decode cL_law 977 = .ok (.invokevirtual 100, 3) := by decide +kernel
theorem dL_law_980 : decode cL_law 980 = .ok (.aload_n 2, 1) := by decide +kernel
theorem dL_law_981 : decode cL_law 981 = .ok (.aload_n 0, 1) := by decide +kernel
theorem dL_law_982 : decode cL_law 982 = .ok (.iload_n 3, 1) := by decide +kernel
theorem dL_law_983 : decode cL_law 983 = .ok (.iconst 1, 1) := by decide +kernel
theorem dL_law_984 : decode cL_law 984 = .ok (.iadd, 1) := by decide +kernel
theorem dL_law_985 : decode cL_law 985 = .ok (.iaload, 1) := by decide +kernel
theorem dL_law_986 : decode cL_law 986 = .ok (.invokevirtual 103, 3) := by decide +kernel
theorem dL_law_989 : decode cL_law 989 = .ok (.if_icmp .eq 28, 3) := by decide +kernel
theorem dL_law_992 : decode cL_law 992 = .ok (.iconst 0, 1) := by decide +kernel
theorem dL_law_993 : decode cL_law 993 = .ok (.ireturn, 1) := by decide +kernel
theorem dL_law_994 : decode cL_law 994 = .ok (.aload_n 1, 1) := by decide +kernel
theorem dL_law_995 : decode cL_law 995 = .ok (.aload_n 0, 1) := by decide +kernel
theorem dL_law_996 : decode cL_law 996 = .ok (.iload_n 3, 1) := by decide +kernel
theorem dL_law_997 : decode cL_law 997 = .ok (.iconst 1, 1) := by decide +kernel
theorem dL_law_998 : decode cL_law 998 = .ok (.iadd, 1) := by decide +kernel
theorem dL_law_999 : decode cL_law 999 = .ok (.iaload, 1) := by decide +kernel
theorem dL_law_1000 : decode cL_law 1000 = .ok (.invokevirtual 104, 3) := by decide +kernel
theorem dL_law_1003 : decode cL_law 1003 = .ok (.aload_n 2, 1) := by decide +kernel
theorem dL_law_1004 : decode cL_law 1004 = .ok (.aload_n 0, 1) := by decide +kernel
theorem dL_law_1005 : decode cL_law 1005 = .ok (.iload_n 3, 1) := by decide +kernel
theorem dL_law_1006 : decode cL_law 1006 = .ok (.iconst 1, 1) := by decide +kernel
theorem dL_law_1007 : decode cL_law 1007 = .ok (.iadd, 1) := by decide +kernel
theorem dL_law_1008 : decode cL_law 1008 = .ok (.iaload, 1) := by decide +kernel
theorem dL_law_1009 : decode cL_law 1009 = .ok (.invokevirtual 107, 3) := by decide +kernel
theorem dL_law_1012 : decode cL_law 1012 = .ok (.if_icmp .eq 5, 3) := by decide +kernel
theorem dL_law_1015 : decode cL_law 1015 = .ok (.iconst 0, 1) := by decide +kernel
theorem dL_law_1016 : decode cL_law 1016 = .ok (.ireturn, 1) := by decide +kernel
theorem dL_law_1017 : decode cL_law 1017 = .ok (.iinc 3 8, 3) := by decide +kernel
theorem dL_law_1020 : decode cL_law 1020 = .ok (.goto (-1002), 3) := by decide +kernel
theorem dL_law_1023 : decode cL_law 1023 = .ok (.iconst 1, 1) := by decide +kernel
theorem dL_law_1024 : decode cL_law 1024 = .ok (.ireturn, 1) := by decide +kernel
end
section
/-! THE CORE: a judgement 'wp' over an abstract heap (a size, and a cell or none for each address), and a method's contract 'mt' over it. -/
/-- an abstract cell: an array (its kind, length, contents) or an object (its class's number, its fields) -/
abbrev aE : Type := (Nat × vp_A) ⊕ (Nat × (Nat → Value))
abbrev aH : Type := Nat × (Nat → Option aE)
abbrev Mu : Type := MethodName × ByteArray × Nat × Option FieldType
def rp_at (D : va_G) (cT : Nat → ClassId) (a : Nat) (e : aE) (H : Heap) : Prop := match e with
  | .inl x => H[a]? = some (vp_cell (cT x.1) x.2)
  | .inr o => ∃ r : vw_C, vwCl[o.1]? = some r ∧ t_OB a (D.1 o.1) r.2.2 (D.2 o.1) H o.2
def rp (D : va_G) (cT : Nat → ClassId) (h : aH) (H : Heap) : Prop := H.size = h.1 ∧ ∀ (a : Nat) (e : aE), h.2 a = some e → rp_at D cT a e H
def rp_T (cT : Nat → ClassId) : List (ClassId × FieldType) := [(cT 0, .int), (cT 1, .long), (cT 2, .boolean), (cT 3, .array .int), (cT 4, .array .long), (cT 5, .object "RunLaws$Point"), (cT 6, .object "RunLaws$Facts"), (cT 7, .object "RunLaws$Act")]
def rp_K (D : va_G) (cT : Nat → ClassId) (U : State) : Prop := va_K D vwCl (rp_T cT) U ∧ (∀ a i x b, Cond.methodLinkNest a i x b ∈ lw_tbl → va_Nw (.methodLinkNest a i x b) U) ∧ (∀ C, Cond.arrayOver (.object C) ∈ lw_tbl → va_AO C U) ∧ ∀ t, Cond.arrayOver (.array t) ∈ lw_tbl → (Cond.arrayOver (.array t)).before #[] U = true
def rp_A (h : aH) : Nat → Prop := fun q => h.2 q ≠ none ∨ h.1 ≤ q
def rp_Q (D : va_G) (cT : Nat → ClassId) (Q : Option Value → aH → Prop) (A : Nat → Prop) : Array Value → State → Outcome → State → Prop := fun _ st oc t => (∃ (rv : Option Value) (h' : aH), oc = .returned rv ∧ Q rv h' ∧ rp D cT h' t.heap ∧ ∀ q, h'.2 q ≠ none → A q) ∧ va_F A st t
def rp_ws (μ : Mu) : List Cond := .code μ.1 μ.2.1 μ.2.2.1 μ.2.2.2 :: gwl
def rp_rm (d kc ks : Nat) : Room := { frames := d, cells := kc, slots := ks, locals := 40 * d }
/-- a method's contract: from the heap h with the arguments av it returns rv, the heap being h', with Q rv h' -/
def mt (l : Launch) (μ : Mu) (d kc ks : Nat) (av : List Value) (h : aH) (Q : Option Value → aH → Prop) : Prop :=
  ∀ (D : va_G) (cT : Nat → ClassId), Met l μ.1 (rp_ws μ) (rp_rm d kc ks) (va_Pc av (fun U => rp D cT h U.heap ∧ rp_K D cT U)) (rp_Q D cT Q (rp_A h)) kc ks (rp_A h)
def lw_L (ls : Array Slot) (nL : Nat) (lv : List (Option Value)) : Prop := ls.size = nL ∧ lv_wf ls ∧ ∀ (i : Nat) (v : Value), lv[i]? = some (some v) → ls[i]? = some (.val v)
abbrev rp_S : Type := List (Nat × Nat × (Nat → Int32))
def cx (μ : Mu) (sc : rp_S) (d : Nat) (D : va_G) (cT : Nat → ClassId) (p : Program) (R : Room) (s : State) (m : MethodId) (args : Array Value) (meth : Method) (c : Code) (A : Nat → Prop) : Prop :=
  p.tables.exec = Jvm.exec ∧ c.code = μ.2.1 ∧ meth.sig.returnType = μ.2.2.2 ∧ c.maxLocals = μ.2.2.1 ∧ s.vm.findClass μ.1.cls = some m.cls ∧ (∀ w ∈ gwl, w.before args s = true) ∧ meth.locks = false ∧ meth.name = μ.1.name ∧ rp_K D cT s ∧ (∀ q : Nat, s.heap.size ≤ q → A q) ∧ d ≤ R.frames ∧ 40 * d ≤ R.locals ∧ ∀ b ∈ sc, va_X b.1 b.2.1 b.2.2 s s.heap ∧ b.1 < s.heap.size ∧ ¬ A b.1
/-- what an instruction that ends a method may leave -/
def rOK (ret : Option FieldType) (ri : Instr) (rv : Option Value) : Prop :=
  (ret = none ∧ ri = .return_ ∧ rv = none) ∨ (∃ v : Int32, ret = some .int ∧ ri = .ireturn ∧ rv = some (.int v)) ∨ (∃ v : Int32, ret = some .boolean ∧ ri = .ireturn ∧ rv = some (.int v) ∧ (v = 0 ∨ v = 1)) ∨ (∃ v : Int64, ret = some .long ∧ ri = .lreturn ∧ rv = some (.long v)) ∨ (∃ (v : Value) (t : FieldType), ret = some t ∧ ((∃ n, t = .object n) ∨ ∃ u, t = .array u) ∧ (v = .null ∨ ∃ a, v = .ref a) ∧ ri = .areturn ∧ rv = some v)
def zt (l : Launch) (μ : Mu) (D : va_G) (cT : Nat → ClassId) (p : Program) (e : Env) (R : Room) (s : State) (m : MethodId) (args : Array Value) (below : List Frame) (meth : Method) (c : Code) (A : Nat → Prop) (Q : Option Value → aH → Prop) (Z : State → Prop) : Prop :=
  ∀ (rv : Option Value) (h' : aH) (H' : Heap) (locs' : List Loc) (cells' slots' pc' : Nat) (ls' : Array Slot) (ri : Instr), Q rv h' → rp D cT h' H' → va_S A s.heap H' locs' → (∀ q, h'.2 q ≠ none → A q) → cells' ≤ R.cells → slots' ≤ R.slots → rOK μ.2.2.2 ri rv → decode μ.2.1 pc' = .ok (ri, 1) → W p l e R s m args below meth c H' locs' cells' slots' Z (F0 m pc' ls' rv.toList)
/-- THE JUDGEMENT: from here (heap h, program counter, locals, stack) the method ends with Q -/
def wp (l : Launch) (μ : Mu) (sc : rp_S) (d kc ks : Nat) (Q : Option Value → aH → Prop) (h : aH) (pc : Nat) (lv : List (Option Value)) (st : List Value) : Prop :=
  ∀ (D : va_G) (cT : Nat → ClassId) (p : Program) (e : Env) (R : Room) (s : State) (m : MethodId) (args : Array Value) (below : List Frame) (meth : Method) (c : Code) (A : Nat → Prop) (Z : State → Prop), cx μ sc d D cT p R s m args meth c A → zt l μ D cT p e R s m args below meth c A Q Z →
    ∀ (H : Heap) (locs : List Loc) (cells slots : Nat) (ls : Array Slot), rp D cT h H → va_S A s.heap H locs → (∀ q, h.2 q ≠ none → A q) → lw_L ls μ.2.2.1 lv → cells + kc ≤ R.cells → slots + ks ≤ R.slots → W p l e R s m args below meth c H locs cells slots Z (F0 m pc ls st)
/-! locals -/
def isWide : Value → Bool
  | .long _ => true
  | .double _ => true
  | _ => false
theorem isWide_cat (v : Value) : isWide v = true ↔ v.category = 2 := by cases v <;> simp [isWide, Value.category]
def clrW (o : Option Value) : Option Value := match o with
  | none => none
  | some w => match isWide w with
    | true => none
    | false => some w
def st1 : List (Option Value) → Nat → Value → List (Option Value)
  | [], _, _ => []
  | _ :: r, 0, v => some v :: r
  | o :: r, 1, v => clrW o :: st1 r 0 v
  | o :: r, n + 2, v => o :: st1 r (n + 1) v
def st2 : List (Option Value) → Nat → Value → List (Option Value)
  | [], _, _ => []
  | _ :: [], 0, v => [some v]
  | _ :: _ :: r, 0, v => some v :: none :: r
  | o :: r, 1, v => clrW o :: st2 r 0 v
  | o :: r, n + 2, v => o :: st2 r (n + 1) v
def ent : List Value → Nat → List (Option Value)
  | [], n => List.replicate n none
  | v :: vs, n => match isWide v with
    | true => some v :: none :: ent vs (n - 2)
    | false => some v :: ent vs (n - 1)
theorem st1_spec : ∀ (lv : List (Option Value)) (i : Nat) (v w : Value) (j : Nat), (st1 lv i v)[j]? = some (some w) → (j = i ∧ w = v) ∨ (j ≠ i ∧ lv[j]? = some (some w) ∧ ¬ (j + 1 = i ∧ w.category = 2))
  | [], i, v, w, j, h => by simp [st1] at h
  | o :: r, 0, v, w, j, h => by
    cases j with
    | zero => simp [st1] at h; exact Or.inl ⟨rfl, h.symm⟩
    | succ j => exact Or.inr ⟨by omega, by simpa [st1] using h, by omega⟩
  | o :: r, 1, v, w, j, h => by
    cases j with
    | zero =>
      simp only [st1, List.getElem?_cons_zero, Option.some.injEq] at h
      cases o with
      | none => simp [clrW] at h
      | some z =>
        cases hz : isWide z with
        | true => simp [clrW, hz] at h
        | false =>
          simp [clrW, hz] at h
          subst h
          exact Or.inr ⟨by omega, rfl, fun q => by have := (isWide_cat z).mpr q.2; rw [hz] at this; cases this⟩
    | succ j =>
      have h2 : (st1 r 0 v)[j]? = some (some w) := by simpa [st1] using h
      rcases st1_spec r 0 v w j h2 with ⟨a, b⟩ | ⟨a, b, c⟩
      · exact Or.inl ⟨by omega, b⟩
      · exact Or.inr ⟨by omega, by simpa using b, by omega⟩
  | o :: r, n + 2, v, w, j, h => by
    cases j with
    | zero => exact Or.inr ⟨by omega, by simpa [st1] using h, by omega⟩
    | succ j =>
      have h2 : (st1 r (n + 1) v)[j]? = some (some w) := by simpa [st1] using h
      rcases st1_spec r (n + 1) v w j h2 with ⟨a, b⟩ | ⟨a, b, c⟩
      · exact Or.inl ⟨by omega, b⟩
      · exact Or.inr ⟨by omega, by simpa using b, fun q => c ⟨by omega, q.2⟩⟩
theorem st2_spec : ∀ (lv : List (Option Value)) (i : Nat) (v w : Value) (j : Nat), (st2 lv i v)[j]? = some (some w) → (j = i ∧ w = v) ∨ (j ≠ i ∧ j ≠ i + 1 ∧ lv[j]? = some (some w) ∧ ¬ (j + 1 = i ∧ w.category = 2))
  | [], i, v, w, j, h => by simp [st2] at h
  | [o], 0, v, w, j, h => by
    cases j with
    | zero => simp [st2] at h; exact Or.inl ⟨rfl, h.symm⟩
    | succ j => simp [st2] at h
  | o :: o2 :: r, 0, v, w, j, h => by
    match j with
    | 0 => simp [st2] at h; exact Or.inl ⟨rfl, h.symm⟩
    | 1 => simp [st2] at h
    | j + 2 => exact Or.inr ⟨by omega, by omega, by simpa [st2] using h, by omega⟩
  | o :: r, 1, v, w, j, h => by
    cases j with
    | zero =>
      simp only [st2, List.getElem?_cons_zero, Option.some.injEq] at h
      cases o with
      | none => simp [clrW] at h
      | some z =>
        cases hz : isWide z with
        | true => simp [clrW, hz] at h
        | false =>
          simp [clrW, hz] at h
          subst h
          exact Or.inr ⟨by omega, by omega, rfl, fun q => by have := (isWide_cat z).mpr q.2; rw [hz] at this; cases this⟩
    | succ j =>
      have h2 : (st2 r 0 v)[j]? = some (some w) := by simpa [st2] using h
      rcases st2_spec r 0 v w j h2 with ⟨a, b⟩ | ⟨a, b, c, e⟩
      · exact Or.inl ⟨by omega, b⟩
      · exact Or.inr ⟨by omega, by omega, by simpa using c, by omega⟩
  | o :: r, n + 2, v, w, j, h => by
    cases j with
    | zero => exact Or.inr ⟨by omega, by omega, by simpa [st2] using h, by omega⟩
    | succ j =>
      have h2 : (st2 r (n + 1) v)[j]? = some (some w) := by simpa [st2] using h
      rcases st2_spec r (n + 1) v w j h2 with ⟨a, b⟩ | ⟨a, b, c, e⟩
      · exact Or.inl ⟨by omega, b⟩
      · exact Or.inr ⟨by omega, by omega, by simpa using c, fun q => e ⟨by omega, q.2⟩⟩
def toP : Nat → List (Option Value) → List (Nat × Value)
  | _, [] => []
  | k, none :: r => toP (k + 1) r
  | k, some v :: r => (k, v) :: toP (k + 1) r
theorem toP_of : ∀ (lv : List (Option Value)) (k j : Nat) (v : Value), lv[j]? = some (some v) → (k + j, v) ∈ toP k lv
  | [], k, j, v, h => by simp at h
  | o :: r, k, 0, v, h => by
    simp at h
    subst h
    simp [toP]
  | o :: r, k, j + 1, v, h => by
    have h2 : r[j]? = some (some v) := by simpa using h
    have h3 := toP_of r (k + 1) j v h2
    have e : k + (j + 1) = k + 1 + j := by omega
    rw [e]
    cases o with
    | none => exact h3
    | some w => exact List.mem_cons_of_mem _ h3
theorem toP_in : ∀ (lv : List (Option Value)) (k : Nat) (q : Nat × Value), q ∈ toP k lv → k ≤ q.1 ∧ lv[q.1 - k]? = some (some q.2)
  | [], k, q, h => by simp [toP] at h
  | none :: r, k, q, h => by
    obtain ⟨a, b⟩ := toP_in r (k + 1) q h
    refine ⟨by omega, ?_⟩
    rw [show q.1 - k = (q.1 - (k + 1)) + 1 by omega]
    simpa using b
  | some v :: r, k, q, h => by
    rcases List.mem_cons.mp h with rfl | h
    · simp
    · obtain ⟨a, b⟩ := toP_in r (k + 1) q h
      refine ⟨by omega, ?_⟩
      rw [show q.1 - k = (q.1 - (k + 1)) + 1 by omega]
      simpa using b
theorem lw_L.has {ls : Array Slot} {nL : Nat} {lv : List (Option Value)} (h : lw_L ls nL lv) : lv_has ls nL (toP 0 lv) := by
  refine ⟨h.1, h.2.1, fun q hq => ?_⟩
  have := toP_in lv 0 q hq
  exact h.2.2 _ _ (by simpa using this.2)
theorem lw_L.of {ls : Array Slot} {nL : Nat} {l : List (Nat × Value)} {lv : List (Option Value)} (h : lv_has ls nL l) (hs : ∀ (i : Nat) (v : Value), lv[i]? = some (some v) → (i, v) ∈ l) : lw_L ls nL lv := ⟨h.1, h.2.1, fun i v hi => h.2.2 (i, v) (hs i v hi)⟩
theorem lw_store1 {ls : Array Slot} {nL i : Nat} {lv : List (Option Value)} {v : Value} (h2 : lv_has ls nL ((i, v) :: (toP 0 lv).filter (fun q => !(q.1 == i) && !(q.1 + 1 == i && q.2.category == 2)))) : lw_L ls nL (st1 lv i v) := by
  refine lw_L.of h2 (fun j w hj => ?_)
  rcases st1_spec lv i v w j hj with ⟨rfl, rfl⟩ | ⟨a, b, c⟩
  · exact List.mem_cons_self
  · refine List.mem_cons_of_mem _ (List.mem_filter.mpr ⟨by simpa using toP_of lv 0 j w b, ?_⟩)
    simp only [Bool.and_eq_true, Bool.not_eq_true', beq_eq_false_iff_ne, ne_eq, Bool.and_eq_false_iff]
    refine ⟨a, ?_⟩
    by_cases e : j + 1 = i
    · exact Or.inr (fun q => c ⟨e, q⟩)
    · exact Or.inl e
theorem lw_store2 {ls : Array Slot} {nL i : Nat} {lv : List (Option Value)} {v : Value} (h2 : lv_has ls nL ((i, v) :: (toP 0 lv).filter (fun q => !(q.1 == i) && (!(q.1 == i + 1) && !(q.1 + 1 == i && q.2.category == 2))))) : lw_L ls nL (st2 lv i v) := by
  refine lw_L.of h2 (fun j w hj => ?_)
  rcases st2_spec lv i v w j hj with ⟨rfl, rfl⟩ | ⟨a, a2, b, c⟩
  · exact List.mem_cons_self
  · refine List.mem_cons_of_mem _ (List.mem_filter.mpr ⟨by simpa using toP_of lv 0 j w b, ?_⟩)
    simp only [Bool.and_eq_true, Bool.not_eq_true', beq_eq_false_iff_ne, ne_eq, Bool.and_eq_false_iff]
    refine ⟨a, a2, ?_⟩
    by_cases e : j + 1 = i
    · exact Or.inr (fun q => c ⟨e, q⟩)
    · exact Or.inl e
theorem ent_spec : ∀ (vs : List Value) (n k j : Nat) (v : Value), (ent vs n)[j]? = some (some v) → (k + j, v) ∈ lv_args k vs
  | [], n, k, j, v, h => by
    simp only [ent, List.getElem?_replicate] at h
    split at h <;> simp at h
  | w :: vs, n, k, j, v, h => by
    cases hw : isWide w with
    | true =>
      have hc := (isWide_cat w).mp hw
      simp only [ent, hw] at h
      simp only [lv_args, hc, if_true]
      match j with
      | 0 => simp at h; subst h; exact List.mem_cons_self
      | 1 => simp at h
      | j + 2 =>
        have := ent_spec vs (n - 2) (k + 2) j v (by simpa using h)
        rw [show k + (j + 2) = k + 2 + j by omega]
        exact List.mem_cons_of_mem _ this
    | false =>
      have hc : ¬ w.category = 2 := fun q => by have := (isWide_cat w).mpr q; rw [hw] at this; cases this
      simp only [ent, hw] at h
      simp only [lv_args, hc, if_false]
      match j with
      | 0 => simp at h; subst h; exact List.mem_cons_self
      | j + 1 =>
        have := ent_spec vs (n - 1) (k + 1) j v (by simpa using h)
        rw [show k + (j + 1) = k + 1 + j by omega]
        exact List.mem_cons_of_mem _ this
theorem lw_entry (vs : List Value) {n : Nat} (h : (lg_sl vs).length ≤ n) : lw_L ((lg_sl vs ++ List.replicate (n - (lg_sl vs).length) Slot.unset).toArray) n (ent vs n) := lw_L.of (lv_entry vs h) (fun j v hj => by simpa using ent_spec vs n 0 j v hj)
/-! tables that move -/
theorem rp_K.warm {D : va_G} {cT : Nat → ClassId} {s U : State} (hW : s.WarmedH U.vm) (h : rp_K D cT s) : rp_K D cT U := ⟨va_K.moved hW.alike h.1, fun a i x b hm => va_Nw.warmM hW (h.2.1 a i x b hm), fun C hm => va_AO.moved hW.alike (h.2.2.1 C hm), fun t hm => Jvm.Stand.arrayOver_alikeB hW.alike (h.2.2.2 t hm)⟩
theorem rp_K.call {D : va_G} {cT : Nat → ClassId} {U : State} {g : JFrame} {mk : MethodId} {a : Array Value} (h : rp_K D cT U) : rp_K D cT (U.calling g mk a) := ⟨va_K.moved (u := U) (U := U.calling g mk a) (Vm.Alike.refl U.vm) h.1, fun a i x b hm => va_Nw.same rfl rfl (h.2.1 a i x b hm), fun C hm => va_AO.moved (u := U) (U := U.calling g mk a) (Vm.Alike.refl U.vm) (h.2.2.1 C hm), fun t hm => Jvm.Stand.arrayOver_alikeB (s := U) (U := U.calling g mk a) (Vm.Alike.refl U.vm) (h.2.2.2 t hm)⟩
/-- a method's contract out of its body -/
theorem mt_of {l : Launch} {μ : Mu} {d kc ks : Nat} {av : List Value} {h : aH} {Q : Option Value → aH → Prop} (hy : plainName μ.1.cls = true) (hn : (lg_sl av).length ≤ μ.2.2.1) (k : wp l μ [] d kc ks Q h 0 (ent av μ.2.2.1) []) : mt l μ d kc ks av h Q := by
  intro D cT
  refine Met.ofW (cc := μ.2.1) (maxL := μ.2.2.1) (ret := μ.2.2.2) hy rfl ?_
  intro p e s m args below meth c s₁ B hml hv
  obtain ⟨rfl, hrp, hK⟩ := hv
  have hlocks := B.notSynchronized
  have hts := atoms_spec (ws := rp_ws μ) B.pre
  have hA : ∀ q : Nat, s.heap.size ≤ q → rp_A h q := fun q hq => Or.inr (by rw [← hrp.1]; exact hq)
  rw [lg_entry_eq]
  refine k D cT p e _ s m _ below meth c (rp_A h) _ ⟨B.exec, B.bytes, B.returns, hml, findClass_of_methodNamed B.named, fun w hw => hts w (List.mem_cons_of_mem _ hw), hlocks, (name_of_methodNamed B.named B.method).1, hK, hA, Nat.le_refl _, Nat.le_refl _, fun b hb => by cases hb⟩ ?_ s.heap [] 0 0 _ hrp va_S.rf (fun q hq => Or.inl hq) (lw_entry av hn) (by show 0 + kc ≤ kc; omega) (by show 0 + ks ≤ ks; omega)
  intro rv h' H' locs' cells' slots' pc' ls' ri hQ hrp' hS' hdom hc hs hok hd
  refine W.widen (k := kc) (n := ks) hc hs ?_
  have hq : ∀ t : State, t.heap = H' → s.WarmedH t.vm → rp_Q D cT Q (rp_A h) av.toArray s (.returned rv) t := fun t ht _ => ⟨⟨rv, h', rfl, hQ, by rw [ht]; exact hrp', hdom⟩, hS'.F ht⟩
  rcases hok with ⟨h1, h2, h3⟩ | ⟨v, h1, h2, h3⟩ | ⟨v, h1, h2, h3, h4⟩ | ⟨v, h1, h2, h3⟩ | ⟨v, t, h1, h5, h6, h2, h3⟩
  · subst h3; subst h2
    exact W.vret B.exec B.bytes (B.returns.trans h1) hq hS'.2.2 hd
  · subst h3; subst h2
    exact W.iret B.exec B.bytes (B.returns.trans h1) hq hS'.2.2 hd
  · subst h3; subst h2
    exact W.zret B.exec B.bytes (B.returns.trans h1) (by rcases h4 with rfl | rfl <;> decide) hq hS'.2.2 hd
  · subst h3; subst h2
    exact W.lret B.exec B.bytes (B.returns.trans h1) hq hS'.2.2 hd
  · subst h3; subst h2
    exact W.aret B.exec B.bytes (B.returns.trans h1) h5 h6 hq hS'.2.2 hd
end
section
/-! RULES: a row an instruction, over the judgement wp -/
section Rules
variable {l : Launch} {μ : Mu} {sc : rp_S} {d kc ks : Nat} {Q : Option Value → aH → Prop} {h : aH} {pc q : Nat} {lv : List (Option Value)} {st : List Value}
theorem wp_pure {pc' : Nat} {st st' : List Value} (f : ∀ (p : Program) (e : Env) (R : Room) (s : State) (m : MethodId) (args : Array Value) (below : List Frame) (meth : Method) (c : Code) (Z : State → Prop) (H : Heap) (locs : List Loc) (cells slots : Nat) (ls : Array Slot), p.tables.exec = Jvm.exec → c.code = μ.2.1 → lw_L ls μ.2.2.1 lv → W p l e R s m args below meth c H locs cells slots Z (F0 m pc' ls st') → W p l e R s m args below meth c H locs cells slots Z (F0 m pc ls st))
    (k : wp l μ sc d kc ks Q h pc' lv st') : wp l μ sc d kc ks Q h pc lv st :=
  fun D cT p e R s m args below meth c A Z C z H locs cells slots ls r1 r2 r3 r4 r5 r6 => f p e R s m args below meth c Z H locs cells slots ls C.1 C.2.1 r4 (k D cT p e R s m args below meth c A Z C z H locs cells slots ls r1 r2 r3 r4 r5 r6)
theorem wp_iconst {n : Int} {v : Int32} (hd : decode μ.2.1 pc = .ok (.iconst n, 1)) (hv : Int32.ofInt n = v) (hq : pc + 1 = q) (k : wp l μ sc d kc ks Q h q lv (.int v :: st)) : wp l μ sc d kc ks Q h pc lv st := by
  subst hq
  exact wp_pure (fun _ _ _ _ _ _ _ _ _ _ _ _ _ _ _ hx hb _ w => lv_iconst hx hb hd hv w) k
theorem wp_bipush {n : Int} {v : Int32} (hd : decode μ.2.1 pc = .ok (.bipush n, 2)) (hv : (Int8.ofInt n).toInt32 = v) (hq : pc + 2 = q) (k : wp l μ sc d kc ks Q h q lv (.int v :: st)) : wp l μ sc d kc ks Q h pc lv st := by
  subst hq
  exact wp_pure (fun _ _ _ _ _ _ _ _ _ _ _ _ _ _ _ hx hb _ w => lv_bipush hx hb hd hv w) k
theorem wp_sipush {n : Int} {v : Int32} (hd : decode μ.2.1 pc = .ok (.sipush n, 3)) (hv : (Int16.ofInt n).toInt32 = v) (hq : pc + 3 = q) (k : wp l μ sc d kc ks Q h q lv (.int v :: st)) : wp l μ sc d kc ks Q h pc lv st := by
  subst hq
  exact wp_pure (fun _ _ _ _ _ _ _ _ _ _ _ _ _ _ _ hx hb _ w => lv_sipush hx hb hd hv w) k
theorem wp_lconst {n : Fin 2} {v : Int64} (hd : decode μ.2.1 pc = .ok (.lconst n, 1)) (hv : Int64.ofNat (n : Nat) = v) (hq : pc + 1 = q) (k : wp l μ sc d kc ks Q h q lv (.long v :: st)) : wp l μ sc d kc ks Q h pc lv st := by
  subst hq
  exact wp_pure (fun _ _ _ _ _ _ _ _ _ _ _ _ _ _ _ hx hb _ w => lv_lconst hx hb hd hv w) k
theorem wp_iload_n {n : Fin 4} {i : Nat} {x : Int32} (hd : decode μ.2.1 pc = .ok (.iload_n n, 1)) (hi : (n : Nat) = i) (hv : lv[i]? = some (some (.int x))) (hq : pc + 1 = q) (k : wp l μ sc d kc ks Q h q lv (.int x :: st)) : wp l μ sc d kc ks Q h pc lv st := by
  subst hq
  exact wp_pure (fun _ _ _ _ _ _ _ _ _ _ _ _ _ _ _ hx hb hl w => lv_iload_n hx hb hd hi (hl.2.2 _ _ hv) w) k
theorem wp_iload {i : Nat} {x : Int32} (hd : decode μ.2.1 pc = .ok (.iload i, 2)) (hv : lv[i]? = some (some (.int x))) (hq : pc + 2 = q) (k : wp l μ sc d kc ks Q h q lv (.int x :: st)) : wp l μ sc d kc ks Q h pc lv st := by
  subst hq
  exact wp_pure (fun _ _ _ _ _ _ _ _ _ _ _ _ _ _ _ hx hb hl w => lv_iload hx hb hd (hl.2.2 _ _ hv) w) k
theorem wp_lload_n {n : Fin 4} {i : Nat} {x : Int64} (hd : decode μ.2.1 pc = .ok (.lload_n n, 1)) (hi : (n : Nat) = i) (hv : lv[i]? = some (some (.long x))) (hq : pc + 1 = q) (k : wp l μ sc d kc ks Q h q lv (.long x :: st)) : wp l μ sc d kc ks Q h pc lv st := by
  subst hq
  exact wp_pure (fun _ _ _ _ _ _ _ _ _ _ _ _ _ _ _ hx hb hl w => lv_lload_n hx hb hd hi (hl.2.2 _ _ hv) w) k
theorem wp_lload {i : Nat} {x : Int64} (hd : decode μ.2.1 pc = .ok (.lload i, 2)) (hv : lv[i]? = some (some (.long x))) (hq : pc + 2 = q) (k : wp l μ sc d kc ks Q h q lv (.long x :: st)) : wp l μ sc d kc ks Q h pc lv st := by
  subst hq
  exact wp_pure (fun _ _ _ _ _ _ _ _ _ _ _ _ _ _ _ hx hb hl w => lv_lload hx hb hd (hl.2.2 _ _ hv) w) k
theorem wp_aload_n {n : Fin 4} {i : Nat} {x : Nat} (hd : decode μ.2.1 pc = .ok (.aload_n n, 1)) (hi : (n : Nat) = i) (hv : lv[i]? = some (some (.ref x))) (hq : pc + 1 = q) (k : wp l μ sc d kc ks Q h q lv (.ref x :: st)) : wp l μ sc d kc ks Q h pc lv st := by
  subst hq
  exact wp_pure (fun _ _ _ _ _ _ _ _ _ _ _ _ _ _ _ hx hb hl w => lv_aload_n hx hb hd hi (hl.2.2 _ _ hv) w) k
theorem wp_aload {i : Nat} {x : Nat} (hd : decode μ.2.1 pc = .ok (.aload i, 2)) (hv : lv[i]? = some (some (.ref x))) (hq : pc + 2 = q) (k : wp l μ sc d kc ks Q h q lv (.ref x :: st)) : wp l μ sc d kc ks Q h pc lv st := by
  subst hq
  exact wp_pure (fun _ _ _ _ _ _ _ _ _ _ _ _ _ _ _ hx hb hl w => lv_aload hx hb hd (hl.2.2 _ _ hv) w) k
theorem wp_aload_nN {n : Fin 4} {i : Nat} (hd : decode μ.2.1 pc = .ok (.aload_n n, 1)) (hi : (n : Nat) = i) (hv : lv[i]? = some (some .null)) (hq : pc + 1 = q) (k : wp l μ sc d kc ks Q h q lv (.null :: st)) : wp l μ sc d kc ks Q h pc lv st := by
  subst hq
  exact wp_pure (fun _ _ _ _ _ _ _ _ _ _ _ _ _ _ _ hx hb hl w => lv_aload_nN hx hb hd hi (hl.2.2 _ _ hv) w) k
theorem wp_aloadN {i : Nat} (hd : decode μ.2.1 pc = .ok (.aload i, 2)) (hv : lv[i]? = some (some .null)) (hq : pc + 2 = q) (k : wp l μ sc d kc ks Q h q lv (.null :: st)) : wp l μ sc d kc ks Q h pc lv st := by
  subst hq
  exact wp_pure (fun _ _ _ _ _ _ _ _ _ _ _ _ _ _ _ hx hb hl w => lv_aloadN hx hb hd (hl.2.2 _ _ hv) w) k
theorem wp_null (hd : decode μ.2.1 pc = .ok (.aconst_null, 1)) (hq : pc + 1 = q) (k : wp l μ sc d kc ks Q h q lv (.null :: st)) : wp l μ sc d kc ks Q h pc lv st := by
  subst hq
  exact wp_pure (fun _ _ _ _ _ _ _ _ _ _ _ _ _ _ _ hx hb _ w => lv_null hx hb hd w) k
theorem wp_iadd {x y : Int32} (hd : decode μ.2.1 pc = .ok (.iadd, 1)) (hq : pc + 1 = q) (k : wp l μ sc d kc ks Q h q lv (.int (x + y) :: st)) : wp l μ sc d kc ks Q h pc lv (.int y :: .int x :: st) := by
  subst hq
  exact wp_pure (fun _ _ _ _ _ _ _ _ _ _ _ _ _ _ _ hx hb _ w => lv_iadd hx hb hd w) k
theorem wp_isub {x y : Int32} (hd : decode μ.2.1 pc = .ok (.isub, 1)) (hq : pc + 1 = q) (k : wp l μ sc d kc ks Q h q lv (.int (x - y) :: st)) : wp l μ sc d kc ks Q h pc lv (.int y :: .int x :: st) := by
  subst hq
  exact wp_pure (fun _ _ _ _ _ _ _ _ _ _ _ _ _ _ _ hx hb _ w => lv_isub hx hb hd w) k
theorem wp_imul {x y : Int32} (hd : decode μ.2.1 pc = .ok (.imul, 1)) (hq : pc + 1 = q) (k : wp l μ sc d kc ks Q h q lv (.int (x * y) :: st)) : wp l μ sc d kc ks Q h pc lv (.int y :: .int x :: st) := by
  subst hq
  exact wp_pure (fun _ _ _ _ _ _ _ _ _ _ _ _ _ _ _ hx hb _ w => lv_imul hx hb hd w) k
theorem wp_iand {x y : Int32} (hd : decode μ.2.1 pc = .ok (.iand, 1)) (hq : pc + 1 = q) (k : wp l μ sc d kc ks Q h q lv (.int (x &&& y) :: st)) : wp l μ sc d kc ks Q h pc lv (.int y :: .int x :: st) := by
  subst hq
  exact wp_pure (fun _ _ _ _ _ _ _ _ _ _ _ _ _ _ _ hx hb _ w => lv_iand hx hb hd w) k
theorem wp_ior {x y : Int32} (hd : decode μ.2.1 pc = .ok (.ior, 1)) (hq : pc + 1 = q) (k : wp l μ sc d kc ks Q h q lv (.int (x ||| y) :: st)) : wp l μ sc d kc ks Q h pc lv (.int y :: .int x :: st) := by
  subst hq
  exact wp_pure (fun _ _ _ _ _ _ _ _ _ _ _ _ _ _ _ hx hb _ w => lv_ior hx hb hd w) k
theorem wp_ladd {x y : Int64} (hd : decode μ.2.1 pc = .ok (.ladd, 1)) (hq : pc + 1 = q) (k : wp l μ sc d kc ks Q h q lv (.long (x + y) :: st)) : wp l μ sc d kc ks Q h pc lv (.long y :: .long x :: st) := by
  subst hq
  exact wp_pure (fun _ _ _ _ _ _ _ _ _ _ _ _ _ _ _ hx hb _ w => lv_ladd hx hb hd w) k
theorem wp_lsub {x y : Int64} (hd : decode μ.2.1 pc = .ok (.lsub, 1)) (hq : pc + 1 = q) (k : wp l μ sc d kc ks Q h q lv (.long (x - y) :: st)) : wp l μ sc d kc ks Q h pc lv (.long y :: .long x :: st) := by
  subst hq
  exact wp_pure (fun _ _ _ _ _ _ _ _ _ _ _ _ _ _ _ hx hb _ w => lv_lsub hx hb hd w) k
theorem wp_lmul {x y : Int64} (hd : decode μ.2.1 pc = .ok (.lmul, 1)) (hq : pc + 1 = q) (k : wp l μ sc d kc ks Q h q lv (.long (x * y) :: st)) : wp l μ sc d kc ks Q h pc lv (.long y :: .long x :: st) := by
  subst hq
  exact wp_pure (fun _ _ _ _ _ _ _ _ _ _ _ _ _ _ _ hx hb _ w => lv_lmul hx hb hd w) k
theorem wp_idiv {x y : Int32} (hd : decode μ.2.1 pc = .ok (.idiv, 1)) (hne : ¬ y = 0) (hq : pc + 1 = q) (k : wp l μ sc d kc ks Q h q lv (.int (x / y) :: st)) : wp l μ sc d kc ks Q h pc lv (.int y :: .int x :: st) := by
  subst hq
  exact wp_pure (fun _ _ _ _ _ _ _ _ _ _ _ _ _ _ _ hx hb _ w => lv_idiv hx hb hd hne w) k
theorem wp_irem {x y : Int32} (hd : decode μ.2.1 pc = .ok (.irem, 1)) (hne : ¬ y = 0) (hq : pc + 1 = q) (k : wp l μ sc d kc ks Q h q lv (.int (x - x / y * y) :: st)) : wp l μ sc d kc ks Q h pc lv (.int y :: .int x :: st) := by
  subst hq
  exact wp_pure (fun _ _ _ _ _ _ _ _ _ _ _ _ _ _ _ hx hb _ w => lv_irem hx hb hd hne w) k
theorem wp_ldiv {x y : Int64} (hd : decode μ.2.1 pc = .ok (.ldiv, 1)) (hne : ¬ y = 0) (hq : pc + 1 = q) (k : wp l μ sc d kc ks Q h q lv (.long (x / y) :: st)) : wp l μ sc d kc ks Q h pc lv (.long y :: .long x :: st) := by
  subst hq
  exact wp_pure (fun _ _ _ _ _ _ _ _ _ _ _ _ _ _ _ hx hb _ w => lv_ldiv hx hb hd hne w) k
theorem wp_lrem {x y : Int64} (hd : decode μ.2.1 pc = .ok (.lrem, 1)) (hne : ¬ y = 0) (hq : pc + 1 = q) (k : wp l μ sc d kc ks Q h q lv (.long (x - x / y * y) :: st)) : wp l μ sc d kc ks Q h pc lv (.long y :: .long x :: st) := by
  subst hq
  exact wp_pure (fun _ _ _ _ _ _ _ _ _ _ _ _ _ _ _ hx hb _ w => lv_lrem hx hb hd hne w) k
theorem wp_ineg {x : Int32} (hd : decode μ.2.1 pc = .ok (.ineg, 1)) (hq : pc + 1 = q) (k : wp l μ sc d kc ks Q h q lv (.int (-x) :: st)) : wp l μ sc d kc ks Q h pc lv (.int x :: st) := by
  subst hq
  exact wp_pure (fun _ _ _ _ _ _ _ _ _ _ _ _ _ _ _ hx hb _ w => lv_ineg hx hb hd w) k
theorem wp_lneg {x : Int64} (hd : decode μ.2.1 pc = .ok (.lneg, 1)) (hq : pc + 1 = q) (k : wp l μ sc d kc ks Q h q lv (.long (-x) :: st)) : wp l μ sc d kc ks Q h pc lv (.long x :: st) := by
  subst hq
  exact wp_pure (fun _ _ _ _ _ _ _ _ _ _ _ _ _ _ _ hx hb _ w => lv_lneg hx hb hd w) k
theorem wp_i2l {x : Int32} (hd : decode μ.2.1 pc = .ok (.i2l, 1)) (hq : pc + 1 = q) (k : wp l μ sc d kc ks Q h q lv (.long x.toInt64 :: st)) : wp l μ sc d kc ks Q h pc lv (.int x :: st) := by
  subst hq
  exact wp_pure (fun _ _ _ _ _ _ _ _ _ _ _ _ _ _ _ hx hb _ w => lv_i2l hx hb hd rfl w) k
theorem wp_iushr {x y : Int32} (hd : decode μ.2.1 pc = .ok (.iushr, 1)) (hq : pc + 1 = q) (k : wp l μ sc d kc ks Q h q lv (.int (x.toUInt32 >>> (y.toUInt32 &&& Int32.toUInt32 31)).toInt32 :: st)) : wp l μ sc d kc ks Q h pc lv (.int y :: .int x :: st) := by
  subst hq
  exact wp_pure (fun _ _ _ _ _ _ _ _ _ _ _ _ _ _ _ hx hb _ w => lv_iushr hx hb hd rfl w) k
theorem wp_lcmp {x y : Int64} (hd : decode μ.2.1 pc = .ok (.lcmp, 1)) (hq : pc + 1 = q) (k : wp l μ sc d kc ks Q h q lv (.int (lg_cmp x y) :: st)) : wp l μ sc d kc ks Q h pc lv (.long y :: .long x :: st) := by
  subst hq
  exact wp_pure (fun _ _ _ _ _ _ _ _ _ _ _ _ _ _ _ hx hb _ w => W.lcmp hx hb hd w) k
theorem wp_dup {v : Value} (hd : decode μ.2.1 pc = .ok (.dup, 1)) (hv : v.category = 1) (hq : pc + 1 = q) (k : wp l μ sc d kc ks Q h q lv (v :: v :: st)) : wp l μ sc d kc ks Q h pc lv (v :: st) := by
  subst hq
  exact wp_pure (fun _ _ _ _ _ _ _ _ _ _ _ _ _ _ _ hx hb _ w => lv_dup hx hb hd hv w) k
theorem wp_dup2 {v u : Value} (hd : decode μ.2.1 pc = .ok (.dup2, 1)) (hv : v.category = 1) (hu : u.category = 1) (hq : pc + 1 = q) (k : wp l μ sc d kc ks Q h q lv (v :: u :: v :: u :: st)) : wp l μ sc d kc ks Q h pc lv (v :: u :: st) := by
  subst hq
  exact wp_pure (fun _ _ _ _ _ _ _ _ _ _ _ _ _ _ _ hx hb _ w => lv_dup2_11 hx hb hd hv hu w) k
theorem wp_goto {off : Int} (hd : decode μ.2.1 pc = .ok (.goto off, 3)) (hq : (pc : Int) + off = (q : Int)) (k : wp l μ sc d kc ks Q h q lv st) : wp l μ sc d kc ks Q h pc lv st :=
  wp_pure (fun _ _ _ _ _ _ _ _ _ _ _ _ _ _ _ hx hb _ w => lv_goto hx hb hd hq w) k
theorem wp_ifnull {x : Nat} {off : Int} (hd : decode μ.2.1 pc = .ok (.ifnull off, 3)) (hq : pc + 3 = q) (k : wp l μ sc d kc ks Q h q lv st) : wp l μ sc d kc ks Q h pc lv (.ref x :: st) := by
  subst hq
  exact wp_pure (fun _ _ _ _ _ _ _ _ _ _ _ _ _ _ _ hx hb _ w => lv_ifnull hx hb hd w) k
theorem wp_ifnullN {off : Int} (hd : decode μ.2.1 pc = .ok (.ifnull off, 3)) (hq : (pc : Int) + off = (q : Int)) (k : wp l μ sc d kc ks Q h q lv st) : wp l μ sc d kc ks Q h pc lv (.null :: st) :=
  wp_pure (fun _ _ _ _ _ _ _ _ _ _ _ _ _ _ _ hx hb _ w => lv_ifnullN hx hb hd hq w) k
theorem wp_ifnonnull {x : Nat} {off : Int} (hd : decode μ.2.1 pc = .ok (.ifnonnull off, 3)) (hq : (pc : Int) + off = (q : Int)) (k : wp l μ sc d kc ks Q h q lv st) : wp l μ sc d kc ks Q h pc lv (.ref x :: st) :=
  wp_pure (fun _ _ _ _ _ _ _ _ _ _ _ _ _ _ _ hx hb _ w => lv_ifnonnull hx hb hd hq w) k
theorem wp_ifnonnullN {off : Int} (hd : decode μ.2.1 pc = .ok (.ifnonnull off, 3)) (hq : pc + 3 = q) (k : wp l μ sc d kc ks Q h q lv st) : wp l μ sc d kc ks Q h pc lv (.null :: st) := by
  subst hq
  exact wp_pure (fun _ _ _ _ _ _ _ _ _ _ _ _ _ _ _ hx hb _ w => lv_ifnonnullN hx hb hd w) k
/-- two ways on -/
theorem wp_two {t1 t2 : Nat} {P : Prop} {st st' : List Value} (f : ∀ (p : Program) (e : Env) (R : Room) (s : State) (m : MethodId) (args : Array Value) (below : List Frame) (meth : Method) (c : Code) (Z : State → Prop) (H : Heap) (locs : List Loc) (cells slots : Nat) (ls : Array Slot), p.tables.exec = Jvm.exec → c.code = μ.2.1 → (P → W p l e R s m args below meth c H locs cells slots Z (F0 m t1 ls st')) → (¬ P → W p l e R s m args below meth c H locs cells slots Z (F0 m t2 ls st')) → W p l e R s m args below meth c H locs cells slots Z (F0 m pc ls st))
    (k1 : P → wp l μ sc d kc ks Q h t1 lv st') (k2 : ¬ P → wp l μ sc d kc ks Q h t2 lv st') : wp l μ sc d kc ks Q h pc lv st :=
  fun D cT p e R s m args below meth c A Z C z H locs cells slots ls r1 r2 r3 r4 r5 r6 => f p e R s m args below meth c Z H locs cells slots ls C.1 C.2.1 (fun hp => k1 hp D cT p e R s m args below meth c A Z C z H locs cells slots ls r1 r2 r3 r4 r5 r6) (fun hp => k2 hp D cT p e R s m args below meth c A Z C z H locs cells slots ls r1 r2 r3 r4 r5 r6)
theorem wp_if_eq {x : Int32} {off : Int} {t : Nat} (hd : decode μ.2.1 pc = .ok (.ifCond .eq off, 3)) (ht : (pc : Int) + off = (t : Int)) (hq : pc + 3 = q) (k1 : x = 0 → wp l μ sc d kc ks Q h t lv st) (k2 : ¬ (x = 0) → wp l μ sc d kc ks Q h q lv st) : wp l μ sc d kc ks Q h pc lv (.int x :: st) := by
  subst hq
  exact wp_two (P := x = 0) (fun _ _ _ _ _ _ _ _ _ _ _ _ _ _ _ hx hb w1 w2 => lv_if_eq hx hb hd ht w1 w2) k1 k2
theorem wp_if_ne {x : Int32} {off : Int} {t : Nat} (hd : decode μ.2.1 pc = .ok (.ifCond .ne off, 3)) (ht : (pc : Int) + off = (t : Int)) (hq : pc + 3 = q) (k1 : ¬ x = 0 → wp l μ sc d kc ks Q h t lv st) (k2 : x = 0 → wp l μ sc d kc ks Q h q lv st) : wp l μ sc d kc ks Q h pc lv (.int x :: st) := by
  subst hq
  exact wp_two (P := ¬ x = 0) (fun _ _ _ _ _ _ _ _ _ _ _ _ _ _ _ hx hb w1 w2 => lv_if_ne hx hb hd ht w1 (fun e => w2 (fun n => n e))) k1 (fun n => k2 (Decidable.not_not.mp n))
theorem wp_if_lt {x : Int32} {off : Int} {t : Nat} (hd : decode μ.2.1 pc = .ok (.ifCond .lt off, 3)) (ht : (pc : Int) + off = (t : Int)) (hq : pc + 3 = q) (k1 : x < 0 → wp l μ sc d kc ks Q h t lv st) (k2 : ¬ (x < 0) → wp l μ sc d kc ks Q h q lv st) : wp l μ sc d kc ks Q h pc lv (.int x :: st) := by
  subst hq
  exact wp_two (P := x < 0) (fun _ _ _ _ _ _ _ _ _ _ _ _ _ _ _ hx hb w1 w2 => lv_if_lt hx hb hd ht w1 w2) k1 k2
theorem wp_if_ge {x : Int32} {off : Int} {t : Nat} (hd : decode μ.2.1 pc = .ok (.ifCond .ge off, 3)) (ht : (pc : Int) + off = (t : Int)) (hq : pc + 3 = q) (k1 : 0 ≤ x → wp l μ sc d kc ks Q h t lv st) (k2 : ¬ (0 ≤ x) → wp l μ sc d kc ks Q h q lv st) : wp l μ sc d kc ks Q h pc lv (.int x :: st) := by
  subst hq
  exact wp_two (P := 0 ≤ x) (fun _ _ _ _ _ _ _ _ _ _ _ _ _ _ _ hx hb w1 w2 => lv_if_ge hx hb hd ht w1 w2) k1 k2
theorem wp_if_gt {x : Int32} {off : Int} {t : Nat} (hd : decode μ.2.1 pc = .ok (.ifCond .gt off, 3)) (ht : (pc : Int) + off = (t : Int)) (hq : pc + 3 = q) (k1 : 0 < x → wp l μ sc d kc ks Q h t lv st) (k2 : ¬ (0 < x) → wp l μ sc d kc ks Q h q lv st) : wp l μ sc d kc ks Q h pc lv (.int x :: st) := by
  subst hq
  exact wp_two (P := 0 < x) (fun _ _ _ _ _ _ _ _ _ _ _ _ _ _ _ hx hb w1 w2 => lv_if_gt hx hb hd ht w1 w2) k1 k2
theorem wp_if_le {x : Int32} {off : Int} {t : Nat} (hd : decode μ.2.1 pc = .ok (.ifCond .le off, 3)) (ht : (pc : Int) + off = (t : Int)) (hq : pc + 3 = q) (k1 : x ≤ 0 → wp l μ sc d kc ks Q h t lv st) (k2 : ¬ (x ≤ 0) → wp l μ sc d kc ks Q h q lv st) : wp l μ sc d kc ks Q h pc lv (.int x :: st) := by
  subst hq
  exact wp_two (P := x ≤ 0) (fun _ _ _ _ _ _ _ _ _ _ _ _ _ _ _ hx hb w1 w2 => lv_if_le hx hb hd ht w1 w2) k1 k2
theorem wp_icmp_eq {x y : Int32} {off : Int} {t : Nat} (hd : decode μ.2.1 pc = .ok (.if_icmp .eq off, 3)) (ht : (pc : Int) + off = (t : Int)) (hq : pc + 3 = q) (k1 : x = y → wp l μ sc d kc ks Q h t lv st) (k2 : ¬ (x = y) → wp l μ sc d kc ks Q h q lv st) : wp l μ sc d kc ks Q h pc lv (.int y :: .int x :: st) := by
  subst hq
  exact wp_two (P := x = y) (fun _ _ _ _ _ _ _ _ _ _ _ _ _ _ _ hx hb w1 w2 => lv_icmp_eq hx hb hd ht w1 w2) k1 k2
theorem wp_icmp_ne {x y : Int32} {off : Int} {t : Nat} (hd : decode μ.2.1 pc = .ok (.if_icmp .ne off, 3)) (ht : (pc : Int) + off = (t : Int)) (hq : pc + 3 = q) (k1 : ¬ x = y → wp l μ sc d kc ks Q h t lv st) (k2 : x = y → wp l μ sc d kc ks Q h q lv st) : wp l μ sc d kc ks Q h pc lv (.int y :: .int x :: st) := by
  subst hq
  exact wp_two (P := ¬ x = y) (fun _ _ _ _ _ _ _ _ _ _ _ _ _ _ _ hx hb w1 w2 => lv_icmp_ne hx hb hd ht w1 (fun e => w2 (fun n => n e))) k1 (fun n => k2 (Decidable.not_not.mp n))
theorem wp_icmp_lt {x y : Int32} {off : Int} {t : Nat} (hd : decode μ.2.1 pc = .ok (.if_icmp .lt off, 3)) (ht : (pc : Int) + off = (t : Int)) (hq : pc + 3 = q) (k1 : x < y → wp l μ sc d kc ks Q h t lv st) (k2 : ¬ (x < y) → wp l μ sc d kc ks Q h q lv st) : wp l μ sc d kc ks Q h pc lv (.int y :: .int x :: st) := by
  subst hq
  exact wp_two (P := x < y) (fun _ _ _ _ _ _ _ _ _ _ _ _ _ _ _ hx hb w1 w2 => lv_icmp_lt hx hb hd ht w1 w2) k1 k2
theorem wp_icmp_ge {x y : Int32} {off : Int} {t : Nat} (hd : decode μ.2.1 pc = .ok (.if_icmp .ge off, 3)) (ht : (pc : Int) + off = (t : Int)) (hq : pc + 3 = q) (k1 : y ≤ x → wp l μ sc d kc ks Q h t lv st) (k2 : ¬ (y ≤ x) → wp l μ sc d kc ks Q h q lv st) : wp l μ sc d kc ks Q h pc lv (.int y :: .int x :: st) := by
  subst hq
  exact wp_two (P := y ≤ x) (fun _ _ _ _ _ _ _ _ _ _ _ _ _ _ _ hx hb w1 w2 => lv_icmp_ge hx hb hd ht w1 w2) k1 k2
theorem wp_icmp_gt {x y : Int32} {off : Int} {t : Nat} (hd : decode μ.2.1 pc = .ok (.if_icmp .gt off, 3)) (ht : (pc : Int) + off = (t : Int)) (hq : pc + 3 = q) (k1 : y < x → wp l μ sc d kc ks Q h t lv st) (k2 : ¬ (y < x) → wp l μ sc d kc ks Q h q lv st) : wp l μ sc d kc ks Q h pc lv (.int y :: .int x :: st) := by
  subst hq
  exact wp_two (P := y < x) (fun _ _ _ _ _ _ _ _ _ _ _ _ _ _ _ hx hb w1 w2 => lv_icmp_gt hx hb hd ht w1 w2) k1 k2
theorem wp_icmp_le {x y : Int32} {off : Int} {t : Nat} (hd : decode μ.2.1 pc = .ok (.if_icmp .le off, 3)) (ht : (pc : Int) + off = (t : Int)) (hq : pc + 3 = q) (k1 : x ≤ y → wp l μ sc d kc ks Q h t lv st) (k2 : ¬ (x ≤ y) → wp l μ sc d kc ks Q h q lv st) : wp l μ sc d kc ks Q h pc lv (.int y :: .int x :: st) := by
  subst hq
  exact wp_two (P := x ≤ y) (fun _ _ _ _ _ _ _ _ _ _ _ _ _ _ _ hx hb w1 w2 => lv_icmp_le hx hb hd ht w1 w2) k1 k2
theorem wp_tableOut {dflt lo hi : Int} {offs : Array Int} {len : Nat} {x : Int32} (hd : decode μ.2.1 pc = .ok (.tableswitch dflt lo hi offs, len)) (hx : x.toInt < lo ∨ hi < x.toInt) (hq : (pc : Int) + dflt = (q : Int)) (k : wp l μ sc d kc ks Q h q lv st) : wp l μ sc d kc ks Q h pc lv (.int x :: st) :=
  wp_pure (fun _ _ _ _ _ _ _ _ _ _ _ _ _ _ _ he hb _ w => lv_tableOut he hb hd hx hq w) k
theorem wp_tableIn {dflt lo hi off : Int} {offs : Array Int} {len : Nat} {x : Int32} (hd : decode μ.2.1 pc = .ok (.tableswitch dflt lo hi offs, len)) (h1 : ¬ x.toInt < lo) (h2 : ¬ hi < x.toInt) (ho : offs[(x.toInt - lo).toNat]? = some off) (hq : (pc : Int) + off = (q : Int)) (k : wp l μ sc d kc ks Q h q lv st) : wp l μ sc d kc ks Q h pc lv (.int x :: st) :=
  wp_pure (fun _ _ _ _ _ _ _ _ _ _ _ _ _ _ _ he hb _ w => lv_tableIn he hb hd h1 h2 ho hq w) k
theorem wp_ldc {idx : Nat} {v : Int32} (hd : decode μ.2.1 pc = .ok (.ldc idx, 2)) (hw : Cond.constant μ.1.cls idx v ∈ gwl) (hq : pc + 2 = q) (k : wp l μ sc d kc ks Q h q lv (.int v :: st)) : wp l μ sc d kc ks Q h pc lv st := by
  subst hq
  exact fun D cT p e R s m args below meth c A Z C z H locs cells slots ls r1 r2 r3 r4 r5 r6 => lv_ldc C.1 C.2.1 C.2.2.2.2.1 (C.2.2.2.2.2.1 _ hw) hd (k D cT p e R s m args below meth c A Z C z H locs cells slots ls r1 r2 r3 r4 r5 r6)
theorem wp_ldc2 {idx : Nat} {v : Int64} (hd : decode μ.2.1 pc = .ok (.ldc2_w idx, 3)) (hw : Cond.constantLong μ.1.cls idx v ∈ gwl) (hq : pc + 3 = q) (k : wp l μ sc d kc ks Q h q lv (.long v :: st)) : wp l μ sc d kc ks Q h pc lv st := by
  subst hq
  exact fun D cT p e R s m args below meth c A Z C z H locs cells slots ls r1 r2 r3 r4 r5 r6 => lv_ldc2 C.1 C.2.1 C.2.2.2.2.1 (C.2.2.2.2.2.1 _ hw) hd (k D cT p e R s m args below meth c A Z C z H locs cells slots ls r1 r2 r3 r4 r5 r6)
/-- stores into locals -/
theorem wp_sto {pc' : Nat} {lv' : List (Option Value)} {st st' : List Value} (f : ∀ (p : Program) (e : Env) (R : Room) (s : State) (m : MethodId) (args : Array Value) (below : List Frame) (meth : Method) (c : Code) (Z : State → Prop) (H : Heap) (locs : List Loc) (cells slots : Nat) (ls : Array Slot), p.tables.exec = Jvm.exec → c.code = μ.2.1 → lw_L ls μ.2.2.1 lv → (∀ ls' : Array Slot, lw_L ls' μ.2.2.1 lv' → W p l e R s m args below meth c H locs cells slots Z (F0 m pc' ls' st')) → W p l e R s m args below meth c H locs cells slots Z (F0 m pc ls st))
    (k : wp l μ sc d kc ks Q h pc' lv' st') : wp l μ sc d kc ks Q h pc lv st :=
  fun D cT p e R s m args below meth c A Z C z H locs cells slots ls r1 r2 r3 r4 r5 r6 => f p e R s m args below meth c Z H locs cells slots ls C.1 C.2.1 r4 (fun ls' h' => k D cT p e R s m args below meth c A Z C z H locs cells slots ls' r1 r2 r3 h' r5 r6)
theorem wp_istore_n {n : Fin 4} {i : Nat} {x : Int32} {lv' : List (Option Value)} (hd : decode μ.2.1 pc = .ok (.istore_n n, 1)) (hi : (n : Nat) = i) (hn : i < μ.2.2.1) (hl : st1 lv i (.int x) = lv') (hq : pc + 1 = q) (k : wp l μ sc d kc ks Q h q lv' st) : wp l μ sc d kc ks Q h pc lv (.int x :: st) := by
  subst hq; subst hl
  exact wp_sto (fun _ _ _ _ _ _ _ _ _ _ _ _ _ _ _ hx hb hl w => lv_istore_n hx hb hd hi hl.has hn rfl (fun ls' h' => w ls' (lw_store1 h'))) k
theorem wp_istore {i : Nat} {x : Int32} {lv' : List (Option Value)} (hd : decode μ.2.1 pc = .ok (.istore i, 2)) (hn : i < μ.2.2.1) (hl : st1 lv i (.int x) = lv') (hq : pc + 2 = q) (k : wp l μ sc d kc ks Q h q lv' st) : wp l μ sc d kc ks Q h pc lv (.int x :: st) := by
  subst hq; subst hl
  exact wp_sto (fun _ _ _ _ _ _ _ _ _ _ _ _ _ _ _ hx hb hl w => lv_istore hx hb hd hl.has hn rfl (fun ls' h' => w ls' (lw_store1 h'))) k
theorem wp_astore_n {n : Fin 4} {i : Nat} {x : Nat} {lv' : List (Option Value)} (hd : decode μ.2.1 pc = .ok (.astore_n n, 1)) (hi : (n : Nat) = i) (hn : i < μ.2.2.1) (hl : st1 lv i (.ref x) = lv') (hq : pc + 1 = q) (k : wp l μ sc d kc ks Q h q lv' st) : wp l μ sc d kc ks Q h pc lv (.ref x :: st) := by
  subst hq; subst hl
  exact wp_sto (fun _ _ _ _ _ _ _ _ _ _ _ _ _ _ _ hx hb hl w => lv_astore_n hx hb hd hi hl.has hn rfl (fun ls' h' => w ls' (lw_store1 h'))) k
theorem wp_astore {i : Nat} {x : Nat} {lv' : List (Option Value)} (hd : decode μ.2.1 pc = .ok (.astore i, 2)) (hn : i < μ.2.2.1) (hl : st1 lv i (.ref x) = lv') (hq : pc + 2 = q) (k : wp l μ sc d kc ks Q h q lv' st) : wp l μ sc d kc ks Q h pc lv (.ref x :: st) := by
  subst hq; subst hl
  exact wp_sto (fun _ _ _ _ _ _ _ _ _ _ _ _ _ _ _ hx hb hl w => lv_astore hx hb hd hl.has hn rfl (fun ls' h' => w ls' (lw_store1 h'))) k
theorem wp_lstore_n {n : Fin 4} {i : Nat} {x : Int64} {lv' : List (Option Value)} (hd : decode μ.2.1 pc = .ok (.lstore_n n, 1)) (hi : (n : Nat) = i) (hn : i + 1 < μ.2.2.1) (hl : st2 lv i (.long x) = lv') (hq : pc + 1 = q) (k : wp l μ sc d kc ks Q h q lv' st) : wp l μ sc d kc ks Q h pc lv (.long x :: st) := by
  subst hq; subst hl
  exact wp_sto (fun _ _ _ _ _ _ _ _ _ _ _ _ _ _ _ hx hb hl w => lv_lstore_n hx hb hd hi hl.has hn rfl (fun ls' h' => w ls' (lw_store2 h'))) k
theorem wp_lstore {i : Nat} {x : Int64} {lv' : List (Option Value)} (hd : decode μ.2.1 pc = .ok (.lstore i, 2)) (hn : i + 1 < μ.2.2.1) (hl : st2 lv i (.long x) = lv') (hq : pc + 2 = q) (k : wp l μ sc d kc ks Q h q lv' st) : wp l μ sc d kc ks Q h pc lv (.long x :: st) := by
  subst hq; subst hl
  exact wp_sto (fun _ _ _ _ _ _ _ _ _ _ _ _ _ _ _ hx hb hl w => lv_lstore hx hb hd hl.has hn rfl (fun ls' h' => w ls' (lw_store2 h'))) k
theorem wp_astore_nN {n : Fin 4} {i : Nat} {lv' : List (Option Value)} (hd : decode μ.2.1 pc = .ok (.astore_n n, 1)) (hi : (n : Nat) = i) (hn : i < μ.2.2.1) (hl : st1 lv i .null = lv') (hq : pc + 1 = q) (k : wp l μ sc d kc ks Q h q lv' st) : wp l μ sc d kc ks Q h pc lv (.null :: st) := by
  subst hq; subst hl
  exact wp_sto (fun _ _ _ _ _ _ _ _ _ _ _ _ _ _ _ hx hb hl w => lv_astore_nN hx hb hd hi hl.has hn rfl (fun ls' h' => w ls' (lw_store1 h'))) k
theorem wp_astoreN {i : Nat} {lv' : List (Option Value)} (hd : decode μ.2.1 pc = .ok (.astore i, 2)) (hn : i < μ.2.2.1) (hl : st1 lv i .null = lv') (hq : pc + 2 = q) (k : wp l μ sc d kc ks Q h q lv' st) : wp l μ sc d kc ks Q h pc lv (.null :: st) := by
  subst hq; subst hl
  exact wp_sto (fun _ _ _ _ _ _ _ _ _ _ _ _ _ _ _ hx hb hl w => lv_astoreN hx hb hd hl.has hn rfl (fun ls' h' => w ls' (lw_store1 h'))) k
theorem wp_iinc {i : Nat} {n : Int} {x v : Int32} {lv' : List (Option Value)} (hd : decode μ.2.1 pc = .ok (.iinc i n, 3)) (hv : lv[i]? = some (some (.int x))) (he : x + Int32.ofInt n = v) (hn : i < μ.2.2.1) (hl : st1 lv i (.int v) = lv') (hq : pc + 3 = q) (k : wp l μ sc d kc ks Q h q lv' st) : wp l μ sc d kc ks Q h pc lv st := by
  subst hq; subst hl
  refine wp_sto (fun _ _ _ _ _ _ _ _ _ _ _ _ _ _ _ hx hb hl w => ?_) k
  obtain ⟨j, hj⟩ := List.getElem?_of_mem (toP_of lv 0 i _ hv)
  exact lv_iinc hx hb hd hl.has (k := j) (by simpa using hj) he hn rfl (fun ls' h' => w ls' (lw_store1 h'))
/-- ends -/
theorem wp_ret {rv : Option Value} {ri : Instr} (hd : decode μ.2.1 pc = .ok (ri, 1)) (ho : rOK μ.2.2.2 ri rv) (hQ : Q rv h) : wp l μ sc d kc ks Q h pc lv rv.toList :=
  fun D cT p e R s m args below meth c A Z C z H locs cells slots ls r1 r2 r3 r4 r5 r6 => z rv h H locs cells slots pc ls ri hQ r1 r2 r3 (by omega) (by omega) ho hd
theorem wp_vret (hd : decode μ.2.1 pc = .ok (.return_, 1)) (ho : μ.2.2.2 = none) (hQ : Q none h) : wp l μ sc d kc ks Q h pc lv [] := wp_ret (rv := none) hd (Or.inl ⟨ho, rfl, rfl⟩) hQ
theorem wp_iret {v : Int32} (hd : decode μ.2.1 pc = .ok (.ireturn, 1)) (ho : μ.2.2.2 = some .int) (hQ : Q (some (.int v)) h) : wp l μ sc d kc ks Q h pc lv [.int v] := wp_ret (rv := some (.int v)) hd (Or.inr (Or.inl ⟨v, ho, rfl, rfl⟩)) hQ
theorem wp_zret {v : Int32} (hd : decode μ.2.1 pc = .ok (.ireturn, 1)) (ho : μ.2.2.2 = some .boolean) (hv : v = 0 ∨ v = 1) (hQ : Q (some (.int v)) h) : wp l μ sc d kc ks Q h pc lv [.int v] := wp_ret (rv := some (.int v)) hd (Or.inr (Or.inr (Or.inl ⟨v, ho, rfl, rfl, hv⟩))) hQ
theorem wp_lret {v : Int64} (hd : decode μ.2.1 pc = .ok (.lreturn, 1)) (ho : μ.2.2.2 = some .long) (hQ : Q (some (.long v)) h) : wp l μ sc d kc ks Q h pc lv [.long v] := wp_ret (rv := some (.long v)) hd (Or.inr (Or.inr (Or.inr (Or.inl ⟨v, ho, rfl, rfl⟩)))) hQ
theorem wp_aret {v : Value} {t : FieldType} (hd : decode μ.2.1 pc = .ok (.areturn, 1)) (ho : μ.2.2.2 = some t) (ht : (∃ n, t = .object n) ∨ ∃ u, t = .array u) (hv : v = .null ∨ ∃ a, v = .ref a) (hQ : Q (some v) h) : wp l μ sc d kc ks Q h pc lv [v] := wp_ret (rv := some v) hd (Or.inr (Or.inr (Or.inr (Or.inr ⟨v, t, ho, ht, hv, rfl, rfl⟩)))) hQ
/-- the room left may be said larger than it is needed -/
theorem wp_room {kc' ks' : Nat} (h1 : kc' ≤ kc) (h2 : ks' ≤ ks) (k : wp l μ sc d kc' ks' Q h pc lv st) : wp l μ sc d kc ks Q h pc lv st :=
  fun D cT p e R s m args below meth c A Z C z H locs cells slots ls r1 r2 r3 r4 r5 r6 => k D cT p e R s m args below meth c A Z C z H locs cells slots ls r1 r2 r3 r4 (by omega) (by omega)
theorem wp_post {Q' : Option Value → aH → Prop} (f : ∀ rv h', Q' rv h' → Q rv h') (k : wp l μ sc d kc ks Q' h pc lv st) : wp l μ sc d kc ks Q h pc lv st :=
  fun D cT p e R s m args below meth c A Z C z H locs cells slots ls r1 r2 r3 r4 r5 r6 => k D cT p e R s m args below meth c A Z C (fun rv h' H' locs' cells' slots' pc' ls' ri hQ => z rv h' H' locs' cells' slots' pc' ls' ri (f rv h' hQ)) H locs cells slots ls r1 r2 r3 r4 r5 r6
end Rules
end
section
/-! RULES of the heap: fields, arrays, new ones, calls -/
def hset (h : aH) (a : Nat) (e : aE) : aH := (h.1, fun q => if q = a then some e else h.2 q)
def hnew (h : aH) (e : aE) : aH := (h.1 + 1, fun q => if q = h.1 then some e else h.2 q)
theorem hset_dom {h : aH} {a : Nat} {e e' : aE} {A : Nat → Prop} (ha : h.2 a = some e) (hd : ∀ q, h.2 q ≠ none → A q) : ∀ q, (hset h a e').2 q ≠ none → A q := by
  intro q hq
  by_cases e1 : q = a
  · subst e1
    exact hd q (by rw [ha]; simp)
  · exact hd q (by simpa [hset, e1] using hq)
theorem rp_at.kept {D : va_G} {cT : Nat → ClassId} {a : Nat} {e : aE} {H H1 : Heap} (h : rp_at D cT a e H) (hq : H1[a]? = H[a]?) : rp_at D cT a e H1 := by
  cases e with
  | inl x => exact hq.trans h
  | inr o =>
    obtain ⟨r, h1, h2⟩ := h
    exact ⟨r, h1, h2.kept hq⟩
theorem rp_at.lt {D : va_G} {cT : Nat → ClassId} {a : Nat} {e : aE} {H : Heap} (h : rp_at D cT a e H) : a < H.size := by
  cases e with
  | inl x => exact (Array.getElem?_eq_some_iff.mp h).1
  | inr o =>
    obtain ⟨r, h1, cell, h2, -⟩ := h
    exact (Array.getElem?_eq_some_iff.mp h2).1
theorem rp_set {D : va_G} {cT : Nat → ClassId} {h : aH} {H H' : Heap} {a : Nat} {e' : aE} (hr : rp D cT h H) (z : H'.size = H.size) (o : ∀ q : Nat, q ≠ a → H'[q]? = H[q]?) (hn : rp_at D cT a e' H') : rp D cT (hset h a e') H' := by
  refine ⟨z.trans hr.1, fun q e hq => ?_⟩
  by_cases e1 : q = a
  · subst e1
    simp [hset] at hq
    subst hq
    exact hn
  · have : h.2 q = some e := by simpa [hset, e1] using hq
    exact (hr.2 q e this).kept (o q e1)
theorem rp_push {D : va_G} {cT : Nat → ClassId} {h : aH} {H H' : Heap} {e' : aE} (hr : rp D cT h H) (z : H'.size = h.1 + 1) (o : ∀ q : Nat, q < h.1 → H'[q]? = H[q]?) (hn : rp_at D cT h.1 e' H') : rp D cT (hnew h e') H' := by
  refine ⟨z, fun q e hq => ?_⟩
  by_cases e1 : q = h.1
  · subst e1
    simp [hnew] at hq
    subst hq
    exact hn
  · have h2 : h.2 q = some e := by simpa [hnew, e1] using hq
    have h3 := hr.2 q e h2
    exact h3.kept (o q (by rw [← hr.1]; exact h3.lt))
/-- a class of the world: its names, fields, words -/
def clOK (ci : Nat) (C : String) (T : u_T) (N : Nat) (ty0 : Nat → FieldType) : Prop := vwCl[ci]? = some (C, T, N) ∧ (∀ w ∈ u_ws C T N, w ∈ gwl) ∧ (∀ k, k < N → parseFieldDescriptor (T k).2.2.1 = some (ty0 k)) ∧ ∀ a, a < N → ∀ b, b < N → a ≠ b → (T a).2.1 ≠ (T b).2.1
/-- a field that a class's constant pool names: field k of class ci, of a type; whether it is final -/
def fl (own : String) (idx ci k : Nat) (ty : FieldType) (fin : Bool) : Prop := ∃ (C : String) (T : u_T) (N : Nat) (ty0 : Nat → FieldType), clOK ci C T N ty0 ∧ k < N ∧ Cond.fieldLink own idx (T k).1 (T k).2.1 (T k).2.2.1 ∈ gwl ∧ ty0 k = ty ∧ (T k).2.2.2 = fin ∧ (T k).1 = C
section Heap
variable {l : Launch} {μ : Mu} {sc : rp_S} {d kc ks : Nat} {Q : Option Value → aH → Prop} {h : aH} {pc q : Nat} {lv : List (Option Value)} {st : List Value}
theorem wp_get {idx ci k a : Nat} {ty : FieldType} {fin : Bool} {F : Nat → Value} (hd : decode μ.2.1 pc = .ok (.getfield idx, 3)) (hf : fl μ.1.cls idx ci k ty fin) (ha : h.2 a = some (.inr (ci, F))) (hq : pc + 3 = q) (kk : wp l μ sc d kc ks Q h q lv (F k :: st)) : wp l μ sc d kc ks Q h pc lv (.ref a :: st) := by
  subst hq
  intro D cT p e R s m args below meth c A Z C z H locs cells slots ls r1 r2 r3 r4 r5 r6
  have kw := kk D cT p e R s m args below meth c A Z C z H locs cells slots ls r1 r2 r3 r4 r5 r6
  obtain ⟨CC, T, N, ty0, ⟨hc, hin, hty, hnm⟩, hk, hl, -, -, -⟩ := hf
  obtain ⟨hx, hb, -, -, hown, hts, -, -, hK, -⟩ := C
  obtain ⟨r, h1, cell, q1, q2, q3, q4⟩ := r1.2 a _ ha
  have hr : r = (CC, T, N) := Option.some.inj (h1.symm.trans hc)
  subst hr
  obtain ⟨hS, hfc, kC, hkC, hkind⟩ := hK.1.1 ci _ hc
  obtain ⟨cf, kf, fi, f, hi, hsl⟩ := hS k hk
  refine W.getf hx hb hown (hts _ hl) hi (u_facts hfc hkC (u_lays hts hin hk) hi).1 q1 (by rw [q3]; exact fun h => by cases h) (v := F k) ?_ rfl rfl hd kw
  rw [hsl, q4 k hk]
/-- an instruction that changes the cell at a -/
theorem wp_upd {a : Nat} {e e' : aE} {pc' : Nat} {st st' : List Value} (ha : h.2 a = some e)
    (f : ∀ (D : va_G) (cT : Nat → ClassId) (p : Program) (en : Env) (R : Room) (s : State) (m : MethodId) (args : Array Value) (below : List Frame) (meth : Method) (c : Code) (A : Nat → Prop) (Z : State → Prop) (H : Heap) (locs : List Loc) (cells slots : Nat) (ls : Array Slot), cx μ sc d D cT p R s m args meth c A → rp D cT h H → (∀ (H' : Heap) (k : Nat), H'.size = H.size → (∀ q : Nat, q ≠ a → H'[q]? = H[q]?) → rp_at D cT a e' H' → W p l en R s m args below meth c H' (locs ++ [⟨a, k⟩]) cells slots Z (F0 m pc' ls st')) → W p l en R s m args below meth c H locs cells slots Z (F0 m pc ls st))
    (kk : wp l μ sc d kc ks Q (hset h a e') pc' lv st') : wp l μ sc d kc ks Q h pc lv st := by
  intro D cT p en R s m args below meth c A Z C z H locs cells slots ls r1 r2 r3 r4 r5 r6
  refine f D cT p en R s m args below meth c A Z H locs cells slots ls C r1 (fun H' k z1 o1 n1 => ?_)
  exact kk D cT p en R s m args below meth c A Z C z H' _ cells slots ls (rp_set r1 z1 o1 n1) (r2.put z1 o1 (r3 a (by rw [ha]; simp))) (hset_dom ha r3) r4 r5 r6
theorem wp_put {idx ci k a : Nat} {ty : FieldType} {F : Nat → Value} {v : Value} (hd : decode μ.2.1 pc = .ok (.putfield idx, 3)) (hf : fl μ.1.cls idx ci k ty false) (ha : h.2 a = some (.inr (ci, F))) (hn : narrow ty v = v) (hfit : fits ty v = true) (hq : pc + 3 = q) (kk : wp l μ sc d kc ks Q (hset h a (.inr (ci, updV F k v))) q lv st) : wp l μ sc d kc ks Q h pc lv (v :: .ref a :: st) := by
  subst hq
  refine wp_upd ha (fun D cT p e R s m args below meth c A Z H locs cells slots ls C r1 w => ?_) kk
  obtain ⟨CC, T, N, ty0, ⟨hc, hin, hty, hnm⟩, hk, hl, rfl, hfin, -⟩ := hf
  obtain ⟨hx, hb, -, -, hown, hts, -, -, hK, -⟩ := C
  have hap := va_apart (own := μ.1.cls) hts hin ty0 hty hnm hK.1 hc
  obtain ⟨r, h1, cell, q1, q2, q3, q4⟩ := r1.2 a _ ha
  have hr : r = (CC, T, N) := Option.some.inj (h1.symm.trans hc)
  subst hr
  obtain ⟨hS, hfc, kC, hkC, hkind⟩ := hK.1.1 ci _ hc
  obtain ⟨cf, kf, fi, f, hi, hsl⟩ := hS k hk
  have hlay := hts _ (hin _ (u_in_lay hk))
  unfold u_lay at hlay
  rw [if_neg (by rw [hfin]; decide)] at hlay
  have hst := (u_facts hfc hkC (u_lays hts hin hk) hi).1
  have h6 := u_store hfc hkC hkind hlay hi (hty k hk) hn hfit
  refine W.putK hx hb (f := f) ⟨hown, hts _ hl, ⟨_, _, _, hi⟩, hst⟩ (by rw [q2]; exact h6) q1 q3 (by rw [hsl]; exact k2_hasslot (q4 k hk)) rfl rfl hd fun H' e1 e2 e3 => ?_
  rw [hsl] at e1
  exact w H' _ e2 e3 ⟨_, hc, ⟨_, e1, q2, q3, t_set q4 hap hk v⟩⟩
theorem wp_putF {idx ci k a : Nat} {ty : FieldType} {F : Nat → Value} {v : Value} (hd : decode μ.2.1 pc = .ok (.putfield idx, 3)) (hf : fl μ.1.cls idx ci k ty true) (hC : (vwCl[ci]?).map (fun q => q.1) = some μ.1.cls) (hnm0 : μ.1.name = "<init>") (ha : h.2 a = some (.inr (ci, F))) (hn : narrow ty v = v) (hfit : fits ty v = true) (hq : pc + 3 = q) (kk : wp l μ sc d kc ks Q (hset h a (.inr (ci, updV F k v))) q lv st) : wp l μ sc d kc ks Q h pc lv (v :: .ref a :: st) := by
  subst hq
  refine wp_upd ha (fun D cT p e R s m args below meth c A Z H locs cells slots ls C r1 w => ?_) kk
  obtain ⟨CC, T, N, ty0, ⟨hc, hin, hty, hnm⟩, hk, hl, rfl, hfin, hTC⟩ := hf
  obtain ⟨hx, hb, -, -, hown, hts, -, hname, hK, -⟩ := C
  have hCC : CC = μ.1.cls := by rw [hc] at hC; exact Option.some.inj hC
  have hap := va_apart (own := μ.1.cls) hts hin ty0 hty hnm hK.1 hc
  obtain ⟨r, h1, cell, q1, q2, q3, q4⟩ := r1.2 a _ ha
  have hr : r = (CC, T, N) := Option.some.inj (h1.symm.trans hc)
  subst hr
  obtain ⟨hS, hfc, kC, hkC, hkind⟩ := hK.1.1 ci _ hc
  obtain ⟨cf, kf, fi, f, hi, hsl⟩ := hS k hk
  have hlay := hts _ (hin _ (u_in_lay hk))
  unfold u_lay at hlay
  rw [if_pos hfin] at hlay
  have hst := (u_facts hfc hkC (u_lays hts hin hk) hi).1
  have hcf : m.cls = cf := by
    obtain ⟨_, _, c', _, _, _, -, -, hf', -, -, -, hown2, -⟩ := Cond.laysFinal_spec hlay
    have e1 : c' = cf := by have := hi.symm.trans hf'; simp at this; exact this.1.symm
    rw [hTC, hCC] at hown2
    rw [← e1]; exact Option.some.inj (hown.symm.trans hown2)
  have h6 := u_fits hfc hkC hkind (Or.inr hlay) hi (hty k hk) hn hfit
  refine W.putFinK hx hb hown (hts _ hl) hi hst hcf (hname.trans hnm0) (by rw [q2]; exact h6) q1 q3 (by rw [hsl]; exact k2_hasslot (q4 k hk)) rfl rfl hd fun H' e1 e2 e3 => ?_
  rw [hsl] at e1
  exact w H' _ e2 e3 ⟨_, hc, ⟨_, e1, q2, q3, t_set q4 hap hk v⟩⟩
/-! arrays: kinds 0 int, 1 long, 2 boolean, 3 int[], 4 long[], 5 .. 7 objects -/
theorem wp_iald {a n : Nat} {f : Nat → Int32} {i : Int32} (hd : decode μ.2.1 pc = .ok (.iaload, 1)) (ha : h.2 a = some (.inl (0, n, .inl f))) (hin : vp_in i n) (hq : pc + 1 = q) (kk : wp l μ sc d kc ks Q h q lv (.int (f i.toNatClampNeg) :: st)) : wp l μ sc d kc ks Q h pc lv (.int i :: .ref a :: st) := by
  subst hq
  intro D cT p e R s m args below meth c A Z C z H locs cells slots ls r1 r2 r3 r4 r5 r6
  have kw := kk D cT p e R s m args below meth c A Z C z H locs cells slots ls r1 r2 r3 r4 r5 r6
  have hlt : i.toNatClampNeg < n := Nat.not_le.mp fun q => hin (Or.inr q)
  exact W.iald (v := .int (f i.toNatClampNeg)) C.1 C.2.1 (r1.2 a _ ha) ((C.2.2.2.2.2.2.2.2.1.1.2 0 (cT 0, .int) rfl).1 n (fun j => .int (f j))) (fun q => by cases q) (by show ¬ (i < 0 ∨ (arrV _ _ _).slots.size ≤ _); rw [arrV_size]; exact hin) (by show (arrV _ _ _).slots[_]? = _; rw [arrV_read _ _ hlt]) rfl rfl hd kw
theorem wp_lald {a n : Nat} {f : Nat → Int64} {i : Int32} (hd : decode μ.2.1 pc = .ok (.laload, 1)) (ha : h.2 a = some (.inl (1, n, .inr (.inl f)))) (hin : vp_in i n) (hq : pc + 1 = q) (kk : wp l μ sc d kc ks Q h q lv (.long (f i.toNatClampNeg) :: st)) : wp l μ sc d kc ks Q h pc lv (.int i :: .ref a :: st) := by
  subst hq
  intro D cT p e R s m args below meth c A Z C z H locs cells slots ls r1 r2 r3 r4 r5 r6
  have kw := kk D cT p e R s m args below meth c A Z C z H locs cells slots ls r1 r2 r3 r4 r5 r6
  have hlt : i.toNatClampNeg < n := Nat.not_le.mp fun q => hin (Or.inr q)
  exact W.lald (v := .long (f i.toNatClampNeg)) C.1 C.2.1 (r1.2 a _ ha) ((C.2.2.2.2.2.2.2.2.1.1.2 1 (cT 1, .long) rfl).1 n (fun j => .long (f j))) (fun q => by cases q) (by show ¬ (i < 0 ∨ (arrV _ _ _).slots.size ≤ _); rw [arrV_size]; exact hin) (by show (arrV _ _ _).slots[_]? = _; rw [arrV_read _ _ hlt]) rfl rfl hd kw
theorem wp_zald {a n : Nat} {f : Nat → Int32} {i : Int32} (hd : decode μ.2.1 pc = .ok (.baload, 1)) (ha : h.2 a = some (.inl (2, n, .inl f))) (hin : vp_in i n) (hq : pc + 1 = q) (kk : wp l μ sc d kc ks Q h q lv (.int (f i.toNatClampNeg) :: st)) : wp l μ sc d kc ks Q h pc lv (.int i :: .ref a :: st) := by
  subst hq
  intro D cT p e R s m args below meth c A Z C z H locs cells slots ls r1 r2 r3 r4 r5 r6
  have kw := kk D cT p e R s m args below meth c A Z C z H locs cells slots ls r1 r2 r3 r4 r5 r6
  have hlt : i.toNatClampNeg < n := Nat.not_le.mp fun q => hin (Or.inr q)
  exact W.zald (v := .int (f i.toNatClampNeg)) C.1 C.2.1 (r1.2 a _ ha) ((C.2.2.2.2.2.2.2.2.1.1.2 2 (cT 2, .boolean) rfl).1 n (fun j => .int (f j))) (fun q => by cases q) (by show ¬ (i < 0 ∨ (arrV _ _ _).slots.size ≤ _); rw [arrV_size]; exact hin) (by show (arrV _ _ _).slots[_]? = _; rw [arrV_read _ _ hlt]) rfl rfl hd kw
theorem wp_aald {a n kd : Nat} {f : Nat → Option Nat} {i : Int32} (hd : decode μ.2.1 pc = .ok (.aaload, 1)) (ha : h.2 a = some (.inl (kd, n, .inr (.inr (.inr (.inr f)))))) (hk : kd = 3 ∨ kd = 4 ∨ kd = 5 ∨ kd = 6 ∨ kd = 7) (hin : vp_in i n) (hq : pc + 1 = q) (kk : wp l μ sc d kc ks Q h q lv (va_rf (f i.toNatClampNeg) :: st)) : wp l μ sc d kc ks Q h pc lv (.int i :: .ref a :: st) := by
  subst hq
  intro D cT p e R s m args below meth c A Z C z H locs cells slots ls r1 r2 r3 r4 r5 r6
  have kw := kk D cT p e R s m args below meth c A Z C z H locs cells slots ls r1 r2 r3 r4 r5 r6
  have hlt : i.toNatClampNeg < n := Nat.not_le.mp fun q => hin (Or.inr q)
  have hr : ∃ ty : FieldType, ty.isReference = true ∧ (rp_T cT)[kd]? = some (cT kd, ty) := by
    rcases hk with rfl | rfl | rfl | rfl | rfl <;> exact ⟨_, rfl, rfl⟩
  obtain ⟨ty, ht, hT⟩ := hr
  exact W.aald (v := va_rf (f i.toNatClampNeg)) (ty := ty) C.1 C.2.1 (r1.2 a _ ha) ((C.2.2.2.2.2.2.2.2.1.1.2 kd (cT kd, ty) hT).1 n (fun j => va_rf (f j))) ht (fun q => by cases q) (by show ¬ (i < 0 ∨ (arrV _ _ _).slots.size ≤ _); rw [arrV_size]; exact hin) (by show (arrV _ _ _).slots[_]? = _; rw [arrV_read _ _ hlt]) rfl rfl hd kw
theorem wp_iast {a n : Nat} {f : Nat → Int32} {i x : Int32} (hd : decode μ.2.1 pc = .ok (.iastore, 1)) (ha : h.2 a = some (.inl (0, n, .inl f))) (hin : vp_in i n) (hq : pc + 1 = q) (kk : wp l μ sc d kc ks Q (hset h a (.inl (0, n, .inl (upd f i.toNatClampNeg x)))) q lv st) : wp l μ sc d kc ks Q h pc lv (.int x :: .int i :: .ref a :: st) := by
  subst hq
  refine wp_upd ha (fun D cT p e R s m args below meth c A Z H locs cells slots ls C r1 w => ?_) kk
  refine W.iast C.1 C.2.1 (r1.2 a _ ha) ((C.2.2.2.2.2.2.2.2.1.1.2 0 (cT 0, .int) rfl).1 n (fun j => .int (f j))) (fun q => by cases q) (by show ¬ (i < 0 ∨ (arrV _ _ _).slots.size ≤ _); rw [arrV_size]; exact hin) rfl rfl hd fun H1 e1 z1 o1 => ?_
  refine w H1 _ z1 o1 ?_
  show H1[a]? = some (vp_cell _ _)
  rw [e1]
  rw [vp_cell_i, vp_cell_i, arrV_store]
  congr 2
  funext y
  by_cases hy : y = i.toNatClampNeg
  · subst hy
    simp [updV, upd]
  · simp [updV, upd, hy]
theorem wp_last {a n : Nat} {f : Nat → Int64} {i : Int32} {x : Int64} (hd : decode μ.2.1 pc = .ok (.lastore, 1)) (ha : h.2 a = some (.inl (1, n, .inr (.inl f)))) (hin : vp_in i n) (hq : pc + 1 = q) (kk : wp l μ sc d kc ks Q (hset h a (.inl (1, n, .inr (.inl (vp_updL f i.toNatClampNeg x))))) q lv st) : wp l μ sc d kc ks Q h pc lv (.long x :: .int i :: .ref a :: st) := by
  subst hq
  refine wp_upd ha (fun D cT p e R s m args below meth c A Z H locs cells slots ls C r1 w => ?_) kk
  refine W.last C.1 C.2.1 (r1.2 a _ ha) ((C.2.2.2.2.2.2.2.2.1.1.2 1 (cT 1, .long) rfl).1 n (fun j => .long (f j))) (fun q => by cases q) (by show ¬ (i < 0 ∨ (arrV _ _ _).slots.size ≤ _); rw [arrV_size]; exact hin) rfl rfl hd fun H1 e1 z1 o1 => ?_
  refine w H1 _ z1 o1 ?_
  show H1[a]? = some (vp_cell _ _)
  rw [e1]
  rw [vp_cell_l, vp_cell_l, arrV_store]
  congr 2
  funext y
  by_cases hy : y = i.toNatClampNeg
  · subst hy
    simp [updV, vp_updL]
  · simp [updV, vp_updL, hy]
theorem wp_zast {a n : Nat} {f : Nat → Int32} {i x : Int32} (hd : decode μ.2.1 pc = .ok (.bastore, 1)) (ha : h.2 a = some (.inl (2, n, .inl f))) (hin : vp_in i n) (hx : x = 0 ∨ x = 1) (hq : pc + 1 = q) (kk : wp l μ sc d kc ks Q (hset h a (.inl (2, n, .inl (upd f i.toNatClampNeg x)))) q lv st) : wp l μ sc d kc ks Q h pc lv (.int x :: .int i :: .ref a :: st) := by
  subst hq
  refine wp_upd ha (fun D cT p e R s m args below meth c A Z H locs cells slots ls C r1 w => ?_) kk
  refine W.zast C.1 C.2.1 (r1.2 a _ ha) ((C.2.2.2.2.2.2.2.2.1.1.2 2 (cT 2, .boolean) rfl).1 n (fun j => .int (f j))) (fun q => by cases q) (by show ¬ (i < 0 ∨ (arrV _ _ _).slots.size ≤ _); rw [arrV_size]; exact hin) rfl rfl hd fun H1 e1 z1 o1 => ?_
  refine w H1 _ z1 o1 ?_
  show H1[a]? = some (vp_cell _ _)
  have hnr : narrow .boolean (.int x) = .int x := by rcases hx with rfl | rfl <;> decide
  rw [e1, hnr]
  rw [vp_cell_i, vp_cell_i, arrV_store]
  congr 2
  funext y
  by_cases hy : y = i.toNatClampNeg
  · subst hy
    simp [updV, upd]
  · simp [updV, upd, hy]
/-- an array's length -/
theorem wp_alen {a kd : Nat} {x : vp_A} {v : Int32} (hd : decode μ.2.1 pc = .ok (.arraylength, 1)) (ha : h.2 a = some (.inl (kd, x))) (hk : kd < 8) (hv : Int32.ofNat x.1 = v) (hq : pc + 1 = q) (kk : wp l μ sc d kc ks Q h q lv (.int v :: st)) : wp l μ sc d kc ks Q h pc lv (.ref a :: st) := by
  subst hq
  subst hv
  intro D cT p e R s m args below meth c A Z C z H locs cells slots ls r1 r2 r3 r4 r5 r6
  have kw := kk D cT p e R s m args below meth c A Z C z H locs cells slots ls r1 r2 r3 r4 r5 r6
  have hr : ∃ ty : FieldType, (rp_T cT)[kd]? = some (cT kd, ty) := by
    rcases (show kd = 0 ∨ kd = 1 ∨ kd = 2 ∨ kd = 3 ∨ kd = 4 ∨ kd = 5 ∨ kd = 6 ∨ kd = 7 by omega) with rfl | rfl | rfl | rfl | rfl | rfl | rfl | rfl <;> exact ⟨_, rfl⟩
  obtain ⟨ty, hT⟩ := hr
  have hP : va_P D vwCl [(a, .inl (cT kd, x))] H := fun k9 x9 h9 => by
    have h0 : k9 < 1 := (List.getElem?_eq_some_iff.mp h9).1
    rw [show k9 = 0 by omega] at h9
    cases h9
    exact r1.2 a _ ha
  exact va_alen C.1 C.2.1 C.2.2.2.2.2.2.2.2.1.1 hP 0 kd rfl hT rfl hd kw
/-- the law's script -/
theorem wp_sld {b L : Nat} {xs : Nat → Int32} {i : Int32} (hd : decode μ.2.1 pc = .ok (.iaload, 1)) (hb : (b, L, xs) ∈ sc) (hin : vp_in i L) (hq : pc + 1 = q) (kk : wp l μ sc d kc ks Q h q lv (.int (xs i.toNatClampNeg) :: st)) : wp l μ sc d kc ks Q h pc lv (.int i :: .ref b :: st) := by
  subst hq
  intro D cT p e R s m args below meth c A Z C z H locs cells slots ls r1 r2 r3 r4 r5 r6
  obtain ⟨hX, hbl, hbA⟩ := C.2.2.2.2.2.2.2.2.2.2.2.2 _ hb
  exact va_sld C.1 C.2.1 hX hbl hbA r2 hin hd (kk D cT p e R s m args below meth c A Z C z H locs cells slots ls r1 r2 r3 r4 r5 r6)
theorem wp_slen {b L : Nat} {xs : Nat → Int32} (hd : decode μ.2.1 pc = .ok (.arraylength, 1)) (hb : (b, L, xs) ∈ sc) (hq : pc + 1 = q) (kk : wp l μ sc d kc ks Q h q lv (.int (Int32.ofNat L) :: st)) : wp l μ sc d kc ks Q h pc lv (.ref b :: st) := by
  subst hq
  intro D cT p e R s m args below meth c A Z C z H locs cells slots ls r1 r2 r3 r4 r5 r6
  obtain ⟨hX, hbl, hbA⟩ := C.2.2.2.2.2.2.2.2.2.2.2.2 _ hb
  exact va_slen C.1 C.2.1 hX hbl hbA r2 hd (kk D cT p e R s m args below meth c A Z C z H locs cells slots ls r1 r2 r3 r4 r5 r6)
end Heap
end
section
theorem vr_outer (c : ClassId) (N h0 : Nat) : ∀ i : Nat, Jvm.Free.Multi.outerC c N h0 i = arrV c N (fun j => va_rf (if j < i then some (h0 + 1 + j) else none))
  | 0 => by
    show ({ cls := c, slots := Array.replicate N .null, vm := .none } : Cell) = _
    rw [arrV_new]
    refine congrArg (arrV c N) (funext fun j => ?_)
    simp [va_rf]
  | i + 1 => by
    show (Jvm.Free.Multi.outerC c N h0 i).setSlot i (.ref (h0 + 1 + i)) = _
    rw [vr_outer c N h0 i, arrV_store]
    refine congrArg (arrV c N) (funext fun j => ?_)
    by_cases e : j = i
    · subst e
      simp [updV, va_rf]
    · by_cases h : j < i
      · simp [updV, e, h, Nat.lt_succ_of_lt h]
      · simp [updV, e, h, show ¬ j < i + 1 by omega]
/-! RULES of new cells and of calls -/
theorem gwl_good {w : Cond} (h : w ∈ gwl) : (w.onTables && w.keeps) = true ∨ ∃ ty, w = .arrayClass ty := good_of_word (List.mem_filter.mp h).2
/-- outer array at the end of the heap, the inner ones behind it -/
def hmul (h : aH) (kd ki N : Nat) (z : vp_A) : aH := (h.1 + 1 + N, fun q => if q = h.1 then some (.inl (kd, N, .inr (.inr (.inr (.inr (fun i => if i < N then some (h.1 + 1 + i) else none)))))) else if h.1 < q ∧ q ≤ h.1 + N then some (.inl (ki, z)) else h.2 q)
theorem rp_old {D : va_G} {cT : Nat → ClassId} {h : aH} {H : Heap} (r : rp D cT h H) {q : Nat} {e : aE} (hq : h.2 q = some e) : q < h.1 := by
  rw [← r.1]
  exact (r.2 q e hq).lt
section Calls
variable {l : Launch} {μ : Mu} {sc : rp_S} {d kc ks : Nat} {Q : Option Value → aH → Prop} {h : aH} {pc q : Nat} {lv : List (Option Value)} {st : List Value}
theorem wp_new {idx ci N : Nat} {C : String} {T : u_T} {ty0 : Nat → FieldType} (hd : decode μ.2.1 pc = .ok (.new idx, 3)) (hc : clOK ci C T N ty0) (hl : Cond.classLink μ.1.cls idx C ∈ gwl) (hi : Cond.instantiable C N ∈ gwl) (hz : Cond.initialized C ∈ gwl) (hkc : 1 ≤ kc) (hks : N ≤ ks) (hq : pc + 3 = q) (kk : wp l μ sc d (kc - 1) (ks - N) Q (hnew h (.inr (ci, fun k => defaultValue (ty0 k)))) q lv (.ref h.1 :: st)) : wp l μ sc d kc ks Q h pc lv st := by
  subst hq
  intro D cT p e R s m args below meth c A Z C0 z H locs cells slots ls r1 r2 r3 r4 r5 r6
  obtain ⟨hcl, hin, hty, hnm⟩ := hc
  have hts := C0.2.2.2.2.2.1
  have hKn := C0.2.2.2.2.2.2.2.2.1.1.1 ci _ hcl
  have hA := C0.2.2.2.2.2.2.2.2.2.1
  refine W.newcK C0.1 C0.2.1 C0.2.2.2.2.1 (hts _ hl) (hts _ hi) (hts _ hz) rfl hd (by omega) (by omega) hKn.2.1 r1.1 fun H1 kC hkC e1 z1 o1 => ?_
  refine kk D cT p e R s m args below meth c A Z C0 z H1 locs (cells + 1) (slots + N) ls (rp_push r1 z1 o1 ⟨_, hcl, u_born ty0 hts hin hKn hkC e1 hty⟩) ⟨Nat.le_trans r2.1 (by rw [z1, r1.1]; omega), fun x h1 h2 => (o1 x (by rw [← r1.1]; exact Nat.lt_of_lt_of_le h1 r2.1)).trans (r2.2.1 x h1 h2), r2.2.2⟩ (fun x hx => ?_) r4 (by omega) (by omega)
  by_cases e2 : x = h.1
  · exact hA x (by rw [e2, ← r1.1]; exact r2.1)
  · exact r3 x (by simpa [hnew, e2] using hx)
theorem wp_newa {atype : ArrayType} {kd N : Nat} {n : Int32} {a0 : vp_A} (hd : decode μ.2.1 pc = .ok (.newarray atype, 2)) (hw : Cond.arrayClass (newarray.typeOf atype) ∈ gwl) (hkd : (kd, newarray.typeOf atype) ∈ [(0, FieldType.int), (1, .long), (2, .boolean)]) (ha : ∀ cA : ClassId, vp_cell cA a0 = arrV cA N (fun _ => defaultValue (newarray.typeOf atype))) (hn : ¬ n < 0) (hN : n.toNatClampNeg = N) (hb : N ≤ 60000000) (hkc : 1 ≤ kc) (hks : N ≤ ks) (hq : pc + 2 = q) (kk : wp l μ sc d (kc - 1) (ks - N) Q (hnew h (.inl (kd, a0))) q lv (.ref h.1 :: st)) : wp l μ sc d kc ks Q h pc lv (.int n :: st) := by
  subst hq
  intro D cT p e R s m args below meth c A Z C0 z H locs cells slots ls r1 r2 r3 r4 r5 r6
  have hts := C0.2.2.2.2.2.1
  have hK := C0.2.2.2.2.2.2.2.2.1.1.2
  have hA := C0.2.2.2.2.2.2.2.2.2.1
  have hby : N * componentBytes (newarray.typeOf atype) ≤ 536870912 := by
    have : componentBytes (newarray.typeOf atype) ≤ 8 := by cases atype <;> decide
    have h2 := Nat.mul_le_mul_left N this
    omega
  refine va_newaK C0.1 C0.2.1 (hts _ hw) rfl hd rfl hn hN hby (by omega) (by omega) r1.1 fun H1 cA e1 z1 o1 hAr hNm => ?_
  have hcA : cA = cT kd := by
    simp only [List.mem_cons, Prod.mk.injEq, List.not_mem_nil, or_false] at hkd
    rcases hkd with ⟨rfl, e3⟩ | ⟨rfl, e3⟩ | ⟨rfl, e3⟩
    · rw [e3] at hNm; exact Option.some.inj (hNm.symm.trans (hK 0 (cT 0, .int) rfl).2)
    · rw [e3] at hNm; exact Option.some.inj (hNm.symm.trans (hK 1 (cT 1, .long) rfl).2)
    · rw [e3] at hNm; exact Option.some.inj (hNm.symm.trans (hK 2 (cT 2, .boolean) rfl).2)
  subst hcA
  refine kk D cT p e R s m args below meth c A Z C0 z H1 locs (cells + 1) (slots + N) ls (rp_push r1 z1 o1 (by show H1[h.1]? = some (vp_cell _ _); rw [ha]; exact e1)) ⟨Nat.le_trans r2.1 (by rw [z1, r1.1]; omega), fun x h1 h2 => (o1 x (by rw [← r1.1]; exact Nat.lt_of_lt_of_le h1 r2.1)).trans (r2.2.1 x h1 h2), r2.2.2⟩ (fun x hx => ?_) r4 (by omega) (by omega)
  by_cases e2 : x = h.1
  · exact hA x (by rw [e2, ← r1.1]; exact r2.1)
  · exact r3 x (by simpa [hnew, e2] using hx)
theorem wp_newI {N : Nat} {n : Int32} (hd : decode μ.2.1 pc = .ok (.newarray .int, 2)) (hw : Cond.arrayClass .int ∈ gwl) (hn : ¬ n < 0) (hN : n.toNatClampNeg = N) (hb : N ≤ 60000000) (hkc : 1 ≤ kc) (hks : N ≤ ks) (hq : pc + 2 = q) (kk : wp l μ sc d (kc - 1) (ks - N) Q (hnew h (.inl (0, N, .inl (fun _ => 0)))) q lv (.ref h.1 :: st)) : wp l μ sc d kc ks Q h pc lv (.int n :: st) := wp_newa hd hw (by simp [newarray.typeOf]) (fun _ => rfl) hn hN hb hkc hks hq kk
theorem wp_newJ {N : Nat} {n : Int32} (hd : decode μ.2.1 pc = .ok (.newarray .long, 2)) (hw : Cond.arrayClass .long ∈ gwl) (hn : ¬ n < 0) (hN : n.toNatClampNeg = N) (hb : N ≤ 60000000) (hkc : 1 ≤ kc) (hks : N ≤ ks) (hq : pc + 2 = q) (kk : wp l μ sc d (kc - 1) (ks - N) Q (hnew h (.inl (1, N, .inr (.inl (fun _ => 0))))) q lv (.ref h.1 :: st)) : wp l μ sc d kc ks Q h pc lv (.int n :: st) := wp_newa hd hw (by simp [newarray.typeOf]) (fun _ => rfl) hn hN hb hkc hks hq kk
theorem wp_newZ {N : Nat} {n : Int32} (hd : decode μ.2.1 pc = .ok (.newarray .boolean, 2)) (hw : Cond.arrayClass .boolean ∈ gwl) (hn : ¬ n < 0) (hN : n.toNatClampNeg = N) (hb : N ≤ 60000000) (hkc : 1 ≤ kc) (hks : N ≤ ks) (hq : pc + 2 = q) (kk : wp l μ sc d (kc - 1) (ks - N) Q (hnew h (.inl (2, N, .inl (fun _ => 0)))) q lv (.ref h.1 :: st)) : wp l μ sc d kc ks Q h pc lv (.int n :: st) := wp_newa hd hw (by simp [newarray.typeOf]) (fun _ => rfl) hn hN hb hkc hks hq kk
theorem wp_newq {idx kd N : Nat} {C : String} {n : Int32} (hd : decode μ.2.1 pc = .ok (.anewarray idx, 3)) (hl : Cond.classLink μ.1.cls idx C ∈ gwl) (ho : Cond.arrayOver (.object C) ∈ lw_tbl) (hkd : (kd, C) ∈ [(5, "RunLaws$Point"), (6, "RunLaws$Facts"), (7, "RunLaws$Act")]) (hn : ¬ n < 0) (hN : n.toNatClampNeg = N) (hb : N ≤ 60000000) (hkc : 1 ≤ kc) (hks : N ≤ ks) (hq : pc + 3 = q) (kk : wp l μ sc d (kc - 1) (ks - N) Q (hnew h (.inl (kd, N, .inr (.inr (.inr (.inr (fun _ => none))))))) q lv (.ref h.1 :: st)) : wp l μ sc d kc ks Q h pc lv (.int n :: st) := by
  subst hq
  subst hN
  intro D cT p e R s m args below meth c A Z C0 z H locs cells slots ls r1 r2 r3 r4 r5 r6
  have hts := C0.2.2.2.2.2.1
  have hK := C0.2.2.2.2.2.2.2.2.1.1.2
  have hA := C0.2.2.2.2.2.2.2.2.2.1
  refine W.anew C0.1 C0.2.1 C0.2.2.2.2.1 (hts _ hl) (va_AO.use (C0.2.2.2.2.2.2.2.2.1.2.2.1 _ ho)) rfl hd rfl hn (by omega) (by omega) (by omega) fun cA kA comp f1 f2 f3 f4 => ?_
  have hcA : cA = cT kd := by
    simp only [List.mem_cons, Prod.mk.injEq, List.not_mem_nil, or_false] at hkd
    rcases hkd with ⟨rfl, rfl⟩ | ⟨rfl, rfl⟩ | ⟨rfl, rfl⟩
    · obtain ⟨_, _, _, _, _, g⟩ := (hK 5 (cT 5, .object "RunLaws$Point") rfl).2; exact Option.some.inj (f1.symm.trans g)
    · obtain ⟨_, _, _, _, _, g⟩ := (hK 6 (cT 6, .object "RunLaws$Facts") rfl).2; exact Option.some.inj (f1.symm.trans g)
    · obtain ⟨_, _, _, _, _, g⟩ := (hK 7 (cT 7, .object "RunLaws$Act") rfl).2; exact Option.some.inj (f1.symm.trans g)
  subst hcA
  have z1 : (H.push ({ cls := cT kd, slots := Array.replicate n.toNatClampNeg .null, vm := .none } : Cell)).size = h.1 + 1 := by rw [Array.size_push, r1.1]
  have o1 : ∀ q : Nat, q < h.1 → (H.push ({ cls := cT kd, slots := Array.replicate n.toNatClampNeg .null, vm := .none } : Cell))[q]? = H[q]? := fun q hq => by rw [Array.getElem?_push, if_neg (Nat.ne_of_lt (by rw [r1.1]; exact hq))]
  have kw := kk D cT p e R s m args below meth c A Z C0 z _ locs (cells + 1) (slots + n.toNatClampNeg) ls (rp_push r1 z1 o1 (by show _ = some (vp_cell _ _); rw [← r1.1, Array.getElem?_push_size, vp_cell_q, arrV_new]; rfl)) ⟨Nat.le_trans r2.1 (by rw [z1, r1.1]; omega), fun x h1 h2 => (o1 x (by rw [← r1.1]; exact Nat.lt_of_lt_of_le h1 r2.1)).trans (r2.2.1 x h1 h2), r2.2.2⟩ (fun x hx => ?_) r4 (by omega) (by omega)
  · rw [← r1.1] at kw
    exact kw
  · by_cases e2 : x = h.1
    · exact hA x (by rw [e2, ← r1.1]; exact r2.1)
    · exact r3 x (by simpa [hnew, e2] using hx)
theorem wp_mul {idx kd ki N M : Nat} {ty : FieldType} {n k : Int32} {z0 : vp_A} (hd : decode μ.2.1 pc = .ok (.multianewarray idx 2, 4)) (hl : Cond.classLink μ.1.cls idx ("[" ++ (FieldType.array ty).toString) ∈ gwl) (ho : Cond.arrayOver (.array ty) ∈ lw_tbl) (hw : Cond.arrayClass ty ∈ gwl) (hkd : (kd, ki, ty) ∈ [(3, 0, FieldType.int), (4, 1, .long)]) (hz0 : ∀ c : ClassId, Jvm.Free.Multi.innerC c M (defaultValue ty) = vp_cell c z0) (hn : ¬ n < 0) (hk : ¬ k < 0) (hN : n.toNatClampNeg = N) (hM : k.toNatClampNeg = M) (hb : N ≤ 60000000) (hb2 : M ≤ 60000000) (hkc : 1 + N ≤ kc) (hks : N + N * M ≤ ks) (hq : pc + 4 = q) (kk : wp l μ sc d (kc - (1 + N)) (ks - (N + N * M)) Q (hmul h kd ki N z0) q lv (.ref h.1 :: st)) : wp l μ sc d kc ks Q h pc lv (.int k :: .int n :: st) := by
  subst hq
  subst hN
  subst hM
  intro D cT p e R s m args below meth c A Z C0 z H locs cells slots ls r1 r2 r3 r4 r5 r6
  have hts := C0.2.2.2.2.2.1
  have hK := C0.2.2.2.2.2.2.2.2.1.1.2
  have hA := C0.2.2.2.2.2.2.2.2.2.1
  have hby : k.toNatClampNeg * componentBytes ty ≤ 536870912 := by
    simp only [List.mem_cons, Prod.mk.injEq, List.not_mem_nil, or_false] at hkd
    rcases hkd with ⟨-, -, rfl⟩ | ⟨-, -, rfl⟩ <;> simp only [componentBytes] <;> omega
  have hdf : fits ty (defaultValue ty) = true ∧ (defaultValue ty).isDefault = true := by
    simp only [List.mem_cons, Prod.mk.injEq, List.not_mem_nil, or_false] at hkd
    rcases hkd with ⟨-, -, rfl⟩ | ⟨-, -, rfl⟩ <;> exact ⟨rfl, rfl⟩
  intro T hT Xs
  obtain ⟨vm₁, cA, comp, -, fA, fC, hO, -, X', step⟩ := Xs.multianewarray2F C0.1 C0.2.2.2.2.1 (hts _ hl) (Jvm.Stand.arrayOver_alikeB (s := s) (U := s) (Vm.Alike.refl s.vm) (C0.2.2.2.2.2.2.2.2.1.2.2.2 _ ho)) (hts _ hw) (g := F0 m pc ls (.int k :: .int n :: st)) rfl (by rw [C0.2.1]; exact hd) rfl hn hk (by omega) hby (by omega) hdf.1 hdf.2 (by omega) (by omega)
  have hc : cA = cT kd ∧ comp = cT ki := by
    simp only [List.mem_cons, Prod.mk.injEq, List.not_mem_nil, or_false] at hkd
    rcases hkd with ⟨rfl, rfl, rfl⟩ | ⟨rfl, rfl, rfl⟩
    · exact ⟨Option.some.inj (fA.symm.trans (hK 3 (cT 3, .array .int) rfl).2), Option.some.inj (fC.symm.trans (hK 0 (cT 0, .int) rfl).2)⟩
    · exact ⟨Option.some.inj (fA.symm.trans (hK 4 (cT 4, .array .long) rfl).2), Option.some.inj (fC.symm.trans (hK 1 (cT 1, .long) rfl).2)⟩
  obtain ⟨rfl, rfl⟩ := hc
  generalize hF : Jvm.Free.Multi.fill (T.setVm vm₁) (cT kd) (cT ki) n.toNatClampNeg k.toNatClampNeg (defaultValue ty) n.toNatClampNeg = F at X' step
  have hTh : (T.setVm vm₁).heap = H := hT
  have hsz : H.size = h.1 := r1.1
  obtain ⟨f1, f2, -, -⟩ := Jvm.Free.Multi.fill_facts (T.setVm vm₁) (cT kd) (cT ki) n.toNatClampNeg k.toNatClampNeg (defaultValue ty) n.toNatClampNeg
  rw [hF, hTh] at f1 f2
  have hold : ∀ x : Nat, x < H.size → F.heap[x]? = H[x]? := fun x hx => by
    have := Jvm.Free.Multi.fill_old (T.setVm vm₁) (cT kd) (cT ki) n.toNatClampNeg k.toNatClampNeg (defaultValue ty) (a := x) (by rw [hTh]; exact hx) n.toNatClampNeg
    rw [hF, hTh] at this
    exact this
  have hrow : ∀ j : Nat, j < n.toNatClampNeg → F.heap[H.size + 1 + j]? = some (vp_cell (cT ki) z0) := fun j hj => by
    have := Jvm.Free.Multi.fill_inner (T.setVm vm₁) (cT kd) (cT ki) n.toNatClampNeg k.toNatClampNeg (defaultValue ty) n.toNatClampNeg j hj
    rw [hF, hTh, hz0] at this
    exact this
  have hout : Jvm.Free.Multi.outerC (cT kd) n.toNatClampNeg H.size n.toNatClampNeg = vp_cell (cT kd) (n.toNatClampNeg, .inr (.inr (.inr (.inr (fun i => if i < n.toNatClampNeg then some (H.size + 1 + i) else none))))) := by
    rw [vp_cell_q]
    exact vr_outer (cT kd) n.toNatClampNeg H.size n.toNatClampNeg
  rw [hout] at f2
  have hrp : rp D cT (hmul h kd ki n.toNatClampNeg z0) F.heap := by
    refine ⟨by rw [f1, hsz]; rfl, fun x ex hx => ?_⟩
    by_cases e1 : x = h.1
    · subst e1
      simp [hmul] at hx
      subst hx
      show F.heap[h.1]? = some (vp_cell _ _)
      rw [← hsz]
      exact f2
    · by_cases e2 : h.1 < x ∧ x ≤ h.1 + n.toNatClampNeg
      · have : ex = .inl (ki, z0) := by simp [hmul, e1, e2] at hx; exact hx.symm
        subst this
        show F.heap[x]? = some (vp_cell _ _)
        have := hrow (x - (h.1 + 1)) (by omega)
        rw [hsz, show h.1 + 1 + (x - (h.1 + 1)) = x by omega] at this
        exact this
      · have h2 : h.2 x = some ex := by simpa [hmul, e1, e2] using hx
        have h3 := r1.2 x ex h2
        exact h3.kept (hold x h3.lt)
  have kw := kk D cT p e R s m args below meth c A Z C0 z F.heap locs (cells + 1 + n.toNatClampNeg) (slots + n.toNatClampNeg + n.toNatClampNeg * k.toNatClampNeg) ls hrp ⟨by rw [f1]; have := r2.1; omega, fun x h1 h2 => (hold x (Nat.lt_of_lt_of_le h1 r2.1)).trans (r2.2.1 x h1 h2), r2.2.2⟩ (fun x hx => by
    by_cases e1 : x = h.1
    · exact hA x (by rw [e1, ← hsz]; exact r2.1)
    · by_cases e2 : h.1 < x ∧ x ≤ h.1 + n.toNatClampNeg
      · exact hA x (by have := r2.1; omega)
      · exact r3 x (by simpa [hmul, e1, e2] using hx)) r4 (by omega) (by omega)
  obtain ⟨t, a1, b1⟩ := kw F rfl X'
  refine ⟨t, step t ?_, b1⟩
  have e : T.heap.size = h.1 := by rw [hT]; exact hsz
  rw [e]
  exact a1
theorem wp_callR {d' kc' ks' : Nat} {av : List Value} {Q' : Option Value → aH → Prop} {rest : List Value} (hkc : kc' ≤ kc) (hks : ks' ≤ ks)
    (f : ∀ (D : va_G) (cT : Nat → ClassId) (p : Program) (e : Env) (R : Room) (s : State) (m : MethodId) (args : Array Value) (below : List Frame) (meth : Method) (c : Code) (A : Nat → Prop) (H : Heap) (locs : List Loc) (cells slots : Nat) (ls : Array Slot), cx μ sc d D cT p R s m args meth c A → rp D cT h H → lw_L ls μ.2.2.1 lv → cells + kc' ≤ R.cells → slots + ks' ≤ R.slots → va_Run p l e R s m args below meth c H locs cells slots kc' ks' (F0 m pc ls st) rest (rp_Q D cT Q' (rp_A h) av.toArray) (rp_A h))
    (kk : ∀ (rv : Option Value) (h' : aH), Q' rv h' → wp l μ sc d (kc - kc') (ks - ks') Q h' (pc + 3) lv (rv.toList ++ rest)) : wp l μ sc d kc ks Q h pc lv st := by
  intro D cT p e R s m args below meth c A Z C z H locs cells slots ls r1 r2 r3 r4 r5 r6
  intro T hT X
  obtain ⟨v, st₀, t, T', L, h0, X', hL, e1, e2, ⟨⟨rv, h', hv, hQ, hr', hdom⟩, hz, hk⟩, go⟩ := f D cT p e R s m args below meth c A H locs cells slots ls C r1 r4 (by omega) (by omega) T hT X
  cases hv
  rw [h0] at hz hk
  have hA1 : ∀ x, rp_A h x → A x := fun x hx => by
    rcases hx with hx | hx
    · exact r3 x hx
    · exact C.2.2.2.2.2.2.2.2.2.1 x (Nat.le_trans r2.1 (by rw [r1.1]; exact hx))
  obtain ⟨t2, a1, b1⟩ := kk v h' hQ D cT p e R s m args below meth c A Z C z T'.heap (locs ++ L) (cells + kc') (slots + ks') ls (by rw [e1]; exact hr') ⟨Nat.le_trans r2.1 (by rw [e1]; exact hz), fun x h1 h2 => by rw [e1, hk x (Nat.lt_of_lt_of_le h1 r2.1) (fun q => h2 (hA1 x q))]; exact r2.2.1 x h1 h2, fun x hx => by
      rcases List.mem_append.mp hx with g | g
      · exact r2.2.2 x g
      · exact hA1 _ (hL x g)⟩ (fun x hx => hA1 x (hdom x hx)) r4 (by omega) (by omega) T' rfl X'
  exact ⟨t2, go t2 a1, b1⟩
/-- what the tables say of a method that is called -/
def mOK (μ : Mu) (n : Nat) : Prop := Cond.code μ.1 μ.2.1 μ.2.2.1 μ.2.2.2 ∈ gwl ∧ Cond.initialized μ.1.cls ∈ gwl ∧ (μ.1.cls ≠ "java/lang/invoke/MethodHandle" ∧ μ.1.cls ≠ "java/lang/invoke/VarHandle") ∧ (parseMethodDescriptor μ.1.desc).map (fun q => q.parameters.length) = some n ∧ μ.2.2.1 ≤ 21
theorem mOK.len {μ : Mu} {n : Nat} (h : mOK μ n) : ∀ sig, parseMethodDescriptor μ.1.desc = some sig → n = sig.parameters.length := fun sig hs => by
  have h2 := h.2.2.2.1
  rw [hs] at h2
  exact (Option.some.inj h2).symm
theorem mOK.words {μ : Mu} {n : Nat} (h : mOK μ n) {s : State} {args : Array Value} (hts : ∀ w ∈ gwl, w.before args s = true) : ∀ w ∈ rp_ws μ, ∀ (a' : Array Value) (U : State), s.WarmedH U.vm → w.before a' U = true := by
  intro w hw a' U hW
  have hg : w ∈ gwl := by
    rcases List.mem_cons.mp hw with rfl | hw
    · exact h.1
    · exact hw
  exact word_at hW (gwl_good hg) (hts w hg)
theorem rp_pre {D : va_G} {cT : Nat → ClassId} {h : aH} {av : List Value} : FrameBlind (va_Pc av (fun U => rp D cT h U.heap ∧ rp_K D cT U)) := fun a U g mk q => ⟨q.1, q.2.1, q.2.2.call⟩
theorem wp_callV {μ' : Mu} {d' kc' ks' idx n b ci : Nat} {F : Nat → Value} {As rest : List Value} {Q' : Option Value → aH → Prop} (M : mt l μ' d' kc' ks' (.ref b :: As) h Q') (hd : decode μ.2.1 pc = .ok (.invokevirtual idx, 3)) (ho : mOK μ' n) (hw : Cond.methodLink μ.1.cls idx μ'.1 ∈ gwl ∧ Cond.instanceMethod μ'.1 ∈ gwl ∧ Cond.selects μ'.1.cls μ'.1 μ'.1 ∈ gwl) (hb : h.2 b = some (.inr (ci, F))) (hci : (vwCl[ci]?).map (fun q => q.1) = some μ'.1.cls) (hn : As.length = n) (hst : st = As.reverse ++ .ref b :: rest) (hW : (rest.map fun v => v.category).sum ≤ 8) (hdd : d' + 1 ≤ d) (hkc : kc' ≤ kc) (hks : ks' ≤ ks) (hq : pc + 3 = q) (kk : ∀ (rv : Option Value) (h' : aH), Q' rv h' → wp l μ sc d (kc - kc') (ks - ks') Q h' q lv (rv.toList ++ rest)) : wp l μ sc d kc ks Q h pc lv st := by
  subst hq
  refine wp_callR (d' := d') (av := .ref b :: As) hkc hks (fun D cT p e R s m args below meth c A H locs cells slots ls C r1 r4 r5 r6 => ?_) kk
  obtain ⟨hx, hbb, -, hml, hown, hts, -, -, hK, -, hf1, hf2, -⟩ := C
  have hcl : ∃ r : vw_C, vwCl[ci]? = some r ∧ r.1 = μ'.1.cls := by
    cases hr : vwCl[ci]? with
    | none => rw [hr] at hci; cases hci
    | some r => rw [hr] at hci; exact ⟨r, rfl, Option.some.inj hci⟩
  obtain ⟨r, hr1, hr2⟩ := hcl
  obtain ⟨r', h1, cell, g1, g2, g3, -⟩ := r1.2 b _ hb
  have hmx := ho.2.2.2.2
  refine va_runV (Ts := gwl) (own := μ.1.cls) (C := μ'.1.cls) (bytes := μ'.2.1) (maxL := μ'.2.2.1) (ret := μ'.2.2.2) (nL := μ.2.2.1) (n := n) (b := b) (As := As) ⟨hx, hbb, hml, hown, hts⟩ (M D cT) ⟨⟨rfl, rfl, ?_, ?_, ho.words hts, List.mem_cons_self, hts _ ho.1, hts _ ho.2.1, ho.2.2.1, ho.len, hts _ hw.1⟩, hts _ hw.2.1, hts _ hw.2.2⟩ ⟨rp_pre, ⟨cell, g1, by rw [g3]; rfl, by rw [g2, ← hr2]; exact (hK.1.1 ci r hr1).2.1⟩, fun U hU hWm => ⟨rfl, by rw [hU]; exact r1, hK.warm hWm⟩⟩ rfl hn r4.1 hst ?_ hd ⟨r5, r6⟩
  · show d' + 1 ≤ R.frames; omega
  · show 8 + (μ'.2.2.1 + 11) + 40 * d' ≤ R.locals; omega
  · show 2 * 0 + _ ≤ 8; omega
theorem wp_callS {μ' : Mu} {d' kc' ks' idx n : Nat} {As rest : List Value} {Q' : Option Value → aH → Prop} (M : mt l μ' d' kc' ks' As h Q') (hd : decode μ.2.1 pc = .ok (.invokestatic idx, 3)) (ho : mOK μ' n) (hw : Cond.methodLink μ.1.cls idx μ'.1 ∈ gwl ∧ Cond.static μ'.1 ∈ gwl) (hn : As.length = n) (hst : st = As.reverse ++ rest) (hW : (rest.map fun v => v.category).sum ≤ 8) (hdd : d' + 1 ≤ d) (hkc : kc' ≤ kc) (hks : ks' ≤ ks) (hq : pc + 3 = q) (kk : ∀ (rv : Option Value) (h' : aH), Q' rv h' → wp l μ sc d (kc - kc') (ks - ks') Q h' q lv (rv.toList ++ rest)) : wp l μ sc d kc ks Q h pc lv st := by
  subst hq
  refine wp_callR (d' := d') (av := As) hkc hks (fun D cT p e R s m args below meth c A H locs cells slots ls C r1 r4 r5 r6 => ?_) kk
  obtain ⟨hx, hbb, -, hml, hown, hts, -, -, hK, -, hf1, hf2, -⟩ := C
  have hmx := ho.2.2.2.2
  refine va_runS (Ts := gwl) (own := μ.1.cls) (bytes := μ'.2.1) (maxL := μ'.2.2.1) (ret := μ'.2.2.2) (nL := μ.2.2.1) (n := n) (As := As) ⟨hx, hbb, hml, hown, hts⟩ (M D cT) ⟨⟨rfl, rfl, ?_, ?_, ho.words hts, List.mem_cons_self, hts _ ho.1, hts _ ho.2.1, ho.2.2.1, ho.len, hts _ hw.1⟩, hts _ hw.2⟩ ⟨rp_pre, fun U hU hWm => ⟨rfl, by rw [hU]; exact r1, hK.warm hWm⟩⟩ rfl hn r4.1 hst ?_ hd ⟨r5, r6⟩
  · show d' + 1 ≤ R.frames; omega
  · show 8 + (μ'.2.2.1 + 11) + 40 * d' ≤ R.locals; omega
  · show 2 * 0 + _ ≤ 8; omega
theorem wp_callSN {μ' : Mu} {d' kc' ks' idx n : Nat} {host : String} {As rest : List Value} {Q' : Option Value → aH → Prop} (M : mt l μ' d' kc' ks' As h Q') (hd : decode μ.2.1 pc = .ok (.invokestatic idx, 3)) (ho : mOK μ' n) (hw : Cond.methodLinkNest μ.1.cls idx μ'.1 host ∈ lw_tbl ∧ Cond.static μ'.1 ∈ gwl) (hn : As.length = n) (hst : st = As.reverse ++ rest) (hW : (rest.map fun v => v.category).sum ≤ 8) (hdd : d' + 1 ≤ d) (hkc : kc' ≤ kc) (hks : ks' ≤ ks) (hq : pc + 3 = q) (kk : ∀ (rv : Option Value) (h' : aH), Q' rv h' → wp l μ sc d (kc - kc') (ks - ks') Q h' q lv (rv.toList ++ rest)) : wp l μ sc d kc ks Q h pc lv st := by
  subst hq
  refine wp_callR (d' := d') (av := As) hkc hks (fun D cT p e R s m args below meth c A H locs cells slots ls C r1 r4 r5 r6 => ?_) kk
  obtain ⟨hx, hbb, -, hml, hown, hts, -, -, hK, -, hf1, hf2, -⟩ := C
  have hmx := ho.2.2.2.2
  refine va_runSN (Ts := gwl) (own := μ.1.cls) (host := host) (bytes := μ'.2.1) (maxL := μ'.2.2.1) (ret := μ'.2.2.2) (nL := μ.2.2.1) (n := n) (As := As) ⟨hx, hbb, hml, hown, hts⟩ (M D cT) ⟨⟨⟨rfl, rfl, ?_, ?_, ho.words hts, List.mem_cons_self⟩, hts _ ho.1, hts _ ho.2.1, ho.2.2.1, ho.len, va_Nw.use rfl (hK.2.1 _ _ _ _ hw.1)⟩, hts _ hw.2, trivial⟩ ⟨rp_pre, fun U hU hWm => ⟨rfl, by rw [hU]; exact r1, hK.warm hWm⟩⟩ rfl hn r4.1 hst ?_ hd ⟨r5, r6⟩
  · show d' + 1 ≤ R.frames; omega
  · show 8 + (μ'.2.2.1 + 11) + 40 * d' ≤ R.locals; omega
  · show 2 * 0 + _ ≤ 8; omega
theorem wp_callI {μ' : Mu} {d' kc' ks' idx n b : Nat} {As rest : List Value} {Q' : Option Value → aH → Prop} (M : mt l μ' d' kc' ks' (.ref b :: As) h Q') (hd : decode μ.2.1 pc = .ok (.invokespecial idx, 3)) (ho : mOK μ' n) (hret : μ'.2.2.2 = none) (hnm : μ'.1.name = "<init>") (hw : Cond.methodLink μ.1.cls idx μ'.1 ∈ gwl ∧ Cond.instanceMethod μ'.1 ∈ gwl) (hn : As.length = n) (hst : st = As.reverse ++ .ref b :: rest) (hW : (rest.map fun v => v.category).sum ≤ 8) (hdd : d' + 1 ≤ d) (hkc : kc' ≤ kc) (hks : ks' ≤ ks) (hq : pc + 3 = q) (kk : ∀ (rv : Option Value) (h' : aH), Q' rv h' → wp l μ sc d (kc - kc') (ks - ks') Q h' q lv (rv.toList ++ rest)) : wp l μ sc d kc ks Q h pc lv st := by
  subst hq
  refine wp_callR (d' := d') (av := .ref b :: As) hkc hks (fun D cT p e R s m args below meth c A H locs cells slots ls C r1 r4 r5 r6 => ?_) kk
  obtain ⟨hx, hbb, -, hml, hown, hts, -, -, hK, -, hf1, hf2, -⟩ := C
  have hmx := ho.2.2.2.2
  have hcode : Cond.code μ'.1 μ'.2.1 μ'.2.2.1 none ∈ rp_ws μ' := by rw [← hret]; exact List.mem_cons_self
  refine va_runI (Ts := gwl) (own := μ.1.cls) (bytes := μ'.2.1) (maxL := μ'.2.2.1) (nL := μ.2.2.1) (n := n) (b := b) (As := As) ⟨hx, hbb, hml, hown, hts⟩ (M D cT) ⟨⟨rfl, rfl, ?_, ?_, ho.words hts, hcode, by rw [← hret]; exact hts _ ho.1, hts _ ho.2.1, ho.2.2.1, ho.len, hts _ hw.1⟩, hnm, hts _ hw.2⟩ ⟨rp_pre, fun U hU hWm => ⟨rfl, by rw [hU]; exact r1, hK.warm hWm⟩⟩ rfl hn r4.1 hst ?_ hd ⟨r5, r6⟩
  · show d' + 1 ≤ R.frames; omega
  · show 8 + (μ'.2.2.1 + 11) + 40 * d' ≤ R.locals; omega
  · show 2 * 0 + _ ≤ 8; omega
theorem wp_obj {idx b : Nat} (hd : decode μ.2.1 pc = .ok (.invokespecial idx, 3)) (hw : Cond.methodLink μ.1.cls idx Lib.objectInit ∈ gwl ∧ Cond.instanceMethod Lib.objectInit ∈ gwl ∧ Cond.code Lib.objectInit ⟨#[0xb1]⟩ 1 none ∈ gwl) (hdd : 1 ≤ d) (hW : (st.map fun v => v.category).sum ≤ 8) (hq : pc + 3 = q) (kk : wp l μ sc d kc ks Q h q lv st) : wp l μ sc d kc ks Q h pc lv (.ref b :: st) := by
  subst hq
  intro D cT p e R s m args below meth c A Z C z H locs cells slots ls r1 r2 r3 r4 r5 r6
  have kw := kk D cT p e R s m args below meth c A Z C z H locs cells slots ls r1 r2 r3 r4 r5 r6
  obtain ⟨hx, hbb, -, hml, hown, hts, -, -, hK, -, hf1, hf2, -⟩ := C
  exact W.objInit hx hbb hown (hts _ hw.1) (hts _ hw.2.1) (hts _ hw.2.2) rfl (by rw [hml]; exact r4.1) rfl hd (by omega) (by show 2 * 0 + _ + 12 ≤ R.locals; omega) kw
end Calls
end
