section
-- ===== PART A: goes FIRST, ahead of the names: the tables' words, and 'selects' of the private methods out of them =====
/-- a private method of a class that the tables say can be made, by its rows of tables_1 -/
def lw_okq (q : MethodName × Nat) : Prop := (q.1.cls ≠ "java/lang/invoke/MethodHandle" ∧ q.1.cls ≠ "java/lang/invoke/VarHandle") ∧ Cond.instantiable q.1.cls q.2 ∈ tables_1 ∧ Cond.privateMethod q.1 ∈ tables_1 ∧ Cond.instanceMethod q.1 ∈ tables_1
theorem lw_p0 : lw_okq (⟨"DieStudy$History", "save", "(LDieStudy$Specimens;)V"⟩, 4) := ⟨⟨by decide +kernel, by decide +kernel⟩, List.mem_of_getElem? (i := 38) (by decide +kernel), List.mem_of_getElem? (i := 149) (by decide +kernel), List.mem_of_getElem? (i := 150) (by decide +kernel)⟩
theorem lw_p1 : lw_okq (⟨"DieStudy$Specimens", "putDie", "(III)V"⟩, 2) := ⟨⟨by decide +kernel, by decide +kernel⟩, List.mem_of_getElem? (i := 20) (by decide +kernel), List.mem_of_getElem? (i := 156) (by decide +kernel), List.mem_of_getElem? (i := 157) (by decide +kernel)⟩
theorem lw_p2 : lw_okq (⟨"DieStudy$Specimens", "putWear", "(III)V"⟩, 2) := ⟨⟨by decide +kernel, by decide +kernel⟩, List.mem_of_getElem? (i := 20) (by decide +kernel), List.mem_of_getElem? (i := 160) (by decide +kernel), List.mem_of_getElem? (i := 161) (by decide +kernel)⟩
theorem lw_p3 : lw_okq (⟨"DieStudy$Specimens", "has", "(I)Z"⟩, 2) := ⟨⟨by decide +kernel, by decide +kernel⟩, List.mem_of_getElem? (i := 20) (by decide +kernel), List.mem_of_getElem? (i := 168) (by decide +kernel), List.mem_of_getElem? (i := 169) (by decide +kernel)⟩
theorem lw_p4 : lw_okq (⟨"DieStudy$Specimens", "close", "(I)V"⟩, 2) := ⟨⟨by decide +kernel, by decide +kernel⟩, List.mem_of_getElem? (i := 20) (by decide +kernel), List.mem_of_getElem? (i := 172) (by decide +kernel), List.mem_of_getElem? (i := 173) (by decide +kernel)⟩
theorem lw_p5 : lw_okq (⟨"DieStudy$Specimens", "wear", "(II)I"⟩, 2) := ⟨⟨by decide +kernel, by decide +kernel⟩, List.mem_of_getElem? (i := 20) (by decide +kernel), List.mem_of_getElem? (i := 184) (by decide +kernel), List.mem_of_getElem? (i := 185) (by decide +kernel)⟩
theorem lw_p6 : lw_okq (⟨"DieStudy$Specimens", "struckWith", "(II)I"⟩, 2) := ⟨⟨by decide +kernel, by decide +kernel⟩, List.mem_of_getElem? (i := 20) (by decide +kernel), List.mem_of_getElem? (i := 192) (by decide +kernel), List.mem_of_getElem? (i := 193) (by decide +kernel)⟩
theorem lw_p7 : lw_okq (⟨"DieStudy$Specimens", "die", "(II)I"⟩, 2) := ⟨⟨by decide +kernel, by decide +kernel⟩, List.mem_of_getElem? (i := 20) (by decide +kernel), List.mem_of_getElem? (i := 196) (by decide +kernel), List.mem_of_getElem? (i := 197) (by decide +kernel)⟩
theorem lw_p8 : lw_okq (⟨"DieStudy$Specimens", "replaceDie", "(III)I"⟩, 2) := ⟨⟨by decide +kernel, by decide +kernel⟩, List.mem_of_getElem? (i := 20) (by decide +kernel), List.mem_of_getElem? (i := 200) (by decide +kernel), List.mem_of_getElem? (i := 201) (by decide +kernel)⟩
theorem lw_p9 : lw_okq (⟨"DieStudy$Specimens", "knownDies", "(I)I"⟩, 2) := ⟨⟨by decide +kernel, by decide +kernel⟩, List.mem_of_getElem? (i := 20) (by decide +kernel), List.mem_of_getElem? (i := 218) (by decide +kernel), List.mem_of_getElem? (i := 219) (by decide +kernel)⟩
theorem lw_p10 : lw_okq (⟨"DieStudy$Specimens", "wearSum", "(II)I"⟩, 2) := ⟨⟨by decide +kernel, by decide +kernel⟩, List.mem_of_getElem? (i := 20) (by decide +kernel), List.mem_of_getElem? (i := 231) (by decide +kernel), List.mem_of_getElem? (i := 232) (by decide +kernel)⟩
theorem lw_p11 : lw_okq (⟨"DieStudy$Couples", "list", "(LDieStudy$Specimens;)V"⟩, 5) := ⟨⟨by decide +kernel, by decide +kernel⟩, List.mem_of_getElem? (i := 58) (by decide +kernel), List.mem_of_getElem? (i := 244) (by decide +kernel), List.mem_of_getElem? (i := 245) (by decide +kernel)⟩
theorem lw_p12 : lw_okq (⟨"DieStudy$Couples", "markPairs", "(LDieStudy$Specimens;)V"⟩, 5) := ⟨⟨by decide +kernel, by decide +kernel⟩, List.mem_of_getElem? (i := 58) (by decide +kernel), List.mem_of_getElem? (i := 248) (by decide +kernel), List.mem_of_getElem? (i := 249) (by decide +kernel)⟩
theorem lw_p13 : lw_okq (⟨"DieStudy$Couples", "numberPairs", "()V"⟩, 5) := ⟨⟨by decide +kernel, by decide +kernel⟩, List.mem_of_getElem? (i := 58) (by decide +kernel), List.mem_of_getElem? (i := 259) (by decide +kernel), List.mem_of_getElem? (i := 260) (by decide +kernel)⟩
theorem lw_p14 : lw_okq (⟨"DieStudy$Couples", "enter", "(II)V"⟩, 5) := ⟨⟨by decide +kernel, by decide +kernel⟩, List.mem_of_getElem? (i := 58) (by decide +kernel), List.mem_of_getElem? (i := 263) (by decide +kernel), List.mem_of_getElem? (i := 264) (by decide +kernel)⟩
theorem lw_p15 : lw_okq (⟨"DieStudy$Couples", "has", "(I)Z"⟩, 5) := ⟨⟨by decide +kernel, by decide +kernel⟩, List.mem_of_getElem? (i := 58) (by decide +kernel), List.mem_of_getElem? (i := 267) (by decide +kernel), List.mem_of_getElem? (i := 268) (by decide +kernel)⟩
def lw_privs_1 : List (MethodName × Nat) := [(⟨"DieStudy$History", "save", "(LDieStudy$Specimens;)V"⟩, 4), (⟨"DieStudy$Specimens", "putDie", "(III)V"⟩, 2), (⟨"DieStudy$Specimens", "putWear", "(III)V"⟩, 2), (⟨"DieStudy$Specimens", "has", "(I)Z"⟩, 2), (⟨"DieStudy$Specimens", "close", "(I)V"⟩, 2), (⟨"DieStudy$Specimens", "wear", "(II)I"⟩, 2), (⟨"DieStudy$Specimens", "struckWith", "(II)I"⟩, 2), (⟨"DieStudy$Specimens", "die", "(II)I"⟩, 2), (⟨"DieStudy$Specimens", "replaceDie", "(III)I"⟩, 2), (⟨"DieStudy$Specimens", "knownDies", "(I)I"⟩, 2), (⟨"DieStudy$Specimens", "wearSum", "(II)I"⟩, 2), (⟨"DieStudy$Couples", "list", "(LDieStudy$Specimens;)V"⟩, 5), (⟨"DieStudy$Couples", "markPairs", "(LDieStudy$Specimens;)V"⟩, 5), (⟨"DieStudy$Couples", "numberPairs", "()V"⟩, 5), (⟨"DieStudy$Couples", "enter", "(II)V"⟩, 5), (⟨"DieStudy$Couples", "has", "(I)Z"⟩, 5)]
theorem lw_r1 : ∀ q ∈ lw_privs_1, lw_okq q := List.forall_mem_cons.mpr ⟨lw_p0, List.forall_mem_cons.mpr ⟨lw_p1, List.forall_mem_cons.mpr ⟨lw_p2, List.forall_mem_cons.mpr ⟨lw_p3, List.forall_mem_cons.mpr ⟨lw_p4, List.forall_mem_cons.mpr ⟨lw_p5, List.forall_mem_cons.mpr ⟨lw_p6, List.forall_mem_cons.mpr ⟨lw_p7, List.forall_mem_cons.mpr ⟨lw_p8, List.forall_mem_cons.mpr ⟨lw_p9, List.forall_mem_cons.mpr ⟨lw_p10, List.forall_mem_cons.mpr ⟨lw_p11, List.forall_mem_cons.mpr ⟨lw_p12, List.forall_mem_cons.mpr ⟨lw_p13, List.forall_mem_cons.mpr ⟨lw_p14, List.forall_mem_cons.mpr ⟨lw_p15, fun _ h => absurd h List.not_mem_nil⟩⟩⟩⟩⟩⟩⟩⟩⟩⟩⟩⟩⟩⟩⟩⟩
theorem lw_p16 : lw_okq (⟨"DieStudy$Couples", "spanWear", "(III)V"⟩, 5) := ⟨⟨by decide +kernel, by decide +kernel⟩, List.mem_of_getElem? (i := 58) (by decide +kernel), List.mem_of_getElem? (i := 272) (by decide +kernel), List.mem_of_getElem? (i := 273) (by decide +kernel)⟩
theorem lw_p17 : lw_okq (⟨"DieStudy", "errorOfPlace", "(I)I"⟩, 5) := ⟨⟨by decide +kernel, by decide +kernel⟩, List.mem_of_getElem? (i := 12) (by decide +kernel), List.mem_of_getElem? (i := 286) (by decide +kernel), List.mem_of_getElem? (i := 287) (by decide +kernel)⟩
theorem lw_p18 : lw_okq (⟨"DieStudy$LinkGraph", "connect", "(LDieStudy$Couples;I)V"⟩, 3) := ⟨⟨by decide +kernel, by decide +kernel⟩, List.mem_of_getElem? (i := 87) (by decide +kernel), List.mem_of_getElem? (i := 295) (by decide +kernel), List.mem_of_getElem? (i := 296) (by decide +kernel)⟩
theorem lw_p19 : lw_okq (⟨"DieStudy$LinkGraph", "enterDies", "(LDieStudy$Couples;)V"⟩, 3) := ⟨⟨by decide +kernel, by decide +kernel⟩, List.mem_of_getElem? (i := 87) (by decide +kernel), List.mem_of_getElem? (i := 299) (by decide +kernel), List.mem_of_getElem? (i := 300) (by decide +kernel)⟩
theorem lw_p20 : lw_okq (⟨"DieStudy$LinkGraph", "enterDie", "(I)V"⟩, 3) := ⟨⟨by decide +kernel, by decide +kernel⟩, List.mem_of_getElem? (i := 87) (by decide +kernel), List.mem_of_getElem? (i := 310) (by decide +kernel), List.mem_of_getElem? (i := 311) (by decide +kernel)⟩
theorem lw_p21 : lw_okq (⟨"DieStudy$LinkGraph", "join", "(II)V"⟩, 3) := ⟨⟨by decide +kernel, by decide +kernel⟩, List.mem_of_getElem? (i := 87) (by decide +kernel), List.mem_of_getElem? (i := 317) (by decide +kernel), List.mem_of_getElem? (i := 318) (by decide +kernel)⟩
theorem lw_p22 : lw_okq (⟨"DieStudy$LinkGraph", "diesAround", "(II)I"⟩, 3) := ⟨⟨by decide +kernel, by decide +kernel⟩, List.mem_of_getElem? (i := 87) (by decide +kernel), List.mem_of_getElem? (i := 325) (by decide +kernel), List.mem_of_getElem? (i := 326) (by decide +kernel)⟩
theorem lw_p23 : lw_okq (⟨"DieStudy$LinkGraph", "fallsApartWithout", "(LDieStudy$Couples;I)Z"⟩, 3) := ⟨⟨by decide +kernel, by decide +kernel⟩, List.mem_of_getElem? (i := 87) (by decide +kernel), List.mem_of_getElem? (i := 337) (by decide +kernel), List.mem_of_getElem? (i := 338) (by decide +kernel)⟩
theorem lw_p24 : lw_okq (⟨"DieStudy$Couples", "isEarlier", "(II)Z"⟩, 5) := ⟨⟨by decide +kernel, by decide +kernel⟩, List.mem_of_getElem? (i := 58) (by decide +kernel), List.mem_of_getElem? (i := 350) (by decide +kernel), List.mem_of_getElem? (i := 351) (by decide +kernel)⟩
theorem lw_p25 : lw_okq (⟨"DieStudy$Couples", "isEarlierBy", "(III)Z"⟩, 5) := ⟨⟨by decide +kernel, by decide +kernel⟩, List.mem_of_getElem? (i := 58) (by decide +kernel), List.mem_of_getElem? (i := 354) (by decide +kernel), List.mem_of_getElem? (i := 355) (by decide +kernel)⟩
theorem lw_p26 : lw_okq (⟨"DieStudy$Chronology", "arrange", "(LDieStudy$Couples;)Z"⟩, 3) := ⟨⟨by decide +kernel, by decide +kernel⟩, List.mem_of_getElem? (i := 105) (by decide +kernel), List.mem_of_getElem? (i := 362) (by decide +kernel), List.mem_of_getElem? (i := 363) (by decide +kernel)⟩
theorem lw_p27 : lw_okq (⟨"DieStudy$Chronology", "countEarlier", "(LDieStudy$Couples;)V"⟩, 3) := ⟨⟨by decide +kernel, by decide +kernel⟩, List.mem_of_getElem? (i := 105) (by decide +kernel), List.mem_of_getElem? (i := 366) (by decide +kernel), List.mem_of_getElem? (i := 367) (by decide +kernel)⟩
theorem lw_p28 : lw_okq (⟨"DieStudy$Chronology", "lowestThatWaitsForNone", "(I)I"⟩, 3) := ⟨⟨by decide +kernel, by decide +kernel⟩, List.mem_of_getElem? (i := 105) (by decide +kernel), List.mem_of_getElem? (i := 372) (by decide +kernel), List.mem_of_getElem? (i := 373) (by decide +kernel)⟩
theorem lw_p29 : lw_okq (⟨"DieStudy$Chronology", "releaseLater", "(LDieStudy$Couples;I)V"⟩, 3) := ⟨⟨by decide +kernel, by decide +kernel⟩, List.mem_of_getElem? (i := 105) (by decide +kernel), List.mem_of_getElem? (i := 376) (by decide +kernel), List.mem_of_getElem? (i := 377) (by decide +kernel)⟩
theorem lw_p30 : lw_okq (⟨"DieStudy$Specimens", "diesStruckOnce", "(I)I"⟩, 2) := ⟨⟨by decide +kernel, by decide +kernel⟩, List.mem_of_getElem? (i := 20) (by decide +kernel), List.mem_of_getElem? (i := 393) (by decide +kernel), List.mem_of_getElem? (i := 394) (by decide +kernel)⟩
theorem lw_p31 : lw_okq (⟨"DieStudy$History", "restore", "(LDieStudy$Specimens;)V"⟩, 4) := ⟨⟨by decide +kernel, by decide +kernel⟩, List.mem_of_getElem? (i := 38) (by decide +kernel), List.mem_of_getElem? (i := 412) (by decide +kernel), List.mem_of_getElem? (i := 413) (by decide +kernel)⟩
def lw_privs_2 : List (MethodName × Nat) := [(⟨"DieStudy$Couples", "spanWear", "(III)V"⟩, 5), (⟨"DieStudy", "errorOfPlace", "(I)I"⟩, 5), (⟨"DieStudy$LinkGraph", "connect", "(LDieStudy$Couples;I)V"⟩, 3), (⟨"DieStudy$LinkGraph", "enterDies", "(LDieStudy$Couples;)V"⟩, 3), (⟨"DieStudy$LinkGraph", "enterDie", "(I)V"⟩, 3), (⟨"DieStudy$LinkGraph", "join", "(II)V"⟩, 3), (⟨"DieStudy$LinkGraph", "diesAround", "(II)I"⟩, 3), (⟨"DieStudy$LinkGraph", "fallsApartWithout", "(LDieStudy$Couples;I)Z"⟩, 3), (⟨"DieStudy$Couples", "isEarlier", "(II)Z"⟩, 5), (⟨"DieStudy$Couples", "isEarlierBy", "(III)Z"⟩, 5), (⟨"DieStudy$Chronology", "arrange", "(LDieStudy$Couples;)Z"⟩, 3), (⟨"DieStudy$Chronology", "countEarlier", "(LDieStudy$Couples;)V"⟩, 3), (⟨"DieStudy$Chronology", "lowestThatWaitsForNone", "(I)I"⟩, 3), (⟨"DieStudy$Chronology", "releaseLater", "(LDieStudy$Couples;I)V"⟩, 3), (⟨"DieStudy$Specimens", "diesStruckOnce", "(I)I"⟩, 2), (⟨"DieStudy$History", "restore", "(LDieStudy$Specimens;)V"⟩, 4)]
theorem lw_r2 : ∀ q ∈ lw_privs_2, lw_okq q := List.forall_mem_cons.mpr ⟨lw_p16, List.forall_mem_cons.mpr ⟨lw_p17, List.forall_mem_cons.mpr ⟨lw_p18, List.forall_mem_cons.mpr ⟨lw_p19, List.forall_mem_cons.mpr ⟨lw_p20, List.forall_mem_cons.mpr ⟨lw_p21, List.forall_mem_cons.mpr ⟨lw_p22, List.forall_mem_cons.mpr ⟨lw_p23, List.forall_mem_cons.mpr ⟨lw_p24, List.forall_mem_cons.mpr ⟨lw_p25, List.forall_mem_cons.mpr ⟨lw_p26, List.forall_mem_cons.mpr ⟨lw_p27, List.forall_mem_cons.mpr ⟨lw_p28, List.forall_mem_cons.mpr ⟨lw_p29, List.forall_mem_cons.mpr ⟨lw_p30, List.forall_mem_cons.mpr ⟨lw_p31, fun _ h => absurd h List.not_mem_nil⟩⟩⟩⟩⟩⟩⟩⟩⟩⟩⟩⟩⟩⟩⟩⟩
theorem lw_p32 : lw_okq (⟨"DieStudyModel", "edit", "()V"⟩, 12) := ⟨⟨by decide +kernel, by decide +kernel⟩, List.mem_of_getElem? (i := 416) (by decide +kernel), List.mem_of_getElem? (i := 471) (by decide +kernel), List.mem_of_getElem? (i := 472) (by decide +kernel)⟩
theorem lw_p33 : lw_okq (⟨"DieStudyModel", "isSpecimen", "(I)Z"⟩, 12) := ⟨⟨by decide +kernel, by decide +kernel⟩, List.mem_of_getElem? (i := 416) (by decide +kernel), List.mem_of_getElem? (i := 479) (by decide +kernel), List.mem_of_getElem? (i := 480) (by decide +kernel)⟩
theorem lw_p34 : lw_okq (⟨"DieStudyModel", "specimens", "(II)I"⟩, 12) := ⟨⟨by decide +kernel, by decide +kernel⟩, List.mem_of_getElem? (i := 416) (by decide +kernel), List.mem_of_getElem? (i := 497) (by decide +kernel), List.mem_of_getElem? (i := 498) (by decide +kernel)⟩
theorem lw_p35 : lw_okq (⟨"DieStudyModel", "known", "(I)I"⟩, 12) := ⟨⟨by decide +kernel, by decide +kernel⟩, List.mem_of_getElem? (i := 416) (by decide +kernel), List.mem_of_getElem? (i := 513) (by decide +kernel), List.mem_of_getElem? (i := 514) (by decide +kernel)⟩
theorem lw_p36 : lw_okq (⟨"DieStudyModel", "finds", "()V"⟩, 12) := ⟨⟨by decide +kernel, by decide +kernel⟩, List.mem_of_getElem? (i := 416) (by decide +kernel), List.mem_of_getElem? (i := 533) (by decide +kernel), List.mem_of_getElem? (i := 534) (by decide +kernel)⟩
theorem lw_p37 : lw_okq (⟨"DieStudyModel", "isCouple", "(III)Z"⟩, 12) := ⟨⟨by decide +kernel, by decide +kernel⟩, List.mem_of_getElem? (i := 416) (by decide +kernel), List.mem_of_getElem? (i := 537) (by decide +kernel), List.mem_of_getElem? (i := 538) (by decide +kernel)⟩
theorem lw_p38 : lw_okq (⟨"DieStudyModel", "nets", "(I)I"⟩, 12) := ⟨⟨by decide +kernel, by decide +kernel⟩, List.mem_of_getElem? (i := 416) (by decide +kernel), List.mem_of_getElem? (i := 549) (by decide +kernel), List.mem_of_getElem? (i := 550) (by decide +kernel)⟩
theorem lw_p39 : lw_okq (⟨"DieStudyModel", "isEarlier", "(II)Z"⟩, 12) := ⟨⟨by decide +kernel, by decide +kernel⟩, List.mem_of_getElem? (i := 416) (by decide +kernel), List.mem_of_getElem? (i := 573) (by decide +kernel), List.mem_of_getElem? (i := 574) (by decide +kernel)⟩
theorem lw_p40 : lw_okq (⟨"DieStudyModel", "isBy", "(III)Z"⟩, 12) := ⟨⟨by decide +kernel, by decide +kernel⟩, List.mem_of_getElem? (i := 416) (by decide +kernel), List.mem_of_getElem? (i := 577) (by decide +kernel), List.mem_of_getElem? (i := 578) (by decide +kernel)⟩
theorem lw_p41 : lw_okq (⟨"DieStudyModel", "places", "()Z"⟩, 12) := ⟨⟨by decide +kernel, by decide +kernel⟩, List.mem_of_getElem? (i := 416) (by decide +kernel), List.mem_of_getElem? (i := 585) (by decide +kernel), List.mem_of_getElem? (i := 586) (by decide +kernel)⟩
theorem lw_p42 : lw_okq (⟨"DieStudyModel", "single", "(I)I"⟩, 12) := ⟨⟨by decide +kernel, by decide +kernel⟩, List.mem_of_getElem? (i := 416) (by decide +kernel), List.mem_of_getElem? (i := 601) (by decide +kernel), List.mem_of_getElem? (i := 602) (by decide +kernel)⟩
def lw_privs_3 : List (MethodName × Nat) := [(⟨"DieStudyModel", "edit", "()V"⟩, 12), (⟨"DieStudyModel", "isSpecimen", "(I)Z"⟩, 12), (⟨"DieStudyModel", "specimens", "(II)I"⟩, 12), (⟨"DieStudyModel", "known", "(I)I"⟩, 12), (⟨"DieStudyModel", "finds", "()V"⟩, 12), (⟨"DieStudyModel", "isCouple", "(III)Z"⟩, 12), (⟨"DieStudyModel", "nets", "(I)I"⟩, 12), (⟨"DieStudyModel", "isEarlier", "(II)Z"⟩, 12), (⟨"DieStudyModel", "isBy", "(III)Z"⟩, 12), (⟨"DieStudyModel", "places", "()Z"⟩, 12), (⟨"DieStudyModel", "single", "(I)I"⟩, 12)]
theorem lw_r3 : ∀ q ∈ lw_privs_3, lw_okq q := List.forall_mem_cons.mpr ⟨lw_p32, List.forall_mem_cons.mpr ⟨lw_p33, List.forall_mem_cons.mpr ⟨lw_p34, List.forall_mem_cons.mpr ⟨lw_p35, List.forall_mem_cons.mpr ⟨lw_p36, List.forall_mem_cons.mpr ⟨lw_p37, List.forall_mem_cons.mpr ⟨lw_p38, List.forall_mem_cons.mpr ⟨lw_p39, List.forall_mem_cons.mpr ⟨lw_p40, List.forall_mem_cons.mpr ⟨lw_p41, List.forall_mem_cons.mpr ⟨lw_p42, fun _ h => absurd h List.not_mem_nil⟩⟩⟩⟩⟩⟩⟩⟩⟩⟩⟩
def lw_privs : List (MethodName × Nat) := lw_privs_1 ++ (lw_privs_2 ++ (lw_privs_3))
def lw_tbl : List Cond := k2_sels lw_privs ++ tables_1
theorem lw_privs_ok : ∀ q ∈ lw_privs, lw_okq q := by
  show ∀ q ∈ lw_privs_1 ++ (lw_privs_2 ++ (lw_privs_3)), lw_okq q
  exact List.forall_mem_append.mpr ⟨lw_r1, List.forall_mem_append.mpr ⟨lw_r2, lw_r3⟩⟩
/-- the streams that the claim lets the run draw from -/
abbrev lw_cs : List Choice := [Jvm.Choice.named "NaN.bits"]
theorem lw_bits : nanBits ∈ lw_cs := by first | decide | exact List.mem_cons_self | simp [lw_cs, nanBits]
end
section
/-! ===== BEGIN words of one list among another's, by their places ===== -/
theorem goodIn_r {big : List Cond} (ws : List Cond) (ps : List Nat) (hp : ws = ps.filterMap (fun i => big[i]?)) (h : ws.all goodWord = true) : GoodIn big ws := by
  intro w hw
  have h1 := List.all_eq_true.mp h w hw
  rw [hp] at hw
  obtain ⟨i, -, hi⟩ := List.mem_filterMap.mp hw
  have hm : w ∈ big := by first | exact List.mem_of_getElem? hi | exact List.getElem?_mem hi
  exact ⟨hm, good_of_word h1⟩
theorem goodIn_app {big a b : List Cond} (ha : GoodIn big a) (hb : GoodIn big b) : GoodIn big (a ++ b) := fun w h => (List.mem_append.mp h).elim (ha w) (hb w)
theorem goodIn_ca {big a b : List Cond} {c : Cond} (ha : GoodIn big (c :: a)) (hb : GoodIn big b) : GoodIn big (c :: (a ++ b)) := fun w h => (List.mem_cons.mp h).elim (fun e => ha w (List.mem_cons.mpr (Or.inl e))) (fun h => (List.mem_append.mp h).elim (fun h => ha w (List.mem_cons.mpr (Or.inr h))) (hb w))
theorem goodIn_sub {big ws : List Cond} (hm : ∀ w ∈ ws, w ∈ big) (h : ws.all goodWord = true) : GoodIn big ws := fun w hw => ⟨hm w hw, good_of_word (List.all_eq_true.mp h w hw)⟩
/-! ===== END ===== -/
/-! ===== BEGIN printed: names, fields, word lists, decode rows ===== -/
def RX0 : String := "DieStudy$Chronology"
def TX0 : u_T := fun k => match k with
  | 0 => ("DieStudy$Chronology", "order", "[I", true)
  | 1 => ("DieStudy$Chronology", "depth", "[I", true)
  | _ => ("DieStudy$Chronology", "waitsFor", "[I", true)
def tyX0 : Nat → FieldType := fun k => match k with
  | 0 => .array .int
  | 1 => .array .int
  | _ => .array .int
abbrev wsX00 : List Cond := u_ws RX0 TX0 3
theorem nmX0 : ∀ a, a < 3 → ∀ b, b < 3 → a ≠ b → (TX0 a).2.1 ≠ (TX0 b).2.1 := by decide +kernel
theorem tyX0_ok : ∀ k, k < 3 → parseFieldDescriptor (TX0 k).2.2.1 = some (tyX0 k) := by decide +kernel
abbrev cX0_init : ByteArray := prog_2_method_1_code
def yX0_init : MethodName := ⟨RX0, "<init>", "()V"⟩
abbrev cX0_arrange : ByteArray := prog_2_method_2_code
def yX0_arrange : MethodName := ⟨RX0, "arrange", "(LDieStudy$Couples;)Z"⟩
abbrev cX0_countEarlier : ByteArray := prog_2_method_3_code
def yX0_countEarlier : MethodName := ⟨RX0, "countEarlier", "(LDieStudy$Couples;)V"⟩
abbrev cX0_lowestThatWaitsForNone : ByteArray := prog_2_method_4_code
def yX0_lowestThatWaitsForNone : MethodName := ⟨RX0, "lowestThatWaitsForNone", "(I)I"⟩
abbrev cX0_releaseLater : ByteArray := prog_2_method_5_code
def yX0_releaseLater : MethodName := ⟨RX0, "releaseLater", "(LDieStudy$Couples;I)V"⟩
def RX1 : String := "DieStudy$Couples"
def TX1 : u_T := fun k => match k with
  | 0 => ("DieStudy$Couples", "numberOfPair", "[I", true)
  | 1 => ("DieStudy$Couples", "die", "[[I", true)
  | 2 => ("DieStudy$Couples", "leastWear", "[[I", true)
  | 3 => ("DieStudy$Couples", "greatestWear", "[[I", true)
  | _ => ("DieStudy$Couples", "count", "I", false)
def tyX1 : Nat → FieldType := fun k => match k with
  | 0 => .array .int
  | 1 => .array (.array .int)
  | 2 => .array (.array .int)
  | 3 => .array (.array .int)
  | _ => .int
abbrev wsX10 : List Cond := u_ws RX1 TX1 5
theorem nmX1 : ∀ a, a < 5 → ∀ b, b < 5 → a ≠ b → (TX1 a).2.1 ≠ (TX1 b).2.1 := by decide +kernel
theorem tyX1_ok : ∀ k, k < 5 → parseFieldDescriptor (TX1 k).2.2.1 = some (tyX1 k) := by decide +kernel
abbrev cX1_init : ByteArray := prog_3_method_1_code
def yX1_init : MethodName := ⟨RX1, "<init>", "()V"⟩
abbrev cX1_has : ByteArray := prog_3_method_2_code
def yX1_has : MethodName := ⟨RX1, "has", "(I)Z"⟩
abbrev cX1_list : ByteArray := prog_3_method_3_code
def yX1_list : MethodName := ⟨RX1, "list", "(LDieStudy$Specimens;)V"⟩
abbrev cX1_pairOf : ByteArray := prog_3_method_4_code
def yX1_pairOf : MethodName := ⟨RX1, "pairOf", "(LDieStudy$Specimens;I)I"⟩
abbrev cX1_markPairs : ByteArray := prog_3_method_5_code
def yX1_markPairs : MethodName := ⟨RX1, "markPairs", "(LDieStudy$Specimens;)V"⟩
abbrev cX1_numberPairs : ByteArray := prog_3_method_6_code
def yX1_numberPairs : MethodName := ⟨RX1, "numberPairs", "()V"⟩
abbrev cX1_enter : ByteArray := prog_3_method_7_code
def yX1_enter : MethodName := ⟨RX1, "enter", "(II)V"⟩
abbrev cX1_spanWear : ByteArray := prog_3_method_8_code
def yX1_spanWear : MethodName := ⟨RX1, "spanWear", "(III)V"⟩
abbrev cX1_isEarlier : ByteArray := prog_3_method_9_code
def yX1_isEarlier : MethodName := ⟨RX1, "isEarlier", "(II)Z"⟩
abbrev cX1_isEarlierBy : ByteArray := prog_3_method_10_code
def yX1_isEarlierBy : MethodName := ⟨RX1, "isEarlierBy", "(III)Z"⟩
def RX2 : String := "DieStudy$History"
def TX2 : u_T := fun k => match k with
  | 0 => ("DieStudy$History", "cells", "[I", true)
  | 1 => ("DieStudy$History", "counts", "[I", true)
  | 2 => ("DieStudy$History", "saved", "I", false)
  | _ => ("DieStudy$History", "next", "I", false)
def tyX2 : Nat → FieldType := fun k => match k with
  | 0 => .array .int
  | 1 => .array .int
  | 2 => .int
  | _ => .int
abbrev wsX20 : List Cond := u_ws RX2 TX2 4
theorem nmX2 : ∀ a, a < 4 → ∀ b, b < 4 → a ≠ b → (TX2 a).2.1 ≠ (TX2 b).2.1 := by decide +kernel
theorem tyX2_ok : ∀ k, k < 4 → parseFieldDescriptor (TX2 k).2.2.1 = some (tyX2 k) := by decide +kernel
abbrev cX2_init : ByteArray := prog_4_method_1_code
def yX2_init : MethodName := ⟨RX2, "<init>", "()V"⟩
abbrev cX2_save : ByteArray := prog_4_method_2_code
def yX2_save : MethodName := ⟨RX2, "save", "(LDieStudy$Specimens;)V"⟩
abbrev cX2_restore : ByteArray := prog_4_method_3_code
def yX2_restore : MethodName := ⟨RX2, "restore", "(LDieStudy$Specimens;)V"⟩
def RX3 : String := "DieStudy$LinkGraph"
def TX3 : u_T := fun k => match k with
  | 0 => ("DieStudy$LinkGraph", "component", "[I", true)
  | 1 => ("DieStudy$LinkGraph", "dies", "I", false)
  | _ => ("DieStudy$LinkGraph", "components", "I", false)
def tyX3 : Nat → FieldType := fun k => match k with
  | 0 => .array .int
  | 1 => .int
  | _ => .int
abbrev wsX30 : List Cond := u_ws RX3 TX3 3
theorem nmX3 : ∀ a, a < 3 → ∀ b, b < 3 → a ≠ b → (TX3 a).2.1 ≠ (TX3 b).2.1 := by decide +kernel
theorem tyX3_ok : ∀ k, k < 3 → parseFieldDescriptor (TX3 k).2.2.1 = some (tyX3 k) := by decide +kernel
abbrev cX3_init : ByteArray := prog_5_method_1_code
def yX3_init : MethodName := ⟨RX3, "<init>", "()V"⟩
abbrev cX3_vertexOf : ByteArray := prog_5_method_2_code
def yX3_vertexOf : MethodName := ⟨RX3, "vertexOf", "(II)I"⟩
abbrev cX3_connect : ByteArray := prog_5_method_3_code
def yX3_connect : MethodName := ⟨RX3, "connect", "(LDieStudy$Couples;I)V"⟩
abbrev cX3_obverseOf : ByteArray := prog_5_method_4_code
def yX3_obverseOf : MethodName := ⟨RX3, "obverseOf", "(LDieStudy$Couples;I)I"⟩
abbrev cX3_reverseOf : ByteArray := prog_5_method_5_code
def yX3_reverseOf : MethodName := ⟨RX3, "reverseOf", "(LDieStudy$Couples;I)I"⟩
abbrev cX3_enterDies : ByteArray := prog_5_method_6_code
def yX3_enterDies : MethodName := ⟨RX3, "enterDies", "(LDieStudy$Couples;)V"⟩
abbrev cX3_enterDie : ByteArray := prog_5_method_7_code
def yX3_enterDie : MethodName := ⟨RX3, "enterDie", "(I)V"⟩
abbrev cX3_join : ByteArray := prog_5_method_8_code
def yX3_join : MethodName := ⟨RX3, "join", "(II)V"⟩
abbrev cX3_fallsApartWithout : ByteArray := prog_5_method_9_code
def yX3_fallsApartWithout : MethodName := ⟨RX3, "fallsApartWithout", "(LDieStudy$Couples;I)Z"⟩
abbrev cX3_diesAround : ByteArray := prog_5_method_10_code
def yX3_diesAround : MethodName := ⟨RX3, "diesAround", "(II)I"⟩
def RX4 : String := "DieStudy$Specimens"
def TX4 : u_T := fun k => match k with
  | 0 => ("DieStudy$Specimens", "cells", "[I", true)
  | _ => ("DieStudy$Specimens", "count", "I", false)
def tyX4 : Nat → FieldType := fun k => match k with
  | 0 => .array .int
  | _ => .int
abbrev wsX40 : List Cond := u_ws RX4 TX4 2
theorem nmX4 : ∀ a, a < 2 → ∀ b, b < 2 → a ≠ b → (TX4 a).2.1 ≠ (TX4 b).2.1 := by decide +kernel
theorem tyX4_ok : ∀ k, k < 2 → parseFieldDescriptor (TX4 k).2.2.1 = some (tyX4 k) := by decide +kernel
abbrev cX4_init : ByteArray := prog_6_method_1_code
def yX4_init : MethodName := ⟨RX4, "<init>", "()V"⟩
abbrev cX4_has : ByteArray := prog_6_method_2_code
def yX4_has : MethodName := ⟨RX4, "has", "(I)Z"⟩
abbrev cX4_die : ByteArray := prog_6_method_3_code
def yX4_die : MethodName := ⟨RX4, "die", "(II)I"⟩
abbrev cX4_putDie : ByteArray := prog_6_method_4_code
def yX4_putDie : MethodName := ⟨RX4, "putDie", "(III)V"⟩
abbrev cX4_wear : ByteArray := prog_6_method_5_code
def yX4_wear : MethodName := ⟨RX4, "wear", "(II)I"⟩
abbrev cX4_putWear : ByteArray := prog_6_method_6_code
def yX4_putWear : MethodName := ⟨RX4, "putWear", "(III)V"⟩
abbrev cX4_close : ByteArray := prog_6_method_7_code
def yX4_close : MethodName := ⟨RX4, "close", "(I)V"⟩
abbrev cX4_replaceDie : ByteArray := prog_6_method_8_code
def yX4_replaceDie : MethodName := ⟨RX4, "replaceDie", "(III)I"⟩
abbrev cX4_struckWith : ByteArray := prog_6_method_9_code
def yX4_struckWith : MethodName := ⟨RX4, "struckWith", "(II)I"⟩
abbrev cX4_wearSum : ByteArray := prog_6_method_10_code
def yX4_wearSum : MethodName := ⟨RX4, "wearSum", "(II)I"⟩
abbrev cX4_knownDies : ByteArray := prog_6_method_11_code
def yX4_knownDies : MethodName := ⟨RX4, "knownDies", "(I)I"⟩
abbrev cX4_diesStruckOnce : ByteArray := prog_6_method_12_code
def yX4_diesStruckOnce : MethodName := ⟨RX4, "diesStruckOnce", "(I)I"⟩
def RX5 : String := "DieStudy"
def TX5 : u_T := fun k => match k with
  | 0 => ("DieStudy", "specimens", "LDieStudy$Specimens;", true)
  | 1 => ("DieStudy", "history", "LDieStudy$History;", true)
  | 2 => ("DieStudy", "couples", "LDieStudy$Couples;", true)
  | 3 => ("DieStudy", "graph", "LDieStudy$LinkGraph;", true)
  | _ => ("DieStudy", "chronology", "LDieStudy$Chronology;", true)
def tyX5 : Nat → FieldType := fun k => match k with
  | 0 => .object "DieStudy$Specimens"
  | 1 => .object "DieStudy$History"
  | 2 => .object "DieStudy$Couples"
  | 3 => .object "DieStudy$LinkGraph"
  | _ => .object "DieStudy$Chronology"
abbrev wsX50 : List Cond := u_ws RX5 TX5 5
theorem nmX5 : ∀ a, a < 5 → ∀ b, b < 5 → a ≠ b → (TX5 a).2.1 ≠ (TX5 b).2.1 := by decide +kernel
theorem tyX5_ok : ∀ k, k < 5 → parseFieldDescriptor (TX5 k).2.2.1 = some (tyX5 k) := by decide +kernel
abbrev cX5_init : ByteArray := prog_1_method_1_code
def yX5_init : MethodName := ⟨RX5, "<init>", "()V"⟩
abbrev cX5_addSpecimen : ByteArray := prog_1_method_2_code
def yX5_addSpecimen : MethodName := ⟨RX5, "addSpecimen", "(IIII)I"⟩
abbrev cX5_removeSpecimen : ByteArray := prog_1_method_3_code
def yX5_removeSpecimen : MethodName := ⟨RX5, "removeSpecimen", "(I)I"⟩
abbrev cX5_setWear : ByteArray := prog_1_method_4_code
def yX5_setWear : MethodName := ⟨RX5, "setWear", "(III)I"⟩
abbrev cX5_mergeDies : ByteArray := prog_1_method_5_code
def yX5_mergeDies : MethodName := ⟨RX5, "mergeDies", "(III)I"⟩
abbrev cX5_specimenCount : ByteArray := prog_1_method_6_code
def yX5_specimenCount : MethodName := ⟨RX5, "specimenCount", "()I"⟩
abbrev cX5_dieOf : ByteArray := prog_1_method_7_code
def yX5_dieOf : MethodName := ⟨RX5, "dieOf", "(II)I"⟩
abbrev cX5_dieCount : ByteArray := prog_1_method_8_code
def yX5_dieCount : MethodName := ⟨RX5, "dieCount", "(I)I"⟩
abbrev cX5_frequency : ByteArray := prog_1_method_9_code
def yX5_frequency : MethodName := ⟨RX5, "frequency", "(II)I"⟩
abbrev cX5_meanWearBits : ByteArray := prog_1_method_10_code
def yX5_meanWearBits : MethodName := ⟨RX5, "meanWearBits", "(II)I"⟩
abbrev cX5_coupleCount : ByteArray := prog_1_method_11_code
def yX5_coupleCount : MethodName := ⟨RX5, "coupleCount", "()I"⟩
abbrev cX5_coupleAt : ByteArray := prog_1_method_12_code
def yX5_coupleAt : MethodName := ⟨RX5, "coupleAt", "(I)I"⟩
abbrev cX5_componentCount : ByteArray := prog_1_method_13_code
def yX5_componentCount : MethodName := ⟨RX5, "componentCount", "()I"⟩
abbrev cX5_componentSize : ByteArray := prog_1_method_14_code
def yX5_componentSize : MethodName := ⟨RX5, "componentSize", "(II)I"⟩
abbrev cX5_cycleRank : ByteArray := prog_1_method_15_code
def yX5_cycleRank : MethodName := ⟨RX5, "cycleRank", "()I"⟩
abbrev cX5_bridgeCount : ByteArray := prog_1_method_16_code
def yX5_bridgeCount : MethodName := ⟨RX5, "bridgeCount", "()I"⟩
abbrev cX5_isBridge : ByteArray := prog_1_method_17_code
def yX5_isBridge : MethodName := ⟨RX5, "isBridge", "(I)I"⟩
abbrev cX5_compareCouples : ByteArray := prog_1_method_18_code
def yX5_compareCouples : MethodName := ⟨RX5, "compareCouples", "(II)I"⟩
abbrev cX5_isConsistent : ByteArray := prog_1_method_19_code
def yX5_isConsistent : MethodName := ⟨RX5, "isConsistent", "()I"⟩
abbrev cX5_coupleInOrder : ByteArray := prog_1_method_20_code
def yX5_coupleInOrder : MethodName := ⟨RX5, "coupleInOrder", "(I)I"⟩
abbrev cX5_generation : ByteArray := prog_1_method_21_code
def yX5_generation : MethodName := ⟨RX5, "generation", "(I)I"⟩
abbrev cX5_singletons : ByteArray := prog_1_method_22_code
def yX5_singletons : MethodName := ⟨RX5, "singletons", "(I)I"⟩
abbrev cX5_coverageEstimate : ByteArray := prog_1_method_23_code
def yX5_coverageEstimate : MethodName := ⟨RX5, "coverageEstimate", "(I)I"⟩
abbrev cX5_frequencyEstimate : ByteArray := prog_1_method_24_code
def yX5_frequencyEstimate : MethodName := ⟨RX5, "frequencyEstimate", "(I)I"⟩
abbrev cX5_undo : ByteArray := prog_1_method_25_code
def yX5_undo : MethodName := ⟨RX5, "undo", "()I"⟩
abbrev cX5_isSide : ByteArray := prog_1_method_26_code
def yX5_isSide : MethodName := ⟨RX5, "isSide", "(I)Z"⟩
abbrev cX5_isDie : ByteArray := prog_1_method_27_code
def yX5_isDie : MethodName := ⟨RX5, "isDie", "(I)Z"⟩
abbrev cX5_isWear : ByteArray := prog_1_method_28_code
def yX5_isWear : MethodName := ⟨RX5, "isWear", "(I)Z"⟩
abbrev cX5_errorOfPlace : ByteArray := prog_1_method_29_code
def yX5_errorOfPlace : MethodName := ⟨RX5, "errorOfPlace", "(I)I"⟩
abbrev cX5_divisorOfFrequencyEstimate : ByteArray := prog_1_method_30_code
def yX5_divisorOfFrequencyEstimate : MethodName := ⟨RX5, "divisorOfFrequencyEstimate", "(II)I"⟩
abbrev cX5_bitsOf : ByteArray := prog_1_method_31_code
def yX5_bitsOf : MethodName := ⟨RX5, "bitsOf", "(F)I"⟩
def RX6 : String := "DieStudyModel"
def TX6 : u_T := fun k => match k with
  | 0 => ("DieStudyModel", "now", "[I", true)
  | 1 => ("DieStudyModel", "history", "[I", true)
  | 2 => ("DieStudyModel", "edits", "I", false)
  | 3 => ("DieStudyModel", "couples", "I", false)
  | 4 => ("DieStudyModel", "obverse", "[I", true)
  | 5 => ("DieStudyModel", "reverse", "[I", true)
  | 6 => ("DieStudyModel", "low", "[I", true)
  | 7 => ("DieStudyModel", "high", "[I", true)
  | 8 => ("DieStudyModel", "order", "[I", true)
  | 9 => ("DieStudyModel", "generations", "[I", true)
  | 10 => ("DieStudyModel", "placed", "[Z", true)
  | _ => ("DieStudyModel", "net", "[I", true)
def tyX6 : Nat → FieldType := fun k => match k with
  | 0 => .array .int
  | 1 => .array .int
  | 2 => .int
  | 3 => .int
  | 4 => .array .int
  | 5 => .array .int
  | 6 => .array .int
  | 7 => .array .int
  | 8 => .array .int
  | 9 => .array .int
  | 10 => .array .boolean
  | _ => .array .int
abbrev wsX60 : List Cond := u_ws RX6 TX6 12
theorem nmX6 : ∀ a, a < 12 → ∀ b, b < 12 → a ≠ b → (TX6 a).2.1 ≠ (TX6 b).2.1 := by decide +kernel
theorem tyX6_ok : ∀ k, k < 12 → parseFieldDescriptor (TX6 k).2.2.1 = some (tyX6 k) := by decide +kernel
abbrev cX6_init : ByteArray := prog_8_method_1_code
def yX6_init : MethodName := ⟨RX6, "<init>", "()V"⟩
abbrev cX6_in : ByteArray := prog_8_method_2_code
def yX6_in : MethodName := ⟨RX6, "in", "(III)Z"⟩
abbrev cX6_edit : ByteArray := prog_8_method_3_code
def yX6_edit : MethodName := ⟨RX6, "edit", "()V"⟩
abbrev cX6_undo : ByteArray := prog_8_method_4_code
def yX6_undo : MethodName := ⟨RX6, "undo", "()I"⟩
abbrev cX6_addSpecimen : ByteArray := prog_8_method_5_code
def yX6_addSpecimen : MethodName := ⟨RX6, "addSpecimen", "(IIII)I"⟩
abbrev cX6_isSpecimen : ByteArray := prog_8_method_6_code
def yX6_isSpecimen : MethodName := ⟨RX6, "isSpecimen", "(I)Z"⟩
abbrev cX6_removeSpecimen : ByteArray := prog_8_method_7_code
def yX6_removeSpecimen : MethodName := ⟨RX6, "removeSpecimen", "(I)I"⟩
abbrev cX6_isSide : ByteArray := prog_8_method_8_code
def yX6_isSide : MethodName := ⟨RX6, "isSide", "(I)Z"⟩
abbrev cX6_setWear : ByteArray := prog_8_method_9_code
def yX6_setWear : MethodName := ⟨RX6, "setWear", "(III)I"⟩
abbrev cX6_specimens : ByteArray := prog_8_method_10_code
def yX6_specimens : MethodName := ⟨RX6, "specimens", "(II)I"⟩
abbrev cX6_isDie : ByteArray := prog_8_method_11_code
def yX6_isDie : MethodName := ⟨RX6, "isDie", "(II)Z"⟩
abbrev cX6_mergeDies : ByteArray := prog_8_method_12_code
def yX6_mergeDies : MethodName := ⟨RX6, "mergeDies", "(III)I"⟩
abbrev cX6_specimenCount : ByteArray := prog_8_method_13_code
def yX6_specimenCount : MethodName := ⟨RX6, "specimenCount", "()I"⟩
abbrev cX6_dieOf : ByteArray := prog_8_method_14_code
def yX6_dieOf : MethodName := ⟨RX6, "dieOf", "(II)I"⟩
abbrev cX6_known : ByteArray := prog_8_method_15_code
def yX6_known : MethodName := ⟨RX6, "known", "(I)I"⟩
abbrev cX6_dieCount : ByteArray := prog_8_method_16_code
def yX6_dieCount : MethodName := ⟨RX6, "dieCount", "(I)I"⟩
abbrev cX6_frequency : ByteArray := prog_8_method_17_code
def yX6_frequency : MethodName := ⟨RX6, "frequency", "(II)I"⟩
abbrev cX6_bits : ByteArray := prog_8_method_18_code
def yX6_bits : MethodName := ⟨RX6, "bits", "(II)I"⟩
abbrev cX6_meanWearBits : ByteArray := prog_8_method_19_code
def yX6_meanWearBits : MethodName := ⟨RX6, "meanWearBits", "(II)I"⟩
abbrev cX6_isCouple : ByteArray := prog_8_method_20_code
def yX6_isCouple : MethodName := ⟨RX6, "isCouple", "(III)Z"⟩
abbrev cX6_finds : ByteArray := prog_8_method_21_code
def yX6_finds : MethodName := ⟨RX6, "finds", "()V"⟩
abbrev cX6_coupleCount : ByteArray := prog_8_method_22_code
def yX6_coupleCount : MethodName := ⟨RX6, "coupleCount", "()I"⟩
abbrev cX6_coupleAt : ByteArray := prog_8_method_23_code
def yX6_coupleAt : MethodName := ⟨RX6, "coupleAt", "(I)I"⟩
abbrev cX6_nets : ByteArray := prog_8_method_24_code
def yX6_nets : MethodName := ⟨RX6, "nets", "(I)I"⟩
abbrev cX6_componentCount : ByteArray := prog_8_method_25_code
def yX6_componentCount : MethodName := ⟨RX6, "componentCount", "()I"⟩
abbrev cX6_componentSize : ByteArray := prog_8_method_26_code
def yX6_componentSize : MethodName := ⟨RX6, "componentSize", "(II)I"⟩
abbrev cX6_cycleRank : ByteArray := prog_8_method_27_code
def yX6_cycleRank : MethodName := ⟨RX6, "cycleRank", "()I"⟩
abbrev cX6_bridgeCount : ByteArray := prog_8_method_28_code
def yX6_bridgeCount : MethodName := ⟨RX6, "bridgeCount", "()I"⟩
abbrev cX6_isBridge : ByteArray := prog_8_method_29_code
def yX6_isBridge : MethodName := ⟨RX6, "isBridge", "(I)I"⟩
abbrev cX6_isBy : ByteArray := prog_8_method_30_code
def yX6_isBy : MethodName := ⟨RX6, "isBy", "(III)Z"⟩
abbrev cX6_isEarlier : ByteArray := prog_8_method_31_code
def yX6_isEarlier : MethodName := ⟨RX6, "isEarlier", "(II)Z"⟩
abbrev cX6_compareCouples : ByteArray := prog_8_method_32_code
def yX6_compareCouples : MethodName := ⟨RX6, "compareCouples", "(II)I"⟩
abbrev cX6_places : ByteArray := prog_8_method_33_code
def yX6_places : MethodName := ⟨RX6, "places", "()Z"⟩
abbrev cX6_isConsistent : ByteArray := prog_8_method_34_code
def yX6_isConsistent : MethodName := ⟨RX6, "isConsistent", "()I"⟩
abbrev cX6_coupleInOrder : ByteArray := prog_8_method_35_code
def yX6_coupleInOrder : MethodName := ⟨RX6, "coupleInOrder", "(I)I"⟩
abbrev cX6_generation : ByteArray := prog_8_method_36_code
def yX6_generation : MethodName := ⟨RX6, "generation", "(I)I"⟩
abbrev cX6_single : ByteArray := prog_8_method_37_code
def yX6_single : MethodName := ⟨RX6, "single", "(I)I"⟩
abbrev cX6_singletons : ByteArray := prog_8_method_38_code
def yX6_singletons : MethodName := ⟨RX6, "singletons", "(I)I"⟩
abbrev cX6_coverageEstimate : ByteArray := prog_8_method_39_code
def yX6_coverageEstimate : MethodName := ⟨RX6, "coverageEstimate", "(I)I"⟩
abbrev cX6_frequencyEstimate : ByteArray := prog_8_method_40_code
def yX6_frequencyEstimate : MethodName := ⟨RX6, "frequencyEstimate", "(I)I"⟩
def RJ9 : String := "java/lang/Math"
def TJ9 : u_T := fun k => match k with
  | _ => ("", "", "", false)
def tyJ9 : Nat → FieldType := fun k => match k with
  | _ => .int
abbrev wsJ90 : List Cond := u_ws RJ9 TJ9 0
theorem nmJ9 : ∀ a, a < 0 → ∀ b, b < 0 → a ≠ b → (TJ9 a).2.1 ≠ (TJ9 b).2.1 := by decide +kernel
theorem tyJ9_ok : ∀ k, k < 0 → parseFieldDescriptor (TJ9 k).2.2.1 = some (tyJ9 k) := by decide +kernel
abbrev cJ9_max_7cf53 : ByteArray := prog_9_method_65_code
def yJ9_max_7cf53 : MethodName := ⟨RJ9, "max", "(II)I"⟩
abbrev cJ9_min_7cf53 : ByteArray := prog_9_method_69_code
def yJ9_min_7cf53 : MethodName := ⟨RJ9, "min", "(II)I"⟩
def RJ10 : String := "java/lang/System"
def TJ10 : u_T := fun k => match k with
  | _ => ("", "", "", false)
def tyJ10 : Nat → FieldType := fun k => match k with
  | _ => .int
abbrev wsJ100 : List Cond := u_ws RJ10 TJ10 0
theorem nmJ10 : ∀ a, a < 0 → ∀ b, b < 0 → a ≠ b → (TJ10 a).2.1 ≠ (TJ10 b).2.1 := by decide +kernel
theorem tyJ10_ok : ∀ k, k < 0 → parseFieldDescriptor (TJ10 k).2.2.1 = some (tyJ10 k) := by decide +kernel
def RJ7 : String := "java/util/Arrays"
def TJ7 : u_T := fun k => match k with
  | _ => ("", "", "", false)
def tyJ7 : Nat → FieldType := fun k => match k with
  | _ => .int
abbrev wsJ70 : List Cond := u_ws RJ7 TJ7 0
theorem nmJ7 : ∀ a, a < 0 → ∀ b, b < 0 → a ≠ b → (TJ7 a).2.1 ≠ (TJ7 b).2.1 := by decide +kernel
theorem tyJ7_ok : ∀ k, k < 0 → parseFieldDescriptor (TJ7 k).2.2.1 = some (tyJ7 k) := by decide +kernel
abbrev cJ7_fill_53178 : ByteArray := prog_11_method_103_code
def yJ7_fill_53178 : MethodName := ⟨RJ7, "fill", "([II)V"⟩
def RL : String := "DieStudyLaw"
abbrev cL_law : ByteArray := code
def yL_law : MethodName := ⟨RL, "law", "([I)Z"⟩
def wsL_law_r1 : List Cond := [Cond.classLink RL 7 RX5, Cond.instantiable RX5 5, Cond.initialized RX5, Cond.classLink RL 10 RX6, Cond.instantiable RX6 12, Cond.initialized RX6, Cond.methodLink RL 9 yX5_init, Cond.instanceMethod yX5_init, Cond.code yX5_init cX5_init 1 none, Cond.methodLink RX5 1 objectInit, Cond.instanceMethod objectInit, Cond.code objectInit ⟨#[0xb1]⟩ 1 none, Cond.classLink RX5 7 RX4, Cond.instantiable RX4 2, Cond.initialized RX4, Cond.fieldLink RX5 10 "DieStudy" "specimens" "LDieStudy$Specimens;", Cond.classLink RX5 16 RX2, Cond.instantiable RX2 4, Cond.initialized RX2, Cond.fieldLink RX5 19 "DieStudy" "history" "LDieStudy$History;", Cond.classLink RX5 23 RX1, Cond.instantiable RX1 5, Cond.initialized RX1, Cond.fieldLink RX5 26 "DieStudy" "couples" "LDieStudy$Couples;"]
def wsL_law_r2 : List Cond := [Cond.classLink RX5 30 RX3, Cond.instantiable RX3 3, Cond.initialized RX3, Cond.fieldLink RX5 33 "DieStudy" "graph" "LDieStudy$LinkGraph;", Cond.classLink RX5 37 RX0, Cond.instantiable RX0 3, Cond.initialized RX0, Cond.fieldLink RX5 40 "DieStudy" "chronology" "LDieStudy$Chronology;", Cond.instanceMethod yX4_init, Cond.code yX4_init cX4_init 1 none, Cond.methodLink RX4 5 objectInit, Cond.arrayClass .int, Cond.fieldLink RX4 11 "DieStudy$Specimens" "cells" "[I", Cond.fieldLink RX4 15 "DieStudy$Specimens" "count" "I", Cond.instanceMethod yX2_init, Cond.code yX2_init cX2_init 1 none, Cond.methodLink RX2 3 objectInit, Cond.fieldLink RX2 11 "DieStudy$History" "cells" "[I", Cond.fieldLink RX2 17 "DieStudy$History" "counts" "[I", Cond.fieldLink RX2 20 "DieStudy$History" "saved" "I", Cond.fieldLink RX2 24 "DieStudy$History" "next" "I", Cond.instanceMethod yX1_init, Cond.code yX1_init cX1_init 1 none, Cond.methodLink RX1 3 objectInit]
def wsL_law_r3 : List Cond := [Cond.fieldLink RX1 11 "DieStudy$Couples" "numberOfPair" "[I", Cond.classLink RX1 15 "[[I", Cond.fieldLink RX1 17 "DieStudy$Couples" "die" "[[I", Cond.fieldLink RX1 20 "DieStudy$Couples" "leastWear" "[[I", Cond.fieldLink RX1 23 "DieStudy$Couples" "greatestWear" "[[I", Cond.fieldLink RX1 26 "DieStudy$Couples" "count" "I", Cond.instanceMethod yX3_init, Cond.code yX3_init cX3_init 1 none, Cond.methodLink RX3 3 objectInit, Cond.fieldLink RX3 11 "DieStudy$LinkGraph" "component" "[I", Cond.fieldLink RX3 15 "DieStudy$LinkGraph" "dies" "I", Cond.fieldLink RX3 19 "DieStudy$LinkGraph" "components" "I", Cond.instanceMethod yX0_init, Cond.code yX0_init cX0_init 1 none, Cond.methodLink RX0 3 objectInit, Cond.fieldLink RX0 9 "DieStudy$Chronology" "order" "[I", Cond.fieldLink RX0 15 "DieStudy$Chronology" "depth" "[I", Cond.fieldLink RX0 18 "DieStudy$Chronology" "waitsFor" "[I", Cond.methodLink RL 12 yX6_init, Cond.instanceMethod yX6_init, Cond.code yX6_init cX6_init 1 none, Cond.methodLink RX6 1 objectInit, Cond.fieldLink RX6 7 "DieStudyModel" "now" "[I", Cond.fieldLink RX6 13 "DieStudyModel" "history" "[I"]
def wsL_law_r4 : List Cond := [Cond.fieldLink RX6 16 "DieStudyModel" "obverse" "[I", Cond.fieldLink RX6 19 "DieStudyModel" "reverse" "[I", Cond.fieldLink RX6 22 "DieStudyModel" "low" "[I", Cond.fieldLink RX6 25 "DieStudyModel" "high" "[I", Cond.fieldLink RX6 28 "DieStudyModel" "order" "[I", Cond.fieldLink RX6 31 "DieStudyModel" "generations" "[I", Cond.arrayClass .boolean, Cond.fieldLink RX6 34 "DieStudyModel" "placed" "[Z", Cond.fieldLink RX6 38 "DieStudyModel" "net" "[I", Cond.methodLink RL 13 yX5_addSpecimen, Cond.instanceMethod yX5_addSpecimen, Cond.selects RX5 yX5_addSpecimen yX5_addSpecimen, Cond.code yX5_addSpecimen cX5_addSpecimen 6 (some .int), Cond.methodLink RX5 44 yX5_isDie, Cond.static yX5_isDie, Cond.code yX5_isDie cX5_isDie 1 (some .boolean), Cond.methodLink RX5 48 yX5_isWear, Cond.static yX5_isWear, Cond.code yX5_isWear cX5_isWear 1 (some .boolean), Cond.instanceMethod yX2_save, Cond.selects RX2 yX2_save yX2_save, Cond.code yX2_save cX2_save 2 none, Cond.methodLink RX2 28 arraycopyName, Cond.native arraycopyName]
def wsL_law_r5 : List Cond := [Cond.static arraycopyName, Cond.initialized "java/lang/System", Cond.instanceMethod yX4_putDie, Cond.selects RX4 yX4_putDie yX4_putDie, Cond.code yX4_putDie cX4_putDie 4 none, Cond.instanceMethod yX4_putWear, Cond.selects RX4 yX4_putWear yX4_putWear, Cond.code yX4_putWear cX4_putWear 4 none, Cond.methodLink RL 17 yX6_addSpecimen, Cond.instanceMethod yX6_addSpecimen, Cond.selects RX6 yX6_addSpecimen yX6_addSpecimen, Cond.code yX6_addSpecimen cX6_addSpecimen 6 (some .int), Cond.methodLink RX6 45 yX6_in, Cond.static yX6_in, Cond.code yX6_in cX6_in 3 (some .boolean), Cond.methodLink RX6 49 yX6_edit, Cond.instanceMethod yX6_edit, Cond.selects RX6 yX6_edit yX6_edit, Cond.code yX6_edit cX6_edit 2 none, Cond.fieldLink RX6 41 "DieStudyModel" "edits" "I", Cond.methodLink RL 18 yX5_removeSpecimen, Cond.instanceMethod yX5_removeSpecimen, Cond.selects RX5 yX5_removeSpecimen yX5_removeSpecimen, Cond.code yX5_removeSpecimen cX5_removeSpecimen 2 (some .int)]
def wsL_law_r6 : List Cond := [Cond.instanceMethod yX4_has, Cond.selects RX4 yX4_has yX4_has, Cond.code yX4_has cX4_has 2 (some .boolean), Cond.instanceMethod yX4_close, Cond.selects RX4 yX4_close yX4_close, Cond.code yX4_close cX4_close 4 none, Cond.methodLink RX4 19 arraycopyName, Cond.methodLink RL 22 yX6_removeSpecimen, Cond.instanceMethod yX6_removeSpecimen, Cond.selects RX6 yX6_removeSpecimen yX6_removeSpecimen, Cond.code yX6_removeSpecimen cX6_removeSpecimen 3 (some .int), Cond.methodLink RX6 52 yX6_isSpecimen, Cond.instanceMethod yX6_isSpecimen, Cond.selects RX6 yX6_isSpecimen yX6_isSpecimen, Cond.code yX6_isSpecimen cX6_isSpecimen 2 (some .boolean), Cond.methodLink RL 23 yX5_setWear, Cond.instanceMethod yX5_setWear, Cond.selects RX5 yX5_setWear yX5_setWear, Cond.code yX5_setWear cX5_setWear 5 (some .int), Cond.methodLink RX5 73 yX5_isSide, Cond.static yX5_isSide, Cond.code yX5_isSide cX5_isSide 1 (some .boolean), Cond.instanceMethod yX4_wear, Cond.selects RX4 yX4_wear yX4_wear]
def wsL_law_r7 : List Cond := [Cond.code yX4_wear cX4_wear 3 (some .int), Cond.methodLink RL 27 yX6_setWear, Cond.instanceMethod yX6_setWear, Cond.selects RX6 yX6_setWear yX6_setWear, Cond.code yX6_setWear cX6_setWear 5 (some .int), Cond.methodLink RX6 56 yX6_isSide, Cond.static yX6_isSide, Cond.code yX6_isSide cX6_isSide 1 (some .boolean), Cond.methodLink RL 28 yX5_mergeDies, Cond.instanceMethod yX5_mergeDies, Cond.selects RX5 yX5_mergeDies yX5_mergeDies, Cond.code yX5_mergeDies cX5_mergeDies 4 (some .int), Cond.instanceMethod yX4_struckWith, Cond.selects RX4 yX4_struckWith yX4_struckWith, Cond.code yX4_struckWith cX4_struckWith 5 (some .int), Cond.methodLink RX4 25 yX4_die, Cond.instanceMethod yX4_die, Cond.selects RX4 yX4_die yX4_die, Cond.code yX4_die cX4_die 3 (some .int), Cond.instanceMethod yX4_replaceDie, Cond.selects RX4 yX4_replaceDie yX4_replaceDie, Cond.code yX4_replaceDie cX4_replaceDie 6 (some .int), Cond.methodLink RX4 29 yX4_putDie, Cond.methodLink RL 31 yX6_mergeDies]
def wsL_law_r8 : List Cond := [Cond.instanceMethod yX6_mergeDies, Cond.selects RX6 yX6_mergeDies yX6_mergeDies, Cond.code yX6_mergeDies cX6_mergeDies 6 (some .int), Cond.methodLink RX6 59 yX6_isDie, Cond.static yX6_isDie, Cond.code yX6_isDie cX6_isDie 2 (some .boolean), Cond.methodLink RX6 63 yX6_specimens, Cond.instanceMethod yX6_specimens, Cond.selects RX6 yX6_specimens yX6_specimens, Cond.code yX6_specimens cX6_specimens 5 (some .int), Cond.methodLink RL 32 yX5_specimenCount, Cond.instanceMethod yX5_specimenCount, Cond.selects RX5 yX5_specimenCount yX5_specimenCount, Cond.code yX5_specimenCount cX5_specimenCount 1 (some .int), Cond.methodLink RL 36 yX6_specimenCount, Cond.instanceMethod yX6_specimenCount, Cond.selects RX6 yX6_specimenCount yX6_specimenCount, Cond.code yX6_specimenCount cX6_specimenCount 1 (some .int), Cond.methodLink RL 37 yX5_dieOf, Cond.instanceMethod yX5_dieOf, Cond.selects RX5 yX5_dieOf yX5_dieOf, Cond.code yX5_dieOf cX5_dieOf 3 (some .int), Cond.methodLink RL 41 yX6_dieOf, Cond.instanceMethod yX6_dieOf]
def wsL_law_r9 : List Cond := [Cond.selects RX6 yX6_dieOf yX6_dieOf, Cond.code yX6_dieOf cX6_dieOf 3 (some .int), Cond.methodLink RL 42 yX5_dieCount, Cond.instanceMethod yX5_dieCount, Cond.selects RX5 yX5_dieCount yX5_dieCount, Cond.code yX5_dieCount cX5_dieCount 2 (some .int), Cond.instanceMethod yX4_knownDies, Cond.selects RX4 yX4_knownDies yX4_knownDies, Cond.code yX4_knownDies cX4_knownDies 4 (some .int), Cond.methodLink RX4 36 yX4_struckWith, Cond.methodLink RL 45 yX6_dieCount, Cond.instanceMethod yX6_dieCount, Cond.selects RX6 yX6_dieCount yX6_dieCount, Cond.code yX6_dieCount cX6_dieCount 2 (some .int), Cond.methodLink RX6 67 yX6_known, Cond.instanceMethod yX6_known, Cond.selects RX6 yX6_known yX6_known, Cond.code yX6_known cX6_known 4 (some .int), Cond.methodLink RL 46 yX5_frequency, Cond.instanceMethod yX5_frequency, Cond.selects RX5 yX5_frequency yX5_frequency, Cond.code yX5_frequency cX5_frequency 3 (some .int), Cond.methodLink RL 49 yX6_frequency, Cond.instanceMethod yX6_frequency]
def wsL_law_r10 : List Cond := [Cond.selects RX6 yX6_frequency yX6_frequency, Cond.code yX6_frequency cX6_frequency 3 (some .int), Cond.methodLink RL 50 yX5_meanWearBits, Cond.instanceMethod yX5_meanWearBits, Cond.selects RX5 yX5_meanWearBits yX5_meanWearBits, Cond.code yX5_meanWearBits cX5_meanWearBits 4 (some .int), Cond.instanceMethod yX4_wearSum, Cond.selects RX4 yX4_wearSum yX4_wearSum, Cond.code yX4_wearSum cX4_wearSum 5 (some .int), Cond.methodLink RX4 33 yX4_wear, Cond.methodLink RX5 97 yX5_bitsOf, Cond.static yX5_bitsOf, Cond.code yX5_bitsOf cX5_bitsOf 4 (some .int), Cond.constantFloat RX5 156 (1258291200), Cond.methodLink RL 53 yX6_meanWearBits, Cond.instanceMethod yX6_meanWearBits, Cond.selects RX6 yX6_meanWearBits yX6_meanWearBits, Cond.code yX6_meanWearBits cX6_meanWearBits 6 (some .int), Cond.methodLink RX6 73 yX6_bits, Cond.static yX6_bits, Cond.code yX6_bits cX6_bits 9 (some .int), Cond.constantLong RX6 71 (2), Cond.methodLink RL 54 yX5_coupleCount, Cond.instanceMethod yX5_coupleCount]
def wsL_law_r11 : List Cond := [Cond.selects RX5 yX5_coupleCount yX5_coupleCount, Cond.code yX5_coupleCount cX5_coupleCount 1 (some .int), Cond.instanceMethod yX1_list, Cond.selects RX1 yX1_list yX1_list, Cond.code yX1_list cX1_list 4 none, Cond.methodLink RX1 30 yX1_markPairs, Cond.instanceMethod yX1_markPairs, Cond.selects RX1 yX1_markPairs yX1_markPairs, Cond.code yX1_markPairs cX1_markPairs 3 none, Cond.methodLink RX1 58 yJ7_fill_53178, Cond.static yJ7_fill_53178, Cond.initialized RJ7, Cond.code yJ7_fill_53178 cJ7_fill_53178 4 none, Cond.methodLink RX1 40 yX1_pairOf, Cond.static yX1_pairOf, Cond.code yX1_pairOf cX1_pairOf 2 (some .int), Cond.methodLink RX1 34 yX1_numberPairs, Cond.instanceMethod yX1_numberPairs, Cond.selects RX1 yX1_numberPairs yX1_numberPairs, Cond.code yX1_numberPairs cX1_numberPairs 2 none, Cond.methodLink RX1 64 yX1_enter, Cond.instanceMethod yX1_enter, Cond.selects RX1 yX1_enter yX1_enter, Cond.code yX1_enter cX1_enter 4 none]
def wsL_law_r12 : List Cond := [Cond.methodLink RX1 44 yX1_has, Cond.instanceMethod yX1_has, Cond.selects RX1 yX1_has yX1_has, Cond.code yX1_has cX1_has 2 (some .boolean), Cond.methodLink RX1 52 yX1_spanWear, Cond.instanceMethod yX1_spanWear, Cond.selects RX1 yX1_spanWear yX1_spanWear, Cond.code yX1_spanWear cX1_spanWear 4 none, Cond.methodLink RX1 68 Lib.Math.min.name, Cond.static Lib.Math.min.name, Cond.initialized "java/lang/Math", Cond.code Lib.Math.min.name Lib.Math.min.code 2 (some .int), Cond.methodLink RX1 73 Lib.Math.max.name, Cond.static Lib.Math.max.name, Cond.code Lib.Math.max.name Lib.Math.max.code 2 (some .int), Cond.methodLink RL 57 yX6_coupleCount, Cond.instanceMethod yX6_coupleCount, Cond.selects RX6 yX6_coupleCount yX6_coupleCount, Cond.code yX6_coupleCount cX6_coupleCount 1 (some .int), Cond.fieldLink RX6 76 "DieStudyModel" "couples" "I", Cond.methodLink RX6 82 yX6_finds, Cond.instanceMethod yX6_finds, Cond.selects RX6 yX6_finds yX6_finds, Cond.code yX6_finds cX6_finds 7 none]
def wsL_law_r13 : List Cond := [Cond.methodLink RX6 79 yX6_isCouple, Cond.instanceMethod yX6_isCouple, Cond.selects RX6 yX6_isCouple yX6_isCouple, Cond.code yX6_isCouple cX6_isCouple 4 (some .boolean), Cond.methodLink RL 58 yX5_coupleAt, Cond.instanceMethod yX5_coupleAt, Cond.selects RX5 yX5_coupleAt yX5_coupleAt, Cond.code yX5_coupleAt cX5_coupleAt 3 (some .int), Cond.methodLink RX5 105 yX5_errorOfPlace, Cond.instanceMethod yX5_errorOfPlace, Cond.selects RX5 yX5_errorOfPlace yX5_errorOfPlace, Cond.code yX5_errorOfPlace cX5_errorOfPlace 2 (some .int), Cond.methodLink RL 61 yX6_coupleAt, Cond.instanceMethod yX6_coupleAt, Cond.selects RX6 yX6_coupleAt yX6_coupleAt, Cond.code yX6_coupleAt cX6_coupleAt 2 (some .int), Cond.methodLink RL 62 yX5_componentCount, Cond.instanceMethod yX5_componentCount, Cond.selects RX5 yX5_componentCount yX5_componentCount, Cond.code yX5_componentCount cX5_componentCount 1 (some .int), Cond.instanceMethod yX3_connect, Cond.selects RX3 yX3_connect yX3_connect, Cond.code yX3_connect cX3_connect 4 none, Cond.methodLink RX3 22 yX3_enterDies]
def wsL_law_r14 : List Cond := [Cond.instanceMethod yX3_enterDies, Cond.selects RX3 yX3_enterDies yX3_enterDies, Cond.code yX3_enterDies cX3_enterDies 3 none, Cond.methodLink RX3 50 yJ7_fill_53178, Cond.methodLink RX3 31 yX3_obverseOf, Cond.static yX3_obverseOf, Cond.code yX3_obverseOf cX3_obverseOf 2 (some .int), Cond.methodLink RX3 46 yX3_vertexOf, Cond.static yX3_vertexOf, Cond.code yX3_vertexOf cX3_vertexOf 2 (some .int), Cond.methodLink RX3 56 yX3_enterDie, Cond.instanceMethod yX3_enterDie, Cond.selects RX3 yX3_enterDie yX3_enterDie, Cond.code yX3_enterDie cX3_enterDie 2 none, Cond.methodLink RX3 35 yX3_reverseOf, Cond.static yX3_reverseOf, Cond.code yX3_reverseOf cX3_reverseOf 2 (some .int), Cond.methodLink RX3 38 yX3_join, Cond.instanceMethod yX3_join, Cond.selects RX3 yX3_join yX3_join, Cond.code yX3_join cX3_join 6 none, Cond.methodLink RL 65 yX6_componentCount, Cond.instanceMethod yX6_componentCount, Cond.selects RX6 yX6_componentCount yX6_componentCount]
def wsL_law_r15 : List Cond := [Cond.code yX6_componentCount cX6_componentCount 1 (some .int), Cond.methodLink RX6 85 yX6_nets, Cond.instanceMethod yX6_nets, Cond.selects RX6 yX6_nets yX6_nets, Cond.code yX6_nets cX6_nets 6 (some .int), Cond.methodLink RL 66 yX5_componentSize, Cond.instanceMethod yX5_componentSize, Cond.selects RX5 yX5_componentSize yX5_componentSize, Cond.code yX5_componentSize cX5_componentSize 4 (some .int), Cond.instanceMethod yX3_diesAround, Cond.selects RX3 yX3_diesAround yX3_diesAround, Cond.code yX3_diesAround cX3_diesAround 6 (some .int), Cond.methodLink RL 69 yX6_componentSize, Cond.instanceMethod yX6_componentSize, Cond.selects RX6 yX6_componentSize yX6_componentSize, Cond.code yX6_componentSize cX6_componentSize 5 (some .int), Cond.methodLink RL 70 yX5_cycleRank, Cond.instanceMethod yX5_cycleRank, Cond.selects RX5 yX5_cycleRank yX5_cycleRank, Cond.code yX5_cycleRank cX5_cycleRank 1 (some .int), Cond.methodLink RL 73 yX6_cycleRank, Cond.instanceMethod yX6_cycleRank, Cond.selects RX6 yX6_cycleRank yX6_cycleRank, Cond.code yX6_cycleRank cX6_cycleRank 1 (some .int)]
def wsL_law_r16 : List Cond := [Cond.methodLink RL 74 yX5_bridgeCount, Cond.instanceMethod yX5_bridgeCount, Cond.selects RX5 yX5_bridgeCount yX5_bridgeCount, Cond.code yX5_bridgeCount cX5_bridgeCount 3 (some .int), Cond.instanceMethod yX3_fallsApartWithout, Cond.selects RX3 yX3_fallsApartWithout yX3_fallsApartWithout, Cond.code yX3_fallsApartWithout cX3_fallsApartWithout 3 (some .boolean), Cond.methodLink RX3 60 yX3_connect, Cond.methodLink RL 77 yX6_bridgeCount, Cond.instanceMethod yX6_bridgeCount, Cond.selects RX6 yX6_bridgeCount yX6_bridgeCount, Cond.code yX6_bridgeCount cX6_bridgeCount 4 (some .int), Cond.methodLink RL 78 yX5_isBridge, Cond.instanceMethod yX5_isBridge, Cond.selects RX5 yX5_isBridge yX5_isBridge, Cond.code yX5_isBridge cX5_isBridge 3 (some .int), Cond.methodLink RL 81 yX6_isBridge, Cond.instanceMethod yX6_isBridge, Cond.selects RX6 yX6_isBridge yX6_isBridge, Cond.code yX6_isBridge cX6_isBridge 2 (some .int), Cond.methodLink RL 82 yX5_compareCouples, Cond.instanceMethod yX5_compareCouples, Cond.selects RX5 yX5_compareCouples yX5_compareCouples, Cond.code yX5_compareCouples cX5_compareCouples 3 (some .int)]
def wsL_law_r17 : List Cond := [Cond.instanceMethod yX1_isEarlier, Cond.selects RX1 yX1_isEarlier yX1_isEarlier, Cond.code yX1_isEarlier cX1_isEarlier 3 (some .boolean), Cond.methodLink RX1 76 yX1_isEarlierBy, Cond.instanceMethod yX1_isEarlierBy, Cond.selects RX1 yX1_isEarlierBy yX1_isEarlierBy, Cond.code yX1_isEarlierBy cX1_isEarlierBy 4 (some .boolean), Cond.methodLink RL 85 yX6_compareCouples, Cond.instanceMethod yX6_compareCouples, Cond.selects RX6 yX6_compareCouples yX6_compareCouples, Cond.code yX6_compareCouples cX6_compareCouples 3 (some .int), Cond.methodLink RX6 91 yX6_isEarlier, Cond.instanceMethod yX6_isEarlier, Cond.selects RX6 yX6_isEarlier yX6_isEarlier, Cond.code yX6_isEarlier cX6_isEarlier 3 (some .boolean), Cond.methodLink RX6 88 yX6_isBy, Cond.instanceMethod yX6_isBy, Cond.selects RX6 yX6_isBy yX6_isBy, Cond.code yX6_isBy cX6_isBy 4 (some .boolean), Cond.methodLink RL 86 yX5_isConsistent, Cond.instanceMethod yX5_isConsistent, Cond.selects RX5 yX5_isConsistent yX5_isConsistent, Cond.code yX5_isConsistent cX5_isConsistent 1 (some .int), Cond.instanceMethod yX0_arrange]
def wsL_law_r18 : List Cond := [Cond.selects RX0 yX0_arrange yX0_arrange, Cond.code yX0_arrange cX0_arrange 4 (some .boolean), Cond.methodLink RX0 21 yX0_countEarlier, Cond.instanceMethod yX0_countEarlier, Cond.selects RX0 yX0_countEarlier yX0_countEarlier, Cond.code yX0_countEarlier cX0_countEarlier 4 none, Cond.methodLink RX0 39 yJ7_fill_53178, Cond.methodLink RX0 31 yX0_lowestThatWaitsForNone, Cond.instanceMethod yX0_lowestThatWaitsForNone, Cond.selects RX0 yX0_lowestThatWaitsForNone yX0_lowestThatWaitsForNone, Cond.code yX0_lowestThatWaitsForNone cX0_lowestThatWaitsForNone 3 (some .int), Cond.methodLink RX0 35 yX0_releaseLater, Cond.instanceMethod yX0_releaseLater, Cond.selects RX0 yX0_releaseLater yX0_releaseLater, Cond.code yX0_releaseLater cX0_releaseLater 4 none, Cond.methodLink RX0 49 Lib.Math.max.name, Cond.methodLink RL 89 yX6_isConsistent, Cond.instanceMethod yX6_isConsistent, Cond.selects RX6 yX6_isConsistent yX6_isConsistent, Cond.code yX6_isConsistent cX6_isConsistent 1 (some .int), Cond.methodLink RX6 94 yX6_places, Cond.instanceMethod yX6_places, Cond.selects RX6 yX6_places yX6_places, Cond.code yX6_places cX6_places 6 (some .boolean)]
def wsL_law_r19 : List Cond := [Cond.methodLink RL 90 yX5_coupleInOrder, Cond.instanceMethod yX5_coupleInOrder, Cond.selects RX5 yX5_coupleInOrder yX5_coupleInOrder, Cond.code yX5_coupleInOrder cX5_coupleInOrder 3 (some .int), Cond.methodLink RL 93 yX6_coupleInOrder, Cond.instanceMethod yX6_coupleInOrder, Cond.selects RX6 yX6_coupleInOrder yX6_coupleInOrder, Cond.code yX6_coupleInOrder cX6_coupleInOrder 2 (some .int), Cond.methodLink RL 94 yX5_generation, Cond.instanceMethod yX5_generation, Cond.selects RX5 yX5_generation yX5_generation, Cond.code yX5_generation cX5_generation 3 (some .int), Cond.methodLink RL 97 yX6_generation, Cond.instanceMethod yX6_generation, Cond.selects RX6 yX6_generation yX6_generation, Cond.code yX6_generation cX6_generation 2 (some .int), Cond.methodLink RL 98 yX5_singletons, Cond.instanceMethod yX5_singletons, Cond.selects RX5 yX5_singletons yX5_singletons, Cond.code yX5_singletons cX5_singletons 2 (some .int), Cond.instanceMethod yX4_diesStruckOnce, Cond.selects RX4 yX4_diesStruckOnce yX4_diesStruckOnce, Cond.code yX4_diesStruckOnce cX4_diesStruckOnce 4 (some .int), Cond.methodLink RL 101 yX6_singletons]
def wsL_law_r20 : List Cond := [Cond.instanceMethod yX6_singletons, Cond.selects RX6 yX6_singletons yX6_singletons, Cond.code yX6_singletons cX6_singletons 2 (some .int), Cond.methodLink RX6 98 yX6_single, Cond.instanceMethod yX6_single, Cond.selects RX6 yX6_single yX6_single, Cond.code yX6_single cX6_single 4 (some .int), Cond.methodLink RL 102 yX5_coverageEstimate, Cond.instanceMethod yX5_coverageEstimate, Cond.selects RX5 yX5_coverageEstimate yX5_coverageEstimate, Cond.code yX5_coverageEstimate cX5_coverageEstimate 4 (some .int), Cond.methodLink RL 105 yX6_coverageEstimate, Cond.instanceMethod yX6_coverageEstimate, Cond.selects RX6 yX6_coverageEstimate yX6_coverageEstimate, Cond.code yX6_coverageEstimate cX6_coverageEstimate 4 (some .int), Cond.methodLink RL 106 yX5_frequencyEstimate, Cond.instanceMethod yX5_frequencyEstimate, Cond.selects RX5 yX5_frequencyEstimate yX5_frequencyEstimate, Cond.code yX5_frequencyEstimate cX5_frequencyEstimate 5 (some .int), Cond.methodLink RX5 147 yX5_divisorOfFrequencyEstimate, Cond.static yX5_divisorOfFrequencyEstimate, Cond.code yX5_divisorOfFrequencyEstimate cX5_divisorOfFrequencyEstimate 2 (some .int), Cond.methodLink RL 109 yX6_frequencyEstimate, Cond.instanceMethod yX6_frequencyEstimate]
def wsL_law_r21 : List Cond := [Cond.selects RX6 yX6_frequencyEstimate yX6_frequencyEstimate, Cond.code yX6_frequencyEstimate cX6_frequencyEstimate 5 (some .int), Cond.constant RX6 101 (1000000), Cond.methodLink RL 110 yX5_undo, Cond.instanceMethod yX5_undo, Cond.selects RX5 yX5_undo yX5_undo, Cond.code yX5_undo cX5_undo 1 (some .int), Cond.instanceMethod yX2_restore, Cond.selects RX2 yX2_restore yX2_restore, Cond.code yX2_restore cX2_restore 2 none, Cond.methodLink RL 113 yX6_undo, Cond.instanceMethod yX6_undo, Cond.selects RX6 yX6_undo yX6_undo, Cond.code yX6_undo cX6_undo 2 (some .int)]
def wsL_law : List Cond := (wsL_law_r1 ++ (wsL_law_r2 ++ (wsL_law_r3 ++ (wsL_law_r4 ++ (wsL_law_r5 ++ (wsL_law_r6 ++ (wsL_law_r7 ++ (wsL_law_r8 ++ (wsL_law_r9 ++ (wsL_law_r10 ++ (wsL_law_r11 ++ (wsL_law_r12 ++ (wsL_law_r13 ++ (wsL_law_r14 ++ (wsL_law_r15 ++ (wsL_law_r16 ++ (wsL_law_r17 ++ (wsL_law_r18 ++ (wsL_law_r19 ++ (wsL_law_r20 ++ wsL_law_r21)))))))))))))))))))) ++ wsX50 ++ wsX60 ++ wsX40 ++ wsX20 ++ wsX10 ++ wsX30 ++ wsX00 ++ ([] : List Cond)
theorem inlX0 : ∀ w ∈ wsX00, w ∈ wsL_law := fun _ h => List.mem_append_left _ (List.mem_append_right _ h)
theorem inlX1 : ∀ w ∈ wsX10, w ∈ wsL_law := fun _ h => List.mem_append_left _ (List.mem_append_left _ (List.mem_append_left _ (List.mem_append_right _ h)))
theorem inlX2 : ∀ w ∈ wsX20, w ∈ wsL_law := fun _ h => List.mem_append_left _ (List.mem_append_left _ (List.mem_append_left _ (List.mem_append_left _ (List.mem_append_right _ h))))
theorem inlX3 : ∀ w ∈ wsX30, w ∈ wsL_law := fun _ h => List.mem_append_left _ (List.mem_append_left _ (List.mem_append_right _ h))
theorem inlX4 : ∀ w ∈ wsX40, w ∈ wsL_law := fun _ h => List.mem_append_left _ (List.mem_append_left _ (List.mem_append_left _ (List.mem_append_left _ (List.mem_append_left _ (List.mem_append_right _ h)))))
theorem inlX5 : ∀ w ∈ wsX50, w ∈ wsL_law := fun _ h => List.mem_append_left _ (List.mem_append_left _ (List.mem_append_left _ (List.mem_append_left _ (List.mem_append_left _ (List.mem_append_left _ (List.mem_append_left _ (List.mem_append_right _ h)))))))
theorem inlX6 : ∀ w ∈ wsX60, w ∈ wsL_law := fun _ h => List.mem_append_left _ (List.mem_append_left _ (List.mem_append_left _ (List.mem_append_left _ (List.mem_append_left _ (List.mem_append_left _ (List.mem_append_right _ h))))))
abbrev vwCl : List vw_C := [(RX0, TX0, 3), (RX1, TX1, 5), (RX2, TX2, 4), (RX3, TX3, 3), (RX4, TX4, 2), (RX5, TX5, 5), (RX6, TX6, 12)]
end
section
theorem dX0_init_0 : decode cX0_init 0 = .ok (.aload_n 0, 1) := by decide +kernel
theorem dX0_init_1 : decode cX0_init 1 = .ok (.invokespecial 3, 3) := by decide +kernel
theorem dX0_init_4 : decode cX0_init 4 = .ok (.aload_n 0, 1) := by decide +kernel
theorem dX0_init_5 : decode cX0_init 5 = .ok (.bipush 24, 2) := by decide +kernel
theorem dX0_init_7 : decode cX0_init 7 = .ok (.newarray .int, 2) := by decide +kernel
theorem dX0_init_9 : decode cX0_init 9 = .ok (.putfield 9, 3) := by decide +kernel
theorem dX0_init_12 : decode cX0_init 12 = .ok (.aload_n 0, 1) := by decide +kernel
theorem dX0_init_13 : decode cX0_init 13 = .ok (.bipush 24, 2) := by decide +kernel
theorem dX0_init_15 : decode cX0_init 15 = .ok (.newarray .int, 2) := by decide +kernel
theorem dX0_init_17 : decode cX0_init 17 = .ok (.putfield 15, 3) := by decide +kernel
theorem dX0_init_20 : decode cX0_init 20 = .ok (.aload_n 0, 1) := by decide +kernel
theorem dX0_init_21 : decode cX0_init 21 = .ok (.bipush 24, 2) := by decide +kernel
theorem dX0_init_23 : decode cX0_init 23 = .ok (.newarray .int, 2) := by decide +kernel
theorem dX0_init_25 : decode cX0_init 25 = .ok (.putfield 18, 3) := by decide +kernel
theorem dX0_init_28 : decode cX0_init 28 = .ok (.return_, 1) := by decide +kernel
theorem dX0_arrange_0 : decode cX0_arrange 0 = .ok (.aload_n 0, 1) := by decide +kernel
theorem dX0_arrange_1 : decode cX0_arrange 1 = .ok (.aload_n 1, 1) := by decide +kernel
theorem dX0_arrange_2 : decode cX0_arrange 2 = .ok (.invokevirtual 21, 3) := by decide +kernel
theorem dX0_arrange_5 : decode cX0_arrange 5 = .ok (.iconst 0, 1) := by decide +kernel
theorem dX0_arrange_6 : decode cX0_arrange 6 = .ok (.istore_n 2, 1) := by decide +kernel
theorem dX0_arrange_7 : decode cX0_arrange 7 = .ok (.iload_n 2, 1) := by decide +kernel
theorem dX0_arrange_8 : decode cX0_arrange 8 = .ok (.aload_n 1, 1) := by decide +kernel
theorem dX0_arrange_9 : decode cX0_arrange 9 = .ok (.getfield 25, 3) := by decide +kernel
theorem dX0_arrange_12 : decode cX0_arrange 12 = .ok (.if_icmp .ge 45, 3) := by decide +kernel
theorem dX0_arrange_15 : decode cX0_arrange 15 = .ok (.aload_n 0, 1) := by decide +kernel
theorem dX0_arrange_16 : decode cX0_arrange 16 = .ok (.aload_n 1, 1) := by decide +kernel
theorem dX0_arrange_17 : decode cX0_arrange 17 = .ok (.getfield 25, 3) := by decide +kernel
theorem dX0_arrange_20 : decode cX0_arrange 20 = .ok (.invokevirtual 31, 3) := by decide +kernel
theorem dX0_arrange_23 : decode cX0_arrange 23 = .ok (.istore_n 3, 1) := by decide +kernel
theorem dX0_arrange_24 : decode cX0_arrange 24 = .ok (.iload_n 3, 1) := by decide +kernel
theorem dX0_arrange_25 : decode cX0_arrange 25 = .ok (.iconst (-1), 1) := by decide +kernel
theorem dX0_arrange_26 : decode cX0_arrange 26 = .ok (.if_icmp .ne 5, 3) := by decide +kernel
theorem dX0_arrange_29 : decode cX0_arrange 29 = .ok (.iconst 0, 1) := by decide +kernel
theorem dX0_arrange_30 : decode cX0_arrange 30 = .ok (.ireturn, 1) := by decide +kernel
theorem dX0_arrange_31 : decode cX0_arrange 31 = .ok (.aload_n 0, 1) := by decide +kernel
theorem dX0_arrange_32 : decode cX0_arrange 32 = .ok (.getfield 9, 3) := by decide +kernel
theorem dX0_arrange_35 : decode cX0_arrange 35 = .ok (.iload_n 2, 1) := by decide +kernel
theorem dX0_arrange_36 : decode cX0_arrange 36 = .ok (.iload_n 3, 1) := by decide +kernel
theorem dX0_arrange_37 : decode cX0_arrange 37 = .ok (.iastore, 1) := by decide +kernel
theorem dX0_arrange_38 : decode cX0_arrange 38 = .ok (.aload_n 0, 1) := by decide +kernel
theorem dX0_arrange_39 : decode cX0_arrange 39 = .ok (.getfield 18, 3) := by decide +kernel
theorem dX0_arrange_42 : decode cX0_arrange 42 = .ok (.iload_n 3, 1) := by decide +kernel
theorem dX0_arrange_43 : decode cX0_arrange 43 = .ok (.iconst (-1), 1) := by decide +kernel
theorem dX0_arrange_44 : decode cX0_arrange 44 = .ok (.iastore, 1) := by decide +kernel
theorem dX0_arrange_45 : decode cX0_arrange 45 = .ok (.aload_n 0, 1) := by decide +kernel
theorem dX0_arrange_46 : decode cX0_arrange 46 = .ok (.aload_n 1, 1) := by decide +kernel
theorem dX0_arrange_47 : decode cX0_arrange 47 = .ok (.iload_n 3, 1) := by decide +kernel
theorem dX0_arrange_48 : decode cX0_arrange 48 = .ok (.invokevirtual 35, 3) := by decide +kernel
theorem dX0_arrange_51 : decode cX0_arrange 51 = .ok (.iinc 2 1, 3) := by decide +kernel
theorem dX0_arrange_54 : decode cX0_arrange 54 = .ok (.goto (-47), 3) := by decide +kernel
theorem dX0_arrange_57 : decode cX0_arrange 57 = .ok (.iconst 1, 1) := by decide +kernel
theorem dX0_arrange_58 : decode cX0_arrange 58 = .ok (.ireturn, 1) := by decide +kernel
theorem dX0_countEarlier_0 : decode cX0_countEarlier 0 = .ok (.aload_n 0, 1) := by decide +kernel
theorem dX0_countEarlier_1 : decode cX0_countEarlier 1 = .ok (.getfield 18, 3) := by decide +kernel
theorem dX0_countEarlier_4 : decode cX0_countEarlier 4 = .ok (.iconst 0, 1) := by decide +kernel
theorem dX0_countEarlier_5 : decode cX0_countEarlier 5 = .ok (.invokestatic 39, 3) := by decide +kernel
theorem dX0_countEarlier_8 : decode cX0_countEarlier 8 = .ok (.aload_n 0, 1) := by decide +kernel
theorem dX0_countEarlier_9 : decode cX0_countEarlier 9 = .ok (.getfield 15, 3) := by decide +kernel
theorem dX0_countEarlier_12 : decode cX0_countEarlier 12 = .ok (.iconst 0, 1) := by decide +kernel
theorem dX0_countEarlier_13 : decode cX0_countEarlier 13 = .ok (.invokestatic 39, 3) := by decide +kernel
theorem dX0_countEarlier_16 : decode cX0_countEarlier 16 = .ok (.iconst 0, 1) := by decide +kernel
theorem dX0_countEarlier_17 : decode cX0_countEarlier 17 = .ok (.istore_n 2, 1) := by decide +kernel
theorem dX0_countEarlier_18 : decode cX0_countEarlier 18 = .ok (.iload_n 2, 1) := by decide +kernel
theorem dX0_countEarlier_19 : decode cX0_countEarlier 19 = .ok (.aload_n 1, 1) := by decide +kernel
theorem dX0_countEarlier_20 : decode cX0_countEarlier 20 = .ok (.getfield 25, 3) := by decide +kernel
theorem dX0_countEarlier_23 : decode cX0_countEarlier 23 = .ok (.if_icmp .ge 49, 3) := by decide +kernel
theorem dX0_countEarlier_26 : decode cX0_countEarlier 26 = .ok (.iconst 0, 1) := by decide +kernel
theorem dX0_countEarlier_27 : decode cX0_countEarlier 27 = .ok (.istore_n 3, 1) := by decide +kernel
theorem dX0_countEarlier_28 : decode cX0_countEarlier 28 = .ok (.iload_n 3, 1) := by decide +kernel
theorem dX0_countEarlier_29 : decode cX0_countEarlier 29 = .ok (.aload_n 1, 1) := by decide +kernel
theorem dX0_countEarlier_30 : decode cX0_countEarlier 30 = .ok (.getfield 25, 3) := by decide +kernel
theorem dX0_countEarlier_33 : decode cX0_countEarlier 33 = .ok (.if_icmp .ge 33, 3) := by decide +kernel
theorem dX0_countEarlier_36 : decode cX0_countEarlier 36 = .ok (.iload_n 3, 1) := by decide +kernel
theorem dX0_countEarlier_37 : decode cX0_countEarlier 37 = .ok (.iload_n 2, 1) := by decide +kernel
theorem dX0_countEarlier_38 : decode cX0_countEarlier 38 = .ok (.if_icmp .eq 22, 3) := by decide +kernel
theorem dX0_countEarlier_41 : decode cX0_countEarlier 41 = .ok (.aload_n 1, 1) := by decide +kernel
theorem dX0_countEarlier_42 : decode cX0_countEarlier 42 = .ok (.iload_n 3, 1) := by decide +kernel
theorem dX0_countEarlier_43 : decode cX0_countEarlier 43 = .ok (.iload_n 2, 1) := by decide +kernel
theorem dX0_countEarlier_44 : decode cX0_countEarlier 44 = .ok (.invokevirtual 45, 3) := by decide +kernel
theorem dX0_countEarlier_47 : decode cX0_countEarlier 47 = .ok (.ifCond .eq 13, 3) := by decide +kernel
theorem dX0_countEarlier_50 : decode cX0_countEarlier 50 = .ok (.aload_n 0, 1) := by decide +kernel
theorem dX0_countEarlier_51 : decode cX0_countEarlier 51 = .ok (.getfield 18, 3) := by decide +kernel
theorem dX0_countEarlier_54 : decode cX0_countEarlier 54 = .ok (.iload_n 2, 1) := by decide +kernel
theorem dX0_countEarlier_55 : decode cX0_countEarlier 55 = .ok (.dup2, 1) := by decide +kernel
theorem dX0_countEarlier_56 : decode cX0_countEarlier 56 = .ok (.iaload, 1) := by decide +kernel
theorem dX0_countEarlier_57 : decode cX0_countEarlier 57 = .ok (.iconst 1, 1) := by decide +kernel
theorem dX0_countEarlier_58 : decode cX0_countEarlier 58 = .ok (.iadd, 1) := by decide +kernel
theorem dX0_countEarlier_59 : decode cX0_countEarlier 59 = .ok (.iastore, 1) := by decide +kernel
theorem dX0_countEarlier_60 : decode cX0_countEarlier 60 = .ok (.iinc 3 1, 3) := by decide +kernel
theorem dX0_countEarlier_63 : decode cX0_countEarlier 63 = .ok (.goto (-35), 3) := by decide +kernel
theorem dX0_countEarlier_66 : decode cX0_countEarlier 66 = .ok (.iinc 2 1, 3) := by decide +kernel
theorem dX0_countEarlier_69 : decode cX0_countEarlier 69 = .ok (.goto (-51), 3) := by decide +kernel
theorem dX0_countEarlier_72 : decode cX0_countEarlier 72 = .ok (.return_, 1) := by decide +kernel
theorem dX0_lowestThatWaitsForNone_0 : decode cX0_lowestThatWaitsForNone 0 = .ok (.iconst 0, 1) := by decide +kernel
theorem dX0_lowestThatWaitsForNone_1 : decode cX0_lowestThatWaitsForNone 1 = .ok (.istore_n 2, 1) := by decide +kernel
theorem dX0_lowestThatWaitsForNone_2 : decode cX0_lowestThatWaitsForNone 2 = .ok (.iload_n 2, 1) := by decide +kernel
theorem dX0_lowestThatWaitsForNone_3 : decode cX0_lowestThatWaitsForNone 3 = .ok (.iload_n 1, 1) := by decide +kernel
theorem dX0_lowestThatWaitsForNone_4 : decode cX0_lowestThatWaitsForNone 4 = .ok (.if_icmp .ge 20, 3) := by decide +kernel
theorem dX0_lowestThatWaitsForNone_7 : decode cX0_lowestThatWaitsForNone 7 = .ok (.aload_n 0, 1) := by decide +kernel
theorem dX0_lowestThatWaitsForNone_8 : decode cX0_lowestThatWaitsForNone 8 = .ok (.getfield 18, 3) := by decide +kernel
theorem dX0_lowestThatWaitsForNone_11 : decode cX0_lowestThatWaitsForNone 11 = .ok (.iload_n 2, 1) := by decide +kernel
theorem dX0_lowestThatWaitsForNone_12 : decode cX0_lowestThatWaitsForNone 12 = .ok (.iaload, 1) := by decide +kernel
theorem dX0_lowestThatWaitsForNone_13 : decode cX0_lowestThatWaitsForNone 13 = .ok (.ifCond .ne 5, 3) := by decide +kernel
theorem dX0_lowestThatWaitsForNone_16 : decode cX0_lowestThatWaitsForNone 16 = .ok (.iload_n 2, 1) := by decide +kernel
theorem dX0_lowestThatWaitsForNone_17 : decode cX0_lowestThatWaitsForNone 17 = .ok (.ireturn, 1) := by decide +kernel
theorem dX0_lowestThatWaitsForNone_18 : decode cX0_lowestThatWaitsForNone 18 = .ok (.iinc 2 1, 3) := by decide +kernel
theorem dX0_lowestThatWaitsForNone_21 : decode cX0_lowestThatWaitsForNone 21 = .ok (.goto (-19), 3) := by decide +kernel
theorem dX0_lowestThatWaitsForNone_24 : decode cX0_lowestThatWaitsForNone 24 = .ok (.iconst (-1), 1) := by decide +kernel
theorem dX0_lowestThatWaitsForNone_25 : decode cX0_lowestThatWaitsForNone 25 = .ok (.ireturn, 1) := by decide +kernel
theorem dX0_releaseLater_0 : decode cX0_releaseLater 0 = .ok (.iconst 0, 1) := by decide +kernel
theorem dX0_releaseLater_1 : decode cX0_releaseLater 1 = .ok (.istore_n 3, 1) := by decide +kernel
theorem dX0_releaseLater_2 : decode cX0_releaseLater 2 = .ok (.iload_n 3, 1) := by decide +kernel
theorem dX0_releaseLater_3 : decode cX0_releaseLater 3 = .ok (.aload_n 1, 1) := by decide +kernel
theorem dX0_releaseLater_4 : decode cX0_releaseLater 4 = .ok (.getfield 25, 3) := by decide +kernel
theorem dX0_releaseLater_7 : decode cX0_releaseLater 7 = .ok (.if_icmp .ge 61, 3) := by decide +kernel
theorem dX0_releaseLater_10 : decode cX0_releaseLater 10 = .ok (.aload_n 0, 1) := by decide +kernel
theorem dX0_releaseLater_11 : decode cX0_releaseLater 11 = .ok (.getfield 18, 3) := by decide +kernel
theorem dX0_releaseLater_14 : decode cX0_releaseLater 14 = .ok (.iload_n 3, 1) := by decide +kernel
theorem dX0_releaseLater_15 : decode cX0_releaseLater 15 = .ok (.iaload, 1) := by decide +kernel
theorem dX0_releaseLater_16 : decode cX0_releaseLater 16 = .ok (.iconst (-1), 1) := by decide +kernel
theorem dX0_releaseLater_17 : decode cX0_releaseLater 17 = .ok (.if_icmp .eq 45, 3) := by decide +kernel
theorem dX0_releaseLater_20 : decode cX0_releaseLater 20 = .ok (.aload_n 1, 1) := by decide +kernel
theorem dX0_releaseLater_21 : decode cX0_releaseLater 21 = .ok (.iload_n 2, 1) := by decide +kernel
theorem dX0_releaseLater_22 : decode cX0_releaseLater 22 = .ok (.iload_n 3, 1) := by decide +kernel
theorem dX0_releaseLater_23 : decode cX0_releaseLater 23 = .ok (.invokevirtual 45, 3) := by decide +kernel
theorem dX0_releaseLater_26 : decode cX0_releaseLater 26 = .ok (.ifCond .eq 36, 3) := by decide +kernel
theorem dX0_releaseLater_29 : decode cX0_releaseLater 29 = .ok (.aload_n 0, 1) := by decide +kernel
theorem dX0_releaseLater_30 : decode cX0_releaseLater 30 = .ok (.getfield 18, 3) := by decide +kernel
theorem dX0_releaseLater_33 : decode cX0_releaseLater 33 = .ok (.iload_n 3, 1) := by decide +kernel
theorem dX0_releaseLater_34 : decode cX0_releaseLater 34 = .ok (.dup2, 1) := by decide +kernel
theorem dX0_releaseLater_35 : decode cX0_releaseLater 35 = .ok (.iaload, 1) := by decide +kernel
theorem dX0_releaseLater_36 : decode cX0_releaseLater 36 = .ok (.iconst 1, 1) := by decide +kernel
theorem dX0_releaseLater_37 : decode cX0_releaseLater 37 = .ok (.isub, 1) := by decide +kernel
theorem dX0_releaseLater_38 : decode cX0_releaseLater 38 = .ok (.iastore, 1) := by decide +kernel
theorem dX0_releaseLater_39 : decode cX0_releaseLater 39 = .ok (.aload_n 0, 1) := by decide +kernel
theorem dX0_releaseLater_40 : decode cX0_releaseLater 40 = .ok (.getfield 15, 3) := by decide +kernel
theorem dX0_releaseLater_43 : decode cX0_releaseLater 43 = .ok (.iload_n 3, 1) := by decide +kernel
theorem dX0_releaseLater_44 : decode cX0_releaseLater 44 = .ok (.aload_n 0, 1) := by decide +kernel
theorem dX0_releaseLater_45 : decode cX0_releaseLater 45 = .ok (.getfield 15, 3) := by decide +kernel
theorem dX0_releaseLater_48 : decode cX0_releaseLater 48 = .ok (.iload_n 3, 1) := by decide +kernel
theorem dX0_releaseLater_49 : decode cX0_releaseLater 49 = .ok (.iaload, 1) := by decide +kernel
theorem dX0_releaseLater_50 : decode cX0_releaseLater 50 = .ok (.aload_n 0, 1) := by decide +kernel
theorem dX0_releaseLater_51 : decode cX0_releaseLater 51 = .ok (.getfield 15, 3) := by decide +kernel
theorem dX0_releaseLater_54 : decode cX0_releaseLater 54 = .ok (.iload_n 2, 1) := by decide +kernel
theorem dX0_releaseLater_55 : decode cX0_releaseLater 55 = .ok (.iaload, 1) := by decide +kernel
theorem dX0_releaseLater_56 : decode cX0_releaseLater 56 = .ok (.iconst 1, 1) := by decide +kernel
theorem dX0_releaseLater_57 : decode cX0_releaseLater 57 = .ok (.iadd, 1) := by decide +kernel
theorem dX0_releaseLater_58 : decode cX0_releaseLater 58 = .ok (.invokestatic 49, 3) := by decide +kernel
theorem dX0_releaseLater_61 : decode cX0_releaseLater 61 = .ok (.iastore, 1) := by decide +kernel
theorem dX0_releaseLater_62 : decode cX0_releaseLater 62 = .ok (.iinc 3 1, 3) := by decide +kernel
theorem dX0_releaseLater_65 : decode cX0_releaseLater 65 = .ok (.goto (-63), 3) := by decide +kernel
theorem dX0_releaseLater_68 : decode cX0_releaseLater 68 = .ok (.return_, 1) := by decide +kernel
theorem dX1_init_0 : decode cX1_init 0 = .ok (.aload_n 0, 1) := by decide +kernel
theorem dX1_init_1 : decode cX1_init 1 = .ok (.invokespecial 3, 3) := by decide +kernel
theorem dX1_init_4 : decode cX1_init 4 = .ok (.aload_n 0, 1) := by decide +kernel
theorem dX1_init_5 : decode cX1_init 5 = .ok (.bipush 100, 2) := by decide +kernel
theorem dX1_init_7 : decode cX1_init 7 = .ok (.newarray .int, 2) := by decide +kernel
theorem dX1_init_9 : decode cX1_init 9 = .ok (.putfield 11, 3) := by decide +kernel
theorem dX1_init_12 : decode cX1_init 12 = .ok (.aload_n 0, 1) := by decide +kernel
theorem dX1_init_13 : decode cX1_init 13 = .ok (.iconst 2, 1) := by decide +kernel
theorem dX1_init_14 : decode cX1_init 14 = .ok (.bipush 24, 2) := by decide +kernel
theorem dX1_init_16 : decode cX1_init 16 = .ok (.multianewarray 15 2, 4) := by decide +kernel
theorem dX1_init_20 : decode cX1_init 20 = .ok (.putfield 17, 3) := by decide +kernel
theorem dX1_init_23 : decode cX1_init 23 = .ok (.aload_n 0, 1) := by decide +kernel
theorem dX1_init_24 : decode cX1_init 24 = .ok (.iconst 2, 1) := by decide +kernel
theorem dX1_init_25 : decode cX1_init 25 = .ok (.bipush 24, 2) := by decide +kernel
theorem dX1_init_27 : decode cX1_init 27 = .ok (.multianewarray 15 2, 4) := by decide +kernel
theorem dX1_init_31 : decode cX1_init 31 = .ok (.putfield 20, 3) := by decide +kernel
theorem dX1_init_34 : decode cX1_init 34 = .ok (.aload_n 0, 1) := by decide +kernel
theorem dX1_init_35 : decode cX1_init 35 = .ok (.iconst 2, 1) := by decide +kernel
theorem dX1_init_36 : decode cX1_init 36 = .ok (.bipush 24, 2) := by decide +kernel
theorem dX1_init_38 : decode cX1_init 38 = .ok (.multianewarray 15 2, 4) := by decide +kernel
theorem dX1_init_42 : decode cX1_init 42 = .ok (.putfield 23, 3) := by decide +kernel
theorem dX1_init_45 : decode cX1_init 45 = .ok (.aload_n 0, 1) := by decide +kernel
theorem dX1_init_46 : decode cX1_init 46 = .ok (.iconst 0, 1) := by decide +kernel
theorem dX1_init_47 : decode cX1_init 47 = .ok (.putfield 26, 3) := by decide +kernel
theorem dX1_init_50 : decode cX1_init 50 = .ok (.return_, 1) := by decide +kernel
theorem dX1_has_0 : decode cX1_has 0 = .ok (.iload_n 1, 1) := by decide +kernel
theorem dX1_has_1 : decode cX1_has 1 = .ok (.ifCond .lt 15, 3) := by decide +kernel
theorem dX1_has_4 : decode cX1_has 4 = .ok (.iload_n 1, 1) := by decide +kernel
theorem dX1_has_5 : decode cX1_has 5 = .ok (.aload_n 0, 1) := by decide +kernel
theorem dX1_has_6 : decode cX1_has 6 = .ok (.getfield 26, 3) := by decide +kernel
theorem dX1_has_9 : decode cX1_has 9 = .ok (.if_icmp .ge 7, 3) := by decide +kernel
theorem dX1_has_12 : decode cX1_has 12 = .ok (.iconst 1, 1) := by decide +kernel
theorem dX1_has_13 : decode cX1_has 13 = .ok (.goto 4, 3) := by decide +kernel
theorem dX1_has_16 : decode cX1_has 16 = .ok (.iconst 0, 1) := by decide +kernel
theorem dX1_has_17 : decode cX1_has 17 = .ok (.ireturn, 1) := by decide +kernel
theorem dX1_list_0 : decode cX1_list 0 = .ok (.aload_n 0, 1) := by decide +kernel
theorem dX1_list_1 : decode cX1_list 1 = .ok (.aload_n 1, 1) := by decide +kernel
theorem dX1_list_2 : decode cX1_list 2 = .ok (.invokevirtual 30, 3) := by decide +kernel
theorem dX1_list_5 : decode cX1_list 5 = .ok (.aload_n 0, 1) := by decide +kernel
theorem dX1_list_6 : decode cX1_list 6 = .ok (.invokevirtual 34, 3) := by decide +kernel
theorem dX1_list_9 : decode cX1_list 9 = .ok (.iconst 0, 1) := by decide +kernel
theorem dX1_list_10 : decode cX1_list 10 = .ok (.istore_n 2, 1) := by decide +kernel
theorem dX1_list_11 : decode cX1_list 11 = .ok (.iload_n 2, 1) := by decide +kernel
theorem dX1_list_12 : decode cX1_list 12 = .ok (.aload_n 1, 1) := by decide +kernel
theorem dX1_list_13 : decode cX1_list 13 = .ok (.getfield 37, 3) := by decide +kernel
theorem dX1_list_16 : decode cX1_list 16 = .ok (.if_icmp .ge 52, 3) := by decide +kernel
theorem dX1_list_19 : decode cX1_list 19 = .ok (.aload_n 0, 1) := by decide +kernel
theorem dX1_list_20 : decode cX1_list 20 = .ok (.getfield 11, 3) := by decide +kernel
theorem dX1_list_23 : decode cX1_list 23 = .ok (.aload_n 1, 1) := by decide +kernel
theorem dX1_list_24 : decode cX1_list 24 = .ok (.iload_n 2, 1) := by decide +kernel
theorem dX1_list_25 : decode cX1_list 25 = .ok (.invokestatic 40, 3) := by decide +kernel
theorem dX1_list_28 : decode cX1_list 28 = .ok (.iaload, 1) := by decide +kernel
theorem dX1_list_29 : decode cX1_list 29 = .ok (.istore_n 3, 1) := by decide +kernel
theorem dX1_list_30 : decode cX1_list 30 = .ok (.aload_n 0, 1) := by decide +kernel
theorem dX1_list_31 : decode cX1_list 31 = .ok (.iload_n 3, 1) := by decide +kernel
theorem dX1_list_32 : decode cX1_list 32 = .ok (.invokevirtual 44, 3) := by decide +kernel
theorem dX1_list_35 : decode cX1_list 35 = .ok (.ifCond .eq 27, 3) := by decide +kernel
theorem dX1_list_38 : decode cX1_list 38 = .ok (.aload_n 0, 1) := by decide +kernel
theorem dX1_list_39 : decode cX1_list 39 = .ok (.iload_n 3, 1) := by decide +kernel
theorem dX1_list_40 : decode cX1_list 40 = .ok (.iconst 0, 1) := by decide +kernel
theorem dX1_list_41 : decode cX1_list 41 = .ok (.aload_n 1, 1) := by decide +kernel
theorem dX1_list_42 : decode cX1_list 42 = .ok (.iload_n 2, 1) := by decide +kernel
theorem dX1_list_43 : decode cX1_list 43 = .ok (.iconst 0, 1) := by decide +kernel
theorem dX1_list_44 : decode cX1_list 44 = .ok (.invokevirtual 48, 3) := by decide +kernel
theorem dX1_list_47 : decode cX1_list 47 = .ok (.invokevirtual 52, 3) := by decide +kernel
theorem dX1_list_50 : decode cX1_list 50 = .ok (.aload_n 0, 1) := by decide +kernel
theorem dX1_list_51 : decode cX1_list 51 = .ok (.iload_n 3, 1) := by decide +kernel
theorem dX1_list_52 : decode cX1_list 52 = .ok (.iconst 1, 1) := by decide +kernel
theorem dX1_list_53 : decode cX1_list 53 = .ok (.aload_n 1, 1) := by decide +kernel
theorem dX1_list_54 : decode cX1_list 54 = .ok (.iload_n 2, 1) := by decide +kernel
theorem dX1_list_55 : decode cX1_list 55 = .ok (.iconst 1, 1) := by decide +kernel
theorem dX1_list_56 : decode cX1_list 56 = .ok (.invokevirtual 48, 3) := by decide +kernel
theorem dX1_list_59 : decode cX1_list 59 = .ok (.invokevirtual 52, 3) := by decide +kernel
theorem dX1_list_62 : decode cX1_list 62 = .ok (.iinc 2 1, 3) := by decide +kernel
theorem dX1_list_65 : decode cX1_list 65 = .ok (.goto (-54), 3) := by decide +kernel
theorem dX1_list_68 : decode cX1_list 68 = .ok (.return_, 1) := by decide +kernel
theorem dX1_pairOf_0 : decode cX1_pairOf 0 = .ok (.bipush 10, 2) := by decide +kernel
theorem dX1_pairOf_2 : decode cX1_pairOf 2 = .ok (.aload_n 0, 1) := by decide +kernel
theorem dX1_pairOf_3 : decode cX1_pairOf 3 = .ok (.iload_n 1, 1) := by decide +kernel
theorem dX1_pairOf_4 : decode cX1_pairOf 4 = .ok (.iconst 0, 1) := by decide +kernel
theorem dX1_pairOf_5 : decode cX1_pairOf 5 = .ok (.invokevirtual 56, 3) := by decide +kernel
theorem dX1_pairOf_8 : decode cX1_pairOf 8 = .ok (.imul, 1) := by decide +kernel
theorem dX1_pairOf_9 : decode cX1_pairOf 9 = .ok (.aload_n 0, 1) := by decide +kernel
theorem dX1_pairOf_10 : decode cX1_pairOf 10 = .ok (.iload_n 1, 1) := by decide +kernel
theorem dX1_pairOf_11 : decode cX1_pairOf 11 = .ok (.iconst 1, 1) := by decide +kernel
theorem dX1_pairOf_12 : decode cX1_pairOf 12 = .ok (.invokevirtual 56, 3) := by decide +kernel
theorem dX1_pairOf_15 : decode cX1_pairOf 15 = .ok (.iadd, 1) := by decide +kernel
theorem dX1_pairOf_16 : decode cX1_pairOf 16 = .ok (.ireturn, 1) := by decide +kernel
theorem dX1_markPairs_0 : decode cX1_markPairs 0 = .ok (.aload_n 0, 1) := by decide +kernel
theorem dX1_markPairs_1 : decode cX1_markPairs 1 = .ok (.getfield 11, 3) := by decide +kernel
theorem dX1_markPairs_4 : decode cX1_markPairs 4 = .ok (.iconst (-1), 1) := by decide +kernel
theorem dX1_markPairs_5 : decode cX1_markPairs 5 = .ok (.invokestatic 58, 3) := by decide +kernel
theorem dX1_markPairs_8 : decode cX1_markPairs 8 = .ok (.iconst 0, 1) := by decide +kernel
theorem dX1_markPairs_9 : decode cX1_markPairs 9 = .ok (.istore_n 2, 1) := by decide +kernel
theorem dX1_markPairs_10 : decode cX1_markPairs 10 = .ok (.iload_n 2, 1) := by decide +kernel
theorem dX1_markPairs_11 : decode cX1_markPairs 11 = .ok (.aload_n 1, 1) := by decide +kernel
theorem dX1_markPairs_12 : decode cX1_markPairs 12 = .ok (.getfield 37, 3) := by decide +kernel
theorem dX1_markPairs_15 : decode cX1_markPairs 15 = .ok (.if_icmp .ge 20, 3) := by decide +kernel
theorem dX1_markPairs_18 : decode cX1_markPairs 18 = .ok (.aload_n 0, 1) := by decide +kernel
theorem dX1_markPairs_19 : decode cX1_markPairs 19 = .ok (.getfield 11, 3) := by decide +kernel
theorem dX1_markPairs_22 : decode cX1_markPairs 22 = .ok (.aload_n 1, 1) := by decide +kernel
theorem dX1_markPairs_23 : decode cX1_markPairs 23 = .ok (.iload_n 2, 1) := by decide +kernel
theorem dX1_markPairs_24 : decode cX1_markPairs 24 = .ok (.invokestatic 40, 3) := by decide +kernel
theorem dX1_markPairs_27 : decode cX1_markPairs 27 = .ok (.iconst 0, 1) := by decide +kernel
theorem dX1_markPairs_28 : decode cX1_markPairs 28 = .ok (.iastore, 1) := by decide +kernel
theorem dX1_markPairs_29 : decode cX1_markPairs 29 = .ok (.iinc 2 1, 3) := by decide +kernel
theorem dX1_markPairs_32 : decode cX1_markPairs 32 = .ok (.goto (-22), 3) := by decide +kernel
theorem dX1_markPairs_35 : decode cX1_markPairs 35 = .ok (.return_, 1) := by decide +kernel
theorem dX1_numberPairs_0 : decode cX1_numberPairs 0 = .ok (.aload_n 0, 1) := by decide +kernel
theorem dX1_numberPairs_1 : decode cX1_numberPairs 1 = .ok (.iconst 0, 1) := by decide +kernel
theorem dX1_numberPairs_2 : decode cX1_numberPairs 2 = .ok (.putfield 26, 3) := by decide +kernel
theorem dX1_numberPairs_5 : decode cX1_numberPairs 5 = .ok (.iconst 0, 1) := by decide +kernel
theorem dX1_numberPairs_6 : decode cX1_numberPairs 6 = .ok (.istore_n 1, 1) := by decide +kernel
theorem dX1_numberPairs_7 : decode cX1_numberPairs 7 = .ok (.iload_n 1, 1) := by decide +kernel
theorem dX1_numberPairs_8 : decode cX1_numberPairs 8 = .ok (.bipush 100, 2) := by decide +kernel
theorem dX1_numberPairs_10 : decode cX1_numberPairs 10 = .ok (.if_icmp .ge 50, 3) := by decide +kernel
theorem dX1_numberPairs_13 : decode cX1_numberPairs 13 = .ok (.aload_n 0, 1) := by decide +kernel
theorem dX1_numberPairs_14 : decode cX1_numberPairs 14 = .ok (.getfield 26, 3) := by decide +kernel
theorem dX1_numberPairs_17 : decode cX1_numberPairs 17 = .ok (.bipush 24, 2) := by decide +kernel
theorem dX1_numberPairs_19 : decode cX1_numberPairs 19 = .ok (.if_icmp .ge 41, 3) := by decide +kernel
theorem dX1_numberPairs_22 : decode cX1_numberPairs 22 = .ok (.aload_n 0, 1) := by decide +kernel
theorem dX1_numberPairs_23 : decode cX1_numberPairs 23 = .ok (.getfield 11, 3) := by decide +kernel
theorem dX1_numberPairs_26 : decode cX1_numberPairs 26 = .ok (.iload_n 1, 1) := by decide +kernel
theorem dX1_numberPairs_27 : decode cX1_numberPairs 27 = .ok (.iaload, 1) := by decide +kernel
theorem dX1_numberPairs_28 : decode cX1_numberPairs 28 = .ok (.iconst (-1), 1) := by decide +kernel
theorem dX1_numberPairs_29 : decode cX1_numberPairs 29 = .ok (.if_icmp .eq 25, 3) := by decide +kernel
theorem dX1_numberPairs_32 : decode cX1_numberPairs 32 = .ok (.aload_n 0, 1) := by decide +kernel
theorem dX1_numberPairs_33 : decode cX1_numberPairs 33 = .ok (.getfield 11, 3) := by decide +kernel
theorem dX1_numberPairs_36 : decode cX1_numberPairs 36 = .ok (.iload_n 1, 1) := by decide +kernel
theorem dX1_numberPairs_37 : decode cX1_numberPairs 37 = .ok (.aload_n 0, 1) := by decide +kernel
theorem dX1_numberPairs_38 : decode cX1_numberPairs 38 = .ok (.getfield 26, 3) := by decide +kernel
theorem dX1_numberPairs_41 : decode cX1_numberPairs 41 = .ok (.iastore, 1) := by decide +kernel
theorem dX1_numberPairs_42 : decode cX1_numberPairs 42 = .ok (.aload_n 0, 1) := by decide +kernel
theorem dX1_numberPairs_43 : decode cX1_numberPairs 43 = .ok (.iload_n 1, 1) := by decide +kernel
theorem dX1_numberPairs_44 : decode cX1_numberPairs 44 = .ok (.bipush 10, 2) := by decide +kernel
theorem dX1_numberPairs_46 : decode cX1_numberPairs 46 = .ok (.idiv, 1) := by decide +kernel
theorem dX1_numberPairs_47 : decode cX1_numberPairs 47 = .ok (.iload_n 1, 1) := by decide +kernel
theorem dX1_numberPairs_48 : decode cX1_numberPairs 48 = .ok (.bipush 10, 2) := by decide +kernel
theorem dX1_numberPairs_50 : decode cX1_numberPairs 50 = .ok (.irem, 1) := by decide +kernel
theorem dX1_numberPairs_51 : decode cX1_numberPairs 51 = .ok (.invokevirtual 64, 3) := by decide +kernel
theorem dX1_numberPairs_54 : decode cX1_numberPairs 54 = .ok (.iinc 1 1, 3) := by decide +kernel
theorem dX1_numberPairs_57 : decode cX1_numberPairs 57 = .ok (.goto (-50), 3) := by decide +kernel
theorem dX1_numberPairs_60 : decode cX1_numberPairs 60 = .ok (.return_, 1) := by decide +kernel
theorem dX1_enter_0 : decode cX1_enter 0 = .ok (.aload_n 0, 1) := by decide +kernel
theorem dX1_enter_1 : decode cX1_enter 1 = .ok (.getfield 17, 3) := by decide +kernel
theorem dX1_enter_4 : decode cX1_enter 4 = .ok (.iconst 0, 1) := by decide +kernel
theorem dX1_enter_5 : decode cX1_enter 5 = .ok (.aaload, 1) := by decide +kernel
theorem dX1_enter_6 : decode cX1_enter 6 = .ok (.aload_n 0, 1) := by decide +kernel
theorem dX1_enter_7 : decode cX1_enter 7 = .ok (.getfield 26, 3) := by decide +kernel
theorem dX1_enter_10 : decode cX1_enter 10 = .ok (.iload_n 1, 1) := by decide +kernel
theorem dX1_enter_11 : decode cX1_enter 11 = .ok (.iastore, 1) := by decide +kernel
theorem dX1_enter_12 : decode cX1_enter 12 = .ok (.aload_n 0, 1) := by decide +kernel
theorem dX1_enter_13 : decode cX1_enter 13 = .ok (.getfield 17, 3) := by decide +kernel
theorem dX1_enter_16 : decode cX1_enter 16 = .ok (.iconst 1, 1) := by decide +kernel
theorem dX1_enter_17 : decode cX1_enter 17 = .ok (.aaload, 1) := by decide +kernel
theorem dX1_enter_18 : decode cX1_enter 18 = .ok (.aload_n 0, 1) := by decide +kernel
theorem dX1_enter_19 : decode cX1_enter 19 = .ok (.getfield 26, 3) := by decide +kernel
theorem dX1_enter_22 : decode cX1_enter 22 = .ok (.iload_n 2, 1) := by decide +kernel
theorem dX1_enter_23 : decode cX1_enter 23 = .ok (.iastore, 1) := by decide +kernel
theorem dX1_enter_24 : decode cX1_enter 24 = .ok (.iconst 0, 1) := by decide +kernel
theorem dX1_enter_25 : decode cX1_enter 25 = .ok (.istore_n 3, 1) := by decide +kernel
theorem dX1_enter_26 : decode cX1_enter 26 = .ok (.iload_n 3, 1) := by decide +kernel
theorem dX1_enter_27 : decode cX1_enter 27 = .ok (.iconst 2, 1) := by decide +kernel
theorem dX1_enter_28 : decode cX1_enter 28 = .ok (.if_icmp .ge 33, 3) := by decide +kernel
theorem dX1_enter_31 : decode cX1_enter 31 = .ok (.aload_n 0, 1) := by decide +kernel
theorem dX1_enter_32 : decode cX1_enter 32 = .ok (.getfield 20, 3) := by decide +kernel
theorem dX1_enter_35 : decode cX1_enter 35 = .ok (.iload_n 3, 1) := by decide +kernel
theorem dX1_enter_36 : decode cX1_enter 36 = .ok (.aaload, 1) := by decide +kernel
theorem dX1_enter_37 : decode cX1_enter 37 = .ok (.aload_n 0, 1) := by decide +kernel
theorem dX1_enter_38 : decode cX1_enter 38 = .ok (.getfield 26, 3) := by decide +kernel
theorem dX1_enter_41 : decode cX1_enter 41 = .ok (.iconst 5, 1) := by decide +kernel
theorem dX1_enter_42 : decode cX1_enter 42 = .ok (.iastore, 1) := by decide +kernel
theorem dX1_enter_43 : decode cX1_enter 43 = .ok (.aload_n 0, 1) := by decide +kernel
theorem dX1_enter_44 : decode cX1_enter 44 = .ok (.getfield 23, 3) := by decide +kernel
theorem dX1_enter_47 : decode cX1_enter 47 = .ok (.iload_n 3, 1) := by decide +kernel
theorem dX1_enter_48 : decode cX1_enter 48 = .ok (.aaload, 1) := by decide +kernel
theorem dX1_enter_49 : decode cX1_enter 49 = .ok (.aload_n 0, 1) := by decide +kernel
theorem dX1_enter_50 : decode cX1_enter 50 = .ok (.getfield 26, 3) := by decide +kernel
theorem dX1_enter_53 : decode cX1_enter 53 = .ok (.iconst 0, 1) := by decide +kernel
theorem dX1_enter_54 : decode cX1_enter 54 = .ok (.iastore, 1) := by decide +kernel
theorem dX1_enter_55 : decode cX1_enter 55 = .ok (.iinc 3 1, 3) := by decide +kernel
theorem dX1_enter_58 : decode cX1_enter 58 = .ok (.goto (-32), 3) := by decide +kernel
theorem dX1_enter_61 : decode cX1_enter 61 = .ok (.aload_n 0, 1) := by decide +kernel
theorem dX1_enter_62 : decode cX1_enter 62 = .ok (.dup, 1) := by decide +kernel
theorem dX1_enter_63 : decode cX1_enter 63 = .ok (.getfield 26, 3) := by decide +kernel
theorem dX1_enter_66 : decode cX1_enter 66 = .ok (.iconst 1, 1) := by decide +kernel
theorem dX1_enter_67 : decode cX1_enter 67 = .ok (.iadd, 1) := by decide +kernel
theorem dX1_enter_68 : decode cX1_enter 68 = .ok (.putfield 26, 3) := by decide +kernel
theorem dX1_enter_71 : decode cX1_enter 71 = .ok (.return_, 1) := by decide +kernel
theorem dX1_spanWear_0 : decode cX1_spanWear 0 = .ok (.aload_n 0, 1) := by decide +kernel
theorem dX1_spanWear_1 : decode cX1_spanWear 1 = .ok (.getfield 20, 3) := by decide +kernel
theorem dX1_spanWear_4 : decode cX1_spanWear 4 = .ok (.iload_n 2, 1) := by decide +kernel
theorem dX1_spanWear_5 : decode cX1_spanWear 5 = .ok (.aaload, 1) := by decide +kernel
theorem dX1_spanWear_6 : decode cX1_spanWear 6 = .ok (.iload_n 1, 1) := by decide +kernel
theorem dX1_spanWear_7 : decode cX1_spanWear 7 = .ok (.aload_n 0, 1) := by decide +kernel
theorem dX1_spanWear_8 : decode cX1_spanWear 8 = .ok (.getfield 20, 3) := by decide +kernel
theorem dX1_spanWear_11 : decode cX1_spanWear 11 = .ok (.iload_n 2, 1) := by decide +kernel
theorem dX1_spanWear_12 : decode cX1_spanWear 12 = .ok (.aaload, 1) := by decide +kernel
theorem dX1_spanWear_13 : decode cX1_spanWear 13 = .ok (.iload_n 1, 1) := by decide +kernel
theorem dX1_spanWear_14 : decode cX1_spanWear 14 = .ok (.iaload, 1) := by decide +kernel
theorem dX1_spanWear_15 : decode cX1_spanWear 15 = .ok (.iload_n 3, 1) := by decide +kernel
theorem dX1_spanWear_16 : decode cX1_spanWear 16 = .ok (.invokestatic 68, 3) := by decide +kernel
theorem dX1_spanWear_19 : decode cX1_spanWear 19 = .ok (.iastore, 1) := by decide +kernel
theorem dX1_spanWear_20 : decode cX1_spanWear 20 = .ok (.aload_n 0, 1) := by decide +kernel
theorem dX1_spanWear_21 : decode cX1_spanWear 21 = .ok (.getfield 23, 3) := by decide +kernel
theorem dX1_spanWear_24 : decode cX1_spanWear 24 = .ok (.iload_n 2, 1) := by decide +kernel
theorem dX1_spanWear_25 : decode cX1_spanWear 25 = .ok (.aaload, 1) := by decide +kernel
theorem dX1_spanWear_26 : decode cX1_spanWear 26 = .ok (.iload_n 1, 1) := by decide +kernel
theorem dX1_spanWear_27 : decode cX1_spanWear 27 = .ok (.aload_n 0, 1) := by decide +kernel
theorem dX1_spanWear_28 : decode cX1_spanWear 28 = .ok (.getfield 23, 3) := by decide +kernel
theorem dX1_spanWear_31 : decode cX1_spanWear 31 = .ok (.iload_n 2, 1) := by decide +kernel
theorem dX1_spanWear_32 : decode cX1_spanWear 32 = .ok (.aaload, 1) := by decide +kernel
theorem dX1_spanWear_33 : decode cX1_spanWear 33 = .ok (.iload_n 1, 1) := by decide +kernel
theorem dX1_spanWear_34 : decode cX1_spanWear 34 = .ok (.iaload, 1) := by decide +kernel
theorem dX1_spanWear_35 : decode cX1_spanWear 35 = .ok (.iload_n 3, 1) := by decide +kernel
theorem dX1_spanWear_36 : decode cX1_spanWear 36 = .ok (.invokestatic 73, 3) := by decide +kernel
theorem dX1_spanWear_39 : decode cX1_spanWear 39 = .ok (.iastore, 1) := by decide +kernel
theorem dX1_spanWear_40 : decode cX1_spanWear 40 = .ok (.return_, 1) := by decide +kernel
theorem dX1_isEarlier_0 : decode cX1_isEarlier 0 = .ok (.aload_n 0, 1) := by decide +kernel
theorem dX1_isEarlier_1 : decode cX1_isEarlier 1 = .ok (.iconst 0, 1) := by decide +kernel
theorem dX1_isEarlier_2 : decode cX1_isEarlier 2 = .ok (.iload_n 1, 1) := by decide +kernel
theorem dX1_isEarlier_3 : decode cX1_isEarlier 3 = .ok (.iload_n 2, 1) := by decide +kernel
theorem dX1_isEarlier_4 : decode cX1_isEarlier 4 = .ok (.invokevirtual 76, 3) := by decide +kernel
theorem dX1_isEarlier_7 : decode cX1_isEarlier 7 = .ok (.ifCond .ne 13, 3) := by decide +kernel
theorem dX1_isEarlier_10 : decode cX1_isEarlier 10 = .ok (.aload_n 0, 1) := by decide +kernel
theorem dX1_isEarlier_11 : decode cX1_isEarlier 11 = .ok (.iconst 1, 1) := by decide +kernel
theorem dX1_isEarlier_12 : decode cX1_isEarlier 12 = .ok (.iload_n 1, 1) := by decide +kernel
theorem dX1_isEarlier_13 : decode cX1_isEarlier 13 = .ok (.iload_n 2, 1) := by decide +kernel
theorem dX1_isEarlier_14 : decode cX1_isEarlier 14 = .ok (.invokevirtual 76, 3) := by decide +kernel
theorem dX1_isEarlier_17 : decode cX1_isEarlier 17 = .ok (.ifCond .eq 7, 3) := by decide +kernel
theorem dX1_isEarlier_20 : decode cX1_isEarlier 20 = .ok (.iconst 1, 1) := by decide +kernel
theorem dX1_isEarlier_21 : decode cX1_isEarlier 21 = .ok (.goto 4, 3) := by decide +kernel
theorem dX1_isEarlier_24 : decode cX1_isEarlier 24 = .ok (.iconst 0, 1) := by decide +kernel
theorem dX1_isEarlier_25 : decode cX1_isEarlier 25 = .ok (.ireturn, 1) := by decide +kernel
theorem dX1_isEarlierBy_0 : decode cX1_isEarlierBy 0 = .ok (.aload_n 0, 1) := by decide +kernel
theorem dX1_isEarlierBy_1 : decode cX1_isEarlierBy 1 = .ok (.getfield 17, 3) := by decide +kernel
theorem dX1_isEarlierBy_4 : decode cX1_isEarlierBy 4 = .ok (.iload_n 1, 1) := by decide +kernel
theorem dX1_isEarlierBy_5 : decode cX1_isEarlierBy 5 = .ok (.aaload, 1) := by decide +kernel
theorem dX1_isEarlierBy_6 : decode cX1_isEarlierBy 6 = .ok (.iload_n 2, 1) := by decide +kernel
theorem dX1_isEarlierBy_7 : decode cX1_isEarlierBy 7 = .ok (.iaload, 1) := by decide +kernel
theorem dX1_isEarlierBy_8 : decode cX1_isEarlierBy 8 = .ok (.aload_n 0, 1) := by decide +kernel
theorem dX1_isEarlierBy_9 : decode cX1_isEarlierBy 9 = .ok (.getfield 17, 3) := by decide +kernel
theorem dX1_isEarlierBy_12 : decode cX1_isEarlierBy 12 = .ok (.iload_n 1, 1) := by decide +kernel
theorem dX1_isEarlierBy_13 : decode cX1_isEarlierBy 13 = .ok (.aaload, 1) := by decide +kernel
theorem dX1_isEarlierBy_14 : decode cX1_isEarlierBy 14 = .ok (.iload_n 3, 1) := by decide +kernel
theorem dX1_isEarlierBy_15 : decode cX1_isEarlierBy 15 = .ok (.iaload, 1) := by decide +kernel
theorem dX1_isEarlierBy_16 : decode cX1_isEarlierBy 16 = .ok (.if_icmp .ne 45, 3) := by decide +kernel
theorem dX1_isEarlierBy_19 : decode cX1_isEarlierBy 19 = .ok (.aload_n 0, 1) := by decide +kernel
theorem dX1_isEarlierBy_20 : decode cX1_isEarlierBy 20 = .ok (.getfield 23, 3) := by decide +kernel
theorem dX1_isEarlierBy_23 : decode cX1_isEarlierBy 23 = .ok (.iload_n 1, 1) := by decide +kernel
theorem dX1_isEarlierBy_24 : decode cX1_isEarlierBy 24 = .ok (.aaload, 1) := by decide +kernel
theorem dX1_isEarlierBy_25 : decode cX1_isEarlierBy 25 = .ok (.iload_n 2, 1) := by decide +kernel
theorem dX1_isEarlierBy_26 : decode cX1_isEarlierBy 26 = .ok (.iaload, 1) := by decide +kernel
theorem dX1_isEarlierBy_27 : decode cX1_isEarlierBy 27 = .ok (.aload_n 0, 1) := by decide +kernel
theorem dX1_isEarlierBy_28 : decode cX1_isEarlierBy 28 = .ok (.getfield 20, 3) := by decide +kernel
theorem dX1_isEarlierBy_31 : decode cX1_isEarlierBy 31 = .ok (.iload_n 1, 1) := by decide +kernel
theorem dX1_isEarlierBy_32 : decode cX1_isEarlierBy 32 = .ok (.aaload, 1) := by decide +kernel
theorem dX1_isEarlierBy_33 : decode cX1_isEarlierBy 33 = .ok (.iload_n 3, 1) := by decide +kernel
theorem dX1_isEarlierBy_34 : decode cX1_isEarlierBy 34 = .ok (.iaload, 1) := by decide +kernel
theorem dX1_isEarlierBy_35 : decode cX1_isEarlierBy 35 = .ok (.if_icmp .gt 26, 3) := by decide +kernel
theorem dX1_isEarlierBy_38 : decode cX1_isEarlierBy 38 = .ok (.aload_n 0, 1) := by decide +kernel
theorem dX1_isEarlierBy_39 : decode cX1_isEarlierBy 39 = .ok (.getfield 20, 3) := by decide +kernel
theorem dX1_isEarlierBy_42 : decode cX1_isEarlierBy 42 = .ok (.iload_n 1, 1) := by decide +kernel
theorem dX1_isEarlierBy_43 : decode cX1_isEarlierBy 43 = .ok (.aaload, 1) := by decide +kernel
theorem dX1_isEarlierBy_44 : decode cX1_isEarlierBy 44 = .ok (.iload_n 2, 1) := by decide +kernel
theorem dX1_isEarlierBy_45 : decode cX1_isEarlierBy 45 = .ok (.iaload, 1) := by decide +kernel
theorem dX1_isEarlierBy_46 : decode cX1_isEarlierBy 46 = .ok (.aload_n 0, 1) := by decide +kernel
theorem dX1_isEarlierBy_47 : decode cX1_isEarlierBy 47 = .ok (.getfield 23, 3) := by decide +kernel
theorem dX1_isEarlierBy_50 : decode cX1_isEarlierBy 50 = .ok (.iload_n 1, 1) := by decide +kernel
theorem dX1_isEarlierBy_51 : decode cX1_isEarlierBy 51 = .ok (.aaload, 1) := by decide +kernel
theorem dX1_isEarlierBy_52 : decode cX1_isEarlierBy 52 = .ok (.iload_n 3, 1) := by decide +kernel
theorem dX1_isEarlierBy_53 : decode cX1_isEarlierBy 53 = .ok (.iaload, 1) := by decide +kernel
theorem dX1_isEarlierBy_54 : decode cX1_isEarlierBy 54 = .ok (.if_icmp .ge 7, 3) := by decide +kernel
theorem dX1_isEarlierBy_57 : decode cX1_isEarlierBy 57 = .ok (.iconst 1, 1) := by decide +kernel
theorem dX1_isEarlierBy_58 : decode cX1_isEarlierBy 58 = .ok (.goto 4, 3) := by decide +kernel
theorem dX1_isEarlierBy_61 : decode cX1_isEarlierBy 61 = .ok (.iconst 0, 1) := by decide +kernel
theorem dX1_isEarlierBy_62 : decode cX1_isEarlierBy 62 = .ok (.ireturn, 1) := by decide +kernel
theorem dX2_init_0 : decode cX2_init 0 = .ok (.aload_n 0, 1) := by decide +kernel
theorem dX2_init_1 : decode cX2_init 1 = .ok (.invokespecial 3, 3) := by decide +kernel
theorem dX2_init_4 : decode cX2_init 4 = .ok (.aload_n 0, 1) := by decide +kernel
theorem dX2_init_5 : decode cX2_init 5 = .ok (.sipush 480, 3) := by decide +kernel
theorem dX2_init_8 : decode cX2_init 8 = .ok (.newarray .int, 2) := by decide +kernel
theorem dX2_init_10 : decode cX2_init 10 = .ok (.putfield 11, 3) := by decide +kernel
theorem dX2_init_13 : decode cX2_init 13 = .ok (.aload_n 0, 1) := by decide +kernel
theorem dX2_init_14 : decode cX2_init 14 = .ok (.iconst 5, 1) := by decide +kernel
theorem dX2_init_15 : decode cX2_init 15 = .ok (.newarray .int, 2) := by decide +kernel
theorem dX2_init_17 : decode cX2_init 17 = .ok (.putfield 17, 3) := by decide +kernel
theorem dX2_init_20 : decode cX2_init 20 = .ok (.aload_n 0, 1) := by decide +kernel
theorem dX2_init_21 : decode cX2_init 21 = .ok (.iconst 0, 1) := by decide +kernel
theorem dX2_init_22 : decode cX2_init 22 = .ok (.putfield 20, 3) := by decide +kernel
theorem dX2_init_25 : decode cX2_init 25 = .ok (.aload_n 0, 1) := by decide +kernel
theorem dX2_init_26 : decode cX2_init 26 = .ok (.iconst 0, 1) := by decide +kernel
theorem dX2_init_27 : decode cX2_init 27 = .ok (.putfield 24, 3) := by decide +kernel
theorem dX2_init_30 : decode cX2_init 30 = .ok (.return_, 1) := by decide +kernel
theorem dX2_save_0 : decode cX2_save 0 = .ok (.aload_n 1, 1) := by decide +kernel
theorem dX2_save_1 : decode cX2_save 1 = .ok (.getfield 27, 3) := by decide +kernel
theorem dX2_save_4 : decode cX2_save 4 = .ok (.iconst 0, 1) := by decide +kernel
theorem dX2_save_5 : decode cX2_save 5 = .ok (.aload_n 0, 1) := by decide +kernel
theorem dX2_save_6 : decode cX2_save 6 = .ok (.getfield 11, 3) := by decide +kernel
theorem dX2_save_9 : decode cX2_save 9 = .ok (.aload_n 0, 1) := by decide +kernel
theorem dX2_save_10 : decode cX2_save 10 = .ok (.getfield 24, 3) := by decide +kernel
theorem dX2_save_13 : decode cX2_save 13 = .ok (.bipush 96, 2) := by decide +kernel
theorem dX2_save_15 : decode cX2_save 15 = .ok (.imul, 1) := by decide +kernel
theorem dX2_save_16 : decode cX2_save 16 = .ok (.bipush 96, 2) := by decide +kernel
theorem dX2_save_18 : decode cX2_save 18 = .ok (.invokestatic 28, 3) := by decide +kernel
theorem dX2_save_21 : decode cX2_save 21 = .ok (.aload_n 0, 1) := by decide +kernel
theorem dX2_save_22 : decode cX2_save 22 = .ok (.getfield 17, 3) := by decide +kernel
theorem dX2_save_25 : decode cX2_save 25 = .ok (.aload_n 0, 1) := by decide +kernel
theorem dX2_save_26 : decode cX2_save 26 = .ok (.getfield 24, 3) := by decide +kernel
theorem dX2_save_29 : decode cX2_save 29 = .ok (.aload_n 1, 1) := by decide +kernel
theorem dX2_save_30 : decode cX2_save 30 = .ok (.getfield 34, 3) := by decide +kernel
theorem dX2_save_33 : decode cX2_save 33 = .ok (.iastore, 1) := by decide +kernel
theorem dX2_save_34 : decode cX2_save 34 = .ok (.aload_n 0, 1) := by decide +kernel
theorem dX2_save_35 : decode cX2_save 35 = .ok (.aload_n 0, 1) := by decide +kernel
theorem dX2_save_36 : decode cX2_save 36 = .ok (.getfield 24, 3) := by decide +kernel
theorem dX2_save_39 : decode cX2_save 39 = .ok (.iconst 1, 1) := by decide +kernel
theorem dX2_save_40 : decode cX2_save 40 = .ok (.iadd, 1) := by decide +kernel
theorem dX2_save_41 : decode cX2_save 41 = .ok (.iconst 5, 1) := by decide +kernel
theorem dX2_save_42 : decode cX2_save 42 = .ok (.if_icmp .ge 12, 3) := by decide +kernel
theorem dX2_save_45 : decode cX2_save 45 = .ok (.aload_n 0, 1) := by decide +kernel
theorem dX2_save_46 : decode cX2_save 46 = .ok (.getfield 24, 3) := by decide +kernel
theorem dX2_save_49 : decode cX2_save 49 = .ok (.iconst 1, 1) := by decide +kernel
theorem dX2_save_50 : decode cX2_save 50 = .ok (.iadd, 1) := by decide +kernel
theorem dX2_save_51 : decode cX2_save 51 = .ok (.goto 4, 3) := by decide +kernel
theorem dX2_save_54 : decode cX2_save 54 = .ok (.iconst 0, 1) := by decide +kernel
theorem dX2_save_55 : decode cX2_save 55 = .ok (.putfield 24, 3) := by decide +kernel
theorem dX2_save_58 : decode cX2_save 58 = .ok (.aload_n 0, 1) := by decide +kernel
theorem dX2_save_59 : decode cX2_save 59 = .ok (.getfield 20, 3) := by decide +kernel
theorem dX2_save_62 : decode cX2_save 62 = .ok (.iconst 5, 1) := by decide +kernel
theorem dX2_save_63 : decode cX2_save 63 = .ok (.if_icmp .ge 13, 3) := by decide +kernel
theorem dX2_save_66 : decode cX2_save 66 = .ok (.aload_n 0, 1) := by decide +kernel
theorem dX2_save_67 : decode cX2_save 67 = .ok (.dup, 1) := by decide +kernel
theorem dX2_save_68 : decode cX2_save 68 = .ok (.getfield 20, 3) := by decide +kernel
theorem dX2_save_71 : decode cX2_save 71 = .ok (.iconst 1, 1) := by decide +kernel
theorem dX2_save_72 : decode cX2_save 72 = .ok (.iadd, 1) := by decide +kernel
theorem dX2_save_73 : decode cX2_save 73 = .ok (.putfield 20, 3) := by decide +kernel
theorem dX2_save_76 : decode cX2_save 76 = .ok (.return_, 1) := by decide +kernel
theorem dX2_restore_0 : decode cX2_restore 0 = .ok (.aload_n 0, 1) := by decide +kernel
theorem dX2_restore_1 : decode cX2_restore 1 = .ok (.aload_n 0, 1) := by decide +kernel
theorem dX2_restore_2 : decode cX2_restore 2 = .ok (.getfield 24, 3) := by decide +kernel
theorem dX2_restore_5 : decode cX2_restore 5 = .ok (.ifCond .le 12, 3) := by decide +kernel
theorem dX2_restore_8 : decode cX2_restore 8 = .ok (.aload_n 0, 1) := by decide +kernel
theorem dX2_restore_9 : decode cX2_restore 9 = .ok (.getfield 24, 3) := by decide +kernel
theorem dX2_restore_12 : decode cX2_restore 12 = .ok (.iconst 1, 1) := by decide +kernel
theorem dX2_restore_13 : decode cX2_restore 13 = .ok (.isub, 1) := by decide +kernel
theorem dX2_restore_14 : decode cX2_restore 14 = .ok (.goto 4, 3) := by decide +kernel
theorem dX2_restore_17 : decode cX2_restore 17 = .ok (.iconst 4, 1) := by decide +kernel
theorem dX2_restore_18 : decode cX2_restore 18 = .ok (.putfield 24, 3) := by decide +kernel
theorem dX2_restore_21 : decode cX2_restore 21 = .ok (.aload_n 0, 1) := by decide +kernel
theorem dX2_restore_22 : decode cX2_restore 22 = .ok (.getfield 11, 3) := by decide +kernel
theorem dX2_restore_25 : decode cX2_restore 25 = .ok (.aload_n 0, 1) := by decide +kernel
theorem dX2_restore_26 : decode cX2_restore 26 = .ok (.getfield 24, 3) := by decide +kernel
theorem dX2_restore_29 : decode cX2_restore 29 = .ok (.bipush 96, 2) := by decide +kernel
theorem dX2_restore_31 : decode cX2_restore 31 = .ok (.imul, 1) := by decide +kernel
theorem dX2_restore_32 : decode cX2_restore 32 = .ok (.aload_n 1, 1) := by decide +kernel
theorem dX2_restore_33 : decode cX2_restore 33 = .ok (.getfield 27, 3) := by decide +kernel
theorem dX2_restore_36 : decode cX2_restore 36 = .ok (.iconst 0, 1) := by decide +kernel
theorem dX2_restore_37 : decode cX2_restore 37 = .ok (.bipush 96, 2) := by decide +kernel
theorem dX2_restore_39 : decode cX2_restore 39 = .ok (.invokestatic 28, 3) := by decide +kernel
theorem dX2_restore_42 : decode cX2_restore 42 = .ok (.aload_n 1, 1) := by decide +kernel
theorem dX2_restore_43 : decode cX2_restore 43 = .ok (.aload_n 0, 1) := by decide +kernel
theorem dX2_restore_44 : decode cX2_restore 44 = .ok (.getfield 17, 3) := by decide +kernel
theorem dX2_restore_47 : decode cX2_restore 47 = .ok (.aload_n 0, 1) := by decide +kernel
theorem dX2_restore_48 : decode cX2_restore 48 = .ok (.getfield 24, 3) := by decide +kernel
theorem dX2_restore_51 : decode cX2_restore 51 = .ok (.iaload, 1) := by decide +kernel
theorem dX2_restore_52 : decode cX2_restore 52 = .ok (.putfield 34, 3) := by decide +kernel
theorem dX2_restore_55 : decode cX2_restore 55 = .ok (.aload_n 0, 1) := by decide +kernel
theorem dX2_restore_56 : decode cX2_restore 56 = .ok (.dup, 1) := by decide +kernel
theorem dX2_restore_57 : decode cX2_restore 57 = .ok (.getfield 20, 3) := by decide +kernel
theorem dX2_restore_60 : decode cX2_restore 60 = .ok (.iconst 1, 1) := by decide +kernel
theorem dX2_restore_61 : decode cX2_restore 61 = .ok (.isub, 1) := by decide +kernel
theorem dX2_restore_62 : decode cX2_restore 62 = .ok (.putfield 20, 3) := by decide +kernel
theorem dX2_restore_65 : decode cX2_restore 65 = .ok (.return_, 1) := by decide +kernel
theorem dX3_init_0 : decode cX3_init 0 = .ok (.aload_n 0, 1) := by decide +kernel
theorem dX3_init_1 : decode cX3_init 1 = .ok (.invokespecial 3, 3) := by decide +kernel
theorem dX3_init_4 : decode cX3_init 4 = .ok (.aload_n 0, 1) := by decide +kernel
theorem dX3_init_5 : decode cX3_init 5 = .ok (.bipush 20, 2) := by decide +kernel
theorem dX3_init_7 : decode cX3_init 7 = .ok (.newarray .int, 2) := by decide +kernel
theorem dX3_init_9 : decode cX3_init 9 = .ok (.putfield 11, 3) := by decide +kernel
theorem dX3_init_12 : decode cX3_init 12 = .ok (.aload_n 0, 1) := by decide +kernel
theorem dX3_init_13 : decode cX3_init 13 = .ok (.iconst 0, 1) := by decide +kernel
theorem dX3_init_14 : decode cX3_init 14 = .ok (.putfield 15, 3) := by decide +kernel
theorem dX3_init_17 : decode cX3_init 17 = .ok (.aload_n 0, 1) := by decide +kernel
theorem dX3_init_18 : decode cX3_init 18 = .ok (.iconst 0, 1) := by decide +kernel
theorem dX3_init_19 : decode cX3_init 19 = .ok (.putfield 19, 3) := by decide +kernel
theorem dX3_init_22 : decode cX3_init 22 = .ok (.return_, 1) := by decide +kernel
theorem dX3_vertexOf_0 : decode cX3_vertexOf 0 = .ok (.iload_n 0, 1) := by decide +kernel
theorem dX3_vertexOf_1 : decode cX3_vertexOf 1 = .ok (.bipush 10, 2) := by decide +kernel
theorem dX3_vertexOf_3 : decode cX3_vertexOf 3 = .ok (.imul, 1) := by decide +kernel
theorem dX3_vertexOf_4 : decode cX3_vertexOf 4 = .ok (.iload_n 1, 1) := by decide +kernel
theorem dX3_vertexOf_5 : decode cX3_vertexOf 5 = .ok (.iadd, 1) := by decide +kernel
theorem dX3_vertexOf_6 : decode cX3_vertexOf 6 = .ok (.ireturn, 1) := by decide +kernel
theorem dX3_connect_0 : decode cX3_connect 0 = .ok (.aload_n 0, 1) := by decide +kernel
theorem dX3_connect_1 : decode cX3_connect 1 = .ok (.aload_n 1, 1) := by decide +kernel
theorem dX3_connect_2 : decode cX3_connect 2 = .ok (.invokevirtual 22, 3) := by decide +kernel
theorem dX3_connect_5 : decode cX3_connect 5 = .ok (.aload_n 0, 1) := by decide +kernel
theorem dX3_connect_6 : decode cX3_connect 6 = .ok (.aload_n 0, 1) := by decide +kernel
theorem dX3_connect_7 : decode cX3_connect 7 = .ok (.getfield 15, 3) := by decide +kernel
theorem dX3_connect_10 : decode cX3_connect 10 = .ok (.putfield 19, 3) := by decide +kernel
theorem dX3_connect_13 : decode cX3_connect 13 = .ok (.iconst 0, 1) := by decide +kernel
theorem dX3_connect_14 : decode cX3_connect 14 = .ok (.istore_n 3, 1) := by decide +kernel
theorem dX3_connect_15 : decode cX3_connect 15 = .ok (.iload_n 3, 1) := by decide +kernel
theorem dX3_connect_16 : decode cX3_connect 16 = .ok (.aload_n 1, 1) := by decide +kernel
theorem dX3_connect_17 : decode cX3_connect 17 = .ok (.getfield 26, 3) := by decide +kernel
theorem dX3_connect_20 : decode cX3_connect 20 = .ok (.if_icmp .ge 28, 3) := by decide +kernel
theorem dX3_connect_23 : decode cX3_connect 23 = .ok (.iload_n 3, 1) := by decide +kernel
theorem dX3_connect_24 : decode cX3_connect 24 = .ok (.iload_n 2, 1) := by decide +kernel
theorem dX3_connect_25 : decode cX3_connect 25 = .ok (.if_icmp .eq 17, 3) := by decide +kernel
theorem dX3_connect_28 : decode cX3_connect 28 = .ok (.aload_n 0, 1) := by decide +kernel
theorem dX3_connect_29 : decode cX3_connect 29 = .ok (.aload_n 1, 1) := by decide +kernel
theorem dX3_connect_30 : decode cX3_connect 30 = .ok (.iload_n 3, 1) := by decide +kernel
theorem dX3_connect_31 : decode cX3_connect 31 = .ok (.invokestatic 31, 3) := by decide +kernel
theorem dX3_connect_34 : decode cX3_connect 34 = .ok (.aload_n 1, 1) := by decide +kernel
theorem dX3_connect_35 : decode cX3_connect 35 = .ok (.iload_n 3, 1) := by decide +kernel
theorem dX3_connect_36 : decode cX3_connect 36 = .ok (.invokestatic 35, 3) := by decide +kernel
theorem dX3_connect_39 : decode cX3_connect 39 = .ok (.invokevirtual 38, 3) := by decide +kernel
theorem dX3_connect_42 : decode cX3_connect 42 = .ok (.iinc 3 1, 3) := by decide +kernel
theorem dX3_connect_45 : decode cX3_connect 45 = .ok (.goto (-30), 3) := by decide +kernel
theorem dX3_connect_48 : decode cX3_connect 48 = .ok (.return_, 1) := by decide +kernel
theorem dX3_obverseOf_0 : decode cX3_obverseOf 0 = .ok (.iconst 0, 1) := by decide +kernel
theorem dX3_obverseOf_1 : decode cX3_obverseOf 1 = .ok (.aload_n 0, 1) := by decide +kernel
theorem dX3_obverseOf_2 : decode cX3_obverseOf 2 = .ok (.getfield 42, 3) := by decide +kernel
theorem dX3_obverseOf_5 : decode cX3_obverseOf 5 = .ok (.iconst 0, 1) := by decide +kernel
theorem dX3_obverseOf_6 : decode cX3_obverseOf 6 = .ok (.aaload, 1) := by decide +kernel
theorem dX3_obverseOf_7 : decode cX3_obverseOf 7 = .ok (.iload_n 1, 1) := by decide +kernel
theorem dX3_obverseOf_8 : decode cX3_obverseOf 8 = .ok (.iaload, 1) := by decide +kernel
theorem dX3_obverseOf_9 : decode cX3_obverseOf 9 = .ok (.invokestatic 46, 3) := by decide +kernel
theorem dX3_obverseOf_12 : decode cX3_obverseOf 12 = .ok (.ireturn, 1) := by decide +kernel
theorem dX3_reverseOf_0 : decode cX3_reverseOf 0 = .ok (.iconst 1, 1) := by decide +kernel
theorem dX3_reverseOf_1 : decode cX3_reverseOf 1 = .ok (.aload_n 0, 1) := by decide +kernel
theorem dX3_reverseOf_2 : decode cX3_reverseOf 2 = .ok (.getfield 42, 3) := by decide +kernel
theorem dX3_reverseOf_5 : decode cX3_reverseOf 5 = .ok (.iconst 1, 1) := by decide +kernel
theorem dX3_reverseOf_6 : decode cX3_reverseOf 6 = .ok (.aaload, 1) := by decide +kernel
theorem dX3_reverseOf_7 : decode cX3_reverseOf 7 = .ok (.iload_n 1, 1) := by decide +kernel
theorem dX3_reverseOf_8 : decode cX3_reverseOf 8 = .ok (.iaload, 1) := by decide +kernel
theorem dX3_reverseOf_9 : decode cX3_reverseOf 9 = .ok (.invokestatic 46, 3) := by decide +kernel
theorem dX3_reverseOf_12 : decode cX3_reverseOf 12 = .ok (.ireturn, 1) := by decide +kernel
theorem dX3_enterDies_0 : decode cX3_enterDies 0 = .ok (.aload_n 0, 1) := by decide +kernel
theorem dX3_enterDies_1 : decode cX3_enterDies 1 = .ok (.getfield 11, 3) := by decide +kernel
theorem dX3_enterDies_4 : decode cX3_enterDies 4 = .ok (.iconst (-1), 1) := by decide +kernel
theorem dX3_enterDies_5 : decode cX3_enterDies 5 = .ok (.invokestatic 50, 3) := by decide +kernel
theorem dX3_enterDies_8 : decode cX3_enterDies 8 = .ok (.aload_n 0, 1) := by decide +kernel
theorem dX3_enterDies_9 : decode cX3_enterDies 9 = .ok (.iconst 0, 1) := by decide +kernel
theorem dX3_enterDies_10 : decode cX3_enterDies 10 = .ok (.putfield 15, 3) := by decide +kernel
theorem dX3_enterDies_13 : decode cX3_enterDies 13 = .ok (.iconst 0, 1) := by decide +kernel
theorem dX3_enterDies_14 : decode cX3_enterDies 14 = .ok (.istore_n 2, 1) := by decide +kernel
theorem dX3_enterDies_15 : decode cX3_enterDies 15 = .ok (.iload_n 2, 1) := by decide +kernel
theorem dX3_enterDies_16 : decode cX3_enterDies 16 = .ok (.aload_n 1, 1) := by decide +kernel
theorem dX3_enterDies_17 : decode cX3_enterDies 17 = .ok (.getfield 26, 3) := by decide +kernel
theorem dX3_enterDies_20 : decode cX3_enterDies 20 = .ok (.if_icmp .ge 27, 3) := by decide +kernel
theorem dX3_enterDies_23 : decode cX3_enterDies 23 = .ok (.aload_n 0, 1) := by decide +kernel
theorem dX3_enterDies_24 : decode cX3_enterDies 24 = .ok (.aload_n 1, 1) := by decide +kernel
theorem dX3_enterDies_25 : decode cX3_enterDies 25 = .ok (.iload_n 2, 1) := by decide +kernel
theorem dX3_enterDies_26 : decode cX3_enterDies 26 = .ok (.invokestatic 31, 3) := by decide +kernel
theorem dX3_enterDies_29 : decode cX3_enterDies 29 = .ok (.invokevirtual 56, 3) := by decide +kernel
theorem dX3_enterDies_32 : decode cX3_enterDies 32 = .ok (.aload_n 0, 1) := by decide +kernel
theorem dX3_enterDies_33 : decode cX3_enterDies 33 = .ok (.aload_n 1, 1) := by decide +kernel
theorem dX3_enterDies_34 : decode cX3_enterDies 34 = .ok (.iload_n 2, 1) := by decide +kernel
theorem dX3_enterDies_35 : decode cX3_enterDies 35 = .ok (.invokestatic 35, 3) := by decide +kernel
theorem dX3_enterDies_38 : decode cX3_enterDies 38 = .ok (.invokevirtual 56, 3) := by decide +kernel
theorem dX3_enterDies_41 : decode cX3_enterDies 41 = .ok (.iinc 2 1, 3) := by decide +kernel
theorem dX3_enterDies_44 : decode cX3_enterDies 44 = .ok (.goto (-29), 3) := by decide +kernel
theorem dX3_enterDies_47 : decode cX3_enterDies 47 = .ok (.return_, 1) := by decide +kernel
theorem dX3_enterDie_0 : decode cX3_enterDie 0 = .ok (.aload_n 0, 1) := by decide +kernel
theorem dX3_enterDie_1 : decode cX3_enterDie 1 = .ok (.getfield 11, 3) := by decide +kernel
theorem dX3_enterDie_4 : decode cX3_enterDie 4 = .ok (.iload_n 1, 1) := by decide +kernel
theorem dX3_enterDie_5 : decode cX3_enterDie 5 = .ok (.iaload, 1) := by decide +kernel
theorem dX3_enterDie_6 : decode cX3_enterDie 6 = .ok (.iconst (-1), 1) := by decide +kernel
theorem dX3_enterDie_7 : decode cX3_enterDie 7 = .ok (.if_icmp .ne 20, 3) := by decide +kernel
theorem dX3_enterDie_10 : decode cX3_enterDie 10 = .ok (.aload_n 0, 1) := by decide +kernel
theorem dX3_enterDie_11 : decode cX3_enterDie 11 = .ok (.getfield 11, 3) := by decide +kernel
theorem dX3_enterDie_14 : decode cX3_enterDie 14 = .ok (.iload_n 1, 1) := by decide +kernel
theorem dX3_enterDie_15 : decode cX3_enterDie 15 = .ok (.iload_n 1, 1) := by decide +kernel
theorem dX3_enterDie_16 : decode cX3_enterDie 16 = .ok (.iastore, 1) := by decide +kernel
theorem dX3_enterDie_17 : decode cX3_enterDie 17 = .ok (.aload_n 0, 1) := by decide +kernel
theorem dX3_enterDie_18 : decode cX3_enterDie 18 = .ok (.dup, 1) := by decide +kernel
theorem dX3_enterDie_19 : decode cX3_enterDie 19 = .ok (.getfield 15, 3) := by decide +kernel
theorem dX3_enterDie_22 : decode cX3_enterDie 22 = .ok (.iconst 1, 1) := by decide +kernel
theorem dX3_enterDie_23 : decode cX3_enterDie 23 = .ok (.iadd, 1) := by decide +kernel
theorem dX3_enterDie_24 : decode cX3_enterDie 24 = .ok (.putfield 15, 3) := by decide +kernel
theorem dX3_enterDie_27 : decode cX3_enterDie 27 = .ok (.return_, 1) := by decide +kernel
theorem dX3_join_0 : decode cX3_join 0 = .ok (.aload_n 0, 1) := by decide +kernel
theorem dX3_join_1 : decode cX3_join 1 = .ok (.getfield 11, 3) := by decide +kernel
theorem dX3_join_4 : decode cX3_join 4 = .ok (.iload_n 1, 1) := by decide +kernel
theorem dX3_join_5 : decode cX3_join 5 = .ok (.iaload, 1) := by decide +kernel
theorem dX3_join_6 : decode cX3_join 6 = .ok (.istore_n 3, 1) := by decide +kernel
theorem dX3_join_7 : decode cX3_join 7 = .ok (.aload_n 0, 1) := by decide +kernel
theorem dX3_join_8 : decode cX3_join 8 = .ok (.getfield 11, 3) := by decide +kernel
theorem dX3_join_11 : decode cX3_join 11 = .ok (.iload_n 2, 1) := by decide +kernel
theorem dX3_join_12 : decode cX3_join 12 = .ok (.iaload, 1) := by decide +kernel
theorem dX3_join_13 : decode cX3_join 13 = .ok (.istore 4, 2) := by decide +kernel
theorem dX3_join_15 : decode cX3_join 15 = .ok (.iload_n 3, 1) := by decide +kernel
theorem dX3_join_16 : decode cX3_join 16 = .ok (.iload 4, 2) := by decide +kernel
theorem dX3_join_18 : decode cX3_join 18 = .ok (.if_icmp .ne 4, 3) := by decide +kernel
theorem dX3_join_21 : decode cX3_join 21 = .ok (.return_, 1) := by decide +kernel
theorem dX3_join_22 : decode cX3_join 22 = .ok (.iconst 0, 1) := by decide +kernel
theorem dX3_join_23 : decode cX3_join 23 = .ok (.istore 5, 2) := by decide +kernel
theorem dX3_join_25 : decode cX3_join 25 = .ok (.iload 5, 2) := by decide +kernel
theorem dX3_join_27 : decode cX3_join 27 = .ok (.bipush 20, 2) := by decide +kernel
theorem dX3_join_29 : decode cX3_join 29 = .ok (.if_icmp .ge 29, 3) := by decide +kernel
theorem dX3_join_32 : decode cX3_join 32 = .ok (.aload_n 0, 1) := by decide +kernel
theorem dX3_join_33 : decode cX3_join 33 = .ok (.getfield 11, 3) := by decide +kernel
theorem dX3_join_36 : decode cX3_join 36 = .ok (.iload 5, 2) := by decide +kernel
theorem dX3_join_38 : decode cX3_join 38 = .ok (.iaload, 1) := by decide +kernel
theorem dX3_join_39 : decode cX3_join 39 = .ok (.iload 4, 2) := by decide +kernel
theorem dX3_join_41 : decode cX3_join 41 = .ok (.if_icmp .ne 11, 3) := by decide +kernel
theorem dX3_join_44 : decode cX3_join 44 = .ok (.aload_n 0, 1) := by decide +kernel
theorem dX3_join_45 : decode cX3_join 45 = .ok (.getfield 11, 3) := by decide +kernel
theorem dX3_join_48 : decode cX3_join 48 = .ok (.iload 5, 2) := by decide +kernel
theorem dX3_join_50 : decode cX3_join 50 = .ok (.iload_n 3, 1) := by decide +kernel
theorem dX3_join_51 : decode cX3_join 51 = .ok (.iastore, 1) := by decide +kernel
theorem dX3_join_52 : decode cX3_join 52 = .ok (.iinc 5 1, 3) := by decide +kernel
theorem dX3_join_55 : decode cX3_join 55 = .ok (.goto (-30), 3) := by decide +kernel
theorem dX3_join_58 : decode cX3_join 58 = .ok (.aload_n 0, 1) := by decide +kernel
theorem dX3_join_59 : decode cX3_join 59 = .ok (.dup, 1) := by decide +kernel
theorem dX3_join_60 : decode cX3_join 60 = .ok (.getfield 19, 3) := by decide +kernel
theorem dX3_join_63 : decode cX3_join 63 = .ok (.iconst 1, 1) := by decide +kernel
theorem dX3_join_64 : decode cX3_join 64 = .ok (.isub, 1) := by decide +kernel
theorem dX3_join_65 : decode cX3_join 65 = .ok (.putfield 19, 3) := by decide +kernel
theorem dX3_join_68 : decode cX3_join 68 = .ok (.return_, 1) := by decide +kernel
theorem dX3_fallsApartWithout_0 : decode cX3_fallsApartWithout 0 = .ok (.aload_n 0, 1) := by decide +kernel
theorem dX3_fallsApartWithout_1 : decode cX3_fallsApartWithout 1 = .ok (.aload_n 1, 1) := by decide +kernel
theorem dX3_fallsApartWithout_2 : decode cX3_fallsApartWithout 2 = .ok (.iload_n 2, 1) := by decide +kernel
theorem dX3_fallsApartWithout_3 : decode cX3_fallsApartWithout 3 = .ok (.invokevirtual 60, 3) := by decide +kernel
theorem dX3_fallsApartWithout_6 : decode cX3_fallsApartWithout 6 = .ok (.aload_n 0, 1) := by decide +kernel
theorem dX3_fallsApartWithout_7 : decode cX3_fallsApartWithout 7 = .ok (.getfield 11, 3) := by decide +kernel
theorem dX3_fallsApartWithout_10 : decode cX3_fallsApartWithout 10 = .ok (.aload_n 1, 1) := by decide +kernel
theorem dX3_fallsApartWithout_11 : decode cX3_fallsApartWithout 11 = .ok (.iload_n 2, 1) := by decide +kernel
theorem dX3_fallsApartWithout_12 : decode cX3_fallsApartWithout 12 = .ok (.invokestatic 31, 3) := by decide +kernel
theorem dX3_fallsApartWithout_15 : decode cX3_fallsApartWithout 15 = .ok (.iaload, 1) := by decide +kernel
theorem dX3_fallsApartWithout_16 : decode cX3_fallsApartWithout 16 = .ok (.aload_n 0, 1) := by decide +kernel
theorem dX3_fallsApartWithout_17 : decode cX3_fallsApartWithout 17 = .ok (.getfield 11, 3) := by decide +kernel
theorem dX3_fallsApartWithout_20 : decode cX3_fallsApartWithout 20 = .ok (.aload_n 1, 1) := by decide +kernel
theorem dX3_fallsApartWithout_21 : decode cX3_fallsApartWithout 21 = .ok (.iload_n 2, 1) := by decide +kernel
theorem dX3_fallsApartWithout_22 : decode cX3_fallsApartWithout 22 = .ok (.invokestatic 35, 3) := by decide +kernel
theorem dX3_fallsApartWithout_25 : decode cX3_fallsApartWithout 25 = .ok (.iaload, 1) := by decide +kernel
theorem dX3_fallsApartWithout_26 : decode cX3_fallsApartWithout 26 = .ok (.if_icmp .eq 7, 3) := by decide +kernel
theorem dX3_fallsApartWithout_29 : decode cX3_fallsApartWithout 29 = .ok (.iconst 1, 1) := by decide +kernel
theorem dX3_fallsApartWithout_30 : decode cX3_fallsApartWithout 30 = .ok (.goto 4, 3) := by decide +kernel
theorem dX3_fallsApartWithout_33 : decode cX3_fallsApartWithout 33 = .ok (.iconst 0, 1) := by decide +kernel
theorem dX3_fallsApartWithout_34 : decode cX3_fallsApartWithout 34 = .ok (.ireturn, 1) := by decide +kernel
theorem dX3_diesAround_0 : decode cX3_diesAround 0 = .ok (.aload_n 0, 1) := by decide +kernel
theorem dX3_diesAround_1 : decode cX3_diesAround 1 = .ok (.getfield 11, 3) := by decide +kernel
theorem dX3_diesAround_4 : decode cX3_diesAround 4 = .ok (.iload_n 1, 1) := by decide +kernel
theorem dX3_diesAround_5 : decode cX3_diesAround 5 = .ok (.iload_n 2, 1) := by decide +kernel
theorem dX3_diesAround_6 : decode cX3_diesAround 6 = .ok (.invokestatic 46, 3) := by decide +kernel
theorem dX3_diesAround_9 : decode cX3_diesAround 9 = .ok (.iaload, 1) := by decide +kernel
theorem dX3_diesAround_10 : decode cX3_diesAround 10 = .ok (.istore_n 3, 1) := by decide +kernel
theorem dX3_diesAround_11 : decode cX3_diesAround 11 = .ok (.iload_n 3, 1) := by decide +kernel
theorem dX3_diesAround_12 : decode cX3_diesAround 12 = .ok (.iconst (-1), 1) := by decide +kernel
theorem dX3_diesAround_13 : decode cX3_diesAround 13 = .ok (.if_icmp .ne 5, 3) := by decide +kernel
theorem dX3_diesAround_16 : decode cX3_diesAround 16 = .ok (.iconst 0, 1) := by decide +kernel
theorem dX3_diesAround_17 : decode cX3_diesAround 17 = .ok (.ireturn, 1) := by decide +kernel
theorem dX3_diesAround_18 : decode cX3_diesAround 18 = .ok (.iconst 0, 1) := by decide +kernel
theorem dX3_diesAround_19 : decode cX3_diesAround 19 = .ok (.istore 4, 2) := by decide +kernel
theorem dX3_diesAround_21 : decode cX3_diesAround 21 = .ok (.iconst 0, 1) := by decide +kernel
theorem dX3_diesAround_22 : decode cX3_diesAround 22 = .ok (.istore 5, 2) := by decide +kernel
theorem dX3_diesAround_24 : decode cX3_diesAround 24 = .ok (.iload 5, 2) := by decide +kernel
theorem dX3_diesAround_26 : decode cX3_diesAround 26 = .ok (.bipush 20, 2) := by decide +kernel
theorem dX3_diesAround_28 : decode cX3_diesAround 28 = .ok (.if_icmp .ge 23, 3) := by decide +kernel
theorem dX3_diesAround_31 : decode cX3_diesAround 31 = .ok (.aload_n 0, 1) := by decide +kernel
theorem dX3_diesAround_32 : decode cX3_diesAround 32 = .ok (.getfield 11, 3) := by decide +kernel
theorem dX3_diesAround_35 : decode cX3_diesAround 35 = .ok (.iload 5, 2) := by decide +kernel
theorem dX3_diesAround_37 : decode cX3_diesAround 37 = .ok (.iaload, 1) := by decide +kernel
theorem dX3_diesAround_38 : decode cX3_diesAround 38 = .ok (.iload_n 3, 1) := by decide +kernel
theorem dX3_diesAround_39 : decode cX3_diesAround 39 = .ok (.if_icmp .ne 6, 3) := by decide +kernel
theorem dX3_diesAround_42 : decode cX3_diesAround 42 = .ok (.iinc 4 1, 3) := by decide +kernel
theorem dX3_diesAround_45 : decode cX3_diesAround 45 = .ok (.iinc 5 1, 3) := by decide +kernel
theorem dX3_diesAround_48 : decode cX3_diesAround 48 = .ok (.goto (-24), 3) := by decide +kernel
theorem dX3_diesAround_51 : decode cX3_diesAround 51 = .ok (.iload 4, 2) := by decide +kernel
theorem dX3_diesAround_53 : decode cX3_diesAround 53 = .ok (.ireturn, 1) := by decide +kernel
theorem dX4_init_0 : decode cX4_init 0 = .ok (.aload_n 0, 1) := by decide +kernel
theorem dX4_init_1 : decode cX4_init 1 = .ok (.invokespecial 5, 3) := by decide +kernel
theorem dX4_init_4 : decode cX4_init 4 = .ok (.aload_n 0, 1) := by decide +kernel
theorem dX4_init_5 : decode cX4_init 5 = .ok (.bipush 96, 2) := by decide +kernel
theorem dX4_init_7 : decode cX4_init 7 = .ok (.newarray .int, 2) := by decide +kernel
theorem dX4_init_9 : decode cX4_init 9 = .ok (.putfield 11, 3) := by decide +kernel
theorem dX4_init_12 : decode cX4_init 12 = .ok (.aload_n 0, 1) := by decide +kernel
theorem dX4_init_13 : decode cX4_init 13 = .ok (.iconst 0, 1) := by decide +kernel
theorem dX4_init_14 : decode cX4_init 14 = .ok (.putfield 15, 3) := by decide +kernel
theorem dX4_init_17 : decode cX4_init 17 = .ok (.return_, 1) := by decide +kernel
theorem dX4_has_0 : decode cX4_has 0 = .ok (.iload_n 1, 1) := by decide +kernel
theorem dX4_has_1 : decode cX4_has 1 = .ok (.ifCond .lt 15, 3) := by decide +kernel
theorem dX4_has_4 : decode cX4_has 4 = .ok (.iload_n 1, 1) := by decide +kernel
theorem dX4_has_5 : decode cX4_has 5 = .ok (.aload_n 0, 1) := by decide +kernel
theorem dX4_has_6 : decode cX4_has 6 = .ok (.getfield 15, 3) := by decide +kernel
theorem dX4_has_9 : decode cX4_has 9 = .ok (.if_icmp .ge 7, 3) := by decide +kernel
theorem dX4_has_12 : decode cX4_has 12 = .ok (.iconst 1, 1) := by decide +kernel
theorem dX4_has_13 : decode cX4_has 13 = .ok (.goto 4, 3) := by decide +kernel
theorem dX4_has_16 : decode cX4_has 16 = .ok (.iconst 0, 1) := by decide +kernel
theorem dX4_has_17 : decode cX4_has 17 = .ok (.ireturn, 1) := by decide +kernel
theorem dX4_die_0 : decode cX4_die 0 = .ok (.aload_n 0, 1) := by decide +kernel
theorem dX4_die_1 : decode cX4_die 1 = .ok (.getfield 11, 3) := by decide +kernel
theorem dX4_die_4 : decode cX4_die 4 = .ok (.iload_n 1, 1) := by decide +kernel
theorem dX4_die_5 : decode cX4_die 5 = .ok (.iconst 4, 1) := by decide +kernel
theorem dX4_die_6 : decode cX4_die 6 = .ok (.imul, 1) := by decide +kernel
theorem dX4_die_7 : decode cX4_die 7 = .ok (.iload_n 2, 1) := by decide +kernel
theorem dX4_die_8 : decode cX4_die 8 = .ok (.iadd, 1) := by decide +kernel
theorem dX4_die_9 : decode cX4_die 9 = .ok (.iaload, 1) := by decide +kernel
theorem dX4_die_10 : decode cX4_die 10 = .ok (.ireturn, 1) := by decide +kernel
theorem dX4_putDie_0 : decode cX4_putDie 0 = .ok (.aload_n 0, 1) := by decide +kernel
theorem dX4_putDie_1 : decode cX4_putDie 1 = .ok (.getfield 11, 3) := by decide +kernel
theorem dX4_putDie_4 : decode cX4_putDie 4 = .ok (.iload_n 1, 1) := by decide +kernel
theorem dX4_putDie_5 : decode cX4_putDie 5 = .ok (.iconst 4, 1) := by decide +kernel
theorem dX4_putDie_6 : decode cX4_putDie 6 = .ok (.imul, 1) := by decide +kernel
theorem dX4_putDie_7 : decode cX4_putDie 7 = .ok (.iload_n 2, 1) := by decide +kernel
theorem dX4_putDie_8 : decode cX4_putDie 8 = .ok (.iadd, 1) := by decide +kernel
theorem dX4_putDie_9 : decode cX4_putDie 9 = .ok (.iload_n 3, 1) := by decide +kernel
theorem dX4_putDie_10 : decode cX4_putDie 10 = .ok (.iastore, 1) := by decide +kernel
theorem dX4_putDie_11 : decode cX4_putDie 11 = .ok (.return_, 1) := by decide +kernel
theorem dX4_wear_0 : decode cX4_wear 0 = .ok (.aload_n 0, 1) := by decide +kernel
theorem dX4_wear_1 : decode cX4_wear 1 = .ok (.getfield 11, 3) := by decide +kernel
theorem dX4_wear_4 : decode cX4_wear 4 = .ok (.iload_n 1, 1) := by decide +kernel
theorem dX4_wear_5 : decode cX4_wear 5 = .ok (.iconst 4, 1) := by decide +kernel
theorem dX4_wear_6 : decode cX4_wear 6 = .ok (.imul, 1) := by decide +kernel
theorem dX4_wear_7 : decode cX4_wear 7 = .ok (.iconst 2, 1) := by decide +kernel
theorem dX4_wear_8 : decode cX4_wear 8 = .ok (.iadd, 1) := by decide +kernel
theorem dX4_wear_9 : decode cX4_wear 9 = .ok (.iload_n 2, 1) := by decide +kernel
theorem dX4_wear_10 : decode cX4_wear 10 = .ok (.iadd, 1) := by decide +kernel
theorem dX4_wear_11 : decode cX4_wear 11 = .ok (.iaload, 1) := by decide +kernel
theorem dX4_wear_12 : decode cX4_wear 12 = .ok (.ireturn, 1) := by decide +kernel
theorem dX4_putWear_0 : decode cX4_putWear 0 = .ok (.aload_n 0, 1) := by decide +kernel
theorem dX4_putWear_1 : decode cX4_putWear 1 = .ok (.getfield 11, 3) := by decide +kernel
theorem dX4_putWear_4 : decode cX4_putWear 4 = .ok (.iload_n 1, 1) := by decide +kernel
theorem dX4_putWear_5 : decode cX4_putWear 5 = .ok (.iconst 4, 1) := by decide +kernel
theorem dX4_putWear_6 : decode cX4_putWear 6 = .ok (.imul, 1) := by decide +kernel
theorem dX4_putWear_7 : decode cX4_putWear 7 = .ok (.iconst 2, 1) := by decide +kernel
theorem dX4_putWear_8 : decode cX4_putWear 8 = .ok (.iadd, 1) := by decide +kernel
theorem dX4_putWear_9 : decode cX4_putWear 9 = .ok (.iload_n 2, 1) := by decide +kernel
theorem dX4_putWear_10 : decode cX4_putWear 10 = .ok (.iadd, 1) := by decide +kernel
theorem dX4_putWear_11 : decode cX4_putWear 11 = .ok (.iload_n 3, 1) := by decide +kernel
theorem dX4_putWear_12 : decode cX4_putWear 12 = .ok (.iastore, 1) := by decide +kernel
theorem dX4_putWear_13 : decode cX4_putWear 13 = .ok (.return_, 1) := by decide +kernel
theorem dX4_close_0 : decode cX4_close 0 = .ok (.iload_n 1, 1) := by decide +kernel
theorem dX4_close_1 : decode cX4_close 1 = .ok (.iconst 4, 1) := by decide +kernel
theorem dX4_close_2 : decode cX4_close 2 = .ok (.imul, 1) := by decide +kernel
theorem dX4_close_3 : decode cX4_close 3 = .ok (.istore_n 2, 1) := by decide +kernel
theorem dX4_close_4 : decode cX4_close 4 = .ok (.iload_n 2, 1) := by decide +kernel
theorem dX4_close_5 : decode cX4_close 5 = .ok (.iconst 4, 1) := by decide +kernel
theorem dX4_close_6 : decode cX4_close 6 = .ok (.iadd, 1) := by decide +kernel
theorem dX4_close_7 : decode cX4_close 7 = .ok (.istore_n 3, 1) := by decide +kernel
theorem dX4_close_8 : decode cX4_close 8 = .ok (.aload_n 0, 1) := by decide +kernel
theorem dX4_close_9 : decode cX4_close 9 = .ok (.getfield 11, 3) := by decide +kernel
theorem dX4_close_12 : decode cX4_close 12 = .ok (.iload_n 3, 1) := by decide +kernel
theorem dX4_close_13 : decode cX4_close 13 = .ok (.aload_n 0, 1) := by decide +kernel
theorem dX4_close_14 : decode cX4_close 14 = .ok (.getfield 11, 3) := by decide +kernel
theorem dX4_close_17 : decode cX4_close 17 = .ok (.iload_n 2, 1) := by decide +kernel
theorem dX4_close_18 : decode cX4_close 18 = .ok (.aload_n 0, 1) := by decide +kernel
theorem dX4_close_19 : decode cX4_close 19 = .ok (.getfield 15, 3) := by decide +kernel
theorem dX4_close_22 : decode cX4_close 22 = .ok (.iconst 4, 1) := by decide +kernel
theorem dX4_close_23 : decode cX4_close 23 = .ok (.imul, 1) := by decide +kernel
theorem dX4_close_24 : decode cX4_close 24 = .ok (.iload_n 3, 1) := by decide +kernel
theorem dX4_close_25 : decode cX4_close 25 = .ok (.isub, 1) := by decide +kernel
theorem dX4_close_26 : decode cX4_close 26 = .ok (.invokestatic 19, 3) := by decide +kernel
theorem dX4_close_29 : decode cX4_close 29 = .ok (.aload_n 0, 1) := by decide +kernel
theorem dX4_close_30 : decode cX4_close 30 = .ok (.dup, 1) := by decide +kernel
theorem dX4_close_31 : decode cX4_close 31 = .ok (.getfield 15, 3) := by decide +kernel
theorem dX4_close_34 : decode cX4_close 34 = .ok (.iconst 1, 1) := by decide +kernel
theorem dX4_close_35 : decode cX4_close 35 = .ok (.isub, 1) := by decide +kernel
theorem dX4_close_36 : decode cX4_close 36 = .ok (.putfield 15, 3) := by decide +kernel
theorem dX4_close_39 : decode cX4_close 39 = .ok (.return_, 1) := by decide +kernel
theorem dX4_replaceDie_0 : decode cX4_replaceDie 0 = .ok (.iconst 0, 1) := by decide +kernel
theorem dX4_replaceDie_1 : decode cX4_replaceDie 1 = .ok (.istore 4, 2) := by decide +kernel
theorem dX4_replaceDie_3 : decode cX4_replaceDie 3 = .ok (.iconst 0, 1) := by decide +kernel
theorem dX4_replaceDie_4 : decode cX4_replaceDie 4 = .ok (.istore 5, 2) := by decide +kernel
theorem dX4_replaceDie_6 : decode cX4_replaceDie 6 = .ok (.iload 5, 2) := by decide +kernel
theorem dX4_replaceDie_8 : decode cX4_replaceDie 8 = .ok (.aload_n 0, 1) := by decide +kernel
theorem dX4_replaceDie_9 : decode cX4_replaceDie 9 = .ok (.getfield 15, 3) := by decide +kernel
theorem dX4_replaceDie_12 : decode cX4_replaceDie 12 = .ok (.if_icmp .ge 31, 3) := by decide +kernel
theorem dX4_replaceDie_15 : decode cX4_replaceDie 15 = .ok (.aload_n 0, 1) := by decide +kernel
theorem dX4_replaceDie_16 : decode cX4_replaceDie 16 = .ok (.iload 5, 2) := by decide +kernel
theorem dX4_replaceDie_18 : decode cX4_replaceDie 18 = .ok (.iload_n 1, 1) := by decide +kernel
theorem dX4_replaceDie_19 : decode cX4_replaceDie 19 = .ok (.invokevirtual 25, 3) := by decide +kernel
theorem dX4_replaceDie_22 : decode cX4_replaceDie 22 = .ok (.iload_n 2, 1) := by decide +kernel
theorem dX4_replaceDie_23 : decode cX4_replaceDie 23 = .ok (.if_icmp .ne 14, 3) := by decide +kernel
theorem dX4_replaceDie_26 : decode cX4_replaceDie 26 = .ok (.aload_n 0, 1) := by decide +kernel
theorem dX4_replaceDie_27 : decode cX4_replaceDie 27 = .ok (.iload 5, 2) := by decide +kernel
theorem dX4_replaceDie_29 : decode cX4_replaceDie 29 = .ok (.iload_n 1, 1) := by decide +kernel
theorem dX4_replaceDie_30 : decode cX4_replaceDie 30 = .ok (.iload_n 3, 1) := by decide +kernel
theorem dX4_replaceDie_31 : decode cX4_replaceDie 31 = .ok (.invokevirtual 29, 3) := by decide +kernel
theorem dX4_replaceDie_34 : decode cX4_replaceDie 34 = .ok (.iinc 4 1, 3) := by decide +kernel
theorem dX4_replaceDie_37 : decode cX4_replaceDie 37 = .ok (.iinc 5 1, 3) := by decide +kernel
theorem dX4_replaceDie_40 : decode cX4_replaceDie 40 = .ok (.goto (-34), 3) := by decide +kernel
theorem dX4_replaceDie_43 : decode cX4_replaceDie 43 = .ok (.iload 4, 2) := by decide +kernel
theorem dX4_replaceDie_45 : decode cX4_replaceDie 45 = .ok (.ireturn, 1) := by decide +kernel
theorem dX4_struckWith_0 : decode cX4_struckWith 0 = .ok (.iconst 0, 1) := by decide +kernel
theorem dX4_struckWith_1 : decode cX4_struckWith 1 = .ok (.istore_n 3, 1) := by decide +kernel
theorem dX4_struckWith_2 : decode cX4_struckWith 2 = .ok (.iconst 0, 1) := by decide +kernel
theorem dX4_struckWith_3 : decode cX4_struckWith 3 = .ok (.istore 4, 2) := by decide +kernel
theorem dX4_struckWith_5 : decode cX4_struckWith 5 = .ok (.iload 4, 2) := by decide +kernel
theorem dX4_struckWith_7 : decode cX4_struckWith 7 = .ok (.aload_n 0, 1) := by decide +kernel
theorem dX4_struckWith_8 : decode cX4_struckWith 8 = .ok (.getfield 15, 3) := by decide +kernel
theorem dX4_struckWith_11 : decode cX4_struckWith 11 = .ok (.if_icmp .ge 23, 3) := by decide +kernel
theorem dX4_struckWith_14 : decode cX4_struckWith 14 = .ok (.aload_n 0, 1) := by decide +kernel
theorem dX4_struckWith_15 : decode cX4_struckWith 15 = .ok (.iload 4, 2) := by decide +kernel
theorem dX4_struckWith_17 : decode cX4_struckWith 17 = .ok (.iload_n 1, 1) := by decide +kernel
theorem dX4_struckWith_18 : decode cX4_struckWith 18 = .ok (.invokevirtual 25, 3) := by decide +kernel
theorem dX4_struckWith_21 : decode cX4_struckWith 21 = .ok (.iload_n 2, 1) := by decide +kernel
theorem dX4_struckWith_22 : decode cX4_struckWith 22 = .ok (.if_icmp .ne 6, 3) := by decide +kernel
theorem dX4_struckWith_25 : decode cX4_struckWith 25 = .ok (.iinc 3 1, 3) := by decide +kernel
theorem dX4_struckWith_28 : decode cX4_struckWith 28 = .ok (.iinc 4 1, 3) := by decide +kernel
theorem dX4_struckWith_31 : decode cX4_struckWith 31 = .ok (.goto (-26), 3) := by decide +kernel
theorem dX4_struckWith_34 : decode cX4_struckWith 34 = .ok (.iload_n 3, 1) := by decide +kernel
theorem dX4_struckWith_35 : decode cX4_struckWith 35 = .ok (.ireturn, 1) := by decide +kernel
theorem dX4_wearSum_0 : decode cX4_wearSum 0 = .ok (.iconst 0, 1) := by decide +kernel
theorem dX4_wearSum_1 : decode cX4_wearSum 1 = .ok (.istore_n 3, 1) := by decide +kernel
theorem dX4_wearSum_2 : decode cX4_wearSum 2 = .ok (.iconst 0, 1) := by decide +kernel
theorem dX4_wearSum_3 : decode cX4_wearSum 3 = .ok (.istore 4, 2) := by decide +kernel
theorem dX4_wearSum_5 : decode cX4_wearSum 5 = .ok (.iload 4, 2) := by decide +kernel
theorem dX4_wearSum_7 : decode cX4_wearSum 7 = .ok (.aload_n 0, 1) := by decide +kernel
theorem dX4_wearSum_8 : decode cX4_wearSum 8 = .ok (.getfield 15, 3) := by decide +kernel
theorem dX4_wearSum_11 : decode cX4_wearSum 11 = .ok (.if_icmp .ge 30, 3) := by decide +kernel
theorem dX4_wearSum_14 : decode cX4_wearSum 14 = .ok (.aload_n 0, 1) := by decide +kernel
theorem dX4_wearSum_15 : decode cX4_wearSum 15 = .ok (.iload 4, 2) := by decide +kernel
theorem dX4_wearSum_17 : decode cX4_wearSum 17 = .ok (.iload_n 1, 1) := by decide +kernel
theorem dX4_wearSum_18 : decode cX4_wearSum 18 = .ok (.invokevirtual 25, 3) := by decide +kernel
theorem dX4_wearSum_21 : decode cX4_wearSum 21 = .ok (.iload_n 2, 1) := by decide +kernel
theorem dX4_wearSum_22 : decode cX4_wearSum 22 = .ok (.if_icmp .ne 13, 3) := by decide +kernel
theorem dX4_wearSum_25 : decode cX4_wearSum 25 = .ok (.iload_n 3, 1) := by decide +kernel
theorem dX4_wearSum_26 : decode cX4_wearSum 26 = .ok (.aload_n 0, 1) := by decide +kernel
theorem dX4_wearSum_27 : decode cX4_wearSum 27 = .ok (.iload 4, 2) := by decide +kernel
theorem dX4_wearSum_29 : decode cX4_wearSum 29 = .ok (.iload_n 1, 1) := by decide +kernel
theorem dX4_wearSum_30 : decode cX4_wearSum 30 = .ok (.invokevirtual 33, 3) := by decide +kernel
theorem dX4_wearSum_33 : decode cX4_wearSum 33 = .ok (.iadd, 1) := by decide +kernel
theorem dX4_wearSum_34 : decode cX4_wearSum 34 = .ok (.istore_n 3, 1) := by decide +kernel
theorem dX4_wearSum_35 : decode cX4_wearSum 35 = .ok (.iinc 4 1, 3) := by decide +kernel
theorem dX4_wearSum_38 : decode cX4_wearSum 38 = .ok (.goto (-33), 3) := by decide +kernel
theorem dX4_wearSum_41 : decode cX4_wearSum 41 = .ok (.iload_n 3, 1) := by decide +kernel
theorem dX4_wearSum_42 : decode cX4_wearSum 42 = .ok (.ireturn, 1) := by decide +kernel
theorem dX4_knownDies_0 : decode cX4_knownDies 0 = .ok (.iconst 0, 1) := by decide +kernel
theorem dX4_knownDies_1 : decode cX4_knownDies 1 = .ok (.istore_n 2, 1) := by decide +kernel
theorem dX4_knownDies_2 : decode cX4_knownDies 2 = .ok (.iconst 0, 1) := by decide +kernel
theorem dX4_knownDies_3 : decode cX4_knownDies 3 = .ok (.istore_n 3, 1) := by decide +kernel
theorem dX4_knownDies_4 : decode cX4_knownDies 4 = .ok (.iload_n 3, 1) := by decide +kernel
theorem dX4_knownDies_5 : decode cX4_knownDies 5 = .ok (.bipush 10, 2) := by decide +kernel
theorem dX4_knownDies_7 : decode cX4_knownDies 7 = .ok (.if_icmp .ge 21, 3) := by decide +kernel
theorem dX4_knownDies_10 : decode cX4_knownDies 10 = .ok (.aload_n 0, 1) := by decide +kernel
theorem dX4_knownDies_11 : decode cX4_knownDies 11 = .ok (.iload_n 1, 1) := by decide +kernel
theorem dX4_knownDies_12 : decode cX4_knownDies 12 = .ok (.iload_n 3, 1) := by decide +kernel
theorem dX4_knownDies_13 : decode cX4_knownDies 13 = .ok (.invokevirtual 36, 3) := by decide +kernel
theorem dX4_knownDies_16 : decode cX4_knownDies 16 = .ok (.ifCond .le 6, 3) := by decide +kernel
theorem dX4_knownDies_19 : decode cX4_knownDies 19 = .ok (.iinc 2 1, 3) := by decide +kernel
theorem dX4_knownDies_22 : decode cX4_knownDies 22 = .ok (.iinc 3 1, 3) := by decide +kernel
theorem dX4_knownDies_25 : decode cX4_knownDies 25 = .ok (.goto (-21), 3) := by decide +kernel
theorem dX4_knownDies_28 : decode cX4_knownDies 28 = .ok (.iload_n 2, 1) := by decide +kernel
theorem dX4_knownDies_29 : decode cX4_knownDies 29 = .ok (.ireturn, 1) := by decide +kernel
theorem dX4_diesStruckOnce_0 : decode cX4_diesStruckOnce 0 = .ok (.iconst 0, 1) := by decide +kernel
theorem dX4_diesStruckOnce_1 : decode cX4_diesStruckOnce 1 = .ok (.istore_n 2, 1) := by decide +kernel
theorem dX4_diesStruckOnce_2 : decode cX4_diesStruckOnce 2 = .ok (.iconst 0, 1) := by decide +kernel
theorem dX4_diesStruckOnce_3 : decode cX4_diesStruckOnce 3 = .ok (.istore_n 3, 1) := by decide +kernel
theorem dX4_diesStruckOnce_4 : decode cX4_diesStruckOnce 4 = .ok (.iload_n 3, 1) := by decide +kernel
theorem dX4_diesStruckOnce_5 : decode cX4_diesStruckOnce 5 = .ok (.bipush 10, 2) := by decide +kernel
theorem dX4_diesStruckOnce_7 : decode cX4_diesStruckOnce 7 = .ok (.if_icmp .ge 22, 3) := by decide +kernel
theorem dX4_diesStruckOnce_10 : decode cX4_diesStruckOnce 10 = .ok (.aload_n 0, 1) := by decide +kernel
theorem dX4_diesStruckOnce_11 : decode cX4_diesStruckOnce 11 = .ok (.iload_n 1, 1) := by decide +kernel
theorem dX4_diesStruckOnce_12 : decode cX4_diesStruckOnce 12 = .ok (.iload_n 3, 1) := by decide +kernel
theorem dX4_diesStruckOnce_13 : decode cX4_diesStruckOnce 13 = .ok (.invokevirtual 36, 3) := by decide +kernel
theorem dX4_diesStruckOnce_16 : decode cX4_diesStruckOnce 16 = .ok (.iconst 1, 1) := by decide +kernel
theorem dX4_diesStruckOnce_17 : decode cX4_diesStruckOnce 17 = .ok (.if_icmp .ne 6, 3) := by decide +kernel
theorem dX4_diesStruckOnce_20 : decode cX4_diesStruckOnce 20 = .ok (.iinc 2 1, 3) := by decide +kernel
theorem dX4_diesStruckOnce_23 : decode cX4_diesStruckOnce 23 = .ok (.iinc 3 1, 3) := by decide +kernel
theorem dX4_diesStruckOnce_26 : decode cX4_diesStruckOnce 26 = .ok (.goto (-22), 3) := by decide +kernel
theorem dX4_diesStruckOnce_29 : decode cX4_diesStruckOnce 29 = .ok (.iload_n 2, 1) := by decide +kernel
theorem dX4_diesStruckOnce_30 : decode cX4_diesStruckOnce 30 = .ok (.ireturn, 1) := by decide +kernel
theorem dX5_init_0 : decode cX5_init 0 = .ok (.aload_n 0, 1) := by decide +kernel
theorem dX5_init_1 : decode cX5_init 1 = .ok (.invokespecial 1, 3) := by decide +kernel
theorem dX5_init_4 : decode cX5_init 4 = .ok (.aload_n 0, 1) := by decide +kernel
theorem dX5_init_5 : decode cX5_init 5 = .ok (.new 7, 3) := by decide +kernel
theorem dX5_init_8 : decode cX5_init 8 = .ok (.dup, 1) := by decide +kernel
theorem dX5_init_9 : decode cX5_init 9 = .ok (.invokespecial 9, 3) := by decide +kernel
theorem dX5_init_12 : decode cX5_init 12 = .ok (.putfield 10, 3) := by decide +kernel
theorem dX5_init_15 : decode cX5_init 15 = .ok (.aload_n 0, 1) := by decide +kernel
theorem dX5_init_16 : decode cX5_init 16 = .ok (.new 16, 3) := by decide +kernel
theorem dX5_init_19 : decode cX5_init 19 = .ok (.dup, 1) := by decide +kernel
theorem dX5_init_20 : decode cX5_init 20 = .ok (.invokespecial 18, 3) := by decide +kernel
theorem dX5_init_23 : decode cX5_init 23 = .ok (.putfield 19, 3) := by decide +kernel
theorem dX5_init_26 : decode cX5_init 26 = .ok (.aload_n 0, 1) := by decide +kernel
theorem dX5_init_27 : decode cX5_init 27 = .ok (.new 23, 3) := by decide +kernel
theorem dX5_init_30 : decode cX5_init 30 = .ok (.dup, 1) := by decide +kernel
theorem dX5_init_31 : decode cX5_init 31 = .ok (.invokespecial 25, 3) := by decide +kernel
theorem dX5_init_34 : decode cX5_init 34 = .ok (.putfield 26, 3) := by decide +kernel
theorem dX5_init_37 : decode cX5_init 37 = .ok (.aload_n 0, 1) := by decide +kernel
theorem dX5_init_38 : decode cX5_init 38 = .ok (.new 30, 3) := by decide +kernel
theorem dX5_init_41 : decode cX5_init 41 = .ok (.dup, 1) := by decide +kernel
theorem dX5_init_42 : decode cX5_init 42 = .ok (.invokespecial 32, 3) := by decide +kernel
theorem dX5_init_45 : decode cX5_init 45 = .ok (.putfield 33, 3) := by decide +kernel
theorem dX5_init_48 : decode cX5_init 48 = .ok (.aload_n 0, 1) := by decide +kernel
theorem dX5_init_49 : decode cX5_init 49 = .ok (.new 37, 3) := by decide +kernel
theorem dX5_init_52 : decode cX5_init 52 = .ok (.dup, 1) := by decide +kernel
theorem dX5_init_53 : decode cX5_init 53 = .ok (.invokespecial 39, 3) := by decide +kernel
theorem dX5_init_56 : decode cX5_init 56 = .ok (.putfield 40, 3) := by decide +kernel
theorem dX5_init_59 : decode cX5_init 59 = .ok (.return_, 1) := by decide +kernel
theorem dX5_addSpecimen_0 : decode cX5_addSpecimen 0 = .ok (.iload_n 1, 1) := by decide +kernel
theorem dX5_addSpecimen_1 : decode cX5_addSpecimen 1 = .ok (.invokestatic 44, 3) := by decide +kernel
theorem dX5_addSpecimen_4 : decode cX5_addSpecimen 4 = .ok (.ifCond .eq 25, 3) := by decide +kernel
theorem dX5_addSpecimen_7 : decode cX5_addSpecimen 7 = .ok (.iload_n 2, 1) := by decide +kernel
theorem dX5_addSpecimen_8 : decode cX5_addSpecimen 8 = .ok (.invokestatic 44, 3) := by decide +kernel
theorem dX5_addSpecimen_11 : decode cX5_addSpecimen 11 = .ok (.ifCond .eq 18, 3) := by decide +kernel
theorem dX5_addSpecimen_14 : decode cX5_addSpecimen 14 = .ok (.iload_n 3, 1) := by decide +kernel
theorem dX5_addSpecimen_15 : decode cX5_addSpecimen 15 = .ok (.invokestatic 48, 3) := by decide +kernel
theorem dX5_addSpecimen_18 : decode cX5_addSpecimen 18 = .ok (.ifCond .eq 11, 3) := by decide +kernel
theorem dX5_addSpecimen_21 : decode cX5_addSpecimen 21 = .ok (.iload 4, 2) := by decide +kernel
theorem dX5_addSpecimen_23 : decode cX5_addSpecimen 23 = .ok (.invokestatic 48, 3) := by decide +kernel
theorem dX5_addSpecimen_26 : decode cX5_addSpecimen 26 = .ok (.ifCond .ne 5, 3) := by decide +kernel
theorem dX5_addSpecimen_29 : decode cX5_addSpecimen 29 = .ok (.iconst (-1), 1) := by decide +kernel
theorem dX5_addSpecimen_30 : decode cX5_addSpecimen 30 = .ok (.ireturn, 1) := by decide +kernel
theorem dX5_addSpecimen_31 : decode cX5_addSpecimen 31 = .ok (.aload_n 0, 1) := by decide +kernel
theorem dX5_addSpecimen_32 : decode cX5_addSpecimen 32 = .ok (.getfield 10, 3) := by decide +kernel
theorem dX5_addSpecimen_35 : decode cX5_addSpecimen 35 = .ok (.getfield 51, 3) := by decide +kernel
theorem dX5_addSpecimen_38 : decode cX5_addSpecimen 38 = .ok (.bipush 24, 2) := by decide +kernel
theorem dX5_addSpecimen_40 : decode cX5_addSpecimen 40 = .ok (.if_icmp .lt 6, 3) := by decide +kernel
theorem dX5_addSpecimen_43 : decode cX5_addSpecimen 43 = .ok (.bipush (-2), 2) := by decide +kernel
theorem dX5_addSpecimen_45 : decode cX5_addSpecimen 45 = .ok (.ireturn, 1) := by decide +kernel
theorem dX5_addSpecimen_46 : decode cX5_addSpecimen 46 = .ok (.aload_n 0, 1) := by decide +kernel
theorem dX5_addSpecimen_47 : decode cX5_addSpecimen 47 = .ok (.getfield 19, 3) := by decide +kernel
theorem dX5_addSpecimen_50 : decode cX5_addSpecimen 50 = .ok (.aload_n 0, 1) := by decide +kernel
theorem dX5_addSpecimen_51 : decode cX5_addSpecimen 51 = .ok (.getfield 10, 3) := by decide +kernel
theorem dX5_addSpecimen_54 : decode cX5_addSpecimen 54 = .ok (.invokevirtual 55, 3) := by decide +kernel
theorem dX5_addSpecimen_57 : decode cX5_addSpecimen 57 = .ok (.aload_n 0, 1) := by decide +kernel
theorem dX5_addSpecimen_58 : decode cX5_addSpecimen 58 = .ok (.getfield 10, 3) := by decide +kernel
theorem dX5_addSpecimen_61 : decode cX5_addSpecimen 61 = .ok (.getfield 51, 3) := by decide +kernel
theorem dX5_addSpecimen_64 : decode cX5_addSpecimen 64 = .ok (.istore 5, 2) := by decide +kernel
theorem dX5_addSpecimen_66 : decode cX5_addSpecimen 66 = .ok (.aload_n 0, 1) := by decide +kernel
theorem dX5_addSpecimen_67 : decode cX5_addSpecimen 67 = .ok (.getfield 10, 3) := by decide +kernel
theorem dX5_addSpecimen_70 : decode cX5_addSpecimen 70 = .ok (.iload 5, 2) := by decide +kernel
theorem dX5_addSpecimen_72 : decode cX5_addSpecimen 72 = .ok (.iconst 1, 1) := by decide +kernel
theorem dX5_addSpecimen_73 : decode cX5_addSpecimen 73 = .ok (.iadd, 1) := by decide +kernel
theorem dX5_addSpecimen_74 : decode cX5_addSpecimen 74 = .ok (.putfield 51, 3) := by decide +kernel
theorem dX5_addSpecimen_77 : decode cX5_addSpecimen 77 = .ok (.aload_n 0, 1) := by decide +kernel
theorem dX5_addSpecimen_78 : decode cX5_addSpecimen 78 = .ok (.getfield 10, 3) := by decide +kernel
theorem dX5_addSpecimen_81 : decode cX5_addSpecimen 81 = .ok (.iload 5, 2) := by decide +kernel
theorem dX5_addSpecimen_83 : decode cX5_addSpecimen 83 = .ok (.iconst 0, 1) := by decide +kernel
theorem dX5_addSpecimen_84 : decode cX5_addSpecimen 84 = .ok (.iload_n 1, 1) := by decide +kernel
theorem dX5_addSpecimen_85 : decode cX5_addSpecimen 85 = .ok (.invokevirtual 59, 3) := by decide +kernel
theorem dX5_addSpecimen_88 : decode cX5_addSpecimen 88 = .ok (.aload_n 0, 1) := by decide +kernel
theorem dX5_addSpecimen_89 : decode cX5_addSpecimen 89 = .ok (.getfield 10, 3) := by decide +kernel
theorem dX5_addSpecimen_92 : decode cX5_addSpecimen 92 = .ok (.iload 5, 2) := by decide +kernel
theorem dX5_addSpecimen_94 : decode cX5_addSpecimen 94 = .ok (.iconst 1, 1) := by decide +kernel
theorem dX5_addSpecimen_95 : decode cX5_addSpecimen 95 = .ok (.iload_n 2, 1) := by decide +kernel
theorem dX5_addSpecimen_96 : decode cX5_addSpecimen 96 = .ok (.invokevirtual 59, 3) := by decide +kernel
theorem dX5_addSpecimen_99 : decode cX5_addSpecimen 99 = .ok (.aload_n 0, 1) := by decide +kernel
theorem dX5_addSpecimen_100 : decode cX5_addSpecimen 100 = .ok (.getfield 10, 3) := by decide +kernel
theorem dX5_addSpecimen_103 : decode cX5_addSpecimen 103 = .ok (.iload 5, 2) := by decide +kernel
theorem dX5_addSpecimen_105 : decode cX5_addSpecimen 105 = .ok (.iconst 0, 1) := by decide +kernel
theorem dX5_addSpecimen_106 : decode cX5_addSpecimen 106 = .ok (.iload_n 3, 1) := by decide +kernel
theorem dX5_addSpecimen_107 : decode cX5_addSpecimen 107 = .ok (.invokevirtual 63, 3) := by decide +kernel
theorem dX5_addSpecimen_110 : decode cX5_addSpecimen 110 = .ok (.aload_n 0, 1) := by decide +kernel
theorem dX5_addSpecimen_111 : decode cX5_addSpecimen 111 = .ok (.getfield 10, 3) := by decide +kernel
theorem dX5_addSpecimen_114 : decode cX5_addSpecimen 114 = .ok (.iload 5, 2) := by decide +kernel
theorem dX5_addSpecimen_116 : decode cX5_addSpecimen 116 = .ok (.iconst 1, 1) := by decide +kernel
theorem dX5_addSpecimen_117 : decode cX5_addSpecimen 117 = .ok (.iload 4, 2) := by decide +kernel
theorem dX5_addSpecimen_119 : decode cX5_addSpecimen 119 = .ok (.invokevirtual 63, 3) := by decide +kernel
theorem dX5_addSpecimen_122 : decode cX5_addSpecimen 122 = .ok (.iload 5, 2) := by decide +kernel
theorem dX5_addSpecimen_124 : decode cX5_addSpecimen 124 = .ok (.ireturn, 1) := by decide +kernel
theorem dX5_removeSpecimen_0 : decode cX5_removeSpecimen 0 = .ok (.aload_n 0, 1) := by decide +kernel
theorem dX5_removeSpecimen_1 : decode cX5_removeSpecimen 1 = .ok (.getfield 10, 3) := by decide +kernel
theorem dX5_removeSpecimen_4 : decode cX5_removeSpecimen 4 = .ok (.iload_n 1, 1) := by decide +kernel
theorem dX5_removeSpecimen_5 : decode cX5_removeSpecimen 5 = .ok (.invokevirtual 66, 3) := by decide +kernel
theorem dX5_removeSpecimen_8 : decode cX5_removeSpecimen 8 = .ok (.ifCond .ne 5, 3) := by decide +kernel
theorem dX5_removeSpecimen_11 : decode cX5_removeSpecimen 11 = .ok (.iconst (-1), 1) := by decide +kernel
theorem dX5_removeSpecimen_12 : decode cX5_removeSpecimen 12 = .ok (.ireturn, 1) := by decide +kernel
theorem dX5_removeSpecimen_13 : decode cX5_removeSpecimen 13 = .ok (.aload_n 0, 1) := by decide +kernel
theorem dX5_removeSpecimen_14 : decode cX5_removeSpecimen 14 = .ok (.getfield 19, 3) := by decide +kernel
theorem dX5_removeSpecimen_17 : decode cX5_removeSpecimen 17 = .ok (.aload_n 0, 1) := by decide +kernel
theorem dX5_removeSpecimen_18 : decode cX5_removeSpecimen 18 = .ok (.getfield 10, 3) := by decide +kernel
theorem dX5_removeSpecimen_21 : decode cX5_removeSpecimen 21 = .ok (.invokevirtual 55, 3) := by decide +kernel
theorem dX5_removeSpecimen_24 : decode cX5_removeSpecimen 24 = .ok (.aload_n 0, 1) := by decide +kernel
theorem dX5_removeSpecimen_25 : decode cX5_removeSpecimen 25 = .ok (.getfield 10, 3) := by decide +kernel
theorem dX5_removeSpecimen_28 : decode cX5_removeSpecimen 28 = .ok (.iload_n 1, 1) := by decide +kernel
theorem dX5_removeSpecimen_29 : decode cX5_removeSpecimen 29 = .ok (.invokevirtual 69, 3) := by decide +kernel
theorem dX5_removeSpecimen_32 : decode cX5_removeSpecimen 32 = .ok (.aload_n 0, 1) := by decide +kernel
theorem dX5_removeSpecimen_33 : decode cX5_removeSpecimen 33 = .ok (.getfield 10, 3) := by decide +kernel
theorem dX5_removeSpecimen_36 : decode cX5_removeSpecimen 36 = .ok (.getfield 51, 3) := by decide +kernel
theorem dX5_removeSpecimen_39 : decode cX5_removeSpecimen 39 = .ok (.ireturn, 1) := by decide +kernel
theorem dX5_setWear_0 : decode cX5_setWear 0 = .ok (.aload_n 0, 1) := by decide +kernel
theorem dX5_setWear_1 : decode cX5_setWear 1 = .ok (.getfield 10, 3) := by decide +kernel
theorem dX5_setWear_4 : decode cX5_setWear 4 = .ok (.iload_n 1, 1) := by decide +kernel
theorem dX5_setWear_5 : decode cX5_setWear 5 = .ok (.invokevirtual 66, 3) := by decide +kernel
theorem dX5_setWear_8 : decode cX5_setWear 8 = .ok (.ifCond .eq 17, 3) := by decide +kernel
theorem dX5_setWear_11 : decode cX5_setWear 11 = .ok (.iload_n 2, 1) := by decide +kernel
theorem dX5_setWear_12 : decode cX5_setWear 12 = .ok (.invokestatic 73, 3) := by decide +kernel
theorem dX5_setWear_15 : decode cX5_setWear 15 = .ok (.ifCond .eq 10, 3) := by decide +kernel
theorem dX5_setWear_18 : decode cX5_setWear 18 = .ok (.iload_n 3, 1) := by decide +kernel
theorem dX5_setWear_19 : decode cX5_setWear 19 = .ok (.invokestatic 48, 3) := by decide +kernel
theorem dX5_setWear_22 : decode cX5_setWear 22 = .ok (.ifCond .ne 5, 3) := by decide +kernel
theorem dX5_setWear_25 : decode cX5_setWear 25 = .ok (.iconst (-1), 1) := by decide +kernel
theorem dX5_setWear_26 : decode cX5_setWear 26 = .ok (.ireturn, 1) := by decide +kernel
theorem dX5_setWear_27 : decode cX5_setWear 27 = .ok (.aload_n 0, 1) := by decide +kernel
theorem dX5_setWear_28 : decode cX5_setWear 28 = .ok (.getfield 19, 3) := by decide +kernel
theorem dX5_setWear_31 : decode cX5_setWear 31 = .ok (.aload_n 0, 1) := by decide +kernel
theorem dX5_setWear_32 : decode cX5_setWear 32 = .ok (.getfield 10, 3) := by decide +kernel
theorem dX5_setWear_35 : decode cX5_setWear 35 = .ok (.invokevirtual 55, 3) := by decide +kernel
theorem dX5_setWear_38 : decode cX5_setWear 38 = .ok (.aload_n 0, 1) := by decide +kernel
theorem dX5_setWear_39 : decode cX5_setWear 39 = .ok (.getfield 10, 3) := by decide +kernel
theorem dX5_setWear_42 : decode cX5_setWear 42 = .ok (.iload_n 1, 1) := by decide +kernel
theorem dX5_setWear_43 : decode cX5_setWear 43 = .ok (.iload_n 2, 1) := by decide +kernel
theorem dX5_setWear_44 : decode cX5_setWear 44 = .ok (.invokevirtual 76, 3) := by decide +kernel
theorem dX5_setWear_47 : decode cX5_setWear 47 = .ok (.istore 4, 2) := by decide +kernel
theorem dX5_setWear_49 : decode cX5_setWear 49 = .ok (.aload_n 0, 1) := by decide +kernel
theorem dX5_setWear_50 : decode cX5_setWear 50 = .ok (.getfield 10, 3) := by decide +kernel
theorem dX5_setWear_53 : decode cX5_setWear 53 = .ok (.iload_n 1, 1) := by decide +kernel
theorem dX5_setWear_54 : decode cX5_setWear 54 = .ok (.iload_n 2, 1) := by decide +kernel
theorem dX5_setWear_55 : decode cX5_setWear 55 = .ok (.iload_n 3, 1) := by decide +kernel
theorem dX5_setWear_56 : decode cX5_setWear 56 = .ok (.invokevirtual 63, 3) := by decide +kernel
theorem dX5_setWear_59 : decode cX5_setWear 59 = .ok (.iload 4, 2) := by decide +kernel
theorem dX5_setWear_61 : decode cX5_setWear 61 = .ok (.ireturn, 1) := by decide +kernel
theorem dX5_mergeDies_0 : decode cX5_mergeDies 0 = .ok (.iload_n 1, 1) := by decide +kernel
theorem dX5_mergeDies_1 : decode cX5_mergeDies 1 = .ok (.invokestatic 73, 3) := by decide +kernel
theorem dX5_mergeDies_4 : decode cX5_mergeDies 4 = .ok (.ifCond .eq 17, 3) := by decide +kernel
theorem dX5_mergeDies_7 : decode cX5_mergeDies 7 = .ok (.iload_n 2, 1) := by decide +kernel
theorem dX5_mergeDies_8 : decode cX5_mergeDies 8 = .ok (.invokestatic 44, 3) := by decide +kernel
theorem dX5_mergeDies_11 : decode cX5_mergeDies 11 = .ok (.ifCond .eq 10, 3) := by decide +kernel
theorem dX5_mergeDies_14 : decode cX5_mergeDies 14 = .ok (.iload_n 3, 1) := by decide +kernel
theorem dX5_mergeDies_15 : decode cX5_mergeDies 15 = .ok (.invokestatic 44, 3) := by decide +kernel
theorem dX5_mergeDies_18 : decode cX5_mergeDies 18 = .ok (.ifCond .ne 5, 3) := by decide +kernel
theorem dX5_mergeDies_21 : decode cX5_mergeDies 21 = .ok (.iconst (-1), 1) := by decide +kernel
theorem dX5_mergeDies_22 : decode cX5_mergeDies 22 = .ok (.ireturn, 1) := by decide +kernel
theorem dX5_mergeDies_23 : decode cX5_mergeDies 23 = .ok (.aload_n 0, 1) := by decide +kernel
theorem dX5_mergeDies_24 : decode cX5_mergeDies 24 = .ok (.getfield 10, 3) := by decide +kernel
theorem dX5_mergeDies_27 : decode cX5_mergeDies 27 = .ok (.iload_n 1, 1) := by decide +kernel
theorem dX5_mergeDies_28 : decode cX5_mergeDies 28 = .ok (.iload_n 2, 1) := by decide +kernel
theorem dX5_mergeDies_29 : decode cX5_mergeDies 29 = .ok (.invokevirtual 80, 3) := by decide +kernel
theorem dX5_mergeDies_32 : decode cX5_mergeDies 32 = .ok (.ifCond .ne 6, 3) := by decide +kernel
theorem dX5_mergeDies_35 : decode cX5_mergeDies 35 = .ok (.bipush (-3), 2) := by decide +kernel
theorem dX5_mergeDies_37 : decode cX5_mergeDies 37 = .ok (.ireturn, 1) := by decide +kernel
theorem dX5_mergeDies_38 : decode cX5_mergeDies 38 = .ok (.aload_n 0, 1) := by decide +kernel
theorem dX5_mergeDies_39 : decode cX5_mergeDies 39 = .ok (.getfield 19, 3) := by decide +kernel
theorem dX5_mergeDies_42 : decode cX5_mergeDies 42 = .ok (.aload_n 0, 1) := by decide +kernel
theorem dX5_mergeDies_43 : decode cX5_mergeDies 43 = .ok (.getfield 10, 3) := by decide +kernel
theorem dX5_mergeDies_46 : decode cX5_mergeDies 46 = .ok (.invokevirtual 55, 3) := by decide +kernel
theorem dX5_mergeDies_49 : decode cX5_mergeDies 49 = .ok (.iload_n 2, 1) := by decide +kernel
theorem dX5_mergeDies_50 : decode cX5_mergeDies 50 = .ok (.iload_n 3, 1) := by decide +kernel
theorem dX5_mergeDies_51 : decode cX5_mergeDies 51 = .ok (.if_icmp .ne 7, 3) := by decide +kernel
theorem dX5_mergeDies_54 : decode cX5_mergeDies 54 = .ok (.iconst 0, 1) := by decide +kernel
theorem dX5_mergeDies_55 : decode cX5_mergeDies 55 = .ok (.goto 13, 3) := by decide +kernel
theorem dX5_mergeDies_58 : decode cX5_mergeDies 58 = .ok (.aload_n 0, 1) := by decide +kernel
theorem dX5_mergeDies_59 : decode cX5_mergeDies 59 = .ok (.getfield 10, 3) := by decide +kernel
theorem dX5_mergeDies_62 : decode cX5_mergeDies 62 = .ok (.iload_n 1, 1) := by decide +kernel
theorem dX5_mergeDies_63 : decode cX5_mergeDies 63 = .ok (.iload_n 2, 1) := by decide +kernel
theorem dX5_mergeDies_64 : decode cX5_mergeDies 64 = .ok (.iload_n 3, 1) := by decide +kernel
theorem dX5_mergeDies_65 : decode cX5_mergeDies 65 = .ok (.invokevirtual 83, 3) := by decide +kernel
theorem dX5_mergeDies_68 : decode cX5_mergeDies 68 = .ok (.ireturn, 1) := by decide +kernel
theorem dX5_specimenCount_0 : decode cX5_specimenCount 0 = .ok (.aload_n 0, 1) := by decide +kernel
theorem dX5_specimenCount_1 : decode cX5_specimenCount 1 = .ok (.getfield 10, 3) := by decide +kernel
theorem dX5_specimenCount_4 : decode cX5_specimenCount 4 = .ok (.getfield 51, 3) := by decide +kernel
theorem dX5_specimenCount_7 : decode cX5_specimenCount 7 = .ok (.ireturn, 1) := by decide +kernel
theorem dX5_dieOf_0 : decode cX5_dieOf 0 = .ok (.aload_n 0, 1) := by decide +kernel
theorem dX5_dieOf_1 : decode cX5_dieOf 1 = .ok (.getfield 10, 3) := by decide +kernel
theorem dX5_dieOf_4 : decode cX5_dieOf 4 = .ok (.iload_n 1, 1) := by decide +kernel
theorem dX5_dieOf_5 : decode cX5_dieOf 5 = .ok (.invokevirtual 66, 3) := by decide +kernel
theorem dX5_dieOf_8 : decode cX5_dieOf 8 = .ok (.ifCond .eq 10, 3) := by decide +kernel
theorem dX5_dieOf_11 : decode cX5_dieOf 11 = .ok (.iload_n 2, 1) := by decide +kernel
theorem dX5_dieOf_12 : decode cX5_dieOf 12 = .ok (.invokestatic 73, 3) := by decide +kernel
theorem dX5_dieOf_15 : decode cX5_dieOf 15 = .ok (.ifCond .ne 5, 3) := by decide +kernel
theorem dX5_dieOf_18 : decode cX5_dieOf 18 = .ok (.iconst (-1), 1) := by decide +kernel
theorem dX5_dieOf_19 : decode cX5_dieOf 19 = .ok (.ireturn, 1) := by decide +kernel
theorem dX5_dieOf_20 : decode cX5_dieOf 20 = .ok (.aload_n 0, 1) := by decide +kernel
theorem dX5_dieOf_21 : decode cX5_dieOf 21 = .ok (.getfield 10, 3) := by decide +kernel
theorem dX5_dieOf_24 : decode cX5_dieOf 24 = .ok (.iload_n 1, 1) := by decide +kernel
theorem dX5_dieOf_25 : decode cX5_dieOf 25 = .ok (.iload_n 2, 1) := by decide +kernel
theorem dX5_dieOf_26 : decode cX5_dieOf 26 = .ok (.invokevirtual 87, 3) := by decide +kernel
theorem dX5_dieOf_29 : decode cX5_dieOf 29 = .ok (.ireturn, 1) := by decide +kernel
theorem dX5_dieCount_0 : decode cX5_dieCount 0 = .ok (.iload_n 1, 1) := by decide +kernel
theorem dX5_dieCount_1 : decode cX5_dieCount 1 = .ok (.invokestatic 73, 3) := by decide +kernel
theorem dX5_dieCount_4 : decode cX5_dieCount 4 = .ok (.ifCond .eq 14, 3) := by decide +kernel
theorem dX5_dieCount_7 : decode cX5_dieCount 7 = .ok (.aload_n 0, 1) := by decide +kernel
theorem dX5_dieCount_8 : decode cX5_dieCount 8 = .ok (.getfield 10, 3) := by decide +kernel
theorem dX5_dieCount_11 : decode cX5_dieCount 11 = .ok (.iload_n 1, 1) := by decide +kernel
theorem dX5_dieCount_12 : decode cX5_dieCount 12 = .ok (.invokevirtual 90, 3) := by decide +kernel
theorem dX5_dieCount_15 : decode cX5_dieCount 15 = .ok (.goto 4, 3) := by decide +kernel
theorem dX5_dieCount_18 : decode cX5_dieCount 18 = .ok (.iconst (-1), 1) := by decide +kernel
theorem dX5_dieCount_19 : decode cX5_dieCount 19 = .ok (.ireturn, 1) := by decide +kernel
theorem dX5_frequency_0 : decode cX5_frequency 0 = .ok (.iload_n 1, 1) := by decide +kernel
theorem dX5_frequency_1 : decode cX5_frequency 1 = .ok (.invokestatic 73, 3) := by decide +kernel
theorem dX5_frequency_4 : decode cX5_frequency 4 = .ok (.ifCond .eq 10, 3) := by decide +kernel
theorem dX5_frequency_7 : decode cX5_frequency 7 = .ok (.iload_n 2, 1) := by decide +kernel
theorem dX5_frequency_8 : decode cX5_frequency 8 = .ok (.invokestatic 44, 3) := by decide +kernel
theorem dX5_frequency_11 : decode cX5_frequency 11 = .ok (.ifCond .ne 5, 3) := by decide +kernel
theorem dX5_frequency_14 : decode cX5_frequency 14 = .ok (.iconst (-1), 1) := by decide +kernel
theorem dX5_frequency_15 : decode cX5_frequency 15 = .ok (.ireturn, 1) := by decide +kernel
theorem dX5_frequency_16 : decode cX5_frequency 16 = .ok (.aload_n 0, 1) := by decide +kernel
theorem dX5_frequency_17 : decode cX5_frequency 17 = .ok (.getfield 10, 3) := by decide +kernel
theorem dX5_frequency_20 : decode cX5_frequency 20 = .ok (.iload_n 1, 1) := by decide +kernel
theorem dX5_frequency_21 : decode cX5_frequency 21 = .ok (.iload_n 2, 1) := by decide +kernel
theorem dX5_frequency_22 : decode cX5_frequency 22 = .ok (.invokevirtual 80, 3) := by decide +kernel
theorem dX5_frequency_25 : decode cX5_frequency 25 = .ok (.ireturn, 1) := by decide +kernel
theorem dX5_meanWearBits_0 : decode cX5_meanWearBits 0 = .ok (.iload_n 1, 1) := by decide +kernel
theorem dX5_meanWearBits_1 : decode cX5_meanWearBits 1 = .ok (.invokestatic 73, 3) := by decide +kernel
theorem dX5_meanWearBits_4 : decode cX5_meanWearBits 4 = .ok (.ifCond .eq 10, 3) := by decide +kernel
theorem dX5_meanWearBits_7 : decode cX5_meanWearBits 7 = .ok (.iload_n 2, 1) := by decide +kernel
theorem dX5_meanWearBits_8 : decode cX5_meanWearBits 8 = .ok (.invokestatic 44, 3) := by decide +kernel
theorem dX5_meanWearBits_11 : decode cX5_meanWearBits 11 = .ok (.ifCond .ne 5, 3) := by decide +kernel
theorem dX5_meanWearBits_14 : decode cX5_meanWearBits 14 = .ok (.iconst (-1), 1) := by decide +kernel
theorem dX5_meanWearBits_15 : decode cX5_meanWearBits 15 = .ok (.ireturn, 1) := by decide +kernel
theorem dX5_meanWearBits_16 : decode cX5_meanWearBits 16 = .ok (.aload_n 0, 1) := by decide +kernel
theorem dX5_meanWearBits_17 : decode cX5_meanWearBits 17 = .ok (.getfield 10, 3) := by decide +kernel
theorem dX5_meanWearBits_20 : decode cX5_meanWearBits 20 = .ok (.iload_n 1, 1) := by decide +kernel
theorem dX5_meanWearBits_21 : decode cX5_meanWearBits 21 = .ok (.iload_n 2, 1) := by decide +kernel
theorem dX5_meanWearBits_22 : decode cX5_meanWearBits 22 = .ok (.invokevirtual 80, 3) := by decide +kernel
theorem dX5_meanWearBits_25 : decode cX5_meanWearBits 25 = .ok (.istore_n 3, 1) := by decide +kernel
theorem dX5_meanWearBits_26 : decode cX5_meanWearBits 26 = .ok (.iload_n 3, 1) := by decide +kernel
theorem dX5_meanWearBits_27 : decode cX5_meanWearBits 27 = .ok (.ifCond .ne 6, 3) := by decide +kernel
theorem dX5_meanWearBits_30 : decode cX5_meanWearBits 30 = .ok (.bipush (-3), 2) := by decide +kernel
theorem dX5_meanWearBits_32 : decode cX5_meanWearBits 32 = .ok (.ireturn, 1) := by decide +kernel
theorem dX5_meanWearBits_33 : decode cX5_meanWearBits 33 = .ok (.aload_n 0, 1) := by decide +kernel
theorem dX5_meanWearBits_34 : decode cX5_meanWearBits 34 = .ok (.getfield 10, 3) := by decide +kernel
theorem dX5_meanWearBits_37 : decode cX5_meanWearBits 37 = .ok (.iload_n 1, 1) := by decide +kernel
theorem dX5_meanWearBits_38 : decode cX5_meanWearBits 38 = .ok (.iload_n 2, 1) := by decide +kernel
theorem dX5_meanWearBits_39 : decode cX5_meanWearBits 39 = .ok (.invokevirtual 94, 3) := by decide +kernel
theorem dX5_meanWearBits_42 : decode cX5_meanWearBits 42 = .ok (.i2f, 1) := by decide +kernel
theorem dX5_meanWearBits_43 : decode cX5_meanWearBits 43 = .ok (.iload_n 3, 1) := by decide +kernel
theorem dX5_meanWearBits_44 : decode cX5_meanWearBits 44 = .ok (.i2f, 1) := by decide +kernel
theorem dX5_meanWearBits_45 : decode cX5_meanWearBits 45 = .ok (.fdiv, 1) := by decide +kernel
theorem dX5_meanWearBits_46 : decode cX5_meanWearBits 46 = .ok (.invokestatic 97, 3) := by decide +kernel
theorem dX5_meanWearBits_49 : decode cX5_meanWearBits 49 = .ok (.ireturn, 1) := by decide +kernel
theorem dX5_coupleCount_0 : decode cX5_coupleCount 0 = .ok (.aload_n 0, 1) := by decide +kernel
theorem dX5_coupleCount_1 : decode cX5_coupleCount 1 = .ok (.getfield 26, 3) := by decide +kernel
theorem dX5_coupleCount_4 : decode cX5_coupleCount 4 = .ok (.aload_n 0, 1) := by decide +kernel
theorem dX5_coupleCount_5 : decode cX5_coupleCount 5 = .ok (.getfield 10, 3) := by decide +kernel
theorem dX5_coupleCount_8 : decode cX5_coupleCount 8 = .ok (.invokevirtual 101, 3) := by decide +kernel
theorem dX5_coupleCount_11 : decode cX5_coupleCount 11 = .ok (.aload_n 0, 1) := by decide +kernel
theorem dX5_coupleCount_12 : decode cX5_coupleCount 12 = .ok (.getfield 26, 3) := by decide +kernel
theorem dX5_coupleCount_15 : decode cX5_coupleCount 15 = .ok (.getfield 104, 3) := by decide +kernel
theorem dX5_coupleCount_18 : decode cX5_coupleCount 18 = .ok (.ireturn, 1) := by decide +kernel
theorem dX5_coupleAt_0 : decode cX5_coupleAt 0 = .ok (.aload_n 0, 1) := by decide +kernel
theorem dX5_coupleAt_1 : decode cX5_coupleAt 1 = .ok (.getfield 26, 3) := by decide +kernel
theorem dX5_coupleAt_4 : decode cX5_coupleAt 4 = .ok (.aload_n 0, 1) := by decide +kernel
theorem dX5_coupleAt_5 : decode cX5_coupleAt 5 = .ok (.getfield 10, 3) := by decide +kernel
theorem dX5_coupleAt_8 : decode cX5_coupleAt 8 = .ok (.invokevirtual 101, 3) := by decide +kernel
theorem dX5_coupleAt_11 : decode cX5_coupleAt 11 = .ok (.aload_n 0, 1) := by decide +kernel
theorem dX5_coupleAt_12 : decode cX5_coupleAt 12 = .ok (.iload_n 1, 1) := by decide +kernel
theorem dX5_coupleAt_13 : decode cX5_coupleAt 13 = .ok (.invokevirtual 105, 3) := by decide +kernel
theorem dX5_coupleAt_16 : decode cX5_coupleAt 16 = .ok (.istore_n 2, 1) := by decide +kernel
theorem dX5_coupleAt_17 : decode cX5_coupleAt 17 = .ok (.iload_n 2, 1) := by decide +kernel
theorem dX5_coupleAt_18 : decode cX5_coupleAt 18 = .ok (.ifCond .eq 5, 3) := by decide +kernel
theorem dX5_coupleAt_21 : decode cX5_coupleAt 21 = .ok (.iload_n 2, 1) := by decide +kernel
theorem dX5_coupleAt_22 : decode cX5_coupleAt 22 = .ok (.ireturn, 1) := by decide +kernel
theorem dX5_coupleAt_23 : decode cX5_coupleAt 23 = .ok (.bipush 10, 2) := by decide +kernel
theorem dX5_coupleAt_25 : decode cX5_coupleAt 25 = .ok (.aload_n 0, 1) := by decide +kernel
theorem dX5_coupleAt_26 : decode cX5_coupleAt 26 = .ok (.getfield 26, 3) := by decide +kernel
theorem dX5_coupleAt_29 : decode cX5_coupleAt 29 = .ok (.getfield 108, 3) := by decide +kernel
theorem dX5_coupleAt_32 : decode cX5_coupleAt 32 = .ok (.iconst 0, 1) := by decide +kernel
theorem dX5_coupleAt_33 : decode cX5_coupleAt 33 = .ok (.aaload, 1) := by decide +kernel
theorem dX5_coupleAt_34 : decode cX5_coupleAt 34 = .ok (.iload_n 1, 1) := by decide +kernel
theorem dX5_coupleAt_35 : decode cX5_coupleAt 35 = .ok (.iaload, 1) := by decide +kernel
theorem dX5_coupleAt_36 : decode cX5_coupleAt 36 = .ok (.imul, 1) := by decide +kernel
theorem dX5_coupleAt_37 : decode cX5_coupleAt 37 = .ok (.aload_n 0, 1) := by decide +kernel
theorem dX5_coupleAt_38 : decode cX5_coupleAt 38 = .ok (.getfield 26, 3) := by decide +kernel
theorem dX5_coupleAt_41 : decode cX5_coupleAt 41 = .ok (.getfield 108, 3) := by decide +kernel
theorem dX5_coupleAt_44 : decode cX5_coupleAt 44 = .ok (.iconst 1, 1) := by decide +kernel
theorem dX5_coupleAt_45 : decode cX5_coupleAt 45 = .ok (.aaload, 1) := by decide +kernel
theorem dX5_coupleAt_46 : decode cX5_coupleAt 46 = .ok (.iload_n 1, 1) := by decide +kernel
theorem dX5_coupleAt_47 : decode cX5_coupleAt 47 = .ok (.iaload, 1) := by decide +kernel
theorem dX5_coupleAt_48 : decode cX5_coupleAt 48 = .ok (.iadd, 1) := by decide +kernel
theorem dX5_coupleAt_49 : decode cX5_coupleAt 49 = .ok (.ireturn, 1) := by decide +kernel
theorem dX5_componentCount_0 : decode cX5_componentCount 0 = .ok (.aload_n 0, 1) := by decide +kernel
theorem dX5_componentCount_1 : decode cX5_componentCount 1 = .ok (.getfield 26, 3) := by decide +kernel
theorem dX5_componentCount_4 : decode cX5_componentCount 4 = .ok (.aload_n 0, 1) := by decide +kernel
theorem dX5_componentCount_5 : decode cX5_componentCount 5 = .ok (.getfield 10, 3) := by decide +kernel
theorem dX5_componentCount_8 : decode cX5_componentCount 8 = .ok (.invokevirtual 101, 3) := by decide +kernel
theorem dX5_componentCount_11 : decode cX5_componentCount 11 = .ok (.aload_n 0, 1) := by decide +kernel
theorem dX5_componentCount_12 : decode cX5_componentCount 12 = .ok (.getfield 33, 3) := by decide +kernel
theorem dX5_componentCount_15 : decode cX5_componentCount 15 = .ok (.aload_n 0, 1) := by decide +kernel
theorem dX5_componentCount_16 : decode cX5_componentCount 16 = .ok (.getfield 26, 3) := by decide +kernel
theorem dX5_componentCount_19 : decode cX5_componentCount 19 = .ok (.iconst (-1), 1) := by decide +kernel
theorem dX5_componentCount_20 : decode cX5_componentCount 20 = .ok (.invokevirtual 111, 3) := by decide +kernel
theorem dX5_componentCount_23 : decode cX5_componentCount 23 = .ok (.aload_n 0, 1) := by decide +kernel
theorem dX5_componentCount_24 : decode cX5_componentCount 24 = .ok (.getfield 33, 3) := by decide +kernel
theorem dX5_componentCount_27 : decode cX5_componentCount 27 = .ok (.getfield 115, 3) := by decide +kernel
theorem dX5_componentCount_30 : decode cX5_componentCount 30 = .ok (.ireturn, 1) := by decide +kernel
theorem dX5_componentSize_0 : decode cX5_componentSize 0 = .ok (.iload_n 1, 1) := by decide +kernel
theorem dX5_componentSize_1 : decode cX5_componentSize 1 = .ok (.invokestatic 73, 3) := by decide +kernel
theorem dX5_componentSize_4 : decode cX5_componentSize 4 = .ok (.ifCond .eq 10, 3) := by decide +kernel
theorem dX5_componentSize_7 : decode cX5_componentSize 7 = .ok (.iload_n 2, 1) := by decide +kernel
theorem dX5_componentSize_8 : decode cX5_componentSize 8 = .ok (.invokestatic 44, 3) := by decide +kernel
theorem dX5_componentSize_11 : decode cX5_componentSize 11 = .ok (.ifCond .ne 5, 3) := by decide +kernel
theorem dX5_componentSize_14 : decode cX5_componentSize 14 = .ok (.iconst (-1), 1) := by decide +kernel
theorem dX5_componentSize_15 : decode cX5_componentSize 15 = .ok (.ireturn, 1) := by decide +kernel
theorem dX5_componentSize_16 : decode cX5_componentSize 16 = .ok (.aload_n 0, 1) := by decide +kernel
theorem dX5_componentSize_17 : decode cX5_componentSize 17 = .ok (.getfield 26, 3) := by decide +kernel
theorem dX5_componentSize_20 : decode cX5_componentSize 20 = .ok (.aload_n 0, 1) := by decide +kernel
theorem dX5_componentSize_21 : decode cX5_componentSize 21 = .ok (.getfield 10, 3) := by decide +kernel
theorem dX5_componentSize_24 : decode cX5_componentSize 24 = .ok (.invokevirtual 101, 3) := by decide +kernel
theorem dX5_componentSize_27 : decode cX5_componentSize 27 = .ok (.aload_n 0, 1) := by decide +kernel
theorem dX5_componentSize_28 : decode cX5_componentSize 28 = .ok (.getfield 33, 3) := by decide +kernel
theorem dX5_componentSize_31 : decode cX5_componentSize 31 = .ok (.aload_n 0, 1) := by decide +kernel
theorem dX5_componentSize_32 : decode cX5_componentSize 32 = .ok (.getfield 26, 3) := by decide +kernel
theorem dX5_componentSize_35 : decode cX5_componentSize 35 = .ok (.iconst (-1), 1) := by decide +kernel
theorem dX5_componentSize_36 : decode cX5_componentSize 36 = .ok (.invokevirtual 111, 3) := by decide +kernel
theorem dX5_componentSize_39 : decode cX5_componentSize 39 = .ok (.aload_n 0, 1) := by decide +kernel
theorem dX5_componentSize_40 : decode cX5_componentSize 40 = .ok (.getfield 33, 3) := by decide +kernel
theorem dX5_componentSize_43 : decode cX5_componentSize 43 = .ok (.iload_n 1, 1) := by decide +kernel
theorem dX5_componentSize_44 : decode cX5_componentSize 44 = .ok (.iload_n 2, 1) := by decide +kernel
theorem dX5_componentSize_45 : decode cX5_componentSize 45 = .ok (.invokevirtual 118, 3) := by decide +kernel
theorem dX5_componentSize_48 : decode cX5_componentSize 48 = .ok (.istore_n 3, 1) := by decide +kernel
theorem dX5_componentSize_49 : decode cX5_componentSize 49 = .ok (.iload_n 3, 1) := by decide +kernel
theorem dX5_componentSize_50 : decode cX5_componentSize 50 = .ok (.ifCond .ne 8, 3) := by decide +kernel
theorem dX5_componentSize_53 : decode cX5_componentSize 53 = .ok (.bipush (-3), 2) := by decide +kernel
theorem dX5_componentSize_55 : decode cX5_componentSize 55 = .ok (.goto 4, 3) := by decide +kernel
theorem dX5_componentSize_58 : decode cX5_componentSize 58 = .ok (.iload_n 3, 1) := by decide +kernel
theorem dX5_componentSize_59 : decode cX5_componentSize 59 = .ok (.ireturn, 1) := by decide +kernel
theorem dX5_cycleRank_0 : decode cX5_cycleRank 0 = .ok (.aload_n 0, 1) := by decide +kernel
theorem dX5_cycleRank_1 : decode cX5_cycleRank 1 = .ok (.getfield 26, 3) := by decide +kernel
theorem dX5_cycleRank_4 : decode cX5_cycleRank 4 = .ok (.aload_n 0, 1) := by decide +kernel
theorem dX5_cycleRank_5 : decode cX5_cycleRank 5 = .ok (.getfield 10, 3) := by decide +kernel
theorem dX5_cycleRank_8 : decode cX5_cycleRank 8 = .ok (.invokevirtual 101, 3) := by decide +kernel
theorem dX5_cycleRank_11 : decode cX5_cycleRank 11 = .ok (.aload_n 0, 1) := by decide +kernel
theorem dX5_cycleRank_12 : decode cX5_cycleRank 12 = .ok (.getfield 33, 3) := by decide +kernel
theorem dX5_cycleRank_15 : decode cX5_cycleRank 15 = .ok (.aload_n 0, 1) := by decide +kernel
theorem dX5_cycleRank_16 : decode cX5_cycleRank 16 = .ok (.getfield 26, 3) := by decide +kernel
theorem dX5_cycleRank_19 : decode cX5_cycleRank 19 = .ok (.iconst (-1), 1) := by decide +kernel
theorem dX5_cycleRank_20 : decode cX5_cycleRank 20 = .ok (.invokevirtual 111, 3) := by decide +kernel
theorem dX5_cycleRank_23 : decode cX5_cycleRank 23 = .ok (.aload_n 0, 1) := by decide +kernel
theorem dX5_cycleRank_24 : decode cX5_cycleRank 24 = .ok (.getfield 26, 3) := by decide +kernel
theorem dX5_cycleRank_27 : decode cX5_cycleRank 27 = .ok (.getfield 104, 3) := by decide +kernel
theorem dX5_cycleRank_30 : decode cX5_cycleRank 30 = .ok (.aload_n 0, 1) := by decide +kernel
theorem dX5_cycleRank_31 : decode cX5_cycleRank 31 = .ok (.getfield 33, 3) := by decide +kernel
theorem dX5_cycleRank_34 : decode cX5_cycleRank 34 = .ok (.getfield 121, 3) := by decide +kernel
theorem dX5_cycleRank_37 : decode cX5_cycleRank 37 = .ok (.isub, 1) := by decide +kernel
theorem dX5_cycleRank_38 : decode cX5_cycleRank 38 = .ok (.aload_n 0, 1) := by decide +kernel
theorem dX5_cycleRank_39 : decode cX5_cycleRank 39 = .ok (.getfield 33, 3) := by decide +kernel
theorem dX5_cycleRank_42 : decode cX5_cycleRank 42 = .ok (.getfield 115, 3) := by decide +kernel
theorem dX5_cycleRank_45 : decode cX5_cycleRank 45 = .ok (.iadd, 1) := by decide +kernel
theorem dX5_cycleRank_46 : decode cX5_cycleRank 46 = .ok (.ireturn, 1) := by decide +kernel
theorem dX5_bridgeCount_0 : decode cX5_bridgeCount 0 = .ok (.aload_n 0, 1) := by decide +kernel
theorem dX5_bridgeCount_1 : decode cX5_bridgeCount 1 = .ok (.getfield 26, 3) := by decide +kernel
theorem dX5_bridgeCount_4 : decode cX5_bridgeCount 4 = .ok (.aload_n 0, 1) := by decide +kernel
theorem dX5_bridgeCount_5 : decode cX5_bridgeCount 5 = .ok (.getfield 10, 3) := by decide +kernel
theorem dX5_bridgeCount_8 : decode cX5_bridgeCount 8 = .ok (.invokevirtual 101, 3) := by decide +kernel
theorem dX5_bridgeCount_11 : decode cX5_bridgeCount 11 = .ok (.iconst 0, 1) := by decide +kernel
theorem dX5_bridgeCount_12 : decode cX5_bridgeCount 12 = .ok (.istore_n 1, 1) := by decide +kernel
theorem dX5_bridgeCount_13 : decode cX5_bridgeCount 13 = .ok (.iconst 0, 1) := by decide +kernel
theorem dX5_bridgeCount_14 : decode cX5_bridgeCount 14 = .ok (.istore_n 2, 1) := by decide +kernel
theorem dX5_bridgeCount_15 : decode cX5_bridgeCount 15 = .ok (.iload_n 2, 1) := by decide +kernel
theorem dX5_bridgeCount_16 : decode cX5_bridgeCount 16 = .ok (.aload_n 0, 1) := by decide +kernel
theorem dX5_bridgeCount_17 : decode cX5_bridgeCount 17 = .ok (.getfield 26, 3) := by decide +kernel
theorem dX5_bridgeCount_20 : decode cX5_bridgeCount 20 = .ok (.getfield 104, 3) := by decide +kernel
theorem dX5_bridgeCount_23 : decode cX5_bridgeCount 23 = .ok (.if_icmp .ge 27, 3) := by decide +kernel
theorem dX5_bridgeCount_26 : decode cX5_bridgeCount 26 = .ok (.aload_n 0, 1) := by decide +kernel
theorem dX5_bridgeCount_27 : decode cX5_bridgeCount 27 = .ok (.getfield 33, 3) := by decide +kernel
theorem dX5_bridgeCount_30 : decode cX5_bridgeCount 30 = .ok (.aload_n 0, 1) := by decide +kernel
theorem dX5_bridgeCount_31 : decode cX5_bridgeCount 31 = .ok (.getfield 26, 3) := by decide +kernel
theorem dX5_bridgeCount_34 : decode cX5_bridgeCount 34 = .ok (.iload_n 2, 1) := by decide +kernel
theorem dX5_bridgeCount_35 : decode cX5_bridgeCount 35 = .ok (.invokevirtual 124, 3) := by decide +kernel
theorem dX5_bridgeCount_38 : decode cX5_bridgeCount 38 = .ok (.ifCond .eq 6, 3) := by decide +kernel
theorem dX5_bridgeCount_41 : decode cX5_bridgeCount 41 = .ok (.iinc 1 1, 3) := by decide +kernel
theorem dX5_bridgeCount_44 : decode cX5_bridgeCount 44 = .ok (.iinc 2 1, 3) := by decide +kernel
theorem dX5_bridgeCount_47 : decode cX5_bridgeCount 47 = .ok (.goto (-32), 3) := by decide +kernel
theorem dX5_bridgeCount_50 : decode cX5_bridgeCount 50 = .ok (.iload_n 1, 1) := by decide +kernel
theorem dX5_bridgeCount_51 : decode cX5_bridgeCount 51 = .ok (.ireturn, 1) := by decide +kernel
theorem dX5_isBridge_0 : decode cX5_isBridge 0 = .ok (.aload_n 0, 1) := by decide +kernel
theorem dX5_isBridge_1 : decode cX5_isBridge 1 = .ok (.getfield 26, 3) := by decide +kernel
theorem dX5_isBridge_4 : decode cX5_isBridge 4 = .ok (.aload_n 0, 1) := by decide +kernel
theorem dX5_isBridge_5 : decode cX5_isBridge 5 = .ok (.getfield 10, 3) := by decide +kernel
theorem dX5_isBridge_8 : decode cX5_isBridge 8 = .ok (.invokevirtual 101, 3) := by decide +kernel
theorem dX5_isBridge_11 : decode cX5_isBridge 11 = .ok (.aload_n 0, 1) := by decide +kernel
theorem dX5_isBridge_12 : decode cX5_isBridge 12 = .ok (.iload_n 1, 1) := by decide +kernel
theorem dX5_isBridge_13 : decode cX5_isBridge 13 = .ok (.invokevirtual 105, 3) := by decide +kernel
theorem dX5_isBridge_16 : decode cX5_isBridge 16 = .ok (.istore_n 2, 1) := by decide +kernel
theorem dX5_isBridge_17 : decode cX5_isBridge 17 = .ok (.iload_n 2, 1) := by decide +kernel
theorem dX5_isBridge_18 : decode cX5_isBridge 18 = .ok (.ifCond .eq 5, 3) := by decide +kernel
theorem dX5_isBridge_21 : decode cX5_isBridge 21 = .ok (.iload_n 2, 1) := by decide +kernel
theorem dX5_isBridge_22 : decode cX5_isBridge 22 = .ok (.ireturn, 1) := by decide +kernel
theorem dX5_isBridge_23 : decode cX5_isBridge 23 = .ok (.aload_n 0, 1) := by decide +kernel
theorem dX5_isBridge_24 : decode cX5_isBridge 24 = .ok (.getfield 33, 3) := by decide +kernel
theorem dX5_isBridge_27 : decode cX5_isBridge 27 = .ok (.aload_n 0, 1) := by decide +kernel
theorem dX5_isBridge_28 : decode cX5_isBridge 28 = .ok (.getfield 26, 3) := by decide +kernel
theorem dX5_isBridge_31 : decode cX5_isBridge 31 = .ok (.iload_n 1, 1) := by decide +kernel
theorem dX5_isBridge_32 : decode cX5_isBridge 32 = .ok (.invokevirtual 124, 3) := by decide +kernel
theorem dX5_isBridge_35 : decode cX5_isBridge 35 = .ok (.ifCond .eq 7, 3) := by decide +kernel
theorem dX5_isBridge_38 : decode cX5_isBridge 38 = .ok (.iconst 1, 1) := by decide +kernel
theorem dX5_isBridge_39 : decode cX5_isBridge 39 = .ok (.goto 4, 3) := by decide +kernel
theorem dX5_isBridge_42 : decode cX5_isBridge 42 = .ok (.iconst 0, 1) := by decide +kernel
theorem dX5_isBridge_43 : decode cX5_isBridge 43 = .ok (.ireturn, 1) := by decide +kernel
theorem dX5_compareCouples_0 : decode cX5_compareCouples 0 = .ok (.aload_n 0, 1) := by decide +kernel
theorem dX5_compareCouples_1 : decode cX5_compareCouples 1 = .ok (.getfield 26, 3) := by decide +kernel
theorem dX5_compareCouples_4 : decode cX5_compareCouples 4 = .ok (.aload_n 0, 1) := by decide +kernel
theorem dX5_compareCouples_5 : decode cX5_compareCouples 5 = .ok (.getfield 10, 3) := by decide +kernel
theorem dX5_compareCouples_8 : decode cX5_compareCouples 8 = .ok (.invokevirtual 101, 3) := by decide +kernel
theorem dX5_compareCouples_11 : decode cX5_compareCouples 11 = .ok (.aload_n 0, 1) := by decide +kernel
theorem dX5_compareCouples_12 : decode cX5_compareCouples 12 = .ok (.getfield 26, 3) := by decide +kernel
theorem dX5_compareCouples_15 : decode cX5_compareCouples 15 = .ok (.iload_n 1, 1) := by decide +kernel
theorem dX5_compareCouples_16 : decode cX5_compareCouples 16 = .ok (.invokevirtual 128, 3) := by decide +kernel
theorem dX5_compareCouples_19 : decode cX5_compareCouples 19 = .ok (.ifCond .eq 19, 3) := by decide +kernel
theorem dX5_compareCouples_22 : decode cX5_compareCouples 22 = .ok (.aload_n 0, 1) := by decide +kernel
theorem dX5_compareCouples_23 : decode cX5_compareCouples 23 = .ok (.getfield 26, 3) := by decide +kernel
theorem dX5_compareCouples_26 : decode cX5_compareCouples 26 = .ok (.iload_n 2, 1) := by decide +kernel
theorem dX5_compareCouples_27 : decode cX5_compareCouples 27 = .ok (.invokevirtual 128, 3) := by decide +kernel
theorem dX5_compareCouples_30 : decode cX5_compareCouples 30 = .ok (.ifCond .eq 8, 3) := by decide +kernel
theorem dX5_compareCouples_33 : decode cX5_compareCouples 33 = .ok (.iload_n 1, 1) := by decide +kernel
theorem dX5_compareCouples_34 : decode cX5_compareCouples 34 = .ok (.iload_n 2, 1) := by decide +kernel
theorem dX5_compareCouples_35 : decode cX5_compareCouples 35 = .ok (.if_icmp .ne 5, 3) := by decide +kernel
theorem dX5_compareCouples_38 : decode cX5_compareCouples 38 = .ok (.iconst (-1), 1) := by decide +kernel
theorem dX5_compareCouples_39 : decode cX5_compareCouples 39 = .ok (.ireturn, 1) := by decide +kernel
theorem dX5_compareCouples_40 : decode cX5_compareCouples 40 = .ok (.aload_n 0, 1) := by decide +kernel
theorem dX5_compareCouples_41 : decode cX5_compareCouples 41 = .ok (.getfield 26, 3) := by decide +kernel
theorem dX5_compareCouples_44 : decode cX5_compareCouples 44 = .ok (.iload_n 1, 1) := by decide +kernel
theorem dX5_compareCouples_45 : decode cX5_compareCouples 45 = .ok (.iload_n 2, 1) := by decide +kernel
theorem dX5_compareCouples_46 : decode cX5_compareCouples 46 = .ok (.invokevirtual 129, 3) := by decide +kernel
theorem dX5_compareCouples_49 : decode cX5_compareCouples 49 = .ok (.ifCond .eq 5, 3) := by decide +kernel
theorem dX5_compareCouples_52 : decode cX5_compareCouples 52 = .ok (.iconst 1, 1) := by decide +kernel
theorem dX5_compareCouples_53 : decode cX5_compareCouples 53 = .ok (.ireturn, 1) := by decide +kernel
theorem dX5_compareCouples_54 : decode cX5_compareCouples 54 = .ok (.aload_n 0, 1) := by decide +kernel
theorem dX5_compareCouples_55 : decode cX5_compareCouples 55 = .ok (.getfield 26, 3) := by decide +kernel
theorem dX5_compareCouples_58 : decode cX5_compareCouples 58 = .ok (.iload_n 2, 1) := by decide +kernel
theorem dX5_compareCouples_59 : decode cX5_compareCouples 59 = .ok (.iload_n 1, 1) := by decide +kernel
theorem dX5_compareCouples_60 : decode cX5_compareCouples 60 = .ok (.invokevirtual 129, 3) := by decide +kernel
theorem dX5_compareCouples_63 : decode cX5_compareCouples 63 = .ok (.ifCond .eq 7, 3) := by decide +kernel
theorem dX5_compareCouples_66 : decode cX5_compareCouples 66 = .ok (.iconst 2, 1) := by decide +kernel
theorem dX5_compareCouples_67 : decode cX5_compareCouples 67 = .ok (.goto 4, 3) := by decide +kernel
theorem dX5_compareCouples_70 : decode cX5_compareCouples 70 = .ok (.iconst 0, 1) := by decide +kernel
theorem dX5_compareCouples_71 : decode cX5_compareCouples 71 = .ok (.ireturn, 1) := by decide +kernel
theorem dX5_isConsistent_0 : decode cX5_isConsistent 0 = .ok (.aload_n 0, 1) := by decide +kernel
theorem dX5_isConsistent_1 : decode cX5_isConsistent 1 = .ok (.getfield 26, 3) := by decide +kernel
theorem dX5_isConsistent_4 : decode cX5_isConsistent 4 = .ok (.aload_n 0, 1) := by decide +kernel
theorem dX5_isConsistent_5 : decode cX5_isConsistent 5 = .ok (.getfield 10, 3) := by decide +kernel
theorem dX5_isConsistent_8 : decode cX5_isConsistent 8 = .ok (.invokevirtual 101, 3) := by decide +kernel
theorem dX5_isConsistent_11 : decode cX5_isConsistent 11 = .ok (.aload_n 0, 1) := by decide +kernel
theorem dX5_isConsistent_12 : decode cX5_isConsistent 12 = .ok (.getfield 40, 3) := by decide +kernel
theorem dX5_isConsistent_15 : decode cX5_isConsistent 15 = .ok (.aload_n 0, 1) := by decide +kernel
theorem dX5_isConsistent_16 : decode cX5_isConsistent 16 = .ok (.getfield 26, 3) := by decide +kernel
theorem dX5_isConsistent_19 : decode cX5_isConsistent 19 = .ok (.invokevirtual 133, 3) := by decide +kernel
theorem dX5_isConsistent_22 : decode cX5_isConsistent 22 = .ok (.ifCond .eq 7, 3) := by decide +kernel
theorem dX5_isConsistent_25 : decode cX5_isConsistent 25 = .ok (.iconst 1, 1) := by decide +kernel
theorem dX5_isConsistent_26 : decode cX5_isConsistent 26 = .ok (.goto 4, 3) := by decide +kernel
theorem dX5_isConsistent_29 : decode cX5_isConsistent 29 = .ok (.iconst 0, 1) := by decide +kernel
theorem dX5_isConsistent_30 : decode cX5_isConsistent 30 = .ok (.ireturn, 1) := by decide +kernel
theorem dX5_coupleInOrder_0 : decode cX5_coupleInOrder 0 = .ok (.aload_n 0, 1) := by decide +kernel
theorem dX5_coupleInOrder_1 : decode cX5_coupleInOrder 1 = .ok (.getfield 26, 3) := by decide +kernel
theorem dX5_coupleInOrder_4 : decode cX5_coupleInOrder 4 = .ok (.aload_n 0, 1) := by decide +kernel
theorem dX5_coupleInOrder_5 : decode cX5_coupleInOrder 5 = .ok (.getfield 10, 3) := by decide +kernel
theorem dX5_coupleInOrder_8 : decode cX5_coupleInOrder 8 = .ok (.invokevirtual 101, 3) := by decide +kernel
theorem dX5_coupleInOrder_11 : decode cX5_coupleInOrder 11 = .ok (.aload_n 0, 1) := by decide +kernel
theorem dX5_coupleInOrder_12 : decode cX5_coupleInOrder 12 = .ok (.iload_n 1, 1) := by decide +kernel
theorem dX5_coupleInOrder_13 : decode cX5_coupleInOrder 13 = .ok (.invokevirtual 105, 3) := by decide +kernel
theorem dX5_coupleInOrder_16 : decode cX5_coupleInOrder 16 = .ok (.istore_n 2, 1) := by decide +kernel
theorem dX5_coupleInOrder_17 : decode cX5_coupleInOrder 17 = .ok (.iload_n 2, 1) := by decide +kernel
theorem dX5_coupleInOrder_18 : decode cX5_coupleInOrder 18 = .ok (.ifCond .eq 5, 3) := by decide +kernel
theorem dX5_coupleInOrder_21 : decode cX5_coupleInOrder 21 = .ok (.iload_n 2, 1) := by decide +kernel
theorem dX5_coupleInOrder_22 : decode cX5_coupleInOrder 22 = .ok (.ireturn, 1) := by decide +kernel
theorem dX5_coupleInOrder_23 : decode cX5_coupleInOrder 23 = .ok (.aload_n 0, 1) := by decide +kernel
theorem dX5_coupleInOrder_24 : decode cX5_coupleInOrder 24 = .ok (.getfield 40, 3) := by decide +kernel
theorem dX5_coupleInOrder_27 : decode cX5_coupleInOrder 27 = .ok (.aload_n 0, 1) := by decide +kernel
theorem dX5_coupleInOrder_28 : decode cX5_coupleInOrder 28 = .ok (.getfield 26, 3) := by decide +kernel
theorem dX5_coupleInOrder_31 : decode cX5_coupleInOrder 31 = .ok (.invokevirtual 133, 3) := by decide +kernel
theorem dX5_coupleInOrder_34 : decode cX5_coupleInOrder 34 = .ok (.ifCond .eq 15, 3) := by decide +kernel
theorem dX5_coupleInOrder_37 : decode cX5_coupleInOrder 37 = .ok (.aload_n 0, 1) := by decide +kernel
theorem dX5_coupleInOrder_38 : decode cX5_coupleInOrder 38 = .ok (.getfield 40, 3) := by decide +kernel
theorem dX5_coupleInOrder_41 : decode cX5_coupleInOrder 41 = .ok (.getfield 137, 3) := by decide +kernel
theorem dX5_coupleInOrder_44 : decode cX5_coupleInOrder 44 = .ok (.iload_n 1, 1) := by decide +kernel
theorem dX5_coupleInOrder_45 : decode cX5_coupleInOrder 45 = .ok (.iaload, 1) := by decide +kernel
theorem dX5_coupleInOrder_46 : decode cX5_coupleInOrder 46 = .ok (.goto 5, 3) := by decide +kernel
theorem dX5_coupleInOrder_49 : decode cX5_coupleInOrder 49 = .ok (.bipush (-4), 2) := by decide +kernel
theorem dX5_coupleInOrder_51 : decode cX5_coupleInOrder 51 = .ok (.ireturn, 1) := by decide +kernel
theorem dX5_generation_0 : decode cX5_generation 0 = .ok (.aload_n 0, 1) := by decide +kernel
theorem dX5_generation_1 : decode cX5_generation 1 = .ok (.getfield 26, 3) := by decide +kernel
theorem dX5_generation_4 : decode cX5_generation 4 = .ok (.aload_n 0, 1) := by decide +kernel
theorem dX5_generation_5 : decode cX5_generation 5 = .ok (.getfield 10, 3) := by decide +kernel
theorem dX5_generation_8 : decode cX5_generation 8 = .ok (.invokevirtual 101, 3) := by decide +kernel
theorem dX5_generation_11 : decode cX5_generation 11 = .ok (.aload_n 0, 1) := by decide +kernel
theorem dX5_generation_12 : decode cX5_generation 12 = .ok (.iload_n 1, 1) := by decide +kernel
theorem dX5_generation_13 : decode cX5_generation 13 = .ok (.invokevirtual 105, 3) := by decide +kernel
theorem dX5_generation_16 : decode cX5_generation 16 = .ok (.istore_n 2, 1) := by decide +kernel
theorem dX5_generation_17 : decode cX5_generation 17 = .ok (.iload_n 2, 1) := by decide +kernel
theorem dX5_generation_18 : decode cX5_generation 18 = .ok (.ifCond .eq 5, 3) := by decide +kernel
theorem dX5_generation_21 : decode cX5_generation 21 = .ok (.iload_n 2, 1) := by decide +kernel
theorem dX5_generation_22 : decode cX5_generation 22 = .ok (.ireturn, 1) := by decide +kernel
theorem dX5_generation_23 : decode cX5_generation 23 = .ok (.aload_n 0, 1) := by decide +kernel
theorem dX5_generation_24 : decode cX5_generation 24 = .ok (.getfield 40, 3) := by decide +kernel
theorem dX5_generation_27 : decode cX5_generation 27 = .ok (.aload_n 0, 1) := by decide +kernel
theorem dX5_generation_28 : decode cX5_generation 28 = .ok (.getfield 26, 3) := by decide +kernel
theorem dX5_generation_31 : decode cX5_generation 31 = .ok (.invokevirtual 133, 3) := by decide +kernel
theorem dX5_generation_34 : decode cX5_generation 34 = .ok (.ifCond .eq 15, 3) := by decide +kernel
theorem dX5_generation_37 : decode cX5_generation 37 = .ok (.aload_n 0, 1) := by decide +kernel
theorem dX5_generation_38 : decode cX5_generation 38 = .ok (.getfield 40, 3) := by decide +kernel
theorem dX5_generation_41 : decode cX5_generation 41 = .ok (.getfield 141, 3) := by decide +kernel
theorem dX5_generation_44 : decode cX5_generation 44 = .ok (.iload_n 1, 1) := by decide +kernel
theorem dX5_generation_45 : decode cX5_generation 45 = .ok (.iaload, 1) := by decide +kernel
theorem dX5_generation_46 : decode cX5_generation 46 = .ok (.goto 5, 3) := by decide +kernel
theorem dX5_generation_49 : decode cX5_generation 49 = .ok (.bipush (-4), 2) := by decide +kernel
theorem dX5_generation_51 : decode cX5_generation 51 = .ok (.ireturn, 1) := by decide +kernel
theorem dX5_singletons_0 : decode cX5_singletons 0 = .ok (.iload_n 1, 1) := by decide +kernel
theorem dX5_singletons_1 : decode cX5_singletons 1 = .ok (.invokestatic 73, 3) := by decide +kernel
theorem dX5_singletons_4 : decode cX5_singletons 4 = .ok (.ifCond .eq 14, 3) := by decide +kernel
theorem dX5_singletons_7 : decode cX5_singletons 7 = .ok (.aload_n 0, 1) := by decide +kernel
theorem dX5_singletons_8 : decode cX5_singletons 8 = .ok (.getfield 10, 3) := by decide +kernel
theorem dX5_singletons_11 : decode cX5_singletons 11 = .ok (.iload_n 1, 1) := by decide +kernel
theorem dX5_singletons_12 : decode cX5_singletons 12 = .ok (.invokevirtual 144, 3) := by decide +kernel
theorem dX5_singletons_15 : decode cX5_singletons 15 = .ok (.goto 4, 3) := by decide +kernel
theorem dX5_singletons_18 : decode cX5_singletons 18 = .ok (.iconst (-1), 1) := by decide +kernel
theorem dX5_singletons_19 : decode cX5_singletons 19 = .ok (.ireturn, 1) := by decide +kernel
theorem dX5_coverageEstimate_0 : decode cX5_coverageEstimate 0 = .ok (.iload_n 1, 1) := by decide +kernel
theorem dX5_coverageEstimate_1 : decode cX5_coverageEstimate 1 = .ok (.invokestatic 73, 3) := by decide +kernel
theorem dX5_coverageEstimate_4 : decode cX5_coverageEstimate 4 = .ok (.ifCond .ne 5, 3) := by decide +kernel
theorem dX5_coverageEstimate_7 : decode cX5_coverageEstimate 7 = .ok (.iconst (-1), 1) := by decide +kernel
theorem dX5_coverageEstimate_8 : decode cX5_coverageEstimate 8 = .ok (.ireturn, 1) := by decide +kernel
theorem dX5_coverageEstimate_9 : decode cX5_coverageEstimate 9 = .ok (.aload_n 0, 1) := by decide +kernel
theorem dX5_coverageEstimate_10 : decode cX5_coverageEstimate 10 = .ok (.getfield 10, 3) := by decide +kernel
theorem dX5_coverageEstimate_13 : decode cX5_coverageEstimate 13 = .ok (.getfield 51, 3) := by decide +kernel
theorem dX5_coverageEstimate_16 : decode cX5_coverageEstimate 16 = .ok (.istore_n 2, 1) := by decide +kernel
theorem dX5_coverageEstimate_17 : decode cX5_coverageEstimate 17 = .ok (.iload_n 2, 1) := by decide +kernel
theorem dX5_coverageEstimate_18 : decode cX5_coverageEstimate 18 = .ok (.aload_n 0, 1) := by decide +kernel
theorem dX5_coverageEstimate_19 : decode cX5_coverageEstimate 19 = .ok (.getfield 10, 3) := by decide +kernel
theorem dX5_coverageEstimate_22 : decode cX5_coverageEstimate 22 = .ok (.iload_n 1, 1) := by decide +kernel
theorem dX5_coverageEstimate_23 : decode cX5_coverageEstimate 23 = .ok (.invokevirtual 144, 3) := by decide +kernel
theorem dX5_coverageEstimate_26 : decode cX5_coverageEstimate 26 = .ok (.isub, 1) := by decide +kernel
theorem dX5_coverageEstimate_27 : decode cX5_coverageEstimate 27 = .ok (.istore_n 3, 1) := by decide +kernel
theorem dX5_coverageEstimate_28 : decode cX5_coverageEstimate 28 = .ok (.iload_n 3, 1) := by decide +kernel
theorem dX5_coverageEstimate_29 : decode cX5_coverageEstimate 29 = .ok (.ifCond .le 22, 3) := by decide +kernel
theorem dX5_coverageEstimate_32 : decode cX5_coverageEstimate 32 = .ok (.sipush 1000, 3) := by decide +kernel
theorem dX5_coverageEstimate_35 : decode cX5_coverageEstimate 35 = .ok (.iload_n 2, 1) := by decide +kernel
theorem dX5_coverageEstimate_36 : decode cX5_coverageEstimate 36 = .ok (.imul, 1) := by decide +kernel
theorem dX5_coverageEstimate_37 : decode cX5_coverageEstimate 37 = .ok (.aload_n 0, 1) := by decide +kernel
theorem dX5_coverageEstimate_38 : decode cX5_coverageEstimate 38 = .ok (.getfield 10, 3) := by decide +kernel
theorem dX5_coverageEstimate_41 : decode cX5_coverageEstimate 41 = .ok (.iload_n 1, 1) := by decide +kernel
theorem dX5_coverageEstimate_42 : decode cX5_coverageEstimate 42 = .ok (.invokevirtual 90, 3) := by decide +kernel
theorem dX5_coverageEstimate_45 : decode cX5_coverageEstimate 45 = .ok (.imul, 1) := by decide +kernel
theorem dX5_coverageEstimate_46 : decode cX5_coverageEstimate 46 = .ok (.iload_n 3, 1) := by decide +kernel
theorem dX5_coverageEstimate_47 : decode cX5_coverageEstimate 47 = .ok (.idiv, 1) := by decide +kernel
theorem dX5_coverageEstimate_48 : decode cX5_coverageEstimate 48 = .ok (.goto 5, 3) := by decide +kernel
theorem dX5_coverageEstimate_51 : decode cX5_coverageEstimate 51 = .ok (.bipush (-3), 2) := by decide +kernel
theorem dX5_coverageEstimate_53 : decode cX5_coverageEstimate 53 = .ok (.ireturn, 1) := by decide +kernel
theorem dX5_frequencyEstimate_0 : decode cX5_frequencyEstimate 0 = .ok (.iload_n 1, 1) := by decide +kernel
theorem dX5_frequencyEstimate_1 : decode cX5_frequencyEstimate 1 = .ok (.invokestatic 73, 3) := by decide +kernel
theorem dX5_frequencyEstimate_4 : decode cX5_frequencyEstimate 4 = .ok (.ifCond .ne 5, 3) := by decide +kernel
theorem dX5_frequencyEstimate_7 : decode cX5_frequencyEstimate 7 = .ok (.iconst (-1), 1) := by decide +kernel
theorem dX5_frequencyEstimate_8 : decode cX5_frequencyEstimate 8 = .ok (.ireturn, 1) := by decide +kernel
theorem dX5_frequencyEstimate_9 : decode cX5_frequencyEstimate 9 = .ok (.aload_n 0, 1) := by decide +kernel
theorem dX5_frequencyEstimate_10 : decode cX5_frequencyEstimate 10 = .ok (.getfield 10, 3) := by decide +kernel
theorem dX5_frequencyEstimate_13 : decode cX5_frequencyEstimate 13 = .ok (.getfield 51, 3) := by decide +kernel
theorem dX5_frequencyEstimate_16 : decode cX5_frequencyEstimate 16 = .ok (.istore_n 2, 1) := by decide +kernel
theorem dX5_frequencyEstimate_17 : decode cX5_frequencyEstimate 17 = .ok (.aload_n 0, 1) := by decide +kernel
theorem dX5_frequencyEstimate_18 : decode cX5_frequencyEstimate 18 = .ok (.getfield 10, 3) := by decide +kernel
theorem dX5_frequencyEstimate_21 : decode cX5_frequencyEstimate 21 = .ok (.iload_n 1, 1) := by decide +kernel
theorem dX5_frequencyEstimate_22 : decode cX5_frequencyEstimate 22 = .ok (.invokevirtual 90, 3) := by decide +kernel
theorem dX5_frequencyEstimate_25 : decode cX5_frequencyEstimate 25 = .ok (.istore_n 3, 1) := by decide +kernel
theorem dX5_frequencyEstimate_26 : decode cX5_frequencyEstimate 26 = .ok (.iload_n 2, 1) := by decide +kernel
theorem dX5_frequencyEstimate_27 : decode cX5_frequencyEstimate 27 = .ok (.iconst 2, 1) := by decide +kernel
theorem dX5_frequencyEstimate_28 : decode cX5_frequencyEstimate 28 = .ok (.if_icmp .lt 8, 3) := by decide +kernel
theorem dX5_frequencyEstimate_31 : decode cX5_frequencyEstimate 31 = .ok (.iload_n 2, 1) := by decide +kernel
theorem dX5_frequencyEstimate_32 : decode cX5_frequencyEstimate 32 = .ok (.iload_n 3, 1) := by decide +kernel
theorem dX5_frequencyEstimate_33 : decode cX5_frequencyEstimate 33 = .ok (.if_icmp .ne 6, 3) := by decide +kernel
theorem dX5_frequencyEstimate_36 : decode cX5_frequencyEstimate 36 = .ok (.bipush (-3), 2) := by decide +kernel
theorem dX5_frequencyEstimate_38 : decode cX5_frequencyEstimate 38 = .ok (.ireturn, 1) := by decide +kernel
theorem dX5_frequencyEstimate_39 : decode cX5_frequencyEstimate 39 = .ok (.iload_n 2, 1) := by decide +kernel
theorem dX5_frequencyEstimate_40 : decode cX5_frequencyEstimate 40 = .ok (.iload_n 3, 1) := by decide +kernel
theorem dX5_frequencyEstimate_41 : decode cX5_frequencyEstimate 41 = .ok (.invokestatic 147, 3) := by decide +kernel
theorem dX5_frequencyEstimate_44 : decode cX5_frequencyEstimate 44 = .ok (.istore 4, 2) := by decide +kernel
theorem dX5_frequencyEstimate_46 : decode cX5_frequencyEstimate 46 = .ok (.iload 4, 2) := by decide +kernel
theorem dX5_frequencyEstimate_48 : decode cX5_frequencyEstimate 48 = .ok (.ifCond .le 20, 3) := by decide +kernel
theorem dX5_frequencyEstimate_51 : decode cX5_frequencyEstimate 51 = .ok (.iload_n 2, 1) := by decide +kernel
theorem dX5_frequencyEstimate_52 : decode cX5_frequencyEstimate 52 = .ok (.iload_n 3, 1) := by decide +kernel
theorem dX5_frequencyEstimate_53 : decode cX5_frequencyEstimate 53 = .ok (.imul, 1) := by decide +kernel
theorem dX5_frequencyEstimate_54 : decode cX5_frequencyEstimate 54 = .ok (.sipush 1000, 3) := by decide +kernel
theorem dX5_frequencyEstimate_57 : decode cX5_frequencyEstimate 57 = .ok (.imul, 1) := by decide +kernel
theorem dX5_frequencyEstimate_58 : decode cX5_frequencyEstimate 58 = .ok (.sipush 1000, 3) := by decide +kernel
theorem dX5_frequencyEstimate_61 : decode cX5_frequencyEstimate 61 = .ok (.imul, 1) := by decide +kernel
theorem dX5_frequencyEstimate_62 : decode cX5_frequencyEstimate 62 = .ok (.iload 4, 2) := by decide +kernel
theorem dX5_frequencyEstimate_64 : decode cX5_frequencyEstimate 64 = .ok (.idiv, 1) := by decide +kernel
theorem dX5_frequencyEstimate_65 : decode cX5_frequencyEstimate 65 = .ok (.goto 5, 3) := by decide +kernel
theorem dX5_frequencyEstimate_68 : decode cX5_frequencyEstimate 68 = .ok (.bipush (-3), 2) := by decide +kernel
theorem dX5_frequencyEstimate_70 : decode cX5_frequencyEstimate 70 = .ok (.ireturn, 1) := by decide +kernel
theorem dX5_undo_0 : decode cX5_undo 0 = .ok (.aload_n 0, 1) := by decide +kernel
theorem dX5_undo_1 : decode cX5_undo 1 = .ok (.getfield 19, 3) := by decide +kernel
theorem dX5_undo_4 : decode cX5_undo 4 = .ok (.getfield 150, 3) := by decide +kernel
theorem dX5_undo_7 : decode cX5_undo 7 = .ok (.ifCond .ne 6, 3) := by decide +kernel
theorem dX5_undo_10 : decode cX5_undo 10 = .ok (.bipush (-3), 2) := by decide +kernel
theorem dX5_undo_12 : decode cX5_undo 12 = .ok (.ireturn, 1) := by decide +kernel
theorem dX5_undo_13 : decode cX5_undo 13 = .ok (.aload_n 0, 1) := by decide +kernel
theorem dX5_undo_14 : decode cX5_undo 14 = .ok (.getfield 19, 3) := by decide +kernel
theorem dX5_undo_17 : decode cX5_undo 17 = .ok (.aload_n 0, 1) := by decide +kernel
theorem dX5_undo_18 : decode cX5_undo 18 = .ok (.getfield 10, 3) := by decide +kernel
theorem dX5_undo_21 : decode cX5_undo 21 = .ok (.invokevirtual 153, 3) := by decide +kernel
theorem dX5_undo_24 : decode cX5_undo 24 = .ok (.aload_n 0, 1) := by decide +kernel
theorem dX5_undo_25 : decode cX5_undo 25 = .ok (.getfield 19, 3) := by decide +kernel
theorem dX5_undo_28 : decode cX5_undo 28 = .ok (.getfield 150, 3) := by decide +kernel
theorem dX5_undo_31 : decode cX5_undo 31 = .ok (.ireturn, 1) := by decide +kernel
theorem dX5_isSide_0 : decode cX5_isSide 0 = .ok (.iload_n 0, 1) := by decide +kernel
theorem dX5_isSide_1 : decode cX5_isSide 1 = .ok (.ifCond .lt 12, 3) := by decide +kernel
theorem dX5_isSide_4 : decode cX5_isSide 4 = .ok (.iload_n 0, 1) := by decide +kernel
theorem dX5_isSide_5 : decode cX5_isSide 5 = .ok (.iconst 2, 1) := by decide +kernel
theorem dX5_isSide_6 : decode cX5_isSide 6 = .ok (.if_icmp .ge 7, 3) := by decide +kernel
theorem dX5_isSide_9 : decode cX5_isSide 9 = .ok (.iconst 1, 1) := by decide +kernel
theorem dX5_isSide_10 : decode cX5_isSide 10 = .ok (.goto 4, 3) := by decide +kernel
theorem dX5_isSide_13 : decode cX5_isSide 13 = .ok (.iconst 0, 1) := by decide +kernel
theorem dX5_isSide_14 : decode cX5_isSide 14 = .ok (.ireturn, 1) := by decide +kernel
theorem dX5_isDie_0 : decode cX5_isDie 0 = .ok (.iload_n 0, 1) := by decide +kernel
theorem dX5_isDie_1 : decode cX5_isDie 1 = .ok (.ifCond .lt 13, 3) := by decide +kernel
theorem dX5_isDie_4 : decode cX5_isDie 4 = .ok (.iload_n 0, 1) := by decide +kernel
theorem dX5_isDie_5 : decode cX5_isDie 5 = .ok (.bipush 10, 2) := by decide +kernel
theorem dX5_isDie_7 : decode cX5_isDie 7 = .ok (.if_icmp .ge 7, 3) := by decide +kernel
theorem dX5_isDie_10 : decode cX5_isDie 10 = .ok (.iconst 1, 1) := by decide +kernel
theorem dX5_isDie_11 : decode cX5_isDie 11 = .ok (.goto 4, 3) := by decide +kernel
theorem dX5_isDie_14 : decode cX5_isDie 14 = .ok (.iconst 0, 1) := by decide +kernel
theorem dX5_isDie_15 : decode cX5_isDie 15 = .ok (.ireturn, 1) := by decide +kernel
theorem dX5_isWear_0 : decode cX5_isWear 0 = .ok (.iload_n 0, 1) := by decide +kernel
theorem dX5_isWear_1 : decode cX5_isWear 1 = .ok (.ifCond .lt 12, 3) := by decide +kernel
theorem dX5_isWear_4 : decode cX5_isWear 4 = .ok (.iload_n 0, 1) := by decide +kernel
theorem dX5_isWear_5 : decode cX5_isWear 5 = .ok (.iconst 5, 1) := by decide +kernel
theorem dX5_isWear_6 : decode cX5_isWear 6 = .ok (.if_icmp .gt 7, 3) := by decide +kernel
theorem dX5_isWear_9 : decode cX5_isWear 9 = .ok (.iconst 1, 1) := by decide +kernel
theorem dX5_isWear_10 : decode cX5_isWear 10 = .ok (.goto 4, 3) := by decide +kernel
theorem dX5_isWear_13 : decode cX5_isWear 13 = .ok (.iconst 0, 1) := by decide +kernel
theorem dX5_isWear_14 : decode cX5_isWear 14 = .ok (.ireturn, 1) := by decide +kernel
theorem dX5_errorOfPlace_0 : decode cX5_errorOfPlace 0 = .ok (.iload_n 1, 1) := by decide +kernel
theorem dX5_errorOfPlace_1 : decode cX5_errorOfPlace 1 = .ok (.ifCond .ge 5, 3) := by decide +kernel
theorem dX5_errorOfPlace_4 : decode cX5_errorOfPlace 4 = .ok (.iconst (-1), 1) := by decide +kernel
theorem dX5_errorOfPlace_5 : decode cX5_errorOfPlace 5 = .ok (.ireturn, 1) := by decide +kernel
theorem dX5_errorOfPlace_6 : decode cX5_errorOfPlace 6 = .ok (.aload_n 0, 1) := by decide +kernel
theorem dX5_errorOfPlace_7 : decode cX5_errorOfPlace 7 = .ok (.getfield 26, 3) := by decide +kernel
theorem dX5_errorOfPlace_10 : decode cX5_errorOfPlace 10 = .ok (.iload_n 1, 1) := by decide +kernel
theorem dX5_errorOfPlace_11 : decode cX5_errorOfPlace 11 = .ok (.invokevirtual 128, 3) := by decide +kernel
theorem dX5_errorOfPlace_14 : decode cX5_errorOfPlace 14 = .ok (.ifCond .eq 7, 3) := by decide +kernel
theorem dX5_errorOfPlace_17 : decode cX5_errorOfPlace 17 = .ok (.iconst 0, 1) := by decide +kernel
theorem dX5_errorOfPlace_18 : decode cX5_errorOfPlace 18 = .ok (.goto 5, 3) := by decide +kernel
theorem dX5_errorOfPlace_21 : decode cX5_errorOfPlace 21 = .ok (.bipush (-3), 2) := by decide +kernel
theorem dX5_errorOfPlace_23 : decode cX5_errorOfPlace 23 = .ok (.ireturn, 1) := by decide +kernel
theorem dX5_divisorOfFrequencyEstimate_0 : decode cX5_divisorOfFrequencyEstimate 0 = .ok (.iload_n 0, 1) := by decide +kernel
theorem dX5_divisorOfFrequencyEstimate_1 : decode cX5_divisorOfFrequencyEstimate 1 = .ok (.iconst 2, 1) := by decide +kernel
theorem dX5_divisorOfFrequencyEstimate_2 : decode cX5_divisorOfFrequencyEstimate 2 = .ok (.iload_n 1, 1) := by decide +kernel
theorem dX5_divisorOfFrequencyEstimate_3 : decode cX5_divisorOfFrequencyEstimate 3 = .ok (.imul, 1) := by decide +kernel
theorem dX5_divisorOfFrequencyEstimate_4 : decode cX5_divisorOfFrequencyEstimate 4 = .ok (.if_icmp .ge 15, 3) := by decide +kernel
theorem dX5_divisorOfFrequencyEstimate_7 : decode cX5_divisorOfFrequencyEstimate 7 = .ok (.sipush 1124, 3) := by decide +kernel
theorem dX5_divisorOfFrequencyEstimate_10 : decode cX5_divisorOfFrequencyEstimate 10 = .ok (.iload_n 0, 1) := by decide +kernel
theorem dX5_divisorOfFrequencyEstimate_11 : decode cX5_divisorOfFrequencyEstimate 11 = .ok (.imul, 1) := by decide +kernel
theorem dX5_divisorOfFrequencyEstimate_12 : decode cX5_divisorOfFrequencyEstimate 12 = .ok (.sipush 1016, 3) := by decide +kernel
theorem dX5_divisorOfFrequencyEstimate_15 : decode cX5_divisorOfFrequencyEstimate 15 = .ok (.iload_n 1, 1) := by decide +kernel
theorem dX5_divisorOfFrequencyEstimate_16 : decode cX5_divisorOfFrequencyEstimate 16 = .ok (.imul, 1) := by decide +kernel
theorem dX5_divisorOfFrequencyEstimate_17 : decode cX5_divisorOfFrequencyEstimate 17 = .ok (.isub, 1) := by decide +kernel
theorem dX5_divisorOfFrequencyEstimate_18 : decode cX5_divisorOfFrequencyEstimate 18 = .ok (.ireturn, 1) := by decide +kernel
theorem dX5_divisorOfFrequencyEstimate_19 : decode cX5_divisorOfFrequencyEstimate 19 = .ok (.iload_n 0, 1) := by decide +kernel
theorem dX5_divisorOfFrequencyEstimate_20 : decode cX5_divisorOfFrequencyEstimate 20 = .ok (.iconst 3, 1) := by decide +kernel
theorem dX5_divisorOfFrequencyEstimate_21 : decode cX5_divisorOfFrequencyEstimate 21 = .ok (.iload_n 1, 1) := by decide +kernel
theorem dX5_divisorOfFrequencyEstimate_22 : decode cX5_divisorOfFrequencyEstimate 22 = .ok (.imul, 1) := by decide +kernel
theorem dX5_divisorOfFrequencyEstimate_23 : decode cX5_divisorOfFrequencyEstimate 23 = .ok (.if_icmp .ge 15, 3) := by decide +kernel
theorem dX5_divisorOfFrequencyEstimate_26 : decode cX5_divisorOfFrequencyEstimate 26 = .ok (.sipush 1069, 3) := by decide +kernel
theorem dX5_divisorOfFrequencyEstimate_29 : decode cX5_divisorOfFrequencyEstimate 29 = .ok (.iload_n 0, 1) := by decide +kernel
theorem dX5_divisorOfFrequencyEstimate_30 : decode cX5_divisorOfFrequencyEstimate 30 = .ok (.imul, 1) := by decide +kernel
theorem dX5_divisorOfFrequencyEstimate_31 : decode cX5_divisorOfFrequencyEstimate 31 = .ok (.sipush 843, 3) := by decide +kernel
theorem dX5_divisorOfFrequencyEstimate_34 : decode cX5_divisorOfFrequencyEstimate 34 = .ok (.iload_n 1, 1) := by decide +kernel
theorem dX5_divisorOfFrequencyEstimate_35 : decode cX5_divisorOfFrequencyEstimate 35 = .ok (.imul, 1) := by decide +kernel
theorem dX5_divisorOfFrequencyEstimate_36 : decode cX5_divisorOfFrequencyEstimate 36 = .ok (.isub, 1) := by decide +kernel
theorem dX5_divisorOfFrequencyEstimate_37 : decode cX5_divisorOfFrequencyEstimate 37 = .ok (.ireturn, 1) := by decide +kernel
theorem dX5_divisorOfFrequencyEstimate_38 : decode cX5_divisorOfFrequencyEstimate 38 = .ok (.sipush 1016, 3) := by decide +kernel
theorem dX5_divisorOfFrequencyEstimate_41 : decode cX5_divisorOfFrequencyEstimate 41 = .ok (.iload_n 0, 1) := by decide +kernel
theorem dX5_divisorOfFrequencyEstimate_42 : decode cX5_divisorOfFrequencyEstimate 42 = .ok (.imul, 1) := by decide +kernel
theorem dX5_divisorOfFrequencyEstimate_43 : decode cX5_divisorOfFrequencyEstimate 43 = .ok (.sipush 197, 3) := by decide +kernel
theorem dX5_divisorOfFrequencyEstimate_46 : decode cX5_divisorOfFrequencyEstimate 46 = .ok (.iload_n 1, 1) := by decide +kernel
theorem dX5_divisorOfFrequencyEstimate_47 : decode cX5_divisorOfFrequencyEstimate 47 = .ok (.imul, 1) := by decide +kernel
theorem dX5_divisorOfFrequencyEstimate_48 : decode cX5_divisorOfFrequencyEstimate 48 = .ok (.isub, 1) := by decide +kernel
theorem dX5_divisorOfFrequencyEstimate_49 : decode cX5_divisorOfFrequencyEstimate 49 = .ok (.ireturn, 1) := by decide +kernel
theorem dX5_bitsOf_0 : decode cX5_bitsOf 0 = .ok (.fload_n 0, 1) := by decide +kernel
theorem dX5_bitsOf_1 : decode cX5_bitsOf 1 = .ok (.fconst 0, 1) := by decide +kernel
theorem dX5_bitsOf_2 : decode cX5_bitsOf 2 = .ok (.fcmp .g, 1) := by decide +kernel
theorem dX5_bitsOf_3 : decode cX5_bitsOf 3 = .ok (.ifCond .gt 5, 3) := by decide +kernel
theorem dX5_bitsOf_6 : decode cX5_bitsOf 6 = .ok (.iconst 0, 1) := by decide +kernel
theorem dX5_bitsOf_7 : decode cX5_bitsOf 7 = .ok (.ireturn, 1) := by decide +kernel
theorem dX5_bitsOf_8 : decode cX5_bitsOf 8 = .ok (.fload_n 0, 1) := by decide +kernel
theorem dX5_bitsOf_9 : decode cX5_bitsOf 9 = .ok (.fstore_n 1, 1) := by decide +kernel
theorem dX5_bitsOf_10 : decode cX5_bitsOf 10 = .ok (.bipush 127, 2) := by decide +kernel
theorem dX5_bitsOf_12 : decode cX5_bitsOf 12 = .ok (.istore_n 2, 1) := by decide +kernel
theorem dX5_bitsOf_13 : decode cX5_bitsOf 13 = .ok (.iconst 0, 1) := by decide +kernel
theorem dX5_bitsOf_14 : decode cX5_bitsOf 14 = .ok (.istore_n 3, 1) := by decide +kernel
theorem dX5_bitsOf_15 : decode cX5_bitsOf 15 = .ok (.iload_n 3, 1) := by decide +kernel
theorem dX5_bitsOf_16 : decode cX5_bitsOf 16 = .ok (.bipush 8, 2) := by decide +kernel
theorem dX5_bitsOf_18 : decode cX5_bitsOf 18 = .ok (.if_icmp .ge 22, 3) := by decide +kernel
theorem dX5_bitsOf_21 : decode cX5_bitsOf 21 = .ok (.fload_n 1, 1) := by decide +kernel
theorem dX5_bitsOf_22 : decode cX5_bitsOf 22 = .ok (.fconst 2, 1) := by decide +kernel
theorem dX5_bitsOf_23 : decode cX5_bitsOf 23 = .ok (.fcmp .l, 1) := by decide +kernel
theorem dX5_bitsOf_24 : decode cX5_bitsOf 24 = .ok (.ifCond .lt 16, 3) := by decide +kernel
theorem dX5_bitsOf_27 : decode cX5_bitsOf 27 = .ok (.fload_n 1, 1) := by decide +kernel
theorem dX5_bitsOf_28 : decode cX5_bitsOf 28 = .ok (.fconst 2, 1) := by decide +kernel
theorem dX5_bitsOf_29 : decode cX5_bitsOf 29 = .ok (.fdiv, 1) := by decide +kernel
theorem dX5_bitsOf_30 : decode cX5_bitsOf 30 = .ok (.fstore_n 1, 1) := by decide +kernel
theorem dX5_bitsOf_31 : decode cX5_bitsOf 31 = .ok (.iinc 2 1, 3) := by decide +kernel
theorem dX5_bitsOf_34 : decode cX5_bitsOf 34 = .ok (.iinc 3 1, 3) := by decide +kernel
theorem dX5_bitsOf_37 : decode cX5_bitsOf 37 = .ok (.goto (-22), 3) := by decide +kernel
theorem dX5_bitsOf_40 : decode cX5_bitsOf 40 = .ok (.iconst 0, 1) := by decide +kernel
theorem dX5_bitsOf_41 : decode cX5_bitsOf 41 = .ok (.istore_n 3, 1) := by decide +kernel
theorem dX5_bitsOf_42 : decode cX5_bitsOf 42 = .ok (.iload_n 3, 1) := by decide +kernel
theorem dX5_bitsOf_43 : decode cX5_bitsOf 43 = .ok (.bipush 8, 2) := by decide +kernel
theorem dX5_bitsOf_45 : decode cX5_bitsOf 45 = .ok (.if_icmp .ge 22, 3) := by decide +kernel
theorem dX5_bitsOf_48 : decode cX5_bitsOf 48 = .ok (.fload_n 1, 1) := by decide +kernel
theorem dX5_bitsOf_49 : decode cX5_bitsOf 49 = .ok (.fconst 1, 1) := by decide +kernel
theorem dX5_bitsOf_50 : decode cX5_bitsOf 50 = .ok (.fcmp .g, 1) := by decide +kernel
theorem dX5_bitsOf_51 : decode cX5_bitsOf 51 = .ok (.ifCond .ge 16, 3) := by decide +kernel
theorem dX5_bitsOf_54 : decode cX5_bitsOf 54 = .ok (.fload_n 1, 1) := by decide +kernel
theorem dX5_bitsOf_55 : decode cX5_bitsOf 55 = .ok (.fconst 2, 1) := by decide +kernel
theorem dX5_bitsOf_56 : decode cX5_bitsOf 56 = .ok (.fmul, 1) := by decide +kernel
theorem dX5_bitsOf_57 : decode cX5_bitsOf 57 = .ok (.fstore_n 1, 1) := by decide +kernel
theorem dX5_bitsOf_58 : decode cX5_bitsOf 58 = .ok (.iinc 2 (-1), 3) := by decide +kernel
theorem dX5_bitsOf_61 : decode cX5_bitsOf 61 = .ok (.iinc 3 1, 3) := by decide +kernel
theorem dX5_bitsOf_64 : decode cX5_bitsOf 64 = .ok (.goto (-22), 3) := by decide +kernel
theorem dX5_bitsOf_67 : decode cX5_bitsOf 67 = .ok (.iload_n 2, 1) := by decide +kernel
theorem dX5_bitsOf_68 : decode cX5_bitsOf 68 = .ok (.bipush 23, 2) := by decide +kernel
theorem dX5_bitsOf_70 : decode cX5_bitsOf 70 = .ok (.ishl, 1) := by decide +kernel
theorem dX5_bitsOf_71 : decode cX5_bitsOf 71 = .ok (.fload_n 1, 1) := by decide +kernel
theorem dX5_bitsOf_72 : decode cX5_bitsOf 72 = .ok (.fconst 1, 1) := by decide +kernel
theorem dX5_bitsOf_73 : decode cX5_bitsOf 73 = .ok (.fsub, 1) := by decide +kernel
theorem dX5_bitsOf_74 : decode cX5_bitsOf 74 = .ok (.ldc 156, 2) := by decide +kernel
theorem dX5_bitsOf_76 : decode cX5_bitsOf 76 = .ok (.fmul, 1) := by decide +kernel
theorem dX5_bitsOf_77 : decode cX5_bitsOf 77 = .ok (.f2i, 1) := by decide +kernel
theorem dX5_bitsOf_78 : decode cX5_bitsOf 78 = .ok (.iadd, 1) := by decide +kernel
theorem dX5_bitsOf_79 : decode cX5_bitsOf 79 = .ok (.ireturn, 1) := by decide +kernel
theorem dJ9_max_7cf53_0 : decode cJ9_max_7cf53 0 = .ok (.iload_n 0, 1) := by decide +kernel
theorem dJ9_max_7cf53_1 : decode cJ9_max_7cf53 1 = .ok (.iload_n 1, 1) := by decide +kernel
theorem dJ9_max_7cf53_2 : decode cJ9_max_7cf53 2 = .ok (.if_icmp .lt 7, 3) := by decide +kernel
theorem dJ9_max_7cf53_5 : decode cJ9_max_7cf53 5 = .ok (.iload_n 0, 1) := by decide +kernel
theorem dJ9_max_7cf53_6 : decode cJ9_max_7cf53 6 = .ok (.goto 4, 3) := by decide +kernel
theorem dJ9_max_7cf53_9 : decode cJ9_max_7cf53 9 = .ok (.iload_n 1, 1) := by decide +kernel
theorem dJ9_max_7cf53_10 : decode cJ9_max_7cf53 10 = .ok (.ireturn, 1) := by decide +kernel
theorem dJ9_min_7cf53_0 : decode cJ9_min_7cf53 0 = .ok (.iload_n 0, 1) := by decide +kernel
theorem dJ9_min_7cf53_1 : decode cJ9_min_7cf53 1 = .ok (.iload_n 1, 1) := by decide +kernel
theorem dJ9_min_7cf53_2 : decode cJ9_min_7cf53 2 = .ok (.if_icmp .gt 7, 3) := by decide +kernel
theorem dJ9_min_7cf53_5 : decode cJ9_min_7cf53 5 = .ok (.iload_n 0, 1) := by decide +kernel
theorem dJ9_min_7cf53_6 : decode cJ9_min_7cf53 6 = .ok (.goto 4, 3) := by decide +kernel
theorem dJ9_min_7cf53_9 : decode cJ9_min_7cf53 9 = .ok (.iload_n 1, 1) := by decide +kernel
theorem dJ9_min_7cf53_10 : decode cJ9_min_7cf53 10 = .ok (.ireturn, 1) := by decide +kernel
theorem dJ7_fill_53178_0 : decode cJ7_fill_53178 0 = .ok (.iconst 0, 1) := by decide +kernel
theorem dJ7_fill_53178_1 : decode cJ7_fill_53178 1 = .ok (.istore_n 2, 1) := by decide +kernel
theorem dJ7_fill_53178_2 : decode cJ7_fill_53178 2 = .ok (.aload_n 0, 1) := by decide +kernel
theorem dJ7_fill_53178_3 : decode cJ7_fill_53178 3 = .ok (.arraylength, 1) := by decide +kernel
theorem dJ7_fill_53178_4 : decode cJ7_fill_53178 4 = .ok (.istore_n 3, 1) := by decide +kernel
theorem dJ7_fill_53178_5 : decode cJ7_fill_53178 5 = .ok (.iload_n 2, 1) := by decide +kernel
theorem dJ7_fill_53178_6 : decode cJ7_fill_53178 6 = .ok (.iload_n 3, 1) := by decide +kernel
theorem dJ7_fill_53178_7 : decode cJ7_fill_53178 7 = .ok (.if_icmp .ge 13, 3) := by decide +kernel
theorem dJ7_fill_53178_10 : decode cJ7_fill_53178 10 = .ok (.aload_n 0, 1) := by decide +kernel
theorem dJ7_fill_53178_11 : decode cJ7_fill_53178 11 = .ok (.iload_n 2, 1) := by decide +kernel
theorem dJ7_fill_53178_12 : decode cJ7_fill_53178 12 = .ok (.iload_n 1, 1) := by decide +kernel
theorem dJ7_fill_53178_13 : decode cJ7_fill_53178 13 = .ok (.iastore, 1) := by decide +kernel
theorem dJ7_fill_53178_14 : decode cJ7_fill_53178 14 = .ok (.iinc 2 1, 3) := by decide +kernel
theorem dJ7_fill_53178_17 : decode cJ7_fill_53178 17 = .ok (.goto (-12), 3) := by decide +kernel
theorem dJ7_fill_53178_20 : decode cJ7_fill_53178 20 = .ok (.return_, 1) := by decide +kernel
end
section
theorem dX6_init_0 : decode cX6_init 0 = .ok (.aload_n 0, 1) := by decide +kernel
theorem dX6_init_1 : decode cX6_init 1 = .ok (.invokespecial 1, 3) := by decide +kernel
theorem dX6_init_4 : decode cX6_init 4 = .ok (.aload_n 0, 1) := by decide +kernel
theorem dX6_init_5 : decode cX6_init 5 = .ok (.bipush 97, 2) := by decide +kernel
theorem dX6_init_7 : decode cX6_init 7 = .ok (.newarray .int, 2) := by decide +kernel
theorem dX6_init_9 : decode cX6_init 9 = .ok (.putfield 7, 3) := by decide +kernel
theorem dX6_init_12 : decode cX6_init 12 = .ok (.aload_n 0, 1) := by decide +kernel
theorem dX6_init_13 : decode cX6_init 13 = .ok (.sipush 485, 3) := by decide +kernel
theorem dX6_init_16 : decode cX6_init 16 = .ok (.newarray .int, 2) := by decide +kernel
theorem dX6_init_18 : decode cX6_init 18 = .ok (.putfield 13, 3) := by decide +kernel
theorem dX6_init_21 : decode cX6_init 21 = .ok (.aload_n 0, 1) := by decide +kernel
theorem dX6_init_22 : decode cX6_init 22 = .ok (.bipush 24, 2) := by decide +kernel
theorem dX6_init_24 : decode cX6_init 24 = .ok (.newarray .int, 2) := by decide +kernel
theorem dX6_init_26 : decode cX6_init 26 = .ok (.putfield 16, 3) := by decide +kernel
theorem dX6_init_29 : decode cX6_init 29 = .ok (.aload_n 0, 1) := by decide +kernel
theorem dX6_init_30 : decode cX6_init 30 = .ok (.bipush 24, 2) := by decide +kernel
theorem dX6_init_32 : decode cX6_init 32 = .ok (.newarray .int, 2) := by decide +kernel
theorem dX6_init_34 : decode cX6_init 34 = .ok (.putfield 19, 3) := by decide +kernel
theorem dX6_init_37 : decode cX6_init 37 = .ok (.aload_n 0, 1) := by decide +kernel
theorem dX6_init_38 : decode cX6_init 38 = .ok (.bipush 48, 2) := by decide +kernel
theorem dX6_init_40 : decode cX6_init 40 = .ok (.newarray .int, 2) := by decide +kernel
theorem dX6_init_42 : decode cX6_init 42 = .ok (.putfield 22, 3) := by decide +kernel
theorem dX6_init_45 : decode cX6_init 45 = .ok (.aload_n 0, 1) := by decide +kernel
theorem dX6_init_46 : decode cX6_init 46 = .ok (.bipush 48, 2) := by decide +kernel
theorem dX6_init_48 : decode cX6_init 48 = .ok (.newarray .int, 2) := by decide +kernel
theorem dX6_init_50 : decode cX6_init 50 = .ok (.putfield 25, 3) := by decide +kernel
theorem dX6_init_53 : decode cX6_init 53 = .ok (.aload_n 0, 1) := by decide +kernel
theorem dX6_init_54 : decode cX6_init 54 = .ok (.bipush 24, 2) := by decide +kernel
theorem dX6_init_56 : decode cX6_init 56 = .ok (.newarray .int, 2) := by decide +kernel
theorem dX6_init_58 : decode cX6_init 58 = .ok (.putfield 28, 3) := by decide +kernel
theorem dX6_init_61 : decode cX6_init 61 = .ok (.aload_n 0, 1) := by decide +kernel
theorem dX6_init_62 : decode cX6_init 62 = .ok (.bipush 24, 2) := by decide +kernel
theorem dX6_init_64 : decode cX6_init 64 = .ok (.newarray .int, 2) := by decide +kernel
theorem dX6_init_66 : decode cX6_init 66 = .ok (.putfield 31, 3) := by decide +kernel
theorem dX6_init_69 : decode cX6_init 69 = .ok (.aload_n 0, 1) := by decide +kernel
theorem dX6_init_70 : decode cX6_init 70 = .ok (.bipush 24, 2) := by decide +kernel
theorem dX6_init_72 : decode cX6_init 72 = .ok (.newarray .boolean, 2) := by decide +kernel
theorem dX6_init_74 : decode cX6_init 74 = .ok (.putfield 34, 3) := by decide +kernel
theorem dX6_init_77 : decode cX6_init 77 = .ok (.aload_n 0, 1) := by decide +kernel
theorem dX6_init_78 : decode cX6_init 78 = .ok (.bipush 20, 2) := by decide +kernel
theorem dX6_init_80 : decode cX6_init 80 = .ok (.newarray .int, 2) := by decide +kernel
theorem dX6_init_82 : decode cX6_init 82 = .ok (.putfield 38, 3) := by decide +kernel
theorem dX6_init_85 : decode cX6_init 85 = .ok (.return_, 1) := by decide +kernel
theorem dX6_in_0 : decode cX6_in 0 = .ok (.iload_n 0, 1) := by decide +kernel
theorem dX6_in_1 : decode cX6_in 1 = .ok (.iload_n 1, 1) := by decide +kernel
theorem dX6_in_2 : decode cX6_in 2 = .ok (.if_icmp .lt 12, 3) := by decide +kernel
theorem dX6_in_5 : decode cX6_in 5 = .ok (.iload_n 0, 1) := by decide +kernel
theorem dX6_in_6 : decode cX6_in 6 = .ok (.iload_n 2, 1) := by decide +kernel
theorem dX6_in_7 : decode cX6_in 7 = .ok (.if_icmp .gt 7, 3) := by decide +kernel
theorem dX6_in_10 : decode cX6_in 10 = .ok (.iconst 1, 1) := by decide +kernel
theorem dX6_in_11 : decode cX6_in 11 = .ok (.goto 4, 3) := by decide +kernel
theorem dX6_in_14 : decode cX6_in 14 = .ok (.iconst 0, 1) := by decide +kernel
theorem dX6_in_15 : decode cX6_in 15 = .ok (.ireturn, 1) := by decide +kernel
theorem dX6_edit_0 : decode cX6_edit 0 = .ok (.aload_n 0, 1) := by decide +kernel
theorem dX6_edit_1 : decode cX6_edit 1 = .ok (.getfield 41, 3) := by decide +kernel
theorem dX6_edit_4 : decode cX6_edit 4 = .ok (.iconst 5, 1) := by decide +kernel
theorem dX6_edit_5 : decode cX6_edit 5 = .ok (.if_icmp .ne 43, 3) := by decide +kernel
theorem dX6_edit_8 : decode cX6_edit 8 = .ok (.iconst 0, 1) := by decide +kernel
theorem dX6_edit_9 : decode cX6_edit 9 = .ok (.istore_n 1, 1) := by decide +kernel
theorem dX6_edit_10 : decode cX6_edit 10 = .ok (.iload_n 1, 1) := by decide +kernel
theorem dX6_edit_11 : decode cX6_edit 11 = .ok (.sipush 388, 3) := by decide +kernel
theorem dX6_edit_14 : decode cX6_edit 14 = .ok (.if_icmp .ge 24, 3) := by decide +kernel
theorem dX6_edit_17 : decode cX6_edit 17 = .ok (.aload_n 0, 1) := by decide +kernel
theorem dX6_edit_18 : decode cX6_edit 18 = .ok (.getfield 13, 3) := by decide +kernel
theorem dX6_edit_21 : decode cX6_edit 21 = .ok (.iload_n 1, 1) := by decide +kernel
theorem dX6_edit_22 : decode cX6_edit 22 = .ok (.aload_n 0, 1) := by decide +kernel
theorem dX6_edit_23 : decode cX6_edit 23 = .ok (.getfield 13, 3) := by decide +kernel
theorem dX6_edit_26 : decode cX6_edit 26 = .ok (.iload_n 1, 1) := by decide +kernel
theorem dX6_edit_27 : decode cX6_edit 27 = .ok (.bipush 97, 2) := by decide +kernel
theorem dX6_edit_29 : decode cX6_edit 29 = .ok (.iadd, 1) := by decide +kernel
theorem dX6_edit_30 : decode cX6_edit 30 = .ok (.iaload, 1) := by decide +kernel
theorem dX6_edit_31 : decode cX6_edit 31 = .ok (.iastore, 1) := by decide +kernel
theorem dX6_edit_32 : decode cX6_edit 32 = .ok (.iinc 1 1, 3) := by decide +kernel
theorem dX6_edit_35 : decode cX6_edit 35 = .ok (.goto (-25), 3) := by decide +kernel
theorem dX6_edit_38 : decode cX6_edit 38 = .ok (.aload_n 0, 1) := by decide +kernel
theorem dX6_edit_39 : decode cX6_edit 39 = .ok (.dup, 1) := by decide +kernel
theorem dX6_edit_40 : decode cX6_edit 40 = .ok (.getfield 41, 3) := by decide +kernel
theorem dX6_edit_43 : decode cX6_edit 43 = .ok (.iconst 1, 1) := by decide +kernel
theorem dX6_edit_44 : decode cX6_edit 44 = .ok (.isub, 1) := by decide +kernel
theorem dX6_edit_45 : decode cX6_edit 45 = .ok (.putfield 41, 3) := by decide +kernel
theorem dX6_edit_48 : decode cX6_edit 48 = .ok (.iconst 0, 1) := by decide +kernel
theorem dX6_edit_49 : decode cX6_edit 49 = .ok (.istore_n 1, 1) := by decide +kernel
theorem dX6_edit_50 : decode cX6_edit 50 = .ok (.iload_n 1, 1) := by decide +kernel
theorem dX6_edit_51 : decode cX6_edit 51 = .ok (.bipush 97, 2) := by decide +kernel
theorem dX6_edit_53 : decode cX6_edit 53 = .ok (.if_icmp .ge 29, 3) := by decide +kernel
theorem dX6_edit_56 : decode cX6_edit 56 = .ok (.aload_n 0, 1) := by decide +kernel
theorem dX6_edit_57 : decode cX6_edit 57 = .ok (.getfield 13, 3) := by decide +kernel
theorem dX6_edit_60 : decode cX6_edit 60 = .ok (.bipush 97, 2) := by decide +kernel
theorem dX6_edit_62 : decode cX6_edit 62 = .ok (.aload_n 0, 1) := by decide +kernel
theorem dX6_edit_63 : decode cX6_edit 63 = .ok (.getfield 41, 3) := by decide +kernel
theorem dX6_edit_66 : decode cX6_edit 66 = .ok (.imul, 1) := by decide +kernel
theorem dX6_edit_67 : decode cX6_edit 67 = .ok (.iload_n 1, 1) := by decide +kernel
theorem dX6_edit_68 : decode cX6_edit 68 = .ok (.iadd, 1) := by decide +kernel
theorem dX6_edit_69 : decode cX6_edit 69 = .ok (.aload_n 0, 1) := by decide +kernel
theorem dX6_edit_70 : decode cX6_edit 70 = .ok (.getfield 7, 3) := by decide +kernel
theorem dX6_edit_73 : decode cX6_edit 73 = .ok (.iload_n 1, 1) := by decide +kernel
theorem dX6_edit_74 : decode cX6_edit 74 = .ok (.iaload, 1) := by decide +kernel
theorem dX6_edit_75 : decode cX6_edit 75 = .ok (.iastore, 1) := by decide +kernel
theorem dX6_edit_76 : decode cX6_edit 76 = .ok (.iinc 1 1, 3) := by decide +kernel
theorem dX6_edit_79 : decode cX6_edit 79 = .ok (.goto (-29), 3) := by decide +kernel
theorem dX6_edit_82 : decode cX6_edit 82 = .ok (.aload_n 0, 1) := by decide +kernel
theorem dX6_edit_83 : decode cX6_edit 83 = .ok (.dup, 1) := by decide +kernel
theorem dX6_edit_84 : decode cX6_edit 84 = .ok (.getfield 41, 3) := by decide +kernel
theorem dX6_edit_87 : decode cX6_edit 87 = .ok (.iconst 1, 1) := by decide +kernel
theorem dX6_edit_88 : decode cX6_edit 88 = .ok (.iadd, 1) := by decide +kernel
theorem dX6_edit_89 : decode cX6_edit 89 = .ok (.putfield 41, 3) := by decide +kernel
theorem dX6_edit_92 : decode cX6_edit 92 = .ok (.return_, 1) := by decide +kernel
theorem dX6_undo_0 : decode cX6_undo 0 = .ok (.aload_n 0, 1) := by decide +kernel
theorem dX6_undo_1 : decode cX6_undo 1 = .ok (.getfield 41, 3) := by decide +kernel
theorem dX6_undo_4 : decode cX6_undo 4 = .ok (.ifCond .ne 6, 3) := by decide +kernel
theorem dX6_undo_7 : decode cX6_undo 7 = .ok (.bipush (-3), 2) := by decide +kernel
theorem dX6_undo_9 : decode cX6_undo 9 = .ok (.ireturn, 1) := by decide +kernel
theorem dX6_undo_10 : decode cX6_undo 10 = .ok (.aload_n 0, 1) := by decide +kernel
theorem dX6_undo_11 : decode cX6_undo 11 = .ok (.dup, 1) := by decide +kernel
theorem dX6_undo_12 : decode cX6_undo 12 = .ok (.getfield 41, 3) := by decide +kernel
theorem dX6_undo_15 : decode cX6_undo 15 = .ok (.iconst 1, 1) := by decide +kernel
theorem dX6_undo_16 : decode cX6_undo 16 = .ok (.isub, 1) := by decide +kernel
theorem dX6_undo_17 : decode cX6_undo 17 = .ok (.putfield 41, 3) := by decide +kernel
theorem dX6_undo_20 : decode cX6_undo 20 = .ok (.iconst 0, 1) := by decide +kernel
theorem dX6_undo_21 : decode cX6_undo 21 = .ok (.istore_n 1, 1) := by decide +kernel
theorem dX6_undo_22 : decode cX6_undo 22 = .ok (.iload_n 1, 1) := by decide +kernel
theorem dX6_undo_23 : decode cX6_undo 23 = .ok (.bipush 97, 2) := by decide +kernel
theorem dX6_undo_25 : decode cX6_undo 25 = .ok (.if_icmp .ge 29, 3) := by decide +kernel
theorem dX6_undo_28 : decode cX6_undo 28 = .ok (.aload_n 0, 1) := by decide +kernel
theorem dX6_undo_29 : decode cX6_undo 29 = .ok (.getfield 7, 3) := by decide +kernel
theorem dX6_undo_32 : decode cX6_undo 32 = .ok (.iload_n 1, 1) := by decide +kernel
theorem dX6_undo_33 : decode cX6_undo 33 = .ok (.aload_n 0, 1) := by decide +kernel
theorem dX6_undo_34 : decode cX6_undo 34 = .ok (.getfield 13, 3) := by decide +kernel
theorem dX6_undo_37 : decode cX6_undo 37 = .ok (.bipush 97, 2) := by decide +kernel
theorem dX6_undo_39 : decode cX6_undo 39 = .ok (.aload_n 0, 1) := by decide +kernel
theorem dX6_undo_40 : decode cX6_undo 40 = .ok (.getfield 41, 3) := by decide +kernel
theorem dX6_undo_43 : decode cX6_undo 43 = .ok (.imul, 1) := by decide +kernel
theorem dX6_undo_44 : decode cX6_undo 44 = .ok (.iload_n 1, 1) := by decide +kernel
theorem dX6_undo_45 : decode cX6_undo 45 = .ok (.iadd, 1) := by decide +kernel
theorem dX6_undo_46 : decode cX6_undo 46 = .ok (.iaload, 1) := by decide +kernel
theorem dX6_undo_47 : decode cX6_undo 47 = .ok (.iastore, 1) := by decide +kernel
theorem dX6_undo_48 : decode cX6_undo 48 = .ok (.iinc 1 1, 3) := by decide +kernel
theorem dX6_undo_51 : decode cX6_undo 51 = .ok (.goto (-29), 3) := by decide +kernel
theorem dX6_undo_54 : decode cX6_undo 54 = .ok (.aload_n 0, 1) := by decide +kernel
theorem dX6_undo_55 : decode cX6_undo 55 = .ok (.getfield 41, 3) := by decide +kernel
theorem dX6_undo_58 : decode cX6_undo 58 = .ok (.ireturn, 1) := by decide +kernel
theorem dX6_addSpecimen_0 : decode cX6_addSpecimen 0 = .ok (.iload_n 1, 1) := by decide +kernel
theorem dX6_addSpecimen_1 : decode cX6_addSpecimen 1 = .ok (.iconst 0, 1) := by decide +kernel
theorem dX6_addSpecimen_2 : decode cX6_addSpecimen 2 = .ok (.bipush 9, 2) := by decide +kernel
theorem dX6_addSpecimen_4 : decode cX6_addSpecimen 4 = .ok (.invokestatic 45, 3) := by decide +kernel
theorem dX6_addSpecimen_7 : decode cX6_addSpecimen 7 = .ok (.ifCond .eq 32, 3) := by decide +kernel
theorem dX6_addSpecimen_10 : decode cX6_addSpecimen 10 = .ok (.iload_n 2, 1) := by decide +kernel
theorem dX6_addSpecimen_11 : decode cX6_addSpecimen 11 = .ok (.iconst 0, 1) := by decide +kernel
theorem dX6_addSpecimen_12 : decode cX6_addSpecimen 12 = .ok (.bipush 9, 2) := by decide +kernel
theorem dX6_addSpecimen_14 : decode cX6_addSpecimen 14 = .ok (.invokestatic 45, 3) := by decide +kernel
theorem dX6_addSpecimen_17 : decode cX6_addSpecimen 17 = .ok (.ifCond .eq 22, 3) := by decide +kernel
theorem dX6_addSpecimen_20 : decode cX6_addSpecimen 20 = .ok (.iload_n 3, 1) := by decide +kernel
theorem dX6_addSpecimen_21 : decode cX6_addSpecimen 21 = .ok (.iconst 0, 1) := by decide +kernel
theorem dX6_addSpecimen_22 : decode cX6_addSpecimen 22 = .ok (.iconst 5, 1) := by decide +kernel
theorem dX6_addSpecimen_23 : decode cX6_addSpecimen 23 = .ok (.invokestatic 45, 3) := by decide +kernel
theorem dX6_addSpecimen_26 : decode cX6_addSpecimen 26 = .ok (.ifCond .eq 13, 3) := by decide +kernel
theorem dX6_addSpecimen_29 : decode cX6_addSpecimen 29 = .ok (.iload 4, 2) := by decide +kernel
theorem dX6_addSpecimen_31 : decode cX6_addSpecimen 31 = .ok (.iconst 0, 1) := by decide +kernel
theorem dX6_addSpecimen_32 : decode cX6_addSpecimen 32 = .ok (.iconst 5, 1) := by decide +kernel
theorem dX6_addSpecimen_33 : decode cX6_addSpecimen 33 = .ok (.invokestatic 45, 3) := by decide +kernel
theorem dX6_addSpecimen_36 : decode cX6_addSpecimen 36 = .ok (.ifCond .ne 5, 3) := by decide +kernel
theorem dX6_addSpecimen_39 : decode cX6_addSpecimen 39 = .ok (.iconst (-1), 1) := by decide +kernel
theorem dX6_addSpecimen_40 : decode cX6_addSpecimen 40 = .ok (.ireturn, 1) := by decide +kernel
theorem dX6_addSpecimen_41 : decode cX6_addSpecimen 41 = .ok (.aload_n 0, 1) := by decide +kernel
theorem dX6_addSpecimen_42 : decode cX6_addSpecimen 42 = .ok (.getfield 7, 3) := by decide +kernel
theorem dX6_addSpecimen_45 : decode cX6_addSpecimen 45 = .ok (.bipush 96, 2) := by decide +kernel
theorem dX6_addSpecimen_47 : decode cX6_addSpecimen 47 = .ok (.iaload, 1) := by decide +kernel
theorem dX6_addSpecimen_48 : decode cX6_addSpecimen 48 = .ok (.bipush 24, 2) := by decide +kernel
theorem dX6_addSpecimen_50 : decode cX6_addSpecimen 50 = .ok (.if_icmp .ne 6, 3) := by decide +kernel
theorem dX6_addSpecimen_53 : decode cX6_addSpecimen 53 = .ok (.bipush (-2), 2) := by decide +kernel
theorem dX6_addSpecimen_55 : decode cX6_addSpecimen 55 = .ok (.ireturn, 1) := by decide +kernel
theorem dX6_addSpecimen_56 : decode cX6_addSpecimen 56 = .ok (.aload_n 0, 1) := by decide +kernel
theorem dX6_addSpecimen_57 : decode cX6_addSpecimen 57 = .ok (.invokevirtual 49, 3) := by decide +kernel
theorem dX6_addSpecimen_60 : decode cX6_addSpecimen 60 = .ok (.iconst 4, 1) := by decide +kernel
theorem dX6_addSpecimen_61 : decode cX6_addSpecimen 61 = .ok (.aload_n 0, 1) := by decide +kernel
theorem dX6_addSpecimen_62 : decode cX6_addSpecimen 62 = .ok (.getfield 7, 3) := by decide +kernel
theorem dX6_addSpecimen_65 : decode cX6_addSpecimen 65 = .ok (.bipush 96, 2) := by decide +kernel
theorem dX6_addSpecimen_67 : decode cX6_addSpecimen 67 = .ok (.iaload, 1) := by decide +kernel
theorem dX6_addSpecimen_68 : decode cX6_addSpecimen 68 = .ok (.imul, 1) := by decide +kernel
theorem dX6_addSpecimen_69 : decode cX6_addSpecimen 69 = .ok (.istore 5, 2) := by decide +kernel
theorem dX6_addSpecimen_71 : decode cX6_addSpecimen 71 = .ok (.aload_n 0, 1) := by decide +kernel
theorem dX6_addSpecimen_72 : decode cX6_addSpecimen 72 = .ok (.getfield 7, 3) := by decide +kernel
theorem dX6_addSpecimen_75 : decode cX6_addSpecimen 75 = .ok (.iload 5, 2) := by decide +kernel
theorem dX6_addSpecimen_77 : decode cX6_addSpecimen 77 = .ok (.iload_n 1, 1) := by decide +kernel
theorem dX6_addSpecimen_78 : decode cX6_addSpecimen 78 = .ok (.iastore, 1) := by decide +kernel
theorem dX6_addSpecimen_79 : decode cX6_addSpecimen 79 = .ok (.aload_n 0, 1) := by decide +kernel
theorem dX6_addSpecimen_80 : decode cX6_addSpecimen 80 = .ok (.getfield 7, 3) := by decide +kernel
theorem dX6_addSpecimen_83 : decode cX6_addSpecimen 83 = .ok (.iload 5, 2) := by decide +kernel
theorem dX6_addSpecimen_85 : decode cX6_addSpecimen 85 = .ok (.iconst 1, 1) := by decide +kernel
theorem dX6_addSpecimen_86 : decode cX6_addSpecimen 86 = .ok (.iadd, 1) := by decide +kernel
theorem dX6_addSpecimen_87 : decode cX6_addSpecimen 87 = .ok (.iload_n 2, 1) := by decide +kernel
theorem dX6_addSpecimen_88 : decode cX6_addSpecimen 88 = .ok (.iastore, 1) := by decide +kernel
theorem dX6_addSpecimen_89 : decode cX6_addSpecimen 89 = .ok (.aload_n 0, 1) := by decide +kernel
theorem dX6_addSpecimen_90 : decode cX6_addSpecimen 90 = .ok (.getfield 7, 3) := by decide +kernel
theorem dX6_addSpecimen_93 : decode cX6_addSpecimen 93 = .ok (.iload 5, 2) := by decide +kernel
theorem dX6_addSpecimen_95 : decode cX6_addSpecimen 95 = .ok (.iconst 2, 1) := by decide +kernel
theorem dX6_addSpecimen_96 : decode cX6_addSpecimen 96 = .ok (.iadd, 1) := by decide +kernel
theorem dX6_addSpecimen_97 : decode cX6_addSpecimen 97 = .ok (.iload_n 3, 1) := by decide +kernel
theorem dX6_addSpecimen_98 : decode cX6_addSpecimen 98 = .ok (.iastore, 1) := by decide +kernel
theorem dX6_addSpecimen_99 : decode cX6_addSpecimen 99 = .ok (.aload_n 0, 1) := by decide +kernel
theorem dX6_addSpecimen_100 : decode cX6_addSpecimen 100 = .ok (.getfield 7, 3) := by decide +kernel
theorem dX6_addSpecimen_103 : decode cX6_addSpecimen 103 = .ok (.iload 5, 2) := by decide +kernel
theorem dX6_addSpecimen_105 : decode cX6_addSpecimen 105 = .ok (.iconst 3, 1) := by decide +kernel
theorem dX6_addSpecimen_106 : decode cX6_addSpecimen 106 = .ok (.iadd, 1) := by decide +kernel
theorem dX6_addSpecimen_107 : decode cX6_addSpecimen 107 = .ok (.iload 4, 2) := by decide +kernel
theorem dX6_addSpecimen_109 : decode cX6_addSpecimen 109 = .ok (.iastore, 1) := by decide +kernel
theorem dX6_addSpecimen_110 : decode cX6_addSpecimen 110 = .ok (.aload_n 0, 1) := by decide +kernel
theorem dX6_addSpecimen_111 : decode cX6_addSpecimen 111 = .ok (.getfield 7, 3) := by decide +kernel
theorem dX6_addSpecimen_114 : decode cX6_addSpecimen 114 = .ok (.bipush 96, 2) := by decide +kernel
theorem dX6_addSpecimen_116 : decode cX6_addSpecimen 116 = .ok (.dup2, 1) := by decide +kernel
theorem dX6_addSpecimen_117 : decode cX6_addSpecimen 117 = .ok (.iaload, 1) := by decide +kernel
theorem dX6_addSpecimen_118 : decode cX6_addSpecimen 118 = .ok (.iconst 1, 1) := by decide +kernel
theorem dX6_addSpecimen_119 : decode cX6_addSpecimen 119 = .ok (.iadd, 1) := by decide +kernel
theorem dX6_addSpecimen_120 : decode cX6_addSpecimen 120 = .ok (.iastore, 1) := by decide +kernel
theorem dX6_addSpecimen_121 : decode cX6_addSpecimen 121 = .ok (.aload_n 0, 1) := by decide +kernel
theorem dX6_addSpecimen_122 : decode cX6_addSpecimen 122 = .ok (.getfield 7, 3) := by decide +kernel
theorem dX6_addSpecimen_125 : decode cX6_addSpecimen 125 = .ok (.bipush 96, 2) := by decide +kernel
theorem dX6_addSpecimen_127 : decode cX6_addSpecimen 127 = .ok (.iaload, 1) := by decide +kernel
theorem dX6_addSpecimen_128 : decode cX6_addSpecimen 128 = .ok (.iconst 1, 1) := by decide +kernel
theorem dX6_addSpecimen_129 : decode cX6_addSpecimen 129 = .ok (.isub, 1) := by decide +kernel
theorem dX6_addSpecimen_130 : decode cX6_addSpecimen 130 = .ok (.ireturn, 1) := by decide +kernel
theorem dX6_isSpecimen_0 : decode cX6_isSpecimen 0 = .ok (.iload_n 1, 1) := by decide +kernel
theorem dX6_isSpecimen_1 : decode cX6_isSpecimen 1 = .ok (.iconst 0, 1) := by decide +kernel
theorem dX6_isSpecimen_2 : decode cX6_isSpecimen 2 = .ok (.aload_n 0, 1) := by decide +kernel
theorem dX6_isSpecimen_3 : decode cX6_isSpecimen 3 = .ok (.getfield 7, 3) := by decide +kernel
theorem dX6_isSpecimen_6 : decode cX6_isSpecimen 6 = .ok (.bipush 96, 2) := by decide +kernel
theorem dX6_isSpecimen_8 : decode cX6_isSpecimen 8 = .ok (.iaload, 1) := by decide +kernel
theorem dX6_isSpecimen_9 : decode cX6_isSpecimen 9 = .ok (.iconst 1, 1) := by decide +kernel
theorem dX6_isSpecimen_10 : decode cX6_isSpecimen 10 = .ok (.isub, 1) := by decide +kernel
theorem dX6_isSpecimen_11 : decode cX6_isSpecimen 11 = .ok (.invokestatic 45, 3) := by decide +kernel
theorem dX6_isSpecimen_14 : decode cX6_isSpecimen 14 = .ok (.ireturn, 1) := by decide +kernel
theorem dX6_removeSpecimen_0 : decode cX6_removeSpecimen 0 = .ok (.aload_n 0, 1) := by decide +kernel
theorem dX6_removeSpecimen_1 : decode cX6_removeSpecimen 1 = .ok (.iload_n 1, 1) := by decide +kernel
theorem dX6_removeSpecimen_2 : decode cX6_removeSpecimen 2 = .ok (.invokevirtual 52, 3) := by decide +kernel
theorem dX6_removeSpecimen_5 : decode cX6_removeSpecimen 5 = .ok (.ifCond .ne 5, 3) := by decide +kernel
theorem dX6_removeSpecimen_8 : decode cX6_removeSpecimen 8 = .ok (.iconst (-1), 1) := by decide +kernel
theorem dX6_removeSpecimen_9 : decode cX6_removeSpecimen 9 = .ok (.ireturn, 1) := by decide +kernel
theorem dX6_removeSpecimen_10 : decode cX6_removeSpecimen 10 = .ok (.aload_n 0, 1) := by decide +kernel
theorem dX6_removeSpecimen_11 : decode cX6_removeSpecimen 11 = .ok (.invokevirtual 49, 3) := by decide +kernel
theorem dX6_removeSpecimen_14 : decode cX6_removeSpecimen 14 = .ok (.aload_n 0, 1) := by decide +kernel
theorem dX6_removeSpecimen_15 : decode cX6_removeSpecimen 15 = .ok (.getfield 7, 3) := by decide +kernel
theorem dX6_removeSpecimen_18 : decode cX6_removeSpecimen 18 = .ok (.bipush 96, 2) := by decide +kernel
theorem dX6_removeSpecimen_20 : decode cX6_removeSpecimen 20 = .ok (.dup2, 1) := by decide +kernel
theorem dX6_removeSpecimen_21 : decode cX6_removeSpecimen 21 = .ok (.iaload, 1) := by decide +kernel
theorem dX6_removeSpecimen_22 : decode cX6_removeSpecimen 22 = .ok (.iconst 1, 1) := by decide +kernel
theorem dX6_removeSpecimen_23 : decode cX6_removeSpecimen 23 = .ok (.isub, 1) := by decide +kernel
theorem dX6_removeSpecimen_24 : decode cX6_removeSpecimen 24 = .ok (.iastore, 1) := by decide +kernel
theorem dX6_removeSpecimen_25 : decode cX6_removeSpecimen 25 = .ok (.iconst 4, 1) := by decide +kernel
theorem dX6_removeSpecimen_26 : decode cX6_removeSpecimen 26 = .ok (.iload_n 1, 1) := by decide +kernel
theorem dX6_removeSpecimen_27 : decode cX6_removeSpecimen 27 = .ok (.imul, 1) := by decide +kernel
theorem dX6_removeSpecimen_28 : decode cX6_removeSpecimen 28 = .ok (.istore_n 2, 1) := by decide +kernel
theorem dX6_removeSpecimen_29 : decode cX6_removeSpecimen 29 = .ok (.iload_n 2, 1) := by decide +kernel
theorem dX6_removeSpecimen_30 : decode cX6_removeSpecimen 30 = .ok (.iconst 4, 1) := by decide +kernel
theorem dX6_removeSpecimen_31 : decode cX6_removeSpecimen 31 = .ok (.aload_n 0, 1) := by decide +kernel
theorem dX6_removeSpecimen_32 : decode cX6_removeSpecimen 32 = .ok (.getfield 7, 3) := by decide +kernel
theorem dX6_removeSpecimen_35 : decode cX6_removeSpecimen 35 = .ok (.bipush 96, 2) := by decide +kernel
theorem dX6_removeSpecimen_37 : decode cX6_removeSpecimen 37 = .ok (.iaload, 1) := by decide +kernel
theorem dX6_removeSpecimen_38 : decode cX6_removeSpecimen 38 = .ok (.imul, 1) := by decide +kernel
theorem dX6_removeSpecimen_39 : decode cX6_removeSpecimen 39 = .ok (.if_icmp .ge 23, 3) := by decide +kernel
theorem dX6_removeSpecimen_42 : decode cX6_removeSpecimen 42 = .ok (.aload_n 0, 1) := by decide +kernel
theorem dX6_removeSpecimen_43 : decode cX6_removeSpecimen 43 = .ok (.getfield 7, 3) := by decide +kernel
theorem dX6_removeSpecimen_46 : decode cX6_removeSpecimen 46 = .ok (.iload_n 2, 1) := by decide +kernel
theorem dX6_removeSpecimen_47 : decode cX6_removeSpecimen 47 = .ok (.aload_n 0, 1) := by decide +kernel
theorem dX6_removeSpecimen_48 : decode cX6_removeSpecimen 48 = .ok (.getfield 7, 3) := by decide +kernel
theorem dX6_removeSpecimen_51 : decode cX6_removeSpecimen 51 = .ok (.iload_n 2, 1) := by decide +kernel
theorem dX6_removeSpecimen_52 : decode cX6_removeSpecimen 52 = .ok (.iconst 4, 1) := by decide +kernel
theorem dX6_removeSpecimen_53 : decode cX6_removeSpecimen 53 = .ok (.iadd, 1) := by decide +kernel
theorem dX6_removeSpecimen_54 : decode cX6_removeSpecimen 54 = .ok (.iaload, 1) := by decide +kernel
theorem dX6_removeSpecimen_55 : decode cX6_removeSpecimen 55 = .ok (.iastore, 1) := by decide +kernel
theorem dX6_removeSpecimen_56 : decode cX6_removeSpecimen 56 = .ok (.iinc 2 1, 3) := by decide +kernel
theorem dX6_removeSpecimen_59 : decode cX6_removeSpecimen 59 = .ok (.goto (-30), 3) := by decide +kernel
theorem dX6_removeSpecimen_62 : decode cX6_removeSpecimen 62 = .ok (.aload_n 0, 1) := by decide +kernel
theorem dX6_removeSpecimen_63 : decode cX6_removeSpecimen 63 = .ok (.getfield 7, 3) := by decide +kernel
theorem dX6_removeSpecimen_66 : decode cX6_removeSpecimen 66 = .ok (.bipush 96, 2) := by decide +kernel
theorem dX6_removeSpecimen_68 : decode cX6_removeSpecimen 68 = .ok (.iaload, 1) := by decide +kernel
theorem dX6_removeSpecimen_69 : decode cX6_removeSpecimen 69 = .ok (.ireturn, 1) := by decide +kernel
theorem dX6_isSide_0 : decode cX6_isSide 0 = .ok (.iload_n 0, 1) := by decide +kernel
theorem dX6_isSide_1 : decode cX6_isSide 1 = .ok (.iconst 0, 1) := by decide +kernel
theorem dX6_isSide_2 : decode cX6_isSide 2 = .ok (.iconst 1, 1) := by decide +kernel
theorem dX6_isSide_3 : decode cX6_isSide 3 = .ok (.invokestatic 45, 3) := by decide +kernel
theorem dX6_isSide_6 : decode cX6_isSide 6 = .ok (.ireturn, 1) := by decide +kernel
theorem dX6_setWear_0 : decode cX6_setWear 0 = .ok (.aload_n 0, 1) := by decide +kernel
theorem dX6_setWear_1 : decode cX6_setWear 1 = .ok (.iload_n 1, 1) := by decide +kernel
theorem dX6_setWear_2 : decode cX6_setWear 2 = .ok (.invokevirtual 52, 3) := by decide +kernel
theorem dX6_setWear_5 : decode cX6_setWear 5 = .ok (.ifCond .eq 19, 3) := by decide +kernel
theorem dX6_setWear_8 : decode cX6_setWear 8 = .ok (.iload_n 2, 1) := by decide +kernel
theorem dX6_setWear_9 : decode cX6_setWear 9 = .ok (.invokestatic 56, 3) := by decide +kernel
theorem dX6_setWear_12 : decode cX6_setWear 12 = .ok (.ifCond .eq 12, 3) := by decide +kernel
theorem dX6_setWear_15 : decode cX6_setWear 15 = .ok (.iload_n 3, 1) := by decide +kernel
theorem dX6_setWear_16 : decode cX6_setWear 16 = .ok (.iconst 0, 1) := by decide +kernel
theorem dX6_setWear_17 : decode cX6_setWear 17 = .ok (.iconst 5, 1) := by decide +kernel
theorem dX6_setWear_18 : decode cX6_setWear 18 = .ok (.invokestatic 45, 3) := by decide +kernel
theorem dX6_setWear_21 : decode cX6_setWear 21 = .ok (.ifCond .ne 5, 3) := by decide +kernel
theorem dX6_setWear_24 : decode cX6_setWear 24 = .ok (.iconst (-1), 1) := by decide +kernel
theorem dX6_setWear_25 : decode cX6_setWear 25 = .ok (.ireturn, 1) := by decide +kernel
theorem dX6_setWear_26 : decode cX6_setWear 26 = .ok (.aload_n 0, 1) := by decide +kernel
theorem dX6_setWear_27 : decode cX6_setWear 27 = .ok (.invokevirtual 49, 3) := by decide +kernel
theorem dX6_setWear_30 : decode cX6_setWear 30 = .ok (.aload_n 0, 1) := by decide +kernel
theorem dX6_setWear_31 : decode cX6_setWear 31 = .ok (.getfield 7, 3) := by decide +kernel
theorem dX6_setWear_34 : decode cX6_setWear 34 = .ok (.iconst 4, 1) := by decide +kernel
theorem dX6_setWear_35 : decode cX6_setWear 35 = .ok (.iload_n 1, 1) := by decide +kernel
theorem dX6_setWear_36 : decode cX6_setWear 36 = .ok (.imul, 1) := by decide +kernel
theorem dX6_setWear_37 : decode cX6_setWear 37 = .ok (.iconst 2, 1) := by decide +kernel
theorem dX6_setWear_38 : decode cX6_setWear 38 = .ok (.iadd, 1) := by decide +kernel
theorem dX6_setWear_39 : decode cX6_setWear 39 = .ok (.iload_n 2, 1) := by decide +kernel
theorem dX6_setWear_40 : decode cX6_setWear 40 = .ok (.iadd, 1) := by decide +kernel
theorem dX6_setWear_41 : decode cX6_setWear 41 = .ok (.iaload, 1) := by decide +kernel
theorem dX6_setWear_42 : decode cX6_setWear 42 = .ok (.istore 4, 2) := by decide +kernel
theorem dX6_setWear_44 : decode cX6_setWear 44 = .ok (.aload_n 0, 1) := by decide +kernel
theorem dX6_setWear_45 : decode cX6_setWear 45 = .ok (.getfield 7, 3) := by decide +kernel
theorem dX6_setWear_48 : decode cX6_setWear 48 = .ok (.iconst 4, 1) := by decide +kernel
theorem dX6_setWear_49 : decode cX6_setWear 49 = .ok (.iload_n 1, 1) := by decide +kernel
theorem dX6_setWear_50 : decode cX6_setWear 50 = .ok (.imul, 1) := by decide +kernel
theorem dX6_setWear_51 : decode cX6_setWear 51 = .ok (.iconst 2, 1) := by decide +kernel
theorem dX6_setWear_52 : decode cX6_setWear 52 = .ok (.iadd, 1) := by decide +kernel
theorem dX6_setWear_53 : decode cX6_setWear 53 = .ok (.iload_n 2, 1) := by decide +kernel
theorem dX6_setWear_54 : decode cX6_setWear 54 = .ok (.iadd, 1) := by decide +kernel
theorem dX6_setWear_55 : decode cX6_setWear 55 = .ok (.iload_n 3, 1) := by decide +kernel
theorem dX6_setWear_56 : decode cX6_setWear 56 = .ok (.iastore, 1) := by decide +kernel
theorem dX6_setWear_57 : decode cX6_setWear 57 = .ok (.iload 4, 2) := by decide +kernel
theorem dX6_setWear_59 : decode cX6_setWear 59 = .ok (.ireturn, 1) := by decide +kernel
theorem dX6_specimens_0 : decode cX6_specimens 0 = .ok (.iconst 0, 1) := by decide +kernel
theorem dX6_specimens_1 : decode cX6_specimens 1 = .ok (.istore_n 3, 1) := by decide +kernel
theorem dX6_specimens_2 : decode cX6_specimens 2 = .ok (.iconst 0, 1) := by decide +kernel
theorem dX6_specimens_3 : decode cX6_specimens 3 = .ok (.istore 4, 2) := by decide +kernel
theorem dX6_specimens_5 : decode cX6_specimens 5 = .ok (.iload 4, 2) := by decide +kernel
theorem dX6_specimens_7 : decode cX6_specimens 7 = .ok (.aload_n 0, 1) := by decide +kernel
theorem dX6_specimens_8 : decode cX6_specimens 8 = .ok (.getfield 7, 3) := by decide +kernel
theorem dX6_specimens_11 : decode cX6_specimens 11 = .ok (.bipush 96, 2) := by decide +kernel
theorem dX6_specimens_13 : decode cX6_specimens 13 = .ok (.iaload, 1) := by decide +kernel
theorem dX6_specimens_14 : decode cX6_specimens 14 = .ok (.if_icmp .ge 32, 3) := by decide +kernel
theorem dX6_specimens_17 : decode cX6_specimens 17 = .ok (.iload_n 3, 1) := by decide +kernel
theorem dX6_specimens_18 : decode cX6_specimens 18 = .ok (.aload_n 0, 1) := by decide +kernel
theorem dX6_specimens_19 : decode cX6_specimens 19 = .ok (.getfield 7, 3) := by decide +kernel
theorem dX6_specimens_22 : decode cX6_specimens 22 = .ok (.iconst 4, 1) := by decide +kernel
theorem dX6_specimens_23 : decode cX6_specimens 23 = .ok (.iload 4, 2) := by decide +kernel
theorem dX6_specimens_25 : decode cX6_specimens 25 = .ok (.imul, 1) := by decide +kernel
theorem dX6_specimens_26 : decode cX6_specimens 26 = .ok (.iload_n 1, 1) := by decide +kernel
theorem dX6_specimens_27 : decode cX6_specimens 27 = .ok (.iadd, 1) := by decide +kernel
theorem dX6_specimens_28 : decode cX6_specimens 28 = .ok (.iaload, 1) := by decide +kernel
theorem dX6_specimens_29 : decode cX6_specimens 29 = .ok (.iload_n 2, 1) := by decide +kernel
theorem dX6_specimens_30 : decode cX6_specimens 30 = .ok (.if_icmp .ne 7, 3) := by decide +kernel
theorem dX6_specimens_33 : decode cX6_specimens 33 = .ok (.iconst 1, 1) := by decide +kernel
theorem dX6_specimens_34 : decode cX6_specimens 34 = .ok (.goto 4, 3) := by decide +kernel
theorem dX6_specimens_37 : decode cX6_specimens 37 = .ok (.iconst 0, 1) := by decide +kernel
theorem dX6_specimens_38 : decode cX6_specimens 38 = .ok (.iadd, 1) := by decide +kernel
theorem dX6_specimens_39 : decode cX6_specimens 39 = .ok (.istore_n 3, 1) := by decide +kernel
theorem dX6_specimens_40 : decode cX6_specimens 40 = .ok (.iinc 4 1, 3) := by decide +kernel
theorem dX6_specimens_43 : decode cX6_specimens 43 = .ok (.goto (-38), 3) := by decide +kernel
theorem dX6_specimens_46 : decode cX6_specimens 46 = .ok (.iload_n 3, 1) := by decide +kernel
theorem dX6_specimens_47 : decode cX6_specimens 47 = .ok (.ireturn, 1) := by decide +kernel
theorem dX6_isDie_0 : decode cX6_isDie 0 = .ok (.iload_n 0, 1) := by decide +kernel
theorem dX6_isDie_1 : decode cX6_isDie 1 = .ok (.invokestatic 56, 3) := by decide +kernel
theorem dX6_isDie_4 : decode cX6_isDie 4 = .ok (.ifCond .eq 17, 3) := by decide +kernel
theorem dX6_isDie_7 : decode cX6_isDie 7 = .ok (.iload_n 1, 1) := by decide +kernel
theorem dX6_isDie_8 : decode cX6_isDie 8 = .ok (.iconst 0, 1) := by decide +kernel
theorem dX6_isDie_9 : decode cX6_isDie 9 = .ok (.bipush 9, 2) := by decide +kernel
theorem dX6_isDie_11 : decode cX6_isDie 11 = .ok (.invokestatic 45, 3) := by decide +kernel
theorem dX6_isDie_14 : decode cX6_isDie 14 = .ok (.ifCond .eq 7, 3) := by decide +kernel
theorem dX6_isDie_17 : decode cX6_isDie 17 = .ok (.iconst 1, 1) := by decide +kernel
theorem dX6_isDie_18 : decode cX6_isDie 18 = .ok (.goto 4, 3) := by decide +kernel
theorem dX6_isDie_21 : decode cX6_isDie 21 = .ok (.iconst 0, 1) := by decide +kernel
theorem dX6_isDie_22 : decode cX6_isDie 22 = .ok (.ireturn, 1) := by decide +kernel
theorem dX6_mergeDies_0 : decode cX6_mergeDies 0 = .ok (.iload_n 1, 1) := by decide +kernel
theorem dX6_mergeDies_1 : decode cX6_mergeDies 1 = .ok (.iload_n 2, 1) := by decide +kernel
theorem dX6_mergeDies_2 : decode cX6_mergeDies 2 = .ok (.invokestatic 59, 3) := by decide +kernel
theorem dX6_mergeDies_5 : decode cX6_mergeDies 5 = .ok (.ifCond .eq 13, 3) := by decide +kernel
theorem dX6_mergeDies_8 : decode cX6_mergeDies 8 = .ok (.iload_n 3, 1) := by decide +kernel
theorem dX6_mergeDies_9 : decode cX6_mergeDies 9 = .ok (.iconst 0, 1) := by decide +kernel
theorem dX6_mergeDies_10 : decode cX6_mergeDies 10 = .ok (.bipush 9, 2) := by decide +kernel
theorem dX6_mergeDies_12 : decode cX6_mergeDies 12 = .ok (.invokestatic 45, 3) := by decide +kernel
theorem dX6_mergeDies_15 : decode cX6_mergeDies 15 = .ok (.ifCond .ne 5, 3) := by decide +kernel
theorem dX6_mergeDies_18 : decode cX6_mergeDies 18 = .ok (.iconst (-1), 1) := by decide +kernel
theorem dX6_mergeDies_19 : decode cX6_mergeDies 19 = .ok (.ireturn, 1) := by decide +kernel
theorem dX6_mergeDies_20 : decode cX6_mergeDies 20 = .ok (.aload_n 0, 1) := by decide +kernel
theorem dX6_mergeDies_21 : decode cX6_mergeDies 21 = .ok (.iload_n 1, 1) := by decide +kernel
theorem dX6_mergeDies_22 : decode cX6_mergeDies 22 = .ok (.iload_n 2, 1) := by decide +kernel
theorem dX6_mergeDies_23 : decode cX6_mergeDies 23 = .ok (.invokevirtual 63, 3) := by decide +kernel
theorem dX6_mergeDies_26 : decode cX6_mergeDies 26 = .ok (.istore 4, 2) := by decide +kernel
theorem dX6_mergeDies_28 : decode cX6_mergeDies 28 = .ok (.iload 4, 2) := by decide +kernel
theorem dX6_mergeDies_30 : decode cX6_mergeDies 30 = .ok (.ifCond .ne 6, 3) := by decide +kernel
theorem dX6_mergeDies_33 : decode cX6_mergeDies 33 = .ok (.bipush (-3), 2) := by decide +kernel
theorem dX6_mergeDies_35 : decode cX6_mergeDies 35 = .ok (.ireturn, 1) := by decide +kernel
theorem dX6_mergeDies_36 : decode cX6_mergeDies 36 = .ok (.aload_n 0, 1) := by decide +kernel
theorem dX6_mergeDies_37 : decode cX6_mergeDies 37 = .ok (.invokevirtual 49, 3) := by decide +kernel
theorem dX6_mergeDies_40 : decode cX6_mergeDies 40 = .ok (.iconst 0, 1) := by decide +kernel
theorem dX6_mergeDies_41 : decode cX6_mergeDies 41 = .ok (.istore 5, 2) := by decide +kernel
theorem dX6_mergeDies_43 : decode cX6_mergeDies 43 = .ok (.iload 5, 2) := by decide +kernel
theorem dX6_mergeDies_45 : decode cX6_mergeDies 45 = .ok (.aload_n 0, 1) := by decide +kernel
theorem dX6_mergeDies_46 : decode cX6_mergeDies 46 = .ok (.getfield 7, 3) := by decide +kernel
theorem dX6_mergeDies_49 : decode cX6_mergeDies 49 = .ok (.bipush 96, 2) := by decide +kernel
theorem dX6_mergeDies_51 : decode cX6_mergeDies 51 = .ok (.iaload, 1) := by decide +kernel
theorem dX6_mergeDies_52 : decode cX6_mergeDies 52 = .ok (.if_icmp .ge 50, 3) := by decide +kernel
theorem dX6_mergeDies_55 : decode cX6_mergeDies 55 = .ok (.aload_n 0, 1) := by decide +kernel
theorem dX6_mergeDies_56 : decode cX6_mergeDies 56 = .ok (.getfield 7, 3) := by decide +kernel
theorem dX6_mergeDies_59 : decode cX6_mergeDies 59 = .ok (.iconst 4, 1) := by decide +kernel
theorem dX6_mergeDies_60 : decode cX6_mergeDies 60 = .ok (.iload 5, 2) := by decide +kernel
theorem dX6_mergeDies_62 : decode cX6_mergeDies 62 = .ok (.imul, 1) := by decide +kernel
theorem dX6_mergeDies_63 : decode cX6_mergeDies 63 = .ok (.iload_n 1, 1) := by decide +kernel
theorem dX6_mergeDies_64 : decode cX6_mergeDies 64 = .ok (.iadd, 1) := by decide +kernel
theorem dX6_mergeDies_65 : decode cX6_mergeDies 65 = .ok (.aload_n 0, 1) := by decide +kernel
theorem dX6_mergeDies_66 : decode cX6_mergeDies 66 = .ok (.getfield 7, 3) := by decide +kernel
theorem dX6_mergeDies_69 : decode cX6_mergeDies 69 = .ok (.iconst 4, 1) := by decide +kernel
theorem dX6_mergeDies_70 : decode cX6_mergeDies 70 = .ok (.iload 5, 2) := by decide +kernel
theorem dX6_mergeDies_72 : decode cX6_mergeDies 72 = .ok (.imul, 1) := by decide +kernel
theorem dX6_mergeDies_73 : decode cX6_mergeDies 73 = .ok (.iload_n 1, 1) := by decide +kernel
theorem dX6_mergeDies_74 : decode cX6_mergeDies 74 = .ok (.iadd, 1) := by decide +kernel
theorem dX6_mergeDies_75 : decode cX6_mergeDies 75 = .ok (.iaload, 1) := by decide +kernel
theorem dX6_mergeDies_76 : decode cX6_mergeDies 76 = .ok (.iload_n 2, 1) := by decide +kernel
theorem dX6_mergeDies_77 : decode cX6_mergeDies 77 = .ok (.if_icmp .ne 7, 3) := by decide +kernel
theorem dX6_mergeDies_80 : decode cX6_mergeDies 80 = .ok (.iload_n 3, 1) := by decide +kernel
theorem dX6_mergeDies_81 : decode cX6_mergeDies 81 = .ok (.goto 14, 3) := by decide +kernel
theorem dX6_mergeDies_84 : decode cX6_mergeDies 84 = .ok (.aload_n 0, 1) := by decide +kernel
theorem dX6_mergeDies_85 : decode cX6_mergeDies 85 = .ok (.getfield 7, 3) := by decide +kernel
theorem dX6_mergeDies_88 : decode cX6_mergeDies 88 = .ok (.iconst 4, 1) := by decide +kernel
theorem dX6_mergeDies_89 : decode cX6_mergeDies 89 = .ok (.iload 5, 2) := by decide +kernel
theorem dX6_mergeDies_91 : decode cX6_mergeDies 91 = .ok (.imul, 1) := by decide +kernel
theorem dX6_mergeDies_92 : decode cX6_mergeDies 92 = .ok (.iload_n 1, 1) := by decide +kernel
theorem dX6_mergeDies_93 : decode cX6_mergeDies 93 = .ok (.iadd, 1) := by decide +kernel
theorem dX6_mergeDies_94 : decode cX6_mergeDies 94 = .ok (.iaload, 1) := by decide +kernel
theorem dX6_mergeDies_95 : decode cX6_mergeDies 95 = .ok (.iastore, 1) := by decide +kernel
theorem dX6_mergeDies_96 : decode cX6_mergeDies 96 = .ok (.iinc 5 1, 3) := by decide +kernel
theorem dX6_mergeDies_99 : decode cX6_mergeDies 99 = .ok (.goto (-56), 3) := by decide +kernel
theorem dX6_mergeDies_102 : decode cX6_mergeDies 102 = .ok (.iload_n 2, 1) := by decide +kernel
theorem dX6_mergeDies_103 : decode cX6_mergeDies 103 = .ok (.iload_n 3, 1) := by decide +kernel
theorem dX6_mergeDies_104 : decode cX6_mergeDies 104 = .ok (.if_icmp .ne 7, 3) := by decide +kernel
theorem dX6_mergeDies_107 : decode cX6_mergeDies 107 = .ok (.iconst 0, 1) := by decide +kernel
theorem dX6_mergeDies_108 : decode cX6_mergeDies 108 = .ok (.goto 5, 3) := by decide +kernel
theorem dX6_mergeDies_111 : decode cX6_mergeDies 111 = .ok (.iload 4, 2) := by decide +kernel
theorem dX6_mergeDies_113 : decode cX6_mergeDies 113 = .ok (.ireturn, 1) := by decide +kernel
theorem dX6_specimenCount_0 : decode cX6_specimenCount 0 = .ok (.aload_n 0, 1) := by decide +kernel
theorem dX6_specimenCount_1 : decode cX6_specimenCount 1 = .ok (.getfield 7, 3) := by decide +kernel
theorem dX6_specimenCount_4 : decode cX6_specimenCount 4 = .ok (.bipush 96, 2) := by decide +kernel
theorem dX6_specimenCount_6 : decode cX6_specimenCount 6 = .ok (.iaload, 1) := by decide +kernel
theorem dX6_specimenCount_7 : decode cX6_specimenCount 7 = .ok (.ireturn, 1) := by decide +kernel
theorem dX6_dieOf_0 : decode cX6_dieOf 0 = .ok (.aload_n 0, 1) := by decide +kernel
theorem dX6_dieOf_1 : decode cX6_dieOf 1 = .ok (.iload_n 1, 1) := by decide +kernel
theorem dX6_dieOf_2 : decode cX6_dieOf 2 = .ok (.invokevirtual 52, 3) := by decide +kernel
theorem dX6_dieOf_5 : decode cX6_dieOf 5 = .ok (.ifCond .eq 23, 3) := by decide +kernel
theorem dX6_dieOf_8 : decode cX6_dieOf 8 = .ok (.iload_n 2, 1) := by decide +kernel
theorem dX6_dieOf_9 : decode cX6_dieOf 9 = .ok (.invokestatic 56, 3) := by decide +kernel
theorem dX6_dieOf_12 : decode cX6_dieOf 12 = .ok (.ifCond .eq 16, 3) := by decide +kernel
theorem dX6_dieOf_15 : decode cX6_dieOf 15 = .ok (.aload_n 0, 1) := by decide +kernel
theorem dX6_dieOf_16 : decode cX6_dieOf 16 = .ok (.getfield 7, 3) := by decide +kernel
theorem dX6_dieOf_19 : decode cX6_dieOf 19 = .ok (.iconst 4, 1) := by decide +kernel
theorem dX6_dieOf_20 : decode cX6_dieOf 20 = .ok (.iload_n 1, 1) := by decide +kernel
theorem dX6_dieOf_21 : decode cX6_dieOf 21 = .ok (.imul, 1) := by decide +kernel
theorem dX6_dieOf_22 : decode cX6_dieOf 22 = .ok (.iload_n 2, 1) := by decide +kernel
theorem dX6_dieOf_23 : decode cX6_dieOf 23 = .ok (.iadd, 1) := by decide +kernel
theorem dX6_dieOf_24 : decode cX6_dieOf 24 = .ok (.iaload, 1) := by decide +kernel
theorem dX6_dieOf_25 : decode cX6_dieOf 25 = .ok (.goto 4, 3) := by decide +kernel
theorem dX6_dieOf_28 : decode cX6_dieOf 28 = .ok (.iconst (-1), 1) := by decide +kernel
theorem dX6_dieOf_29 : decode cX6_dieOf 29 = .ok (.ireturn, 1) := by decide +kernel
theorem dX6_known_0 : decode cX6_known 0 = .ok (.iconst 0, 1) := by decide +kernel
theorem dX6_known_1 : decode cX6_known 1 = .ok (.istore_n 2, 1) := by decide +kernel
theorem dX6_known_2 : decode cX6_known 2 = .ok (.iconst 0, 1) := by decide +kernel
theorem dX6_known_3 : decode cX6_known 3 = .ok (.istore_n 3, 1) := by decide +kernel
theorem dX6_known_4 : decode cX6_known 4 = .ok (.iload_n 3, 1) := by decide +kernel
theorem dX6_known_5 : decode cX6_known 5 = .ok (.bipush 10, 2) := by decide +kernel
theorem dX6_known_7 : decode cX6_known 7 = .ok (.if_icmp .ge 26, 3) := by decide +kernel
theorem dX6_known_10 : decode cX6_known 10 = .ok (.iload_n 2, 1) := by decide +kernel
theorem dX6_known_11 : decode cX6_known 11 = .ok (.aload_n 0, 1) := by decide +kernel
theorem dX6_known_12 : decode cX6_known 12 = .ok (.iload_n 1, 1) := by decide +kernel
theorem dX6_known_13 : decode cX6_known 13 = .ok (.iload_n 3, 1) := by decide +kernel
theorem dX6_known_14 : decode cX6_known 14 = .ok (.invokevirtual 63, 3) := by decide +kernel
theorem dX6_known_17 : decode cX6_known 17 = .ok (.ifCond .le 7, 3) := by decide +kernel
theorem dX6_known_20 : decode cX6_known 20 = .ok (.iconst 1, 1) := by decide +kernel
theorem dX6_known_21 : decode cX6_known 21 = .ok (.goto 4, 3) := by decide +kernel
theorem dX6_known_24 : decode cX6_known 24 = .ok (.iconst 0, 1) := by decide +kernel
theorem dX6_known_25 : decode cX6_known 25 = .ok (.iadd, 1) := by decide +kernel
theorem dX6_known_26 : decode cX6_known 26 = .ok (.istore_n 2, 1) := by decide +kernel
theorem dX6_known_27 : decode cX6_known 27 = .ok (.iinc 3 1, 3) := by decide +kernel
theorem dX6_known_30 : decode cX6_known 30 = .ok (.goto (-26), 3) := by decide +kernel
theorem dX6_known_33 : decode cX6_known 33 = .ok (.iload_n 2, 1) := by decide +kernel
theorem dX6_known_34 : decode cX6_known 34 = .ok (.ireturn, 1) := by decide +kernel
theorem dX6_dieCount_0 : decode cX6_dieCount 0 = .ok (.iload_n 1, 1) := by decide +kernel
theorem dX6_dieCount_1 : decode cX6_dieCount 1 = .ok (.invokestatic 56, 3) := by decide +kernel
theorem dX6_dieCount_4 : decode cX6_dieCount 4 = .ok (.ifCond .eq 11, 3) := by decide +kernel
theorem dX6_dieCount_7 : decode cX6_dieCount 7 = .ok (.aload_n 0, 1) := by decide +kernel
theorem dX6_dieCount_8 : decode cX6_dieCount 8 = .ok (.iload_n 1, 1) := by decide +kernel
theorem dX6_dieCount_9 : decode cX6_dieCount 9 = .ok (.invokevirtual 67, 3) := by decide +kernel
theorem dX6_dieCount_12 : decode cX6_dieCount 12 = .ok (.goto 4, 3) := by decide +kernel
theorem dX6_dieCount_15 : decode cX6_dieCount 15 = .ok (.iconst (-1), 1) := by decide +kernel
theorem dX6_dieCount_16 : decode cX6_dieCount 16 = .ok (.ireturn, 1) := by decide +kernel
theorem dX6_frequency_0 : decode cX6_frequency 0 = .ok (.iload_n 1, 1) := by decide +kernel
theorem dX6_frequency_1 : decode cX6_frequency 1 = .ok (.iload_n 2, 1) := by decide +kernel
theorem dX6_frequency_2 : decode cX6_frequency 2 = .ok (.invokestatic 59, 3) := by decide +kernel
theorem dX6_frequency_5 : decode cX6_frequency 5 = .ok (.ifCond .eq 12, 3) := by decide +kernel
theorem dX6_frequency_8 : decode cX6_frequency 8 = .ok (.aload_n 0, 1) := by decide +kernel
theorem dX6_frequency_9 : decode cX6_frequency 9 = .ok (.iload_n 1, 1) := by decide +kernel
theorem dX6_frequency_10 : decode cX6_frequency 10 = .ok (.iload_n 2, 1) := by decide +kernel
theorem dX6_frequency_11 : decode cX6_frequency 11 = .ok (.invokevirtual 63, 3) := by decide +kernel
theorem dX6_frequency_14 : decode cX6_frequency 14 = .ok (.goto 4, 3) := by decide +kernel
theorem dX6_frequency_17 : decode cX6_frequency 17 = .ok (.iconst (-1), 1) := by decide +kernel
theorem dX6_frequency_18 : decode cX6_frequency 18 = .ok (.ireturn, 1) := by decide +kernel
theorem dX6_bits_0 : decode cX6_bits 0 = .ok (.iload_n 0, 1) := by decide +kernel
theorem dX6_bits_1 : decode cX6_bits 1 = .ok (.ifCond .ne 5, 3) := by decide +kernel
theorem dX6_bits_4 : decode cX6_bits 4 = .ok (.iconst 0, 1) := by decide +kernel
theorem dX6_bits_5 : decode cX6_bits 5 = .ok (.ireturn, 1) := by decide +kernel
theorem dX6_bits_6 : decode cX6_bits 6 = .ok (.iconst 0, 1) := by decide +kernel
theorem dX6_bits_7 : decode cX6_bits 7 = .ok (.istore_n 2, 1) := by decide +kernel
theorem dX6_bits_8 : decode cX6_bits 8 = .ok (.iload_n 0, 1) := by decide +kernel
theorem dX6_bits_9 : decode cX6_bits 9 = .ok (.iload_n 1, 1) := by decide +kernel
theorem dX6_bits_10 : decode cX6_bits 10 = .ok (.iload_n 2, 1) := by decide +kernel
theorem dX6_bits_11 : decode cX6_bits 11 = .ok (.iconst 1, 1) := by decide +kernel
theorem dX6_bits_12 : decode cX6_bits 12 = .ok (.iadd, 1) := by decide +kernel
theorem dX6_bits_13 : decode cX6_bits 13 = .ok (.ishl, 1) := by decide +kernel
theorem dX6_bits_14 : decode cX6_bits 14 = .ok (.if_icmp .lt 9, 3) := by decide +kernel
theorem dX6_bits_17 : decode cX6_bits 17 = .ok (.iinc 2 1, 3) := by decide +kernel
theorem dX6_bits_20 : decode cX6_bits 20 = .ok (.goto (-12), 3) := by decide +kernel
theorem dX6_bits_23 : decode cX6_bits 23 = .ok (.iload_n 2, 1) := by decide +kernel
theorem dX6_bits_24 : decode cX6_bits 24 = .ok (.ifCond .gt 17, 3) := by decide +kernel
theorem dX6_bits_27 : decode cX6_bits 27 = .ok (.iload_n 0, 1) := by decide +kernel
theorem dX6_bits_28 : decode cX6_bits 28 = .ok (.iload_n 2, 1) := by decide +kernel
theorem dX6_bits_29 : decode cX6_bits 29 = .ok (.ineg, 1) := by decide +kernel
theorem dX6_bits_30 : decode cX6_bits 30 = .ok (.ishl, 1) := by decide +kernel
theorem dX6_bits_31 : decode cX6_bits 31 = .ok (.iload_n 1, 1) := by decide +kernel
theorem dX6_bits_32 : decode cX6_bits 32 = .ok (.if_icmp .ge 9, 3) := by decide +kernel
theorem dX6_bits_35 : decode cX6_bits 35 = .ok (.iinc 2 (-1), 3) := by decide +kernel
theorem dX6_bits_38 : decode cX6_bits 38 = .ok (.goto (-15), 3) := by decide +kernel
theorem dX6_bits_41 : decode cX6_bits 41 = .ok (.iload_n 0, 1) := by decide +kernel
theorem dX6_bits_42 : decode cX6_bits 42 = .ok (.i2l, 1) := by decide +kernel
theorem dX6_bits_43 : decode cX6_bits 43 = .ok (.bipush 23, 2) := by decide +kernel
theorem dX6_bits_45 : decode cX6_bits 45 = .ok (.iload_n 2, 1) := by decide +kernel
theorem dX6_bits_46 : decode cX6_bits 46 = .ok (.isub, 1) := by decide +kernel
theorem dX6_bits_47 : decode cX6_bits 47 = .ok (.lshl, 1) := by decide +kernel
theorem dX6_bits_48 : decode cX6_bits 48 = .ok (.lstore_n 3, 1) := by decide +kernel
theorem dX6_bits_49 : decode cX6_bits 49 = .ok (.lload_n 3, 1) := by decide +kernel
theorem dX6_bits_50 : decode cX6_bits 50 = .ok (.iload_n 1, 1) := by decide +kernel
theorem dX6_bits_51 : decode cX6_bits 51 = .ok (.i2l, 1) := by decide +kernel
theorem dX6_bits_52 : decode cX6_bits 52 = .ok (.ldiv, 1) := by decide +kernel
theorem dX6_bits_53 : decode cX6_bits 53 = .ok (.lstore 5, 2) := by decide +kernel
theorem dX6_bits_55 : decode cX6_bits 55 = .ok (.ldc2_w 71, 3) := by decide +kernel
theorem dX6_bits_58 : decode cX6_bits 58 = .ok (.lload_n 3, 1) := by decide +kernel
theorem dX6_bits_59 : decode cX6_bits 59 = .ok (.iload_n 1, 1) := by decide +kernel
theorem dX6_bits_60 : decode cX6_bits 60 = .ok (.i2l, 1) := by decide +kernel
theorem dX6_bits_61 : decode cX6_bits 61 = .ok (.lrem, 1) := by decide +kernel
theorem dX6_bits_62 : decode cX6_bits 62 = .ok (.lmul, 1) := by decide +kernel
theorem dX6_bits_63 : decode cX6_bits 63 = .ok (.lstore 7, 2) := by decide +kernel
theorem dX6_bits_65 : decode cX6_bits 65 = .ok (.lload 5, 2) := by decide +kernel
theorem dX6_bits_67 : decode cX6_bits 67 = .ok (.lload 7, 2) := by decide +kernel
theorem dX6_bits_69 : decode cX6_bits 69 = .ok (.iload_n 1, 1) := by decide +kernel
theorem dX6_bits_70 : decode cX6_bits 70 = .ok (.i2l, 1) := by decide +kernel
theorem dX6_bits_71 : decode cX6_bits 71 = .ok (.lcmp, 1) := by decide +kernel
theorem dX6_bits_72 : decode cX6_bits 72 = .ok (.ifCond .gt 22, 3) := by decide +kernel
theorem dX6_bits_75 : decode cX6_bits 75 = .ok (.lload 7, 2) := by decide +kernel
theorem dX6_bits_77 : decode cX6_bits 77 = .ok (.iload_n 1, 1) := by decide +kernel
theorem dX6_bits_78 : decode cX6_bits 78 = .ok (.i2l, 1) := by decide +kernel
theorem dX6_bits_79 : decode cX6_bits 79 = .ok (.lcmp, 1) := by decide +kernel
theorem dX6_bits_80 : decode cX6_bits 80 = .ok (.ifCond .ne 18, 3) := by decide +kernel
theorem dX6_bits_83 : decode cX6_bits 83 = .ok (.lload 5, 2) := by decide +kernel
theorem dX6_bits_85 : decode cX6_bits 85 = .ok (.ldc2_w 71, 3) := by decide +kernel
theorem dX6_bits_88 : decode cX6_bits 88 = .ok (.lrem, 1) := by decide +kernel
theorem dX6_bits_89 : decode cX6_bits 89 = .ok (.lconst 1, 1) := by decide +kernel
theorem dX6_bits_90 : decode cX6_bits 90 = .ok (.lcmp, 1) := by decide +kernel
theorem dX6_bits_91 : decode cX6_bits 91 = .ok (.ifCond .ne 7, 3) := by decide +kernel
theorem dX6_bits_94 : decode cX6_bits 94 = .ok (.lconst 1, 1) := by decide +kernel
theorem dX6_bits_95 : decode cX6_bits 95 = .ok (.goto 4, 3) := by decide +kernel
theorem dX6_bits_98 : decode cX6_bits 98 = .ok (.lconst 0, 1) := by decide +kernel
theorem dX6_bits_99 : decode cX6_bits 99 = .ok (.ladd, 1) := by decide +kernel
theorem dX6_bits_100 : decode cX6_bits 100 = .ok (.lstore 5, 2) := by decide +kernel
theorem dX6_bits_102 : decode cX6_bits 102 = .ok (.bipush 126, 2) := by decide +kernel
theorem dX6_bits_104 : decode cX6_bits 104 = .ok (.iload_n 2, 1) := by decide +kernel
theorem dX6_bits_105 : decode cX6_bits 105 = .ok (.iadd, 1) := by decide +kernel
theorem dX6_bits_106 : decode cX6_bits 106 = .ok (.bipush 23, 2) := by decide +kernel
theorem dX6_bits_108 : decode cX6_bits 108 = .ok (.ishl, 1) := by decide +kernel
theorem dX6_bits_109 : decode cX6_bits 109 = .ok (.lload 5, 2) := by decide +kernel
theorem dX6_bits_111 : decode cX6_bits 111 = .ok (.l2i, 1) := by decide +kernel
theorem dX6_bits_112 : decode cX6_bits 112 = .ok (.iadd, 1) := by decide +kernel
theorem dX6_bits_113 : decode cX6_bits 113 = .ok (.ireturn, 1) := by decide +kernel
theorem dX6_meanWearBits_0 : decode cX6_meanWearBits 0 = .ok (.iload_n 1, 1) := by decide +kernel
theorem dX6_meanWearBits_1 : decode cX6_meanWearBits 1 = .ok (.iload_n 2, 1) := by decide +kernel
theorem dX6_meanWearBits_2 : decode cX6_meanWearBits 2 = .ok (.invokestatic 59, 3) := by decide +kernel
theorem dX6_meanWearBits_5 : decode cX6_meanWearBits 5 = .ok (.ifCond .ne 5, 3) := by decide +kernel
theorem dX6_meanWearBits_8 : decode cX6_meanWearBits 8 = .ok (.iconst (-1), 1) := by decide +kernel
theorem dX6_meanWearBits_9 : decode cX6_meanWearBits 9 = .ok (.ireturn, 1) := by decide +kernel
theorem dX6_meanWearBits_10 : decode cX6_meanWearBits 10 = .ok (.aload_n 0, 1) := by decide +kernel
theorem dX6_meanWearBits_11 : decode cX6_meanWearBits 11 = .ok (.iload_n 1, 1) := by decide +kernel
theorem dX6_meanWearBits_12 : decode cX6_meanWearBits 12 = .ok (.iload_n 2, 1) := by decide +kernel
theorem dX6_meanWearBits_13 : decode cX6_meanWearBits 13 = .ok (.invokevirtual 63, 3) := by decide +kernel
theorem dX6_meanWearBits_16 : decode cX6_meanWearBits 16 = .ok (.istore_n 3, 1) := by decide +kernel
theorem dX6_meanWearBits_17 : decode cX6_meanWearBits 17 = .ok (.iload_n 3, 1) := by decide +kernel
theorem dX6_meanWearBits_18 : decode cX6_meanWearBits 18 = .ok (.ifCond .ne 6, 3) := by decide +kernel
theorem dX6_meanWearBits_21 : decode cX6_meanWearBits 21 = .ok (.bipush (-3), 2) := by decide +kernel
theorem dX6_meanWearBits_23 : decode cX6_meanWearBits 23 = .ok (.ireturn, 1) := by decide +kernel
theorem dX6_meanWearBits_24 : decode cX6_meanWearBits 24 = .ok (.iconst 0, 1) := by decide +kernel
theorem dX6_meanWearBits_25 : decode cX6_meanWearBits 25 = .ok (.istore 4, 2) := by decide +kernel
theorem dX6_meanWearBits_27 : decode cX6_meanWearBits 27 = .ok (.iconst 0, 1) := by decide +kernel
theorem dX6_meanWearBits_28 : decode cX6_meanWearBits 28 = .ok (.istore 5, 2) := by decide +kernel
theorem dX6_meanWearBits_30 : decode cX6_meanWearBits 30 = .ok (.iload 5, 2) := by decide +kernel
theorem dX6_meanWearBits_32 : decode cX6_meanWearBits 32 = .ok (.aload_n 0, 1) := by decide +kernel
theorem dX6_meanWearBits_33 : decode cX6_meanWearBits 33 = .ok (.getfield 7, 3) := by decide +kernel
theorem dX6_meanWearBits_36 : decode cX6_meanWearBits 36 = .ok (.bipush 96, 2) := by decide +kernel
theorem dX6_meanWearBits_38 : decode cX6_meanWearBits 38 = .ok (.iaload, 1) := by decide +kernel
theorem dX6_meanWearBits_39 : decode cX6_meanWearBits 39 = .ok (.if_icmp .ge 46, 3) := by decide +kernel
theorem dX6_meanWearBits_42 : decode cX6_meanWearBits 42 = .ok (.iload 4, 2) := by decide +kernel
theorem dX6_meanWearBits_44 : decode cX6_meanWearBits 44 = .ok (.aload_n 0, 1) := by decide +kernel
theorem dX6_meanWearBits_45 : decode cX6_meanWearBits 45 = .ok (.getfield 7, 3) := by decide +kernel
theorem dX6_meanWearBits_48 : decode cX6_meanWearBits 48 = .ok (.iconst 4, 1) := by decide +kernel
theorem dX6_meanWearBits_49 : decode cX6_meanWearBits 49 = .ok (.iload 5, 2) := by decide +kernel
theorem dX6_meanWearBits_51 : decode cX6_meanWearBits 51 = .ok (.imul, 1) := by decide +kernel
theorem dX6_meanWearBits_52 : decode cX6_meanWearBits 52 = .ok (.iload_n 1, 1) := by decide +kernel
theorem dX6_meanWearBits_53 : decode cX6_meanWearBits 53 = .ok (.iadd, 1) := by decide +kernel
theorem dX6_meanWearBits_54 : decode cX6_meanWearBits 54 = .ok (.iaload, 1) := by decide +kernel
theorem dX6_meanWearBits_55 : decode cX6_meanWearBits 55 = .ok (.iload_n 2, 1) := by decide +kernel
theorem dX6_meanWearBits_56 : decode cX6_meanWearBits 56 = .ok (.if_icmp .ne 19, 3) := by decide +kernel
theorem dX6_meanWearBits_59 : decode cX6_meanWearBits 59 = .ok (.aload_n 0, 1) := by decide +kernel
theorem dX6_meanWearBits_60 : decode cX6_meanWearBits 60 = .ok (.getfield 7, 3) := by decide +kernel
theorem dX6_meanWearBits_63 : decode cX6_meanWearBits 63 = .ok (.iconst 4, 1) := by decide +kernel
theorem dX6_meanWearBits_64 : decode cX6_meanWearBits 64 = .ok (.iload 5, 2) := by decide +kernel
theorem dX6_meanWearBits_66 : decode cX6_meanWearBits 66 = .ok (.imul, 1) := by decide +kernel
theorem dX6_meanWearBits_67 : decode cX6_meanWearBits 67 = .ok (.iconst 2, 1) := by decide +kernel
theorem dX6_meanWearBits_68 : decode cX6_meanWearBits 68 = .ok (.iadd, 1) := by decide +kernel
theorem dX6_meanWearBits_69 : decode cX6_meanWearBits 69 = .ok (.iload_n 1, 1) := by decide +kernel
theorem dX6_meanWearBits_70 : decode cX6_meanWearBits 70 = .ok (.iadd, 1) := by decide +kernel
theorem dX6_meanWearBits_71 : decode cX6_meanWearBits 71 = .ok (.iaload, 1) := by decide +kernel
theorem dX6_meanWearBits_72 : decode cX6_meanWearBits 72 = .ok (.goto 4, 3) := by decide +kernel
theorem dX6_meanWearBits_75 : decode cX6_meanWearBits 75 = .ok (.iconst 0, 1) := by decide +kernel
theorem dX6_meanWearBits_76 : decode cX6_meanWearBits 76 = .ok (.iadd, 1) := by decide +kernel
theorem dX6_meanWearBits_77 : decode cX6_meanWearBits 77 = .ok (.istore 4, 2) := by decide +kernel
theorem dX6_meanWearBits_79 : decode cX6_meanWearBits 79 = .ok (.iinc 5 1, 3) := by decide +kernel
theorem dX6_meanWearBits_82 : decode cX6_meanWearBits 82 = .ok (.goto (-52), 3) := by decide +kernel
theorem dX6_meanWearBits_85 : decode cX6_meanWearBits 85 = .ok (.iload 4, 2) := by decide +kernel
theorem dX6_meanWearBits_87 : decode cX6_meanWearBits 87 = .ok (.iload_n 3, 1) := by decide +kernel
theorem dX6_meanWearBits_88 : decode cX6_meanWearBits 88 = .ok (.invokestatic 73, 3) := by decide +kernel
theorem dX6_meanWearBits_91 : decode cX6_meanWearBits 91 = .ok (.ireturn, 1) := by decide +kernel
theorem dX6_isCouple_0 : decode cX6_isCouple 0 = .ok (.aload_n 0, 1) := by decide +kernel
theorem dX6_isCouple_1 : decode cX6_isCouple 1 = .ok (.getfield 7, 3) := by decide +kernel
theorem dX6_isCouple_4 : decode cX6_isCouple 4 = .ok (.iconst 4, 1) := by decide +kernel
theorem dX6_isCouple_5 : decode cX6_isCouple 5 = .ok (.iload_n 1, 1) := by decide +kernel
theorem dX6_isCouple_6 : decode cX6_isCouple 6 = .ok (.imul, 1) := by decide +kernel
theorem dX6_isCouple_7 : decode cX6_isCouple 7 = .ok (.iaload, 1) := by decide +kernel
theorem dX6_isCouple_8 : decode cX6_isCouple 8 = .ok (.iload_n 2, 1) := by decide +kernel
theorem dX6_isCouple_9 : decode cX6_isCouple 9 = .ok (.if_icmp .ne 21, 3) := by decide +kernel
theorem dX6_isCouple_12 : decode cX6_isCouple 12 = .ok (.aload_n 0, 1) := by decide +kernel
theorem dX6_isCouple_13 : decode cX6_isCouple 13 = .ok (.getfield 7, 3) := by decide +kernel
theorem dX6_isCouple_16 : decode cX6_isCouple 16 = .ok (.iconst 4, 1) := by decide +kernel
theorem dX6_isCouple_17 : decode cX6_isCouple 17 = .ok (.iload_n 1, 1) := by decide +kernel
theorem dX6_isCouple_18 : decode cX6_isCouple 18 = .ok (.imul, 1) := by decide +kernel
theorem dX6_isCouple_19 : decode cX6_isCouple 19 = .ok (.iconst 1, 1) := by decide +kernel
theorem dX6_isCouple_20 : decode cX6_isCouple 20 = .ok (.iadd, 1) := by decide +kernel
theorem dX6_isCouple_21 : decode cX6_isCouple 21 = .ok (.iaload, 1) := by decide +kernel
theorem dX6_isCouple_22 : decode cX6_isCouple 22 = .ok (.iload_n 3, 1) := by decide +kernel
theorem dX6_isCouple_23 : decode cX6_isCouple 23 = .ok (.if_icmp .ne 7, 3) := by decide +kernel
theorem dX6_isCouple_26 : decode cX6_isCouple 26 = .ok (.iconst 1, 1) := by decide +kernel
theorem dX6_isCouple_27 : decode cX6_isCouple 27 = .ok (.goto 4, 3) := by decide +kernel
theorem dX6_isCouple_30 : decode cX6_isCouple 30 = .ok (.iconst 0, 1) := by decide +kernel
theorem dX6_isCouple_31 : decode cX6_isCouple 31 = .ok (.ireturn, 1) := by decide +kernel
theorem dX6_finds_0 : decode cX6_finds 0 = .ok (.aload_n 0, 1) := by decide +kernel
theorem dX6_finds_1 : decode cX6_finds 1 = .ok (.iconst 0, 1) := by decide +kernel
theorem dX6_finds_2 : decode cX6_finds 2 = .ok (.putfield 76, 3) := by decide +kernel
theorem dX6_finds_5 : decode cX6_finds 5 = .ok (.iconst 0, 1) := by decide +kernel
theorem dX6_finds_6 : decode cX6_finds 6 = .ok (.istore_n 1, 1) := by decide +kernel
theorem dX6_finds_7 : decode cX6_finds 7 = .ok (.iload_n 1, 1) := by decide +kernel
theorem dX6_finds_8 : decode cX6_finds 8 = .ok (.bipush 100, 2) := by decide +kernel
theorem dX6_finds_10 : decode cX6_finds 10 = .ok (.if_icmp .ge 200, 3) := by decide +kernel
theorem dX6_finds_13 : decode cX6_finds 13 = .ok (.iconst 0, 1) := by decide +kernel
theorem dX6_finds_14 : decode cX6_finds 14 = .ok (.istore_n 2, 1) := by decide +kernel
theorem dX6_finds_15 : decode cX6_finds 15 = .ok (.iconst 0, 1) := by decide +kernel
theorem dX6_finds_16 : decode cX6_finds 16 = .ok (.istore_n 3, 1) := by decide +kernel
theorem dX6_finds_17 : decode cX6_finds 17 = .ok (.iload_n 3, 1) := by decide +kernel
theorem dX6_finds_18 : decode cX6_finds 18 = .ok (.aload_n 0, 1) := by decide +kernel
theorem dX6_finds_19 : decode cX6_finds 19 = .ok (.getfield 7, 3) := by decide +kernel
theorem dX6_finds_22 : decode cX6_finds 22 = .ok (.bipush 96, 2) := by decide +kernel
theorem dX6_finds_24 : decode cX6_finds 24 = .ok (.iaload, 1) := by decide +kernel
theorem dX6_finds_25 : decode cX6_finds 25 = .ok (.if_icmp .ge 139, 3) := by decide +kernel
theorem dX6_finds_28 : decode cX6_finds 28 = .ok (.aload_n 0, 1) := by decide +kernel
theorem dX6_finds_29 : decode cX6_finds 29 = .ok (.iload_n 3, 1) := by decide +kernel
theorem dX6_finds_30 : decode cX6_finds 30 = .ok (.iload_n 1, 1) := by decide +kernel
theorem dX6_finds_31 : decode cX6_finds 31 = .ok (.bipush 10, 2) := by decide +kernel
theorem dX6_finds_33 : decode cX6_finds 33 = .ok (.idiv, 1) := by decide +kernel
theorem dX6_finds_34 : decode cX6_finds 34 = .ok (.iload_n 1, 1) := by decide +kernel
theorem dX6_finds_35 : decode cX6_finds 35 = .ok (.bipush 10, 2) := by decide +kernel
theorem dX6_finds_37 : decode cX6_finds 37 = .ok (.irem, 1) := by decide +kernel
theorem dX6_finds_38 : decode cX6_finds 38 = .ok (.invokevirtual 79, 3) := by decide +kernel
theorem dX6_finds_41 : decode cX6_finds 41 = .ok (.ifCond .eq 117, 3) := by decide +kernel
theorem dX6_finds_44 : decode cX6_finds 44 = .ok (.iconst 0, 1) := by decide +kernel
theorem dX6_finds_45 : decode cX6_finds 45 = .ok (.istore 4, 2) := by decide +kernel
theorem dX6_finds_47 : decode cX6_finds 47 = .ok (.iload 4, 2) := by decide +kernel
theorem dX6_finds_49 : decode cX6_finds 49 = .ok (.iconst 2, 1) := by decide +kernel
theorem dX6_finds_50 : decode cX6_finds 50 = .ok (.if_icmp .ge 106, 3) := by decide +kernel
theorem dX6_finds_53 : decode cX6_finds 53 = .ok (.aload_n 0, 1) := by decide +kernel
theorem dX6_finds_54 : decode cX6_finds 54 = .ok (.getfield 7, 3) := by decide +kernel
theorem dX6_finds_57 : decode cX6_finds 57 = .ok (.iconst 4, 1) := by decide +kernel
theorem dX6_finds_58 : decode cX6_finds 58 = .ok (.iload_n 3, 1) := by decide +kernel
theorem dX6_finds_59 : decode cX6_finds 59 = .ok (.imul, 1) := by decide +kernel
theorem dX6_finds_60 : decode cX6_finds 60 = .ok (.iconst 2, 1) := by decide +kernel
theorem dX6_finds_61 : decode cX6_finds 61 = .ok (.iadd, 1) := by decide +kernel
theorem dX6_finds_62 : decode cX6_finds 62 = .ok (.iload 4, 2) := by decide +kernel
theorem dX6_finds_64 : decode cX6_finds 64 = .ok (.iadd, 1) := by decide +kernel
theorem dX6_finds_65 : decode cX6_finds 65 = .ok (.iaload, 1) := by decide +kernel
theorem dX6_finds_66 : decode cX6_finds 66 = .ok (.istore 5, 2) := by decide +kernel
theorem dX6_finds_68 : decode cX6_finds 68 = .ok (.bipush 24, 2) := by decide +kernel
theorem dX6_finds_70 : decode cX6_finds 70 = .ok (.iload 4, 2) := by decide +kernel
theorem dX6_finds_72 : decode cX6_finds 72 = .ok (.imul, 1) := by decide +kernel
theorem dX6_finds_73 : decode cX6_finds 73 = .ok (.aload_n 0, 1) := by decide +kernel
theorem dX6_finds_74 : decode cX6_finds 74 = .ok (.getfield 76, 3) := by decide +kernel
theorem dX6_finds_77 : decode cX6_finds 77 = .ok (.iadd, 1) := by decide +kernel
theorem dX6_finds_78 : decode cX6_finds 78 = .ok (.istore 6, 2) := by decide +kernel
theorem dX6_finds_80 : decode cX6_finds 80 = .ok (.aload_n 0, 1) := by decide +kernel
theorem dX6_finds_81 : decode cX6_finds 81 = .ok (.getfield 22, 3) := by decide +kernel
theorem dX6_finds_84 : decode cX6_finds 84 = .ok (.iload 6, 2) := by decide +kernel
theorem dX6_finds_86 : decode cX6_finds 86 = .ok (.iload_n 2, 1) := by decide +kernel
theorem dX6_finds_87 : decode cX6_finds 87 = .ok (.ifCond .eq 15, 3) := by decide +kernel
theorem dX6_finds_90 : decode cX6_finds 90 = .ok (.iload 5, 2) := by decide +kernel
theorem dX6_finds_92 : decode cX6_finds 92 = .ok (.aload_n 0, 1) := by decide +kernel
theorem dX6_finds_93 : decode cX6_finds 93 = .ok (.getfield 22, 3) := by decide +kernel
theorem dX6_finds_96 : decode cX6_finds 96 = .ok (.iload 6, 2) := by decide +kernel
theorem dX6_finds_98 : decode cX6_finds 98 = .ok (.iaload, 1) := by decide +kernel
theorem dX6_finds_99 : decode cX6_finds 99 = .ok (.if_icmp .ge 8, 3) := by decide +kernel
theorem dX6_finds_102 : decode cX6_finds 102 = .ok (.iload 5, 2) := by decide +kernel
theorem dX6_finds_104 : decode cX6_finds 104 = .ok (.goto 10, 3) := by decide +kernel
theorem dX6_finds_107 : decode cX6_finds 107 = .ok (.aload_n 0, 1) := by decide +kernel
theorem dX6_finds_108 : decode cX6_finds 108 = .ok (.getfield 22, 3) := by decide +kernel
theorem dX6_finds_111 : decode cX6_finds 111 = .ok (.iload 6, 2) := by decide +kernel
theorem dX6_finds_113 : decode cX6_finds 113 = .ok (.iaload, 1) := by decide +kernel
theorem dX6_finds_114 : decode cX6_finds 114 = .ok (.iastore, 1) := by decide +kernel
theorem dX6_finds_115 : decode cX6_finds 115 = .ok (.aload_n 0, 1) := by decide +kernel
theorem dX6_finds_116 : decode cX6_finds 116 = .ok (.getfield 25, 3) := by decide +kernel
theorem dX6_finds_119 : decode cX6_finds 119 = .ok (.iload 6, 2) := by decide +kernel
theorem dX6_finds_121 : decode cX6_finds 121 = .ok (.iload_n 2, 1) := by decide +kernel
theorem dX6_finds_122 : decode cX6_finds 122 = .ok (.ifCond .eq 15, 3) := by decide +kernel
theorem dX6_finds_125 : decode cX6_finds 125 = .ok (.iload 5, 2) := by decide +kernel
theorem dX6_finds_127 : decode cX6_finds 127 = .ok (.aload_n 0, 1) := by decide +kernel
theorem dX6_finds_128 : decode cX6_finds 128 = .ok (.getfield 25, 3) := by decide +kernel
theorem dX6_finds_131 : decode cX6_finds 131 = .ok (.iload 6, 2) := by decide +kernel
theorem dX6_finds_133 : decode cX6_finds 133 = .ok (.iaload, 1) := by decide +kernel
theorem dX6_finds_134 : decode cX6_finds 134 = .ok (.if_icmp .le 8, 3) := by decide +kernel
theorem dX6_finds_137 : decode cX6_finds 137 = .ok (.iload 5, 2) := by decide +kernel
theorem dX6_finds_139 : decode cX6_finds 139 = .ok (.goto 10, 3) := by decide +kernel
theorem dX6_finds_142 : decode cX6_finds 142 = .ok (.aload_n 0, 1) := by decide +kernel
theorem dX6_finds_143 : decode cX6_finds 143 = .ok (.getfield 25, 3) := by decide +kernel
theorem dX6_finds_146 : decode cX6_finds 146 = .ok (.iload 6, 2) := by decide +kernel
theorem dX6_finds_148 : decode cX6_finds 148 = .ok (.iaload, 1) := by decide +kernel
theorem dX6_finds_149 : decode cX6_finds 149 = .ok (.iastore, 1) := by decide +kernel
theorem dX6_finds_150 : decode cX6_finds 150 = .ok (.iinc 4 1, 3) := by decide +kernel
theorem dX6_finds_153 : decode cX6_finds 153 = .ok (.goto (-106), 3) := by decide +kernel
theorem dX6_finds_156 : decode cX6_finds 156 = .ok (.iconst 1, 1) := by decide +kernel
theorem dX6_finds_157 : decode cX6_finds 157 = .ok (.istore_n 2, 1) := by decide +kernel
theorem dX6_finds_158 : decode cX6_finds 158 = .ok (.iinc 3 1, 3) := by decide +kernel
theorem dX6_finds_161 : decode cX6_finds 161 = .ok (.goto (-144), 3) := by decide +kernel
theorem dX6_finds_164 : decode cX6_finds 164 = .ok (.iload_n 2, 1) := by decide +kernel
theorem dX6_finds_165 : decode cX6_finds 165 = .ok (.ifCond .eq 39, 3) := by decide +kernel
theorem dX6_finds_168 : decode cX6_finds 168 = .ok (.aload_n 0, 1) := by decide +kernel
theorem dX6_finds_169 : decode cX6_finds 169 = .ok (.getfield 16, 3) := by decide +kernel
theorem dX6_finds_172 : decode cX6_finds 172 = .ok (.aload_n 0, 1) := by decide +kernel
theorem dX6_finds_173 : decode cX6_finds 173 = .ok (.getfield 76, 3) := by decide +kernel
theorem dX6_finds_176 : decode cX6_finds 176 = .ok (.iload_n 1, 1) := by decide +kernel
theorem dX6_finds_177 : decode cX6_finds 177 = .ok (.bipush 10, 2) := by decide +kernel
theorem dX6_finds_179 : decode cX6_finds 179 = .ok (.idiv, 1) := by decide +kernel
theorem dX6_finds_180 : decode cX6_finds 180 = .ok (.iastore, 1) := by decide +kernel
theorem dX6_finds_181 : decode cX6_finds 181 = .ok (.aload_n 0, 1) := by decide +kernel
theorem dX6_finds_182 : decode cX6_finds 182 = .ok (.getfield 19, 3) := by decide +kernel
theorem dX6_finds_185 : decode cX6_finds 185 = .ok (.aload_n 0, 1) := by decide +kernel
theorem dX6_finds_186 : decode cX6_finds 186 = .ok (.getfield 76, 3) := by decide +kernel
theorem dX6_finds_189 : decode cX6_finds 189 = .ok (.iload_n 1, 1) := by decide +kernel
theorem dX6_finds_190 : decode cX6_finds 190 = .ok (.bipush 10, 2) := by decide +kernel
theorem dX6_finds_192 : decode cX6_finds 192 = .ok (.irem, 1) := by decide +kernel
theorem dX6_finds_193 : decode cX6_finds 193 = .ok (.iastore, 1) := by decide +kernel
theorem dX6_finds_194 : decode cX6_finds 194 = .ok (.aload_n 0, 1) := by decide +kernel
theorem dX6_finds_195 : decode cX6_finds 195 = .ok (.dup, 1) := by decide +kernel
theorem dX6_finds_196 : decode cX6_finds 196 = .ok (.getfield 76, 3) := by decide +kernel
theorem dX6_finds_199 : decode cX6_finds 199 = .ok (.iconst 1, 1) := by decide +kernel
theorem dX6_finds_200 : decode cX6_finds 200 = .ok (.iadd, 1) := by decide +kernel
theorem dX6_finds_201 : decode cX6_finds 201 = .ok (.putfield 76, 3) := by decide +kernel
theorem dX6_finds_204 : decode cX6_finds 204 = .ok (.iinc 1 1, 3) := by decide +kernel
theorem dX6_finds_207 : decode cX6_finds 207 = .ok (.goto (-200), 3) := by decide +kernel
theorem dX6_finds_210 : decode cX6_finds 210 = .ok (.return_, 1) := by decide +kernel
theorem dX6_coupleCount_0 : decode cX6_coupleCount 0 = .ok (.aload_n 0, 1) := by decide +kernel
theorem dX6_coupleCount_1 : decode cX6_coupleCount 1 = .ok (.invokevirtual 82, 3) := by decide +kernel
theorem dX6_coupleCount_4 : decode cX6_coupleCount 4 = .ok (.aload_n 0, 1) := by decide +kernel
theorem dX6_coupleCount_5 : decode cX6_coupleCount 5 = .ok (.getfield 76, 3) := by decide +kernel
theorem dX6_coupleCount_8 : decode cX6_coupleCount 8 = .ok (.ireturn, 1) := by decide +kernel
theorem dX6_coupleAt_0 : decode cX6_coupleAt 0 = .ok (.iload_n 1, 1) := by decide +kernel
theorem dX6_coupleAt_1 : decode cX6_coupleAt 1 = .ok (.ifCond .ge 5, 3) := by decide +kernel
theorem dX6_coupleAt_4 : decode cX6_coupleAt 4 = .ok (.iconst (-1), 1) := by decide +kernel
theorem dX6_coupleAt_5 : decode cX6_coupleAt 5 = .ok (.ireturn, 1) := by decide +kernel
theorem dX6_coupleAt_6 : decode cX6_coupleAt 6 = .ok (.aload_n 0, 1) := by decide +kernel
theorem dX6_coupleAt_7 : decode cX6_coupleAt 7 = .ok (.invokevirtual 82, 3) := by decide +kernel
theorem dX6_coupleAt_10 : decode cX6_coupleAt 10 = .ok (.iload_n 1, 1) := by decide +kernel
theorem dX6_coupleAt_11 : decode cX6_coupleAt 11 = .ok (.aload_n 0, 1) := by decide +kernel
theorem dX6_coupleAt_12 : decode cX6_coupleAt 12 = .ok (.getfield 76, 3) := by decide +kernel
theorem dX6_coupleAt_15 : decode cX6_coupleAt 15 = .ok (.if_icmp .ge 22, 3) := by decide +kernel
theorem dX6_coupleAt_18 : decode cX6_coupleAt 18 = .ok (.bipush 10, 2) := by decide +kernel
theorem dX6_coupleAt_20 : decode cX6_coupleAt 20 = .ok (.aload_n 0, 1) := by decide +kernel
theorem dX6_coupleAt_21 : decode cX6_coupleAt 21 = .ok (.getfield 16, 3) := by decide +kernel
theorem dX6_coupleAt_24 : decode cX6_coupleAt 24 = .ok (.iload_n 1, 1) := by decide +kernel
theorem dX6_coupleAt_25 : decode cX6_coupleAt 25 = .ok (.iaload, 1) := by decide +kernel
theorem dX6_coupleAt_26 : decode cX6_coupleAt 26 = .ok (.imul, 1) := by decide +kernel
theorem dX6_coupleAt_27 : decode cX6_coupleAt 27 = .ok (.aload_n 0, 1) := by decide +kernel
theorem dX6_coupleAt_28 : decode cX6_coupleAt 28 = .ok (.getfield 19, 3) := by decide +kernel
theorem dX6_coupleAt_31 : decode cX6_coupleAt 31 = .ok (.iload_n 1, 1) := by decide +kernel
theorem dX6_coupleAt_32 : decode cX6_coupleAt 32 = .ok (.iaload, 1) := by decide +kernel
theorem dX6_coupleAt_33 : decode cX6_coupleAt 33 = .ok (.iadd, 1) := by decide +kernel
theorem dX6_coupleAt_34 : decode cX6_coupleAt 34 = .ok (.goto 5, 3) := by decide +kernel
theorem dX6_coupleAt_37 : decode cX6_coupleAt 37 = .ok (.bipush (-3), 2) := by decide +kernel
theorem dX6_coupleAt_39 : decode cX6_coupleAt 39 = .ok (.ireturn, 1) := by decide +kernel
theorem dX6_nets_0 : decode cX6_nets 0 = .ok (.iconst 0, 1) := by decide +kernel
theorem dX6_nets_1 : decode cX6_nets 1 = .ok (.istore_n 2, 1) := by decide +kernel
theorem dX6_nets_2 : decode cX6_nets 2 = .ok (.iload_n 2, 1) := by decide +kernel
theorem dX6_nets_3 : decode cX6_nets 3 = .ok (.bipush 20, 2) := by decide +kernel
theorem dX6_nets_5 : decode cX6_nets 5 = .ok (.if_icmp .ge 16, 3) := by decide +kernel
theorem dX6_nets_8 : decode cX6_nets 8 = .ok (.aload_n 0, 1) := by decide +kernel
theorem dX6_nets_9 : decode cX6_nets 9 = .ok (.getfield 38, 3) := by decide +kernel
theorem dX6_nets_12 : decode cX6_nets 12 = .ok (.iload_n 2, 1) := by decide +kernel
theorem dX6_nets_13 : decode cX6_nets 13 = .ok (.iload_n 2, 1) := by decide +kernel
theorem dX6_nets_14 : decode cX6_nets 14 = .ok (.iastore, 1) := by decide +kernel
theorem dX6_nets_15 : decode cX6_nets 15 = .ok (.iinc 2 1, 3) := by decide +kernel
theorem dX6_nets_18 : decode cX6_nets 18 = .ok (.goto (-16), 3) := by decide +kernel
theorem dX6_nets_21 : decode cX6_nets 21 = .ok (.iconst 0, 1) := by decide +kernel
theorem dX6_nets_22 : decode cX6_nets 22 = .ok (.istore_n 2, 1) := by decide +kernel
theorem dX6_nets_23 : decode cX6_nets 23 = .ok (.iload_n 2, 1) := by decide +kernel
theorem dX6_nets_24 : decode cX6_nets 24 = .ok (.aload_n 0, 1) := by decide +kernel
theorem dX6_nets_25 : decode cX6_nets 25 = .ok (.getfield 76, 3) := by decide +kernel
theorem dX6_nets_28 : decode cX6_nets 28 = .ok (.if_icmp .ge 88, 3) := by decide +kernel
theorem dX6_nets_31 : decode cX6_nets 31 = .ok (.aload_n 0, 1) := by decide +kernel
theorem dX6_nets_32 : decode cX6_nets 32 = .ok (.getfield 38, 3) := by decide +kernel
theorem dX6_nets_35 : decode cX6_nets 35 = .ok (.aload_n 0, 1) := by decide +kernel
theorem dX6_nets_36 : decode cX6_nets 36 = .ok (.getfield 16, 3) := by decide +kernel
theorem dX6_nets_39 : decode cX6_nets 39 = .ok (.iload_n 2, 1) := by decide +kernel
theorem dX6_nets_40 : decode cX6_nets 40 = .ok (.iaload, 1) := by decide +kernel
theorem dX6_nets_41 : decode cX6_nets 41 = .ok (.iaload, 1) := by decide +kernel
theorem dX6_nets_42 : decode cX6_nets 42 = .ok (.istore_n 3, 1) := by decide +kernel
theorem dX6_nets_43 : decode cX6_nets 43 = .ok (.aload_n 0, 1) := by decide +kernel
theorem dX6_nets_44 : decode cX6_nets 44 = .ok (.getfield 38, 3) := by decide +kernel
theorem dX6_nets_47 : decode cX6_nets 47 = .ok (.bipush 10, 2) := by decide +kernel
theorem dX6_nets_49 : decode cX6_nets 49 = .ok (.aload_n 0, 1) := by decide +kernel
theorem dX6_nets_50 : decode cX6_nets 50 = .ok (.getfield 19, 3) := by decide +kernel
theorem dX6_nets_53 : decode cX6_nets 53 = .ok (.iload_n 2, 1) := by decide +kernel
theorem dX6_nets_54 : decode cX6_nets 54 = .ok (.iaload, 1) := by decide +kernel
theorem dX6_nets_55 : decode cX6_nets 55 = .ok (.iadd, 1) := by decide +kernel
theorem dX6_nets_56 : decode cX6_nets 56 = .ok (.iaload, 1) := by decide +kernel
theorem dX6_nets_57 : decode cX6_nets 57 = .ok (.istore 4, 2) := by decide +kernel
theorem dX6_nets_59 : decode cX6_nets 59 = .ok (.iconst 0, 1) := by decide +kernel
theorem dX6_nets_60 : decode cX6_nets 60 = .ok (.istore 5, 2) := by decide +kernel
theorem dX6_nets_62 : decode cX6_nets 62 = .ok (.iload 5, 2) := by decide +kernel
theorem dX6_nets_64 : decode cX6_nets 64 = .ok (.bipush 20, 2) := by decide +kernel
theorem dX6_nets_66 : decode cX6_nets 66 = .ok (.if_icmp .ge 44, 3) := by decide +kernel
theorem dX6_nets_69 : decode cX6_nets 69 = .ok (.aload_n 0, 1) := by decide +kernel
theorem dX6_nets_70 : decode cX6_nets 70 = .ok (.getfield 38, 3) := by decide +kernel
theorem dX6_nets_73 : decode cX6_nets 73 = .ok (.iload 5, 2) := by decide +kernel
theorem dX6_nets_75 : decode cX6_nets 75 = .ok (.iload_n 2, 1) := by decide +kernel
theorem dX6_nets_76 : decode cX6_nets 76 = .ok (.iload_n 1, 1) := by decide +kernel
theorem dX6_nets_77 : decode cX6_nets 77 = .ok (.if_icmp .eq 19, 3) := by decide +kernel
theorem dX6_nets_80 : decode cX6_nets 80 = .ok (.aload_n 0, 1) := by decide +kernel
theorem dX6_nets_81 : decode cX6_nets 81 = .ok (.getfield 38, 3) := by decide +kernel
theorem dX6_nets_84 : decode cX6_nets 84 = .ok (.iload 5, 2) := by decide +kernel
theorem dX6_nets_86 : decode cX6_nets 86 = .ok (.iaload, 1) := by decide +kernel
theorem dX6_nets_87 : decode cX6_nets 87 = .ok (.iload_n 3, 1) := by decide +kernel
theorem dX6_nets_88 : decode cX6_nets 88 = .ok (.if_icmp .ne 8, 3) := by decide +kernel
theorem dX6_nets_91 : decode cX6_nets 91 = .ok (.iload 4, 2) := by decide +kernel
theorem dX6_nets_93 : decode cX6_nets 93 = .ok (.goto 10, 3) := by decide +kernel
theorem dX6_nets_96 : decode cX6_nets 96 = .ok (.aload_n 0, 1) := by decide +kernel
theorem dX6_nets_97 : decode cX6_nets 97 = .ok (.getfield 38, 3) := by decide +kernel
theorem dX6_nets_100 : decode cX6_nets 100 = .ok (.iload 5, 2) := by decide +kernel
theorem dX6_nets_102 : decode cX6_nets 102 = .ok (.iaload, 1) := by decide +kernel
theorem dX6_nets_103 : decode cX6_nets 103 = .ok (.iastore, 1) := by decide +kernel
theorem dX6_nets_104 : decode cX6_nets 104 = .ok (.iinc 5 1, 3) := by decide +kernel
theorem dX6_nets_107 : decode cX6_nets 107 = .ok (.goto (-45), 3) := by decide +kernel
theorem dX6_nets_110 : decode cX6_nets 110 = .ok (.iinc 2 1, 3) := by decide +kernel
theorem dX6_nets_113 : decode cX6_nets 113 = .ok (.goto (-90), 3) := by decide +kernel
theorem dX6_nets_116 : decode cX6_nets 116 = .ok (.iconst 0, 1) := by decide +kernel
theorem dX6_nets_117 : decode cX6_nets 117 = .ok (.istore_n 2, 1) := by decide +kernel
theorem dX6_nets_118 : decode cX6_nets 118 = .ok (.iconst 0, 1) := by decide +kernel
theorem dX6_nets_119 : decode cX6_nets 119 = .ok (.istore_n 3, 1) := by decide +kernel
theorem dX6_nets_120 : decode cX6_nets 120 = .ok (.iload_n 3, 1) := by decide +kernel
theorem dX6_nets_121 : decode cX6_nets 121 = .ok (.bipush 20, 2) := by decide +kernel
theorem dX6_nets_123 : decode cX6_nets 123 = .ok (.if_icmp .ge 87, 3) := by decide +kernel
theorem dX6_nets_126 : decode cX6_nets 126 = .ok (.aload_n 0, 1) := by decide +kernel
theorem dX6_nets_127 : decode cX6_nets 127 = .ok (.iload_n 3, 1) := by decide +kernel
theorem dX6_nets_128 : decode cX6_nets 128 = .ok (.bipush 10, 2) := by decide +kernel
theorem dX6_nets_130 : decode cX6_nets 130 = .ok (.idiv, 1) := by decide +kernel
theorem dX6_nets_131 : decode cX6_nets 131 = .ok (.iload_n 3, 1) := by decide +kernel
theorem dX6_nets_132 : decode cX6_nets 132 = .ok (.bipush 10, 2) := by decide +kernel
theorem dX6_nets_134 : decode cX6_nets 134 = .ok (.irem, 1) := by decide +kernel
theorem dX6_nets_135 : decode cX6_nets 135 = .ok (.invokevirtual 63, 3) := by decide +kernel
theorem dX6_nets_138 : decode cX6_nets 138 = .ok (.ifCond .le 7, 3) := by decide +kernel
theorem dX6_nets_141 : decode cX6_nets 141 = .ok (.iconst 1, 1) := by decide +kernel
theorem dX6_nets_142 : decode cX6_nets 142 = .ok (.goto 4, 3) := by decide +kernel
theorem dX6_nets_145 : decode cX6_nets 145 = .ok (.iconst 0, 1) := by decide +kernel
theorem dX6_nets_146 : decode cX6_nets 146 = .ok (.istore 4, 2) := by decide +kernel
theorem dX6_nets_148 : decode cX6_nets 148 = .ok (.iconst 0, 1) := by decide +kernel
theorem dX6_nets_149 : decode cX6_nets 149 = .ok (.istore 5, 2) := by decide +kernel
theorem dX6_nets_151 : decode cX6_nets 151 = .ok (.iload 5, 2) := by decide +kernel
theorem dX6_nets_153 : decode cX6_nets 153 = .ok (.iload_n 3, 1) := by decide +kernel
theorem dX6_nets_154 : decode cX6_nets 154 = .ok (.if_icmp .ge 37, 3) := by decide +kernel
theorem dX6_nets_157 : decode cX6_nets 157 = .ok (.iload 4, 2) := by decide +kernel
theorem dX6_nets_159 : decode cX6_nets 159 = .ok (.ifCond .eq 23, 3) := by decide +kernel
theorem dX6_nets_162 : decode cX6_nets 162 = .ok (.aload_n 0, 1) := by decide +kernel
theorem dX6_nets_163 : decode cX6_nets 163 = .ok (.getfield 38, 3) := by decide +kernel
theorem dX6_nets_166 : decode cX6_nets 166 = .ok (.iload 5, 2) := by decide +kernel
theorem dX6_nets_168 : decode cX6_nets 168 = .ok (.iaload, 1) := by decide +kernel
theorem dX6_nets_169 : decode cX6_nets 169 = .ok (.aload_n 0, 1) := by decide +kernel
theorem dX6_nets_170 : decode cX6_nets 170 = .ok (.getfield 38, 3) := by decide +kernel
theorem dX6_nets_173 : decode cX6_nets 173 = .ok (.iload_n 3, 1) := by decide +kernel
theorem dX6_nets_174 : decode cX6_nets 174 = .ok (.iaload, 1) := by decide +kernel
theorem dX6_nets_175 : decode cX6_nets 175 = .ok (.if_icmp .eq 7, 3) := by decide +kernel
theorem dX6_nets_178 : decode cX6_nets 178 = .ok (.iconst 1, 1) := by decide +kernel
theorem dX6_nets_179 : decode cX6_nets 179 = .ok (.goto 4, 3) := by decide +kernel
theorem dX6_nets_182 : decode cX6_nets 182 = .ok (.iconst 0, 1) := by decide +kernel
theorem dX6_nets_183 : decode cX6_nets 183 = .ok (.istore 4, 2) := by decide +kernel
theorem dX6_nets_185 : decode cX6_nets 185 = .ok (.iinc 5 1, 3) := by decide +kernel
theorem dX6_nets_188 : decode cX6_nets 188 = .ok (.goto (-37), 3) := by decide +kernel
theorem dX6_nets_191 : decode cX6_nets 191 = .ok (.iload_n 2, 1) := by decide +kernel
theorem dX6_nets_192 : decode cX6_nets 192 = .ok (.iload 4, 2) := by decide +kernel
theorem dX6_nets_194 : decode cX6_nets 194 = .ok (.ifCond .eq 7, 3) := by decide +kernel
theorem dX6_nets_197 : decode cX6_nets 197 = .ok (.iconst 1, 1) := by decide +kernel
theorem dX6_nets_198 : decode cX6_nets 198 = .ok (.goto 4, 3) := by decide +kernel
theorem dX6_nets_201 : decode cX6_nets 201 = .ok (.iconst 0, 1) := by decide +kernel
theorem dX6_nets_202 : decode cX6_nets 202 = .ok (.iadd, 1) := by decide +kernel
theorem dX6_nets_203 : decode cX6_nets 203 = .ok (.istore_n 2, 1) := by decide +kernel
theorem dX6_nets_204 : decode cX6_nets 204 = .ok (.iinc 3 1, 3) := by decide +kernel
theorem dX6_nets_207 : decode cX6_nets 207 = .ok (.goto (-87), 3) := by decide +kernel
theorem dX6_nets_210 : decode cX6_nets 210 = .ok (.iload_n 2, 1) := by decide +kernel
theorem dX6_nets_211 : decode cX6_nets 211 = .ok (.ireturn, 1) := by decide +kernel
theorem dX6_componentCount_0 : decode cX6_componentCount 0 = .ok (.aload_n 0, 1) := by decide +kernel
theorem dX6_componentCount_1 : decode cX6_componentCount 1 = .ok (.invokevirtual 82, 3) := by decide +kernel
theorem dX6_componentCount_4 : decode cX6_componentCount 4 = .ok (.aload_n 0, 1) := by decide +kernel
theorem dX6_componentCount_5 : decode cX6_componentCount 5 = .ok (.iconst (-1), 1) := by decide +kernel
theorem dX6_componentCount_6 : decode cX6_componentCount 6 = .ok (.invokevirtual 85, 3) := by decide +kernel
theorem dX6_componentCount_9 : decode cX6_componentCount 9 = .ok (.ireturn, 1) := by decide +kernel
theorem dX6_componentSize_0 : decode cX6_componentSize 0 = .ok (.iload_n 1, 1) := by decide +kernel
theorem dX6_componentSize_1 : decode cX6_componentSize 1 = .ok (.iload_n 2, 1) := by decide +kernel
theorem dX6_componentSize_2 : decode cX6_componentSize 2 = .ok (.invokestatic 59, 3) := by decide +kernel
theorem dX6_componentSize_5 : decode cX6_componentSize 5 = .ok (.ifCond .ne 5, 3) := by decide +kernel
theorem dX6_componentSize_8 : decode cX6_componentSize 8 = .ok (.iconst (-1), 1) := by decide +kernel
theorem dX6_componentSize_9 : decode cX6_componentSize 9 = .ok (.ireturn, 1) := by decide +kernel
theorem dX6_componentSize_10 : decode cX6_componentSize 10 = .ok (.aload_n 0, 1) := by decide +kernel
theorem dX6_componentSize_11 : decode cX6_componentSize 11 = .ok (.iload_n 1, 1) := by decide +kernel
theorem dX6_componentSize_12 : decode cX6_componentSize 12 = .ok (.iload_n 2, 1) := by decide +kernel
theorem dX6_componentSize_13 : decode cX6_componentSize 13 = .ok (.invokevirtual 63, 3) := by decide +kernel
theorem dX6_componentSize_16 : decode cX6_componentSize 16 = .ok (.ifCond .ne 6, 3) := by decide +kernel
theorem dX6_componentSize_19 : decode cX6_componentSize 19 = .ok (.bipush (-3), 2) := by decide +kernel
theorem dX6_componentSize_21 : decode cX6_componentSize 21 = .ok (.ireturn, 1) := by decide +kernel
theorem dX6_componentSize_22 : decode cX6_componentSize 22 = .ok (.aload_n 0, 1) := by decide +kernel
theorem dX6_componentSize_23 : decode cX6_componentSize 23 = .ok (.invokevirtual 82, 3) := by decide +kernel
theorem dX6_componentSize_26 : decode cX6_componentSize 26 = .ok (.aload_n 0, 1) := by decide +kernel
theorem dX6_componentSize_27 : decode cX6_componentSize 27 = .ok (.iconst (-1), 1) := by decide +kernel
theorem dX6_componentSize_28 : decode cX6_componentSize 28 = .ok (.invokevirtual 85, 3) := by decide +kernel
theorem dX6_componentSize_31 : decode cX6_componentSize 31 = .ok (.pop, 1) := by decide +kernel
theorem dX6_componentSize_32 : decode cX6_componentSize 32 = .ok (.iconst 0, 1) := by decide +kernel
theorem dX6_componentSize_33 : decode cX6_componentSize 33 = .ok (.istore_n 3, 1) := by decide +kernel
theorem dX6_componentSize_34 : decode cX6_componentSize 34 = .ok (.iconst 0, 1) := by decide +kernel
theorem dX6_componentSize_35 : decode cX6_componentSize 35 = .ok (.istore 4, 2) := by decide +kernel
theorem dX6_componentSize_37 : decode cX6_componentSize 37 = .ok (.iload 4, 2) := by decide +kernel
theorem dX6_componentSize_39 : decode cX6_componentSize 39 = .ok (.bipush 20, 2) := by decide +kernel
theorem dX6_componentSize_41 : decode cX6_componentSize 41 = .ok (.if_icmp .ge 38, 3) := by decide +kernel
theorem dX6_componentSize_44 : decode cX6_componentSize 44 = .ok (.iload_n 3, 1) := by decide +kernel
theorem dX6_componentSize_45 : decode cX6_componentSize 45 = .ok (.aload_n 0, 1) := by decide +kernel
theorem dX6_componentSize_46 : decode cX6_componentSize 46 = .ok (.getfield 38, 3) := by decide +kernel
theorem dX6_componentSize_49 : decode cX6_componentSize 49 = .ok (.iload 4, 2) := by decide +kernel
theorem dX6_componentSize_51 : decode cX6_componentSize 51 = .ok (.iaload, 1) := by decide +kernel
theorem dX6_componentSize_52 : decode cX6_componentSize 52 = .ok (.aload_n 0, 1) := by decide +kernel
theorem dX6_componentSize_53 : decode cX6_componentSize 53 = .ok (.getfield 38, 3) := by decide +kernel
theorem dX6_componentSize_56 : decode cX6_componentSize 56 = .ok (.bipush 10, 2) := by decide +kernel
theorem dX6_componentSize_58 : decode cX6_componentSize 58 = .ok (.iload_n 1, 1) := by decide +kernel
theorem dX6_componentSize_59 : decode cX6_componentSize 59 = .ok (.imul, 1) := by decide +kernel
theorem dX6_componentSize_60 : decode cX6_componentSize 60 = .ok (.iload_n 2, 1) := by decide +kernel
theorem dX6_componentSize_61 : decode cX6_componentSize 61 = .ok (.iadd, 1) := by decide +kernel
theorem dX6_componentSize_62 : decode cX6_componentSize 62 = .ok (.iaload, 1) := by decide +kernel
theorem dX6_componentSize_63 : decode cX6_componentSize 63 = .ok (.if_icmp .ne 7, 3) := by decide +kernel
theorem dX6_componentSize_66 : decode cX6_componentSize 66 = .ok (.iconst 1, 1) := by decide +kernel
theorem dX6_componentSize_67 : decode cX6_componentSize 67 = .ok (.goto 4, 3) := by decide +kernel
theorem dX6_componentSize_70 : decode cX6_componentSize 70 = .ok (.iconst 0, 1) := by decide +kernel
theorem dX6_componentSize_71 : decode cX6_componentSize 71 = .ok (.iadd, 1) := by decide +kernel
theorem dX6_componentSize_72 : decode cX6_componentSize 72 = .ok (.istore_n 3, 1) := by decide +kernel
theorem dX6_componentSize_73 : decode cX6_componentSize 73 = .ok (.iinc 4 1, 3) := by decide +kernel
theorem dX6_componentSize_76 : decode cX6_componentSize 76 = .ok (.goto (-39), 3) := by decide +kernel
theorem dX6_componentSize_79 : decode cX6_componentSize 79 = .ok (.iload_n 3, 1) := by decide +kernel
theorem dX6_componentSize_80 : decode cX6_componentSize 80 = .ok (.ireturn, 1) := by decide +kernel
theorem dX6_cycleRank_0 : decode cX6_cycleRank 0 = .ok (.aload_n 0, 1) := by decide +kernel
theorem dX6_cycleRank_1 : decode cX6_cycleRank 1 = .ok (.invokevirtual 82, 3) := by decide +kernel
theorem dX6_cycleRank_4 : decode cX6_cycleRank 4 = .ok (.aload_n 0, 1) := by decide +kernel
theorem dX6_cycleRank_5 : decode cX6_cycleRank 5 = .ok (.getfield 76, 3) := by decide +kernel
theorem dX6_cycleRank_8 : decode cX6_cycleRank 8 = .ok (.aload_n 0, 1) := by decide +kernel
theorem dX6_cycleRank_9 : decode cX6_cycleRank 9 = .ok (.iconst 0, 1) := by decide +kernel
theorem dX6_cycleRank_10 : decode cX6_cycleRank 10 = .ok (.invokevirtual 67, 3) := by decide +kernel
theorem dX6_cycleRank_13 : decode cX6_cycleRank 13 = .ok (.isub, 1) := by decide +kernel
theorem dX6_cycleRank_14 : decode cX6_cycleRank 14 = .ok (.aload_n 0, 1) := by decide +kernel
theorem dX6_cycleRank_15 : decode cX6_cycleRank 15 = .ok (.iconst 1, 1) := by decide +kernel
theorem dX6_cycleRank_16 : decode cX6_cycleRank 16 = .ok (.invokevirtual 67, 3) := by decide +kernel
theorem dX6_cycleRank_19 : decode cX6_cycleRank 19 = .ok (.isub, 1) := by decide +kernel
theorem dX6_cycleRank_20 : decode cX6_cycleRank 20 = .ok (.aload_n 0, 1) := by decide +kernel
theorem dX6_cycleRank_21 : decode cX6_cycleRank 21 = .ok (.iconst (-1), 1) := by decide +kernel
theorem dX6_cycleRank_22 : decode cX6_cycleRank 22 = .ok (.invokevirtual 85, 3) := by decide +kernel
theorem dX6_cycleRank_25 : decode cX6_cycleRank 25 = .ok (.iadd, 1) := by decide +kernel
theorem dX6_cycleRank_26 : decode cX6_cycleRank 26 = .ok (.ireturn, 1) := by decide +kernel
theorem dX6_bridgeCount_0 : decode cX6_bridgeCount 0 = .ok (.aload_n 0, 1) := by decide +kernel
theorem dX6_bridgeCount_1 : decode cX6_bridgeCount 1 = .ok (.invokevirtual 82, 3) := by decide +kernel
theorem dX6_bridgeCount_4 : decode cX6_bridgeCount 4 = .ok (.aload_n 0, 1) := by decide +kernel
theorem dX6_bridgeCount_5 : decode cX6_bridgeCount 5 = .ok (.iconst (-1), 1) := by decide +kernel
theorem dX6_bridgeCount_6 : decode cX6_bridgeCount 6 = .ok (.invokevirtual 85, 3) := by decide +kernel
theorem dX6_bridgeCount_9 : decode cX6_bridgeCount 9 = .ok (.istore_n 1, 1) := by decide +kernel
theorem dX6_bridgeCount_10 : decode cX6_bridgeCount 10 = .ok (.iconst 0, 1) := by decide +kernel
theorem dX6_bridgeCount_11 : decode cX6_bridgeCount 11 = .ok (.istore_n 2, 1) := by decide +kernel
theorem dX6_bridgeCount_12 : decode cX6_bridgeCount 12 = .ok (.iconst 0, 1) := by decide +kernel
theorem dX6_bridgeCount_13 : decode cX6_bridgeCount 13 = .ok (.istore_n 3, 1) := by decide +kernel
theorem dX6_bridgeCount_14 : decode cX6_bridgeCount 14 = .ok (.iload_n 3, 1) := by decide +kernel
theorem dX6_bridgeCount_15 : decode cX6_bridgeCount 15 = .ok (.aload_n 0, 1) := by decide +kernel
theorem dX6_bridgeCount_16 : decode cX6_bridgeCount 16 = .ok (.getfield 76, 3) := by decide +kernel
theorem dX6_bridgeCount_19 : decode cX6_bridgeCount 19 = .ok (.if_icmp .ge 26, 3) := by decide +kernel
theorem dX6_bridgeCount_22 : decode cX6_bridgeCount 22 = .ok (.iload_n 2, 1) := by decide +kernel
theorem dX6_bridgeCount_23 : decode cX6_bridgeCount 23 = .ok (.aload_n 0, 1) := by decide +kernel
theorem dX6_bridgeCount_24 : decode cX6_bridgeCount 24 = .ok (.iload_n 3, 1) := by decide +kernel
theorem dX6_bridgeCount_25 : decode cX6_bridgeCount 25 = .ok (.invokevirtual 85, 3) := by decide +kernel
theorem dX6_bridgeCount_28 : decode cX6_bridgeCount 28 = .ok (.iload_n 1, 1) := by decide +kernel
theorem dX6_bridgeCount_29 : decode cX6_bridgeCount 29 = .ok (.if_icmp .le 7, 3) := by decide +kernel
theorem dX6_bridgeCount_32 : decode cX6_bridgeCount 32 = .ok (.iconst 1, 1) := by decide +kernel
theorem dX6_bridgeCount_33 : decode cX6_bridgeCount 33 = .ok (.goto 4, 3) := by decide +kernel
theorem dX6_bridgeCount_36 : decode cX6_bridgeCount 36 = .ok (.iconst 0, 1) := by decide +kernel
theorem dX6_bridgeCount_37 : decode cX6_bridgeCount 37 = .ok (.iadd, 1) := by decide +kernel
theorem dX6_bridgeCount_38 : decode cX6_bridgeCount 38 = .ok (.istore_n 2, 1) := by decide +kernel
theorem dX6_bridgeCount_39 : decode cX6_bridgeCount 39 = .ok (.iinc 3 1, 3) := by decide +kernel
theorem dX6_bridgeCount_42 : decode cX6_bridgeCount 42 = .ok (.goto (-28), 3) := by decide +kernel
theorem dX6_bridgeCount_45 : decode cX6_bridgeCount 45 = .ok (.iload_n 2, 1) := by decide +kernel
theorem dX6_bridgeCount_46 : decode cX6_bridgeCount 46 = .ok (.ireturn, 1) := by decide +kernel
theorem dX6_isBridge_0 : decode cX6_isBridge 0 = .ok (.iload_n 1, 1) := by decide +kernel
theorem dX6_isBridge_1 : decode cX6_isBridge 1 = .ok (.ifCond .ge 5, 3) := by decide +kernel
theorem dX6_isBridge_4 : decode cX6_isBridge 4 = .ok (.iconst (-1), 1) := by decide +kernel
theorem dX6_isBridge_5 : decode cX6_isBridge 5 = .ok (.ireturn, 1) := by decide +kernel
theorem dX6_isBridge_6 : decode cX6_isBridge 6 = .ok (.aload_n 0, 1) := by decide +kernel
theorem dX6_isBridge_7 : decode cX6_isBridge 7 = .ok (.invokevirtual 82, 3) := by decide +kernel
theorem dX6_isBridge_10 : decode cX6_isBridge 10 = .ok (.iload_n 1, 1) := by decide +kernel
theorem dX6_isBridge_11 : decode cX6_isBridge 11 = .ok (.aload_n 0, 1) := by decide +kernel
theorem dX6_isBridge_12 : decode cX6_isBridge 12 = .ok (.getfield 76, 3) := by decide +kernel
theorem dX6_isBridge_15 : decode cX6_isBridge 15 = .ok (.if_icmp .lt 8, 3) := by decide +kernel
theorem dX6_isBridge_18 : decode cX6_isBridge 18 = .ok (.bipush (-3), 2) := by decide +kernel
theorem dX6_isBridge_20 : decode cX6_isBridge 20 = .ok (.goto 21, 3) := by decide +kernel
theorem dX6_isBridge_23 : decode cX6_isBridge 23 = .ok (.aload_n 0, 1) := by decide +kernel
theorem dX6_isBridge_24 : decode cX6_isBridge 24 = .ok (.iload_n 1, 1) := by decide +kernel
theorem dX6_isBridge_25 : decode cX6_isBridge 25 = .ok (.invokevirtual 85, 3) := by decide +kernel
theorem dX6_isBridge_28 : decode cX6_isBridge 28 = .ok (.aload_n 0, 1) := by decide +kernel
theorem dX6_isBridge_29 : decode cX6_isBridge 29 = .ok (.iconst (-1), 1) := by decide +kernel
theorem dX6_isBridge_30 : decode cX6_isBridge 30 = .ok (.invokevirtual 85, 3) := by decide +kernel
theorem dX6_isBridge_33 : decode cX6_isBridge 33 = .ok (.if_icmp .le 7, 3) := by decide +kernel
theorem dX6_isBridge_36 : decode cX6_isBridge 36 = .ok (.iconst 1, 1) := by decide +kernel
theorem dX6_isBridge_37 : decode cX6_isBridge 37 = .ok (.goto 4, 3) := by decide +kernel
theorem dX6_isBridge_40 : decode cX6_isBridge 40 = .ok (.iconst 0, 1) := by decide +kernel
theorem dX6_isBridge_41 : decode cX6_isBridge 41 = .ok (.ireturn, 1) := by decide +kernel
theorem dX6_isBy_0 : decode cX6_isBy 0 = .ok (.aload_n 0, 1) := by decide +kernel
theorem dX6_isBy_1 : decode cX6_isBy 1 = .ok (.getfield 25, 3) := by decide +kernel
theorem dX6_isBy_4 : decode cX6_isBy 4 = .ok (.bipush 24, 2) := by decide +kernel
theorem dX6_isBy_6 : decode cX6_isBy 6 = .ok (.iload_n 3, 1) := by decide +kernel
theorem dX6_isBy_7 : decode cX6_isBy 7 = .ok (.imul, 1) := by decide +kernel
theorem dX6_isBy_8 : decode cX6_isBy 8 = .ok (.iload_n 1, 1) := by decide +kernel
theorem dX6_isBy_9 : decode cX6_isBy 9 = .ok (.iadd, 1) := by decide +kernel
theorem dX6_isBy_10 : decode cX6_isBy 10 = .ok (.iaload, 1) := by decide +kernel
theorem dX6_isBy_11 : decode cX6_isBy 11 = .ok (.aload_n 0, 1) := by decide +kernel
theorem dX6_isBy_12 : decode cX6_isBy 12 = .ok (.getfield 22, 3) := by decide +kernel
theorem dX6_isBy_15 : decode cX6_isBy 15 = .ok (.bipush 24, 2) := by decide +kernel
theorem dX6_isBy_17 : decode cX6_isBy 17 = .ok (.iload_n 3, 1) := by decide +kernel
theorem dX6_isBy_18 : decode cX6_isBy 18 = .ok (.imul, 1) := by decide +kernel
theorem dX6_isBy_19 : decode cX6_isBy 19 = .ok (.iload_n 2, 1) := by decide +kernel
theorem dX6_isBy_20 : decode cX6_isBy 20 = .ok (.iadd, 1) := by decide +kernel
theorem dX6_isBy_21 : decode cX6_isBy 21 = .ok (.iaload, 1) := by decide +kernel
theorem dX6_isBy_22 : decode cX6_isBy 22 = .ok (.if_icmp .gt 32, 3) := by decide +kernel
theorem dX6_isBy_25 : decode cX6_isBy 25 = .ok (.aload_n 0, 1) := by decide +kernel
theorem dX6_isBy_26 : decode cX6_isBy 26 = .ok (.getfield 22, 3) := by decide +kernel
theorem dX6_isBy_29 : decode cX6_isBy 29 = .ok (.bipush 24, 2) := by decide +kernel
theorem dX6_isBy_31 : decode cX6_isBy 31 = .ok (.iload_n 3, 1) := by decide +kernel
theorem dX6_isBy_32 : decode cX6_isBy 32 = .ok (.imul, 1) := by decide +kernel
theorem dX6_isBy_33 : decode cX6_isBy 33 = .ok (.iload_n 1, 1) := by decide +kernel
theorem dX6_isBy_34 : decode cX6_isBy 34 = .ok (.iadd, 1) := by decide +kernel
theorem dX6_isBy_35 : decode cX6_isBy 35 = .ok (.iaload, 1) := by decide +kernel
theorem dX6_isBy_36 : decode cX6_isBy 36 = .ok (.aload_n 0, 1) := by decide +kernel
theorem dX6_isBy_37 : decode cX6_isBy 37 = .ok (.getfield 25, 3) := by decide +kernel
theorem dX6_isBy_40 : decode cX6_isBy 40 = .ok (.bipush 24, 2) := by decide +kernel
theorem dX6_isBy_42 : decode cX6_isBy 42 = .ok (.iload_n 3, 1) := by decide +kernel
theorem dX6_isBy_43 : decode cX6_isBy 43 = .ok (.imul, 1) := by decide +kernel
theorem dX6_isBy_44 : decode cX6_isBy 44 = .ok (.iload_n 2, 1) := by decide +kernel
theorem dX6_isBy_45 : decode cX6_isBy 45 = .ok (.iadd, 1) := by decide +kernel
theorem dX6_isBy_46 : decode cX6_isBy 46 = .ok (.iaload, 1) := by decide +kernel
theorem dX6_isBy_47 : decode cX6_isBy 47 = .ok (.if_icmp .ge 7, 3) := by decide +kernel
theorem dX6_isBy_50 : decode cX6_isBy 50 = .ok (.iconst 1, 1) := by decide +kernel
theorem dX6_isBy_51 : decode cX6_isBy 51 = .ok (.goto 4, 3) := by decide +kernel
theorem dX6_isBy_54 : decode cX6_isBy 54 = .ok (.iconst 0, 1) := by decide +kernel
theorem dX6_isBy_55 : decode cX6_isBy 55 = .ok (.ireturn, 1) := by decide +kernel
theorem dX6_isEarlier_0 : decode cX6_isEarlier 0 = .ok (.iload_n 1, 1) := by decide +kernel
theorem dX6_isEarlier_1 : decode cX6_isEarlier 1 = .ok (.iload_n 2, 1) := by decide +kernel
theorem dX6_isEarlier_2 : decode cX6_isEarlier 2 = .ok (.if_icmp .ne 5, 3) := by decide +kernel
theorem dX6_isEarlier_5 : decode cX6_isEarlier 5 = .ok (.iconst 0, 1) := by decide +kernel
theorem dX6_isEarlier_6 : decode cX6_isEarlier 6 = .ok (.ireturn, 1) := by decide +kernel
theorem dX6_isEarlier_7 : decode cX6_isEarlier 7 = .ok (.aload_n 0, 1) := by decide +kernel
theorem dX6_isEarlier_8 : decode cX6_isEarlier 8 = .ok (.getfield 16, 3) := by decide +kernel
theorem dX6_isEarlier_11 : decode cX6_isEarlier 11 = .ok (.iload_n 1, 1) := by decide +kernel
theorem dX6_isEarlier_12 : decode cX6_isEarlier 12 = .ok (.iaload, 1) := by decide +kernel
theorem dX6_isEarlier_13 : decode cX6_isEarlier 13 = .ok (.aload_n 0, 1) := by decide +kernel
theorem dX6_isEarlier_14 : decode cX6_isEarlier 14 = .ok (.getfield 16, 3) := by decide +kernel
theorem dX6_isEarlier_17 : decode cX6_isEarlier 17 = .ok (.iload_n 2, 1) := by decide +kernel
theorem dX6_isEarlier_18 : decode cX6_isEarlier 18 = .ok (.iaload, 1) := by decide +kernel
theorem dX6_isEarlier_19 : decode cX6_isEarlier 19 = .ok (.if_icmp .ne 13, 3) := by decide +kernel
theorem dX6_isEarlier_22 : decode cX6_isEarlier 22 = .ok (.aload_n 0, 1) := by decide +kernel
theorem dX6_isEarlier_23 : decode cX6_isEarlier 23 = .ok (.iload_n 1, 1) := by decide +kernel
theorem dX6_isEarlier_24 : decode cX6_isEarlier 24 = .ok (.iload_n 2, 1) := by decide +kernel
theorem dX6_isEarlier_25 : decode cX6_isEarlier 25 = .ok (.iconst 0, 1) := by decide +kernel
theorem dX6_isEarlier_26 : decode cX6_isEarlier 26 = .ok (.invokevirtual 88, 3) := by decide +kernel
theorem dX6_isEarlier_29 : decode cX6_isEarlier 29 = .ok (.goto 33, 3) := by decide +kernel
theorem dX6_isEarlier_32 : decode cX6_isEarlier 32 = .ok (.aload_n 0, 1) := by decide +kernel
theorem dX6_isEarlier_33 : decode cX6_isEarlier 33 = .ok (.getfield 19, 3) := by decide +kernel
theorem dX6_isEarlier_36 : decode cX6_isEarlier 36 = .ok (.iload_n 1, 1) := by decide +kernel
theorem dX6_isEarlier_37 : decode cX6_isEarlier 37 = .ok (.iaload, 1) := by decide +kernel
theorem dX6_isEarlier_38 : decode cX6_isEarlier 38 = .ok (.aload_n 0, 1) := by decide +kernel
theorem dX6_isEarlier_39 : decode cX6_isEarlier 39 = .ok (.getfield 19, 3) := by decide +kernel
theorem dX6_isEarlier_42 : decode cX6_isEarlier 42 = .ok (.iload_n 2, 1) := by decide +kernel
theorem dX6_isEarlier_43 : decode cX6_isEarlier 43 = .ok (.iaload, 1) := by decide +kernel
theorem dX6_isEarlier_44 : decode cX6_isEarlier 44 = .ok (.if_icmp .ne 17, 3) := by decide +kernel
theorem dX6_isEarlier_47 : decode cX6_isEarlier 47 = .ok (.aload_n 0, 1) := by decide +kernel
theorem dX6_isEarlier_48 : decode cX6_isEarlier 48 = .ok (.iload_n 1, 1) := by decide +kernel
theorem dX6_isEarlier_49 : decode cX6_isEarlier 49 = .ok (.iload_n 2, 1) := by decide +kernel
theorem dX6_isEarlier_50 : decode cX6_isEarlier 50 = .ok (.iconst 1, 1) := by decide +kernel
theorem dX6_isEarlier_51 : decode cX6_isEarlier 51 = .ok (.invokevirtual 88, 3) := by decide +kernel
theorem dX6_isEarlier_54 : decode cX6_isEarlier 54 = .ok (.ifCond .eq 7, 3) := by decide +kernel
theorem dX6_isEarlier_57 : decode cX6_isEarlier 57 = .ok (.iconst 1, 1) := by decide +kernel
theorem dX6_isEarlier_58 : decode cX6_isEarlier 58 = .ok (.goto 4, 3) := by decide +kernel
theorem dX6_isEarlier_61 : decode cX6_isEarlier 61 = .ok (.iconst 0, 1) := by decide +kernel
theorem dX6_isEarlier_62 : decode cX6_isEarlier 62 = .ok (.ireturn, 1) := by decide +kernel
theorem dX6_compareCouples_0 : decode cX6_compareCouples 0 = .ok (.aload_n 0, 1) := by decide +kernel
theorem dX6_compareCouples_1 : decode cX6_compareCouples 1 = .ok (.invokevirtual 82, 3) := by decide +kernel
theorem dX6_compareCouples_4 : decode cX6_compareCouples 4 = .ok (.iload_n 1, 1) := by decide +kernel
theorem dX6_compareCouples_5 : decode cX6_compareCouples 5 = .ok (.iconst 0, 1) := by decide +kernel
theorem dX6_compareCouples_6 : decode cX6_compareCouples 6 = .ok (.aload_n 0, 1) := by decide +kernel
theorem dX6_compareCouples_7 : decode cX6_compareCouples 7 = .ok (.getfield 76, 3) := by decide +kernel
theorem dX6_compareCouples_10 : decode cX6_compareCouples 10 = .ok (.iconst 1, 1) := by decide +kernel
theorem dX6_compareCouples_11 : decode cX6_compareCouples 11 = .ok (.isub, 1) := by decide +kernel
theorem dX6_compareCouples_12 : decode cX6_compareCouples 12 = .ok (.invokestatic 45, 3) := by decide +kernel
theorem dX6_compareCouples_15 : decode cX6_compareCouples 15 = .ok (.ifCond .eq 22, 3) := by decide +kernel
theorem dX6_compareCouples_18 : decode cX6_compareCouples 18 = .ok (.iload_n 2, 1) := by decide +kernel
theorem dX6_compareCouples_19 : decode cX6_compareCouples 19 = .ok (.iconst 0, 1) := by decide +kernel
theorem dX6_compareCouples_20 : decode cX6_compareCouples 20 = .ok (.aload_n 0, 1) := by decide +kernel
theorem dX6_compareCouples_21 : decode cX6_compareCouples 21 = .ok (.getfield 76, 3) := by decide +kernel
theorem dX6_compareCouples_24 : decode cX6_compareCouples 24 = .ok (.iconst 1, 1) := by decide +kernel
theorem dX6_compareCouples_25 : decode cX6_compareCouples 25 = .ok (.isub, 1) := by decide +kernel
theorem dX6_compareCouples_26 : decode cX6_compareCouples 26 = .ok (.invokestatic 45, 3) := by decide +kernel
theorem dX6_compareCouples_29 : decode cX6_compareCouples 29 = .ok (.ifCond .eq 8, 3) := by decide +kernel
theorem dX6_compareCouples_32 : decode cX6_compareCouples 32 = .ok (.iload_n 1, 1) := by decide +kernel
theorem dX6_compareCouples_33 : decode cX6_compareCouples 33 = .ok (.iload_n 2, 1) := by decide +kernel
theorem dX6_compareCouples_34 : decode cX6_compareCouples 34 = .ok (.if_icmp .ne 5, 3) := by decide +kernel
theorem dX6_compareCouples_37 : decode cX6_compareCouples 37 = .ok (.iconst (-1), 1) := by decide +kernel
theorem dX6_compareCouples_38 : decode cX6_compareCouples 38 = .ok (.ireturn, 1) := by decide +kernel
theorem dX6_compareCouples_39 : decode cX6_compareCouples 39 = .ok (.aload_n 0, 1) := by decide +kernel
theorem dX6_compareCouples_40 : decode cX6_compareCouples 40 = .ok (.iload_n 1, 1) := by decide +kernel
theorem dX6_compareCouples_41 : decode cX6_compareCouples 41 = .ok (.iload_n 2, 1) := by decide +kernel
theorem dX6_compareCouples_42 : decode cX6_compareCouples 42 = .ok (.invokevirtual 91, 3) := by decide +kernel
theorem dX6_compareCouples_45 : decode cX6_compareCouples 45 = .ok (.ifCond .eq 7, 3) := by decide +kernel
theorem dX6_compareCouples_48 : decode cX6_compareCouples 48 = .ok (.iconst 1, 1) := by decide +kernel
theorem dX6_compareCouples_49 : decode cX6_compareCouples 49 = .ok (.goto 17, 3) := by decide +kernel
theorem dX6_compareCouples_52 : decode cX6_compareCouples 52 = .ok (.aload_n 0, 1) := by decide +kernel
theorem dX6_compareCouples_53 : decode cX6_compareCouples 53 = .ok (.iload_n 2, 1) := by decide +kernel
theorem dX6_compareCouples_54 : decode cX6_compareCouples 54 = .ok (.iload_n 1, 1) := by decide +kernel
theorem dX6_compareCouples_55 : decode cX6_compareCouples 55 = .ok (.invokevirtual 91, 3) := by decide +kernel
theorem dX6_compareCouples_58 : decode cX6_compareCouples 58 = .ok (.ifCond .eq 7, 3) := by decide +kernel
theorem dX6_compareCouples_61 : decode cX6_compareCouples 61 = .ok (.iconst 2, 1) := by decide +kernel
theorem dX6_compareCouples_62 : decode cX6_compareCouples 62 = .ok (.goto 4, 3) := by decide +kernel
theorem dX6_compareCouples_65 : decode cX6_compareCouples 65 = .ok (.iconst 0, 1) := by decide +kernel
theorem dX6_compareCouples_66 : decode cX6_compareCouples 66 = .ok (.ireturn, 1) := by decide +kernel
theorem dX6_places_0 : decode cX6_places 0 = .ok (.iconst 0, 1) := by decide +kernel
theorem dX6_places_1 : decode cX6_places 1 = .ok (.istore_n 1, 1) := by decide +kernel
theorem dX6_places_2 : decode cX6_places 2 = .ok (.iload_n 1, 1) := by decide +kernel
theorem dX6_places_3 : decode cX6_places 3 = .ok (.aload_n 0, 1) := by decide +kernel
theorem dX6_places_4 : decode cX6_places 4 = .ok (.getfield 76, 3) := by decide +kernel
theorem dX6_places_7 : decode cX6_places 7 = .ok (.if_icmp .ge 23, 3) := by decide +kernel
theorem dX6_places_10 : decode cX6_places 10 = .ok (.aload_n 0, 1) := by decide +kernel
theorem dX6_places_11 : decode cX6_places 11 = .ok (.getfield 34, 3) := by decide +kernel
theorem dX6_places_14 : decode cX6_places 14 = .ok (.iload_n 1, 1) := by decide +kernel
theorem dX6_places_15 : decode cX6_places 15 = .ok (.iconst 0, 1) := by decide +kernel
theorem dX6_places_16 : decode cX6_places 16 = .ok (.bastore, 1) := by decide +kernel
theorem dX6_places_17 : decode cX6_places 17 = .ok (.aload_n 0, 1) := by decide +kernel
theorem dX6_places_18 : decode cX6_places 18 = .ok (.getfield 31, 3) := by decide +kernel
theorem dX6_places_21 : decode cX6_places 21 = .ok (.iload_n 1, 1) := by decide +kernel
theorem dX6_places_22 : decode cX6_places 22 = .ok (.iconst 0, 1) := by decide +kernel
theorem dX6_places_23 : decode cX6_places 23 = .ok (.iastore, 1) := by decide +kernel
theorem dX6_places_24 : decode cX6_places 24 = .ok (.iinc 1 1, 3) := by decide +kernel
theorem dX6_places_27 : decode cX6_places 27 = .ok (.goto (-25), 3) := by decide +kernel
theorem dX6_places_30 : decode cX6_places 30 = .ok (.iconst 0, 1) := by decide +kernel
theorem dX6_places_31 : decode cX6_places 31 = .ok (.istore_n 1, 1) := by decide +kernel
theorem dX6_places_32 : decode cX6_places 32 = .ok (.iload_n 1, 1) := by decide +kernel
theorem dX6_places_33 : decode cX6_places 33 = .ok (.aload_n 0, 1) := by decide +kernel
theorem dX6_places_34 : decode cX6_places 34 = .ok (.getfield 76, 3) := by decide +kernel
theorem dX6_places_37 : decode cX6_places 37 = .ok (.if_icmp .ge 192, 3) := by decide +kernel
theorem dX6_places_40 : decode cX6_places 40 = .ok (.iconst (-1), 1) := by decide +kernel
theorem dX6_places_41 : decode cX6_places 41 = .ok (.istore_n 2, 1) := by decide +kernel
theorem dX6_places_42 : decode cX6_places 42 = .ok (.aload_n 0, 1) := by decide +kernel
theorem dX6_places_43 : decode cX6_places 43 = .ok (.getfield 76, 3) := by decide +kernel
theorem dX6_places_46 : decode cX6_places 46 = .ok (.iconst 1, 1) := by decide +kernel
theorem dX6_places_47 : decode cX6_places 47 = .ok (.isub, 1) := by decide +kernel
theorem dX6_places_48 : decode cX6_places 48 = .ok (.istore_n 3, 1) := by decide +kernel
theorem dX6_places_49 : decode cX6_places 49 = .ok (.iload_n 3, 1) := by decide +kernel
theorem dX6_places_50 : decode cX6_places 50 = .ok (.ifCond .lt 86, 3) := by decide +kernel
theorem dX6_places_53 : decode cX6_places 53 = .ok (.aload_n 0, 1) := by decide +kernel
theorem dX6_places_54 : decode cX6_places 54 = .ok (.getfield 34, 3) := by decide +kernel
theorem dX6_places_57 : decode cX6_places 57 = .ok (.iload_n 3, 1) := by decide +kernel
theorem dX6_places_58 : decode cX6_places 58 = .ok (.baload, 1) := by decide +kernel
theorem dX6_places_59 : decode cX6_places 59 = .ok (.ifCond .ne 7, 3) := by decide +kernel
theorem dX6_places_62 : decode cX6_places 62 = .ok (.iconst 1, 1) := by decide +kernel
theorem dX6_places_63 : decode cX6_places 63 = .ok (.goto 4, 3) := by decide +kernel
theorem dX6_places_66 : decode cX6_places 66 = .ok (.iconst 0, 1) := by decide +kernel
theorem dX6_places_67 : decode cX6_places 67 = .ok (.istore 4, 2) := by decide +kernel
theorem dX6_places_69 : decode cX6_places 69 = .ok (.iconst 0, 1) := by decide +kernel
theorem dX6_places_70 : decode cX6_places 70 = .ok (.istore 5, 2) := by decide +kernel
theorem dX6_places_72 : decode cX6_places 72 = .ok (.iload 5, 2) := by decide +kernel
theorem dX6_places_74 : decode cX6_places 74 = .ok (.aload_n 0, 1) := by decide +kernel
theorem dX6_places_75 : decode cX6_places 75 = .ok (.getfield 76, 3) := by decide +kernel
theorem dX6_places_78 : decode cX6_places 78 = .ok (.if_icmp .ge 41, 3) := by decide +kernel
theorem dX6_places_81 : decode cX6_places 81 = .ok (.iload 4, 2) := by decide +kernel
theorem dX6_places_83 : decode cX6_places 83 = .ok (.ifCond .eq 27, 3) := by decide +kernel
theorem dX6_places_86 : decode cX6_places 86 = .ok (.aload_n 0, 1) := by decide +kernel
theorem dX6_places_87 : decode cX6_places 87 = .ok (.getfield 34, 3) := by decide +kernel
theorem dX6_places_90 : decode cX6_places 90 = .ok (.iload 5, 2) := by decide +kernel
theorem dX6_places_92 : decode cX6_places 92 = .ok (.baload, 1) := by decide +kernel
theorem dX6_places_93 : decode cX6_places 93 = .ok (.ifCond .ne 13, 3) := by decide +kernel
theorem dX6_places_96 : decode cX6_places 96 = .ok (.aload_n 0, 1) := by decide +kernel
theorem dX6_places_97 : decode cX6_places 97 = .ok (.iload 5, 2) := by decide +kernel
theorem dX6_places_99 : decode cX6_places 99 = .ok (.iload_n 3, 1) := by decide +kernel
theorem dX6_places_100 : decode cX6_places 100 = .ok (.invokevirtual 91, 3) := by decide +kernel
theorem dX6_places_103 : decode cX6_places 103 = .ok (.ifCond .ne 7, 3) := by decide +kernel
theorem dX6_places_106 : decode cX6_places 106 = .ok (.iconst 1, 1) := by decide +kernel
theorem dX6_places_107 : decode cX6_places 107 = .ok (.goto 4, 3) := by decide +kernel
theorem dX6_places_110 : decode cX6_places 110 = .ok (.iconst 0, 1) := by decide +kernel
theorem dX6_places_111 : decode cX6_places 111 = .ok (.istore 4, 2) := by decide +kernel
theorem dX6_places_113 : decode cX6_places 113 = .ok (.iinc 5 1, 3) := by decide +kernel
theorem dX6_places_116 : decode cX6_places 116 = .ok (.goto (-44), 3) := by decide +kernel
theorem dX6_places_119 : decode cX6_places 119 = .ok (.iload 4, 2) := by decide +kernel
theorem dX6_places_121 : decode cX6_places 121 = .ok (.ifCond .eq 7, 3) := by decide +kernel
theorem dX6_places_124 : decode cX6_places 124 = .ok (.iload_n 3, 1) := by decide +kernel
theorem dX6_places_125 : decode cX6_places 125 = .ok (.goto 4, 3) := by decide +kernel
theorem dX6_places_128 : decode cX6_places 128 = .ok (.iload_n 2, 1) := by decide +kernel
theorem dX6_places_129 : decode cX6_places 129 = .ok (.istore_n 2, 1) := by decide +kernel
theorem dX6_places_130 : decode cX6_places 130 = .ok (.iinc 3 (-1), 3) := by decide +kernel
theorem dX6_places_133 : decode cX6_places 133 = .ok (.goto (-84), 3) := by decide +kernel
theorem dX6_places_136 : decode cX6_places 136 = .ok (.iload_n 2, 1) := by decide +kernel
theorem dX6_places_137 : decode cX6_places 137 = .ok (.ifCond .ge 5, 3) := by decide +kernel
theorem dX6_places_140 : decode cX6_places 140 = .ok (.iconst 0, 1) := by decide +kernel
theorem dX6_places_141 : decode cX6_places 141 = .ok (.ireturn, 1) := by decide +kernel
theorem dX6_places_142 : decode cX6_places 142 = .ok (.iconst 0, 1) := by decide +kernel
theorem dX6_places_143 : decode cX6_places 143 = .ok (.istore_n 3, 1) := by decide +kernel
theorem dX6_places_144 : decode cX6_places 144 = .ok (.iload_n 3, 1) := by decide +kernel
theorem dX6_places_145 : decode cX6_places 145 = .ok (.aload_n 0, 1) := by decide +kernel
theorem dX6_places_146 : decode cX6_places 146 = .ok (.getfield 76, 3) := by decide +kernel
theorem dX6_places_149 : decode cX6_places 149 = .ok (.if_icmp .ge 60, 3) := by decide +kernel
theorem dX6_places_152 : decode cX6_places 152 = .ok (.aload_n 0, 1) := by decide +kernel
theorem dX6_places_153 : decode cX6_places 153 = .ok (.iload_n 3, 1) := by decide +kernel
theorem dX6_places_154 : decode cX6_places 154 = .ok (.iload_n 2, 1) := by decide +kernel
theorem dX6_places_155 : decode cX6_places 155 = .ok (.invokevirtual 91, 3) := by decide +kernel
theorem dX6_places_158 : decode cX6_places 158 = .ok (.ifCond .eq 14, 3) := by decide +kernel
theorem dX6_places_161 : decode cX6_places 161 = .ok (.aload_n 0, 1) := by decide +kernel
theorem dX6_places_162 : decode cX6_places 162 = .ok (.getfield 31, 3) := by decide +kernel
theorem dX6_places_165 : decode cX6_places 165 = .ok (.iload_n 3, 1) := by decide +kernel
theorem dX6_places_166 : decode cX6_places 166 = .ok (.iaload, 1) := by decide +kernel
theorem dX6_places_167 : decode cX6_places 167 = .ok (.iconst 1, 1) := by decide +kernel
theorem dX6_places_168 : decode cX6_places 168 = .ok (.iadd, 1) := by decide +kernel
theorem dX6_places_169 : decode cX6_places 169 = .ok (.goto 4, 3) := by decide +kernel
theorem dX6_places_172 : decode cX6_places 172 = .ok (.iconst 0, 1) := by decide +kernel
theorem dX6_places_173 : decode cX6_places 173 = .ok (.istore 4, 2) := by decide +kernel
theorem dX6_places_175 : decode cX6_places 175 = .ok (.aload_n 0, 1) := by decide +kernel
theorem dX6_places_176 : decode cX6_places 176 = .ok (.getfield 31, 3) := by decide +kernel
theorem dX6_places_179 : decode cX6_places 179 = .ok (.iload_n 2, 1) := by decide +kernel
theorem dX6_places_180 : decode cX6_places 180 = .ok (.iload 4, 2) := by decide +kernel
theorem dX6_places_182 : decode cX6_places 182 = .ok (.aload_n 0, 1) := by decide +kernel
theorem dX6_places_183 : decode cX6_places 183 = .ok (.getfield 31, 3) := by decide +kernel
theorem dX6_places_186 : decode cX6_places 186 = .ok (.iload_n 2, 1) := by decide +kernel
theorem dX6_places_187 : decode cX6_places 187 = .ok (.iaload, 1) := by decide +kernel
theorem dX6_places_188 : decode cX6_places 188 = .ok (.if_icmp .le 8, 3) := by decide +kernel
theorem dX6_places_191 : decode cX6_places 191 = .ok (.iload 4, 2) := by decide +kernel
theorem dX6_places_193 : decode cX6_places 193 = .ok (.goto 9, 3) := by decide +kernel
theorem dX6_places_196 : decode cX6_places 196 = .ok (.aload_n 0, 1) := by decide +kernel
theorem dX6_places_197 : decode cX6_places 197 = .ok (.getfield 31, 3) := by decide +kernel
theorem dX6_places_200 : decode cX6_places 200 = .ok (.iload_n 2, 1) := by decide +kernel
theorem dX6_places_201 : decode cX6_places 201 = .ok (.iaload, 1) := by decide +kernel
theorem dX6_places_202 : decode cX6_places 202 = .ok (.iastore, 1) := by decide +kernel
theorem dX6_places_203 : decode cX6_places 203 = .ok (.iinc 3 1, 3) := by decide +kernel
theorem dX6_places_206 : decode cX6_places 206 = .ok (.goto (-62), 3) := by decide +kernel
theorem dX6_places_209 : decode cX6_places 209 = .ok (.aload_n 0, 1) := by decide +kernel
theorem dX6_places_210 : decode cX6_places 210 = .ok (.getfield 34, 3) := by decide +kernel
theorem dX6_places_213 : decode cX6_places 213 = .ok (.iload_n 2, 1) := by decide +kernel
theorem dX6_places_214 : decode cX6_places 214 = .ok (.iconst 1, 1) := by decide +kernel
theorem dX6_places_215 : decode cX6_places 215 = .ok (.bastore, 1) := by decide +kernel
theorem dX6_places_216 : decode cX6_places 216 = .ok (.aload_n 0, 1) := by decide +kernel
theorem dX6_places_217 : decode cX6_places 217 = .ok (.getfield 28, 3) := by decide +kernel
theorem dX6_places_220 : decode cX6_places 220 = .ok (.iload_n 1, 1) := by decide +kernel
theorem dX6_places_221 : decode cX6_places 221 = .ok (.iload_n 2, 1) := by decide +kernel
theorem dX6_places_222 : decode cX6_places 222 = .ok (.iastore, 1) := by decide +kernel
theorem dX6_places_223 : decode cX6_places 223 = .ok (.iinc 1 1, 3) := by decide +kernel
theorem dX6_places_226 : decode cX6_places 226 = .ok (.goto (-194), 3) := by decide +kernel
theorem dX6_places_229 : decode cX6_places 229 = .ok (.iconst 1, 1) := by decide +kernel
theorem dX6_places_230 : decode cX6_places 230 = .ok (.ireturn, 1) := by decide +kernel
theorem dX6_isConsistent_0 : decode cX6_isConsistent 0 = .ok (.aload_n 0, 1) := by decide +kernel
theorem dX6_isConsistent_1 : decode cX6_isConsistent 1 = .ok (.invokevirtual 82, 3) := by decide +kernel
theorem dX6_isConsistent_4 : decode cX6_isConsistent 4 = .ok (.aload_n 0, 1) := by decide +kernel
theorem dX6_isConsistent_5 : decode cX6_isConsistent 5 = .ok (.invokevirtual 94, 3) := by decide +kernel
theorem dX6_isConsistent_8 : decode cX6_isConsistent 8 = .ok (.ifCond .eq 7, 3) := by decide +kernel
theorem dX6_isConsistent_11 : decode cX6_isConsistent 11 = .ok (.iconst 1, 1) := by decide +kernel
theorem dX6_isConsistent_12 : decode cX6_isConsistent 12 = .ok (.goto 4, 3) := by decide +kernel
theorem dX6_isConsistent_15 : decode cX6_isConsistent 15 = .ok (.iconst 0, 1) := by decide +kernel
theorem dX6_isConsistent_16 : decode cX6_isConsistent 16 = .ok (.ireturn, 1) := by decide +kernel
theorem dX6_coupleInOrder_0 : decode cX6_coupleInOrder 0 = .ok (.iload_n 1, 1) := by decide +kernel
theorem dX6_coupleInOrder_1 : decode cX6_coupleInOrder 1 = .ok (.ifCond .ge 5, 3) := by decide +kernel
theorem dX6_coupleInOrder_4 : decode cX6_coupleInOrder 4 = .ok (.iconst (-1), 1) := by decide +kernel
theorem dX6_coupleInOrder_5 : decode cX6_coupleInOrder 5 = .ok (.ireturn, 1) := by decide +kernel
theorem dX6_coupleInOrder_6 : decode cX6_coupleInOrder 6 = .ok (.aload_n 0, 1) := by decide +kernel
theorem dX6_coupleInOrder_7 : decode cX6_coupleInOrder 7 = .ok (.invokevirtual 82, 3) := by decide +kernel
theorem dX6_coupleInOrder_10 : decode cX6_coupleInOrder 10 = .ok (.iload_n 1, 1) := by decide +kernel
theorem dX6_coupleInOrder_11 : decode cX6_coupleInOrder 11 = .ok (.aload_n 0, 1) := by decide +kernel
theorem dX6_coupleInOrder_12 : decode cX6_coupleInOrder 12 = .ok (.getfield 76, 3) := by decide +kernel
theorem dX6_coupleInOrder_15 : decode cX6_coupleInOrder 15 = .ok (.if_icmp .lt 6, 3) := by decide +kernel
theorem dX6_coupleInOrder_18 : decode cX6_coupleInOrder 18 = .ok (.bipush (-3), 2) := by decide +kernel
theorem dX6_coupleInOrder_20 : decode cX6_coupleInOrder 20 = .ok (.ireturn, 1) := by decide +kernel
theorem dX6_coupleInOrder_21 : decode cX6_coupleInOrder 21 = .ok (.aload_n 0, 1) := by decide +kernel
theorem dX6_coupleInOrder_22 : decode cX6_coupleInOrder 22 = .ok (.invokevirtual 94, 3) := by decide +kernel
theorem dX6_coupleInOrder_25 : decode cX6_coupleInOrder 25 = .ok (.ifCond .eq 12, 3) := by decide +kernel
theorem dX6_coupleInOrder_28 : decode cX6_coupleInOrder 28 = .ok (.aload_n 0, 1) := by decide +kernel
theorem dX6_coupleInOrder_29 : decode cX6_coupleInOrder 29 = .ok (.getfield 28, 3) := by decide +kernel
theorem dX6_coupleInOrder_32 : decode cX6_coupleInOrder 32 = .ok (.iload_n 1, 1) := by decide +kernel
theorem dX6_coupleInOrder_33 : decode cX6_coupleInOrder 33 = .ok (.iaload, 1) := by decide +kernel
theorem dX6_coupleInOrder_34 : decode cX6_coupleInOrder 34 = .ok (.goto 5, 3) := by decide +kernel
theorem dX6_coupleInOrder_37 : decode cX6_coupleInOrder 37 = .ok (.bipush (-4), 2) := by decide +kernel
theorem dX6_coupleInOrder_39 : decode cX6_coupleInOrder 39 = .ok (.ireturn, 1) := by decide +kernel
theorem dX6_generation_0 : decode cX6_generation 0 = .ok (.iload_n 1, 1) := by decide +kernel
theorem dX6_generation_1 : decode cX6_generation 1 = .ok (.ifCond .ge 5, 3) := by decide +kernel
theorem dX6_generation_4 : decode cX6_generation 4 = .ok (.iconst (-1), 1) := by decide +kernel
theorem dX6_generation_5 : decode cX6_generation 5 = .ok (.ireturn, 1) := by decide +kernel
theorem dX6_generation_6 : decode cX6_generation 6 = .ok (.aload_n 0, 1) := by decide +kernel
theorem dX6_generation_7 : decode cX6_generation 7 = .ok (.invokevirtual 82, 3) := by decide +kernel
theorem dX6_generation_10 : decode cX6_generation 10 = .ok (.iload_n 1, 1) := by decide +kernel
theorem dX6_generation_11 : decode cX6_generation 11 = .ok (.aload_n 0, 1) := by decide +kernel
theorem dX6_generation_12 : decode cX6_generation 12 = .ok (.getfield 76, 3) := by decide +kernel
theorem dX6_generation_15 : decode cX6_generation 15 = .ok (.if_icmp .lt 6, 3) := by decide +kernel
theorem dX6_generation_18 : decode cX6_generation 18 = .ok (.bipush (-3), 2) := by decide +kernel
theorem dX6_generation_20 : decode cX6_generation 20 = .ok (.ireturn, 1) := by decide +kernel
theorem dX6_generation_21 : decode cX6_generation 21 = .ok (.aload_n 0, 1) := by decide +kernel
theorem dX6_generation_22 : decode cX6_generation 22 = .ok (.invokevirtual 94, 3) := by decide +kernel
theorem dX6_generation_25 : decode cX6_generation 25 = .ok (.ifCond .eq 12, 3) := by decide +kernel
theorem dX6_generation_28 : decode cX6_generation 28 = .ok (.aload_n 0, 1) := by decide +kernel
theorem dX6_generation_29 : decode cX6_generation 29 = .ok (.getfield 31, 3) := by decide +kernel
theorem dX6_generation_32 : decode cX6_generation 32 = .ok (.iload_n 1, 1) := by decide +kernel
theorem dX6_generation_33 : decode cX6_generation 33 = .ok (.iaload, 1) := by decide +kernel
theorem dX6_generation_34 : decode cX6_generation 34 = .ok (.goto 5, 3) := by decide +kernel
theorem dX6_generation_37 : decode cX6_generation 37 = .ok (.bipush (-4), 2) := by decide +kernel
theorem dX6_generation_39 : decode cX6_generation 39 = .ok (.ireturn, 1) := by decide +kernel
theorem dX6_single_0 : decode cX6_single 0 = .ok (.iconst 0, 1) := by decide +kernel
theorem dX6_single_1 : decode cX6_single 1 = .ok (.istore_n 2, 1) := by decide +kernel
theorem dX6_single_2 : decode cX6_single 2 = .ok (.iconst 0, 1) := by decide +kernel
theorem dX6_single_3 : decode cX6_single 3 = .ok (.istore_n 3, 1) := by decide +kernel
theorem dX6_single_4 : decode cX6_single 4 = .ok (.iload_n 3, 1) := by decide +kernel
theorem dX6_single_5 : decode cX6_single 5 = .ok (.bipush 10, 2) := by decide +kernel
theorem dX6_single_7 : decode cX6_single 7 = .ok (.if_icmp .ge 27, 3) := by decide +kernel
theorem dX6_single_10 : decode cX6_single 10 = .ok (.iload_n 2, 1) := by decide +kernel
theorem dX6_single_11 : decode cX6_single 11 = .ok (.aload_n 0, 1) := by decide +kernel
theorem dX6_single_12 : decode cX6_single 12 = .ok (.iload_n 1, 1) := by decide +kernel
theorem dX6_single_13 : decode cX6_single 13 = .ok (.iload_n 3, 1) := by decide +kernel
theorem dX6_single_14 : decode cX6_single 14 = .ok (.invokevirtual 63, 3) := by decide +kernel
theorem dX6_single_17 : decode cX6_single 17 = .ok (.iconst 1, 1) := by decide +kernel
theorem dX6_single_18 : decode cX6_single 18 = .ok (.if_icmp .ne 7, 3) := by decide +kernel
theorem dX6_single_21 : decode cX6_single 21 = .ok (.iconst 1, 1) := by decide +kernel
theorem dX6_single_22 : decode cX6_single 22 = .ok (.goto 4, 3) := by decide +kernel
theorem dX6_single_25 : decode cX6_single 25 = .ok (.iconst 0, 1) := by decide +kernel
theorem dX6_single_26 : decode cX6_single 26 = .ok (.iadd, 1) := by decide +kernel
theorem dX6_single_27 : decode cX6_single 27 = .ok (.istore_n 2, 1) := by decide +kernel
theorem dX6_single_28 : decode cX6_single 28 = .ok (.iinc 3 1, 3) := by decide +kernel
theorem dX6_single_31 : decode cX6_single 31 = .ok (.goto (-27), 3) := by decide +kernel
theorem dX6_single_34 : decode cX6_single 34 = .ok (.iload_n 2, 1) := by decide +kernel
theorem dX6_single_35 : decode cX6_single 35 = .ok (.ireturn, 1) := by decide +kernel
theorem dX6_singletons_0 : decode cX6_singletons 0 = .ok (.iload_n 1, 1) := by decide +kernel
theorem dX6_singletons_1 : decode cX6_singletons 1 = .ok (.invokestatic 56, 3) := by decide +kernel
theorem dX6_singletons_4 : decode cX6_singletons 4 = .ok (.ifCond .eq 11, 3) := by decide +kernel
theorem dX6_singletons_7 : decode cX6_singletons 7 = .ok (.aload_n 0, 1) := by decide +kernel
theorem dX6_singletons_8 : decode cX6_singletons 8 = .ok (.iload_n 1, 1) := by decide +kernel
theorem dX6_singletons_9 : decode cX6_singletons 9 = .ok (.invokevirtual 98, 3) := by decide +kernel
theorem dX6_singletons_12 : decode cX6_singletons 12 = .ok (.goto 4, 3) := by decide +kernel
theorem dX6_singletons_15 : decode cX6_singletons 15 = .ok (.iconst (-1), 1) := by decide +kernel
theorem dX6_singletons_16 : decode cX6_singletons 16 = .ok (.ireturn, 1) := by decide +kernel
theorem dX6_coverageEstimate_0 : decode cX6_coverageEstimate 0 = .ok (.iload_n 1, 1) := by decide +kernel
theorem dX6_coverageEstimate_1 : decode cX6_coverageEstimate 1 = .ok (.invokestatic 56, 3) := by decide +kernel
theorem dX6_coverageEstimate_4 : decode cX6_coverageEstimate 4 = .ok (.ifCond .ne 5, 3) := by decide +kernel
theorem dX6_coverageEstimate_7 : decode cX6_coverageEstimate 7 = .ok (.iconst (-1), 1) := by decide +kernel
theorem dX6_coverageEstimate_8 : decode cX6_coverageEstimate 8 = .ok (.ireturn, 1) := by decide +kernel
theorem dX6_coverageEstimate_9 : decode cX6_coverageEstimate 9 = .ok (.aload_n 0, 1) := by decide +kernel
theorem dX6_coverageEstimate_10 : decode cX6_coverageEstimate 10 = .ok (.getfield 7, 3) := by decide +kernel
theorem dX6_coverageEstimate_13 : decode cX6_coverageEstimate 13 = .ok (.bipush 96, 2) := by decide +kernel
theorem dX6_coverageEstimate_15 : decode cX6_coverageEstimate 15 = .ok (.iaload, 1) := by decide +kernel
theorem dX6_coverageEstimate_16 : decode cX6_coverageEstimate 16 = .ok (.istore_n 2, 1) := by decide +kernel
theorem dX6_coverageEstimate_17 : decode cX6_coverageEstimate 17 = .ok (.aload_n 0, 1) := by decide +kernel
theorem dX6_coverageEstimate_18 : decode cX6_coverageEstimate 18 = .ok (.iload_n 1, 1) := by decide +kernel
theorem dX6_coverageEstimate_19 : decode cX6_coverageEstimate 19 = .ok (.invokevirtual 98, 3) := by decide +kernel
theorem dX6_coverageEstimate_22 : decode cX6_coverageEstimate 22 = .ok (.istore_n 3, 1) := by decide +kernel
theorem dX6_coverageEstimate_23 : decode cX6_coverageEstimate 23 = .ok (.iload_n 3, 1) := by decide +kernel
theorem dX6_coverageEstimate_24 : decode cX6_coverageEstimate 24 = .ok (.iload_n 2, 1) := by decide +kernel
theorem dX6_coverageEstimate_25 : decode cX6_coverageEstimate 25 = .ok (.if_icmp .ne 8, 3) := by decide +kernel
theorem dX6_coverageEstimate_28 : decode cX6_coverageEstimate 28 = .ok (.bipush (-3), 2) := by decide +kernel
theorem dX6_coverageEstimate_30 : decode cX6_coverageEstimate 30 = .ok (.goto 18, 3) := by decide +kernel
theorem dX6_coverageEstimate_33 : decode cX6_coverageEstimate 33 = .ok (.sipush 1000, 3) := by decide +kernel
theorem dX6_coverageEstimate_36 : decode cX6_coverageEstimate 36 = .ok (.aload_n 0, 1) := by decide +kernel
theorem dX6_coverageEstimate_37 : decode cX6_coverageEstimate 37 = .ok (.iload_n 1, 1) := by decide +kernel
theorem dX6_coverageEstimate_38 : decode cX6_coverageEstimate 38 = .ok (.invokevirtual 67, 3) := by decide +kernel
theorem dX6_coverageEstimate_41 : decode cX6_coverageEstimate 41 = .ok (.imul, 1) := by decide +kernel
theorem dX6_coverageEstimate_42 : decode cX6_coverageEstimate 42 = .ok (.iload_n 2, 1) := by decide +kernel
theorem dX6_coverageEstimate_43 : decode cX6_coverageEstimate 43 = .ok (.imul, 1) := by decide +kernel
theorem dX6_coverageEstimate_44 : decode cX6_coverageEstimate 44 = .ok (.iload_n 2, 1) := by decide +kernel
theorem dX6_coverageEstimate_45 : decode cX6_coverageEstimate 45 = .ok (.iload_n 3, 1) := by decide +kernel
theorem dX6_coverageEstimate_46 : decode cX6_coverageEstimate 46 = .ok (.isub, 1) := by decide +kernel
theorem dX6_coverageEstimate_47 : decode cX6_coverageEstimate 47 = .ok (.idiv, 1) := by decide +kernel
theorem dX6_coverageEstimate_48 : decode cX6_coverageEstimate 48 = .ok (.ireturn, 1) := by decide +kernel
theorem dX6_frequencyEstimate_0 : decode cX6_frequencyEstimate 0 = .ok (.iload_n 1, 1) := by decide +kernel
theorem dX6_frequencyEstimate_1 : decode cX6_frequencyEstimate 1 = .ok (.invokestatic 56, 3) := by decide +kernel
theorem dX6_frequencyEstimate_4 : decode cX6_frequencyEstimate 4 = .ok (.ifCond .ne 5, 3) := by decide +kernel
theorem dX6_frequencyEstimate_7 : decode cX6_frequencyEstimate 7 = .ok (.iconst (-1), 1) := by decide +kernel
theorem dX6_frequencyEstimate_8 : decode cX6_frequencyEstimate 8 = .ok (.ireturn, 1) := by decide +kernel
theorem dX6_frequencyEstimate_9 : decode cX6_frequencyEstimate 9 = .ok (.aload_n 0, 1) := by decide +kernel
theorem dX6_frequencyEstimate_10 : decode cX6_frequencyEstimate 10 = .ok (.getfield 7, 3) := by decide +kernel
theorem dX6_frequencyEstimate_13 : decode cX6_frequencyEstimate 13 = .ok (.bipush 96, 2) := by decide +kernel
theorem dX6_frequencyEstimate_15 : decode cX6_frequencyEstimate 15 = .ok (.iaload, 1) := by decide +kernel
theorem dX6_frequencyEstimate_16 : decode cX6_frequencyEstimate 16 = .ok (.istore_n 2, 1) := by decide +kernel
theorem dX6_frequencyEstimate_17 : decode cX6_frequencyEstimate 17 = .ok (.aload_n 0, 1) := by decide +kernel
theorem dX6_frequencyEstimate_18 : decode cX6_frequencyEstimate 18 = .ok (.iload_n 1, 1) := by decide +kernel
theorem dX6_frequencyEstimate_19 : decode cX6_frequencyEstimate 19 = .ok (.invokevirtual 67, 3) := by decide +kernel
theorem dX6_frequencyEstimate_22 : decode cX6_frequencyEstimate 22 = .ok (.istore_n 3, 1) := by decide +kernel
theorem dX6_frequencyEstimate_23 : decode cX6_frequencyEstimate 23 = .ok (.iload_n 2, 1) := by decide +kernel
theorem dX6_frequencyEstimate_24 : decode cX6_frequencyEstimate 24 = .ok (.iconst 2, 1) := by decide +kernel
theorem dX6_frequencyEstimate_25 : decode cX6_frequencyEstimate 25 = .ok (.if_icmp .lt 8, 3) := by decide +kernel
theorem dX6_frequencyEstimate_28 : decode cX6_frequencyEstimate 28 = .ok (.iload_n 2, 1) := by decide +kernel
theorem dX6_frequencyEstimate_29 : decode cX6_frequencyEstimate 29 = .ok (.iload_n 3, 1) := by decide +kernel
theorem dX6_frequencyEstimate_30 : decode cX6_frequencyEstimate 30 = .ok (.if_icmp .ne 6, 3) := by decide +kernel
theorem dX6_frequencyEstimate_33 : decode cX6_frequencyEstimate 33 = .ok (.bipush (-3), 2) := by decide +kernel
theorem dX6_frequencyEstimate_35 : decode cX6_frequencyEstimate 35 = .ok (.ireturn, 1) := by decide +kernel
theorem dX6_frequencyEstimate_36 : decode cX6_frequencyEstimate 36 = .ok (.iload_n 2, 1) := by decide +kernel
theorem dX6_frequencyEstimate_37 : decode cX6_frequencyEstimate 37 = .ok (.iconst 2, 1) := by decide +kernel
theorem dX6_frequencyEstimate_38 : decode cX6_frequencyEstimate 38 = .ok (.iload_n 3, 1) := by decide +kernel
theorem dX6_frequencyEstimate_39 : decode cX6_frequencyEstimate 39 = .ok (.imul, 1) := by decide +kernel
theorem dX6_frequencyEstimate_40 : decode cX6_frequencyEstimate 40 = .ok (.if_icmp .ge 17, 3) := by decide +kernel
theorem dX6_frequencyEstimate_43 : decode cX6_frequencyEstimate 43 = .ok (.sipush 1124, 3) := by decide +kernel
theorem dX6_frequencyEstimate_46 : decode cX6_frequencyEstimate 46 = .ok (.iload_n 2, 1) := by decide +kernel
theorem dX6_frequencyEstimate_47 : decode cX6_frequencyEstimate 47 = .ok (.imul, 1) := by decide +kernel
theorem dX6_frequencyEstimate_48 : decode cX6_frequencyEstimate 48 = .ok (.sipush 1016, 3) := by decide +kernel
theorem dX6_frequencyEstimate_51 : decode cX6_frequencyEstimate 51 = .ok (.iload_n 3, 1) := by decide +kernel
theorem dX6_frequencyEstimate_52 : decode cX6_frequencyEstimate 52 = .ok (.imul, 1) := by decide +kernel
theorem dX6_frequencyEstimate_53 : decode cX6_frequencyEstimate 53 = .ok (.isub, 1) := by decide +kernel
theorem dX6_frequencyEstimate_54 : decode cX6_frequencyEstimate 54 = .ok (.goto 35, 3) := by decide +kernel
theorem dX6_frequencyEstimate_57 : decode cX6_frequencyEstimate 57 = .ok (.iload_n 2, 1) := by decide +kernel
theorem dX6_frequencyEstimate_58 : decode cX6_frequencyEstimate 58 = .ok (.iconst 3, 1) := by decide +kernel
theorem dX6_frequencyEstimate_59 : decode cX6_frequencyEstimate 59 = .ok (.iload_n 3, 1) := by decide +kernel
theorem dX6_frequencyEstimate_60 : decode cX6_frequencyEstimate 60 = .ok (.imul, 1) := by decide +kernel
theorem dX6_frequencyEstimate_61 : decode cX6_frequencyEstimate 61 = .ok (.if_icmp .ge 17, 3) := by decide +kernel
theorem dX6_frequencyEstimate_64 : decode cX6_frequencyEstimate 64 = .ok (.sipush 1069, 3) := by decide +kernel
theorem dX6_frequencyEstimate_67 : decode cX6_frequencyEstimate 67 = .ok (.iload_n 2, 1) := by decide +kernel
theorem dX6_frequencyEstimate_68 : decode cX6_frequencyEstimate 68 = .ok (.imul, 1) := by decide +kernel
theorem dX6_frequencyEstimate_69 : decode cX6_frequencyEstimate 69 = .ok (.sipush 843, 3) := by decide +kernel
theorem dX6_frequencyEstimate_72 : decode cX6_frequencyEstimate 72 = .ok (.iload_n 3, 1) := by decide +kernel
theorem dX6_frequencyEstimate_73 : decode cX6_frequencyEstimate 73 = .ok (.imul, 1) := by decide +kernel
theorem dX6_frequencyEstimate_74 : decode cX6_frequencyEstimate 74 = .ok (.isub, 1) := by decide +kernel
theorem dX6_frequencyEstimate_75 : decode cX6_frequencyEstimate 75 = .ok (.goto 14, 3) := by decide +kernel
theorem dX6_frequencyEstimate_78 : decode cX6_frequencyEstimate 78 = .ok (.sipush 1016, 3) := by decide +kernel
theorem dX6_frequencyEstimate_81 : decode cX6_frequencyEstimate 81 = .ok (.iload_n 2, 1) := by decide +kernel
theorem dX6_frequencyEstimate_82 : decode cX6_frequencyEstimate 82 = .ok (.imul, 1) := by decide +kernel
theorem dX6_frequencyEstimate_83 : decode cX6_frequencyEstimate 83 = .ok (.sipush 197, 3) := by decide +kernel
theorem dX6_frequencyEstimate_86 : decode cX6_frequencyEstimate 86 = .ok (.iload_n 3, 1) := by decide +kernel
theorem dX6_frequencyEstimate_87 : decode cX6_frequencyEstimate 87 = .ok (.imul, 1) := by decide +kernel
theorem dX6_frequencyEstimate_88 : decode cX6_frequencyEstimate 88 = .ok (.isub, 1) := by decide +kernel
theorem dX6_frequencyEstimate_89 : decode cX6_frequencyEstimate 89 = .ok (.istore 4, 2) := by decide +kernel
theorem dX6_frequencyEstimate_91 : decode cX6_frequencyEstimate 91 = .ok (.ldc 101, 2) := by decide +kernel
theorem dX6_frequencyEstimate_93 : decode cX6_frequencyEstimate 93 = .ok (.iload_n 2, 1) := by decide +kernel
theorem dX6_frequencyEstimate_94 : decode cX6_frequencyEstimate 94 = .ok (.imul, 1) := by decide +kernel
theorem dX6_frequencyEstimate_95 : decode cX6_frequencyEstimate 95 = .ok (.iload_n 3, 1) := by decide +kernel
theorem dX6_frequencyEstimate_96 : decode cX6_frequencyEstimate 96 = .ok (.imul, 1) := by decide +kernel
theorem dX6_frequencyEstimate_97 : decode cX6_frequencyEstimate 97 = .ok (.iload 4, 2) := by decide +kernel
theorem dX6_frequencyEstimate_99 : decode cX6_frequencyEstimate 99 = .ok (.idiv, 1) := by decide +kernel
theorem dX6_frequencyEstimate_100 : decode cX6_frequencyEstimate 100 = .ok (.ireturn, 1) := by decide +kernel
theorem dL_law_0 : decode cL_law 0 = .ok (.new 7, 3) := by decide +kernel
theorem dL_law_3 : decode cL_law 3 = .ok (.dup, 1) := by decide +kernel
theorem dL_law_4 : decode cL_law 4 = .ok (.invokespecial 9, 3) := by decide +kernel
theorem dL_law_7 : decode cL_law 7 = .ok (.astore_n 1, 1) := by decide +kernel
theorem dL_law_8 : decode cL_law 8 = .ok (.new 10, 3) := by decide +kernel
theorem dL_law_11 : decode cL_law 11 = .ok (.dup, 1) := by decide +kernel
theorem dL_law_12 : decode cL_law 12 = .ok (.invokespecial 12, 3) := by decide +kernel
theorem dL_law_15 : decode cL_law 15 = .ok (.astore_n 2, 1) := by decide +kernel
theorem dL_law_16 : decode cL_law 16 = .ok (.iconst 0, 1) := by decide +kernel
theorem dL_law_17 : decode cL_law 17 = .ok (.istore_n 3, 1) := by decide +kernel
theorem dL_law_18 : decode cL_law 18 = .ok (.iload_n 3, 1) := by decide +kernel
theorem dL_law_19 : decode cL_law 19 = .ok (.aload_n 0, 1) := by decide +kernel
theorem dL_law_20 : decode cL_law 20 = .ok (.arraylength, 1) := by decide +kernel
theorem dL_law_21 : decode cL_law 21 = .ok (.iconst 5, 1) := by decide +kernel
theorem dL_law_22 : decode cL_law 22 = .ok (.isub, 1) := by decide +kernel
theorem dL_law_23 : decode cL_law 23 = .ok (.if_icmp .gt 729, 3) := by decide +kernel
theorem dL_law_26 : decode cL_law 26 = .ok (.aload_n 0, 1) := by decide +kernel
theorem dL_law_27 : decode cL_law 27 = .ok (.iload_n 3, 1) := by decide +kernel
theorem dL_law_28 : decode cL_law 28 = .ok (.iaload, 1) := by decide +kernel
theorem dL_law_29 : decode cL_law 29 = .ok (.bipush 31, 2) := by decide +kernel
theorem dL_law_31 : decode cL_law 31 = .ok (.iand, 1) := by decide +kernel
theorem dL_law_32 : decode cL_law 32 = .ok (.tableswitch 714 0 23 #[112, 165, 188, 231, 274, 287, 320, 343, 376, 409, 422, 445, 458, 491, 504, 517, 540, 573, 586, 609, 632, 655, 678, 701], 112) := by decide +kernel
theorem dL_law_144 : decode cL_law 144 = .ok (.aload_n 1, 1) := by decide +kernel
theorem dL_law_145 : decode cL_law 145 = .ok (.aload_n 0, 1) := by decide +kernel
theorem dL_law_146 : decode cL_law 146 = .ok (.iload_n 3, 1) := by decide +kernel
theorem dL_law_147 : decode cL_law 147 = .ok (.iconst 1, 1) := by decide +kernel
theorem dL_law_148 : decode cL_law 148 = .ok (.iadd, 1) := by decide +kernel
theorem dL_law_149 : decode cL_law 149 = .ok (.iaload, 1) := by decide +kernel
theorem dL_law_150 : decode cL_law 150 = .ok (.aload_n 0, 1) := by decide +kernel
theorem dL_law_151 : decode cL_law 151 = .ok (.iload_n 3, 1) := by decide +kernel
theorem dL_law_152 : decode cL_law 152 = .ok (.iconst 2, 1) := by decide +kernel
theorem dL_law_153 : decode cL_law 153 = .ok (.iadd, 1) := by decide +kernel
theorem dL_law_154 : decode cL_law 154 = .ok (.iaload, 1) := by decide +kernel
theorem dL_law_155 : decode cL_law 155 = .ok (.aload_n 0, 1) := by decide +kernel
theorem dL_law_156 : decode cL_law 156 = .ok (.iload_n 3, 1) := by decide +kernel
theorem dL_law_157 : decode cL_law 157 = .ok (.iconst 3, 1) := by decide +kernel
theorem dL_law_158 : decode cL_law 158 = .ok (.iadd, 1) := by decide +kernel
theorem dL_law_159 : decode cL_law 159 = .ok (.iaload, 1) := by decide +kernel
theorem dL_law_160 : decode cL_law 160 = .ok (.aload_n 0, 1) := by decide +kernel
theorem dL_law_161 : decode cL_law 161 = .ok (.iload_n 3, 1) := by decide +kernel
theorem dL_law_162 : decode cL_law 162 = .ok (.iconst 4, 1) := by decide +kernel
theorem dL_law_163 : decode cL_law 163 = .ok (.iadd, 1) := by decide +kernel
theorem dL_law_164 : decode cL_law 164 = .ok (.iaload, 1) := by decide +kernel
theorem dL_law_165 : decode cL_law 165 = .ok (.invokevirtual 13, 3) := by decide +kernel
theorem dL_law_168 : decode cL_law 168 = .ok (.aload_n 2, 1) := by decide +kernel
theorem dL_law_169 : decode cL_law 169 = .ok (.aload_n 0, 1) := by decide +kernel
theorem dL_law_170 : decode cL_law 170 = .ok (.iload_n 3, 1) := by decide +kernel
theorem dL_law_171 : decode cL_law 171 = .ok (.iconst 1, 1) := by decide +kernel
theorem dL_law_172 : decode cL_law 172 = .ok (.iadd, 1) := by decide +kernel
theorem dL_law_173 : decode cL_law 173 = .ok (.iaload, 1) := by decide +kernel
theorem dL_law_174 : decode cL_law 174 = .ok (.aload_n 0, 1) := by decide +kernel
theorem dL_law_175 : decode cL_law 175 = .ok (.iload_n 3, 1) := by decide +kernel
theorem dL_law_176 : decode cL_law 176 = .ok (.iconst 2, 1) := by decide +kernel
theorem dL_law_177 : decode cL_law 177 = .ok (.iadd, 1) := by decide +kernel
theorem dL_law_178 : decode cL_law 178 = .ok (.iaload, 1) := by decide +kernel
theorem dL_law_179 : decode cL_law 179 = .ok (.aload_n 0, 1) := by decide +kernel
theorem dL_law_180 : decode cL_law 180 = .ok (.iload_n 3, 1) := by decide +kernel
theorem dL_law_181 : decode cL_law 181 = .ok (.iconst 3, 1) := by decide +kernel
theorem dL_law_182 : decode cL_law 182 = .ok (.iadd, 1) := by decide +kernel
theorem dL_law_183 : decode cL_law 183 = .ok (.iaload, 1) := by decide +kernel
theorem dL_law_184 : decode cL_law 184 = .ok (.aload_n 0, 1) := by decide +kernel
theorem dL_law_185 : decode cL_law 185 = .ok (.iload_n 3, 1) := by decide +kernel
theorem dL_law_186 : decode cL_law 186 = .ok (.iconst 4, 1) := by decide +kernel
theorem dL_law_187 : decode cL_law 187 = .ok (.iadd, 1) := by decide +kernel
theorem dL_law_188 : decode cL_law 188 = .ok (.iaload, 1) := by decide +kernel
theorem dL_law_189 : decode cL_law 189 = .ok (.invokevirtual 17, 3) := by decide +kernel
theorem dL_law_192 : decode cL_law 192 = .ok (.if_icmp .eq 554, 3) := by decide +kernel
theorem dL_law_195 : decode cL_law 195 = .ok (.iconst 0, 1) := by decide +kernel
theorem dL_law_196 : decode cL_law 196 = .ok (.ireturn, 1) := by decide +kernel
theorem dL_law_197 : decode cL_law 197 = .ok (.aload_n 1, 1) := by decide +kernel
theorem dL_law_198 : decode cL_law 198 = .ok (.aload_n 0, 1) := by decide +kernel
theorem dL_law_199 : decode cL_law 199 = .ok (.iload_n 3, 1) := by decide +kernel
theorem dL_law_200 : decode cL_law 200 = .ok (.iconst 1, 1) := by decide +kernel
theorem dL_law_201 : decode cL_law 201 = .ok (.iadd, 1) := by decide +kernel
theorem dL_law_202 : decode cL_law 202 = .ok (.iaload, 1) := by decide +kernel
theorem dL_law_203 : decode cL_law 203 = .ok (.invokevirtual 18, 3) := by decide +kernel
theorem dL_law_206 : decode cL_law 206 = .ok (.aload_n 2, 1) := by decide +kernel
theorem dL_law_207 : decode cL_law 207 = .ok (.aload_n 0, 1) := by decide +kernel
theorem dL_law_208 : decode cL_law 208 = .ok (.iload_n 3, 1) := by decide +kernel
theorem dL_law_209 : decode cL_law 209 = .ok (.iconst 1, 1) := by decide +kernel
theorem dL_law_210 : decode cL_law 210 = .ok (.iadd, 1) := by decide +kernel
theorem dL_law_211 : decode cL_law 211 = .ok (.iaload, 1) := by decide +kernel
theorem dL_law_212 : decode cL_law 212 = .ok (.invokevirtual 22, 3) := by decide +kernel
theorem dL_law_215 : decode cL_law 215 = .ok (.if_icmp .eq 531, 3) := by decide +kernel
theorem dL_law_218 : decode cL_law 218 = .ok (.iconst 0, 1) := by decide +kernel
theorem dL_law_219 : decode cL_law 219 = .ok (.ireturn, 1) := by decide +kernel
theorem dL_law_220 : decode cL_law 220 = .ok (.aload_n 1, 1) := by decide +kernel
theorem dL_law_221 : decode cL_law 221 = .ok (.aload_n 0, 1) := by decide +kernel
theorem dL_law_222 : decode cL_law 222 = .ok (.iload_n 3, 1) := by decide +kernel
theorem dL_law_223 : decode cL_law 223 = .ok (.iconst 1, 1) := by decide +kernel
theorem dL_law_224 : decode cL_law 224 = .ok (.iadd, 1) := by decide +kernel
theorem dL_law_225 : decode cL_law 225 = .ok (.iaload, 1) := by decide +kernel
theorem dL_law_226 : decode cL_law 226 = .ok (.aload_n 0, 1) := by decide +kernel
theorem dL_law_227 : decode cL_law 227 = .ok (.iload_n 3, 1) := by decide +kernel
theorem dL_law_228 : decode cL_law 228 = .ok (.iconst 2, 1) := by decide +kernel
theorem dL_law_229 : decode cL_law 229 = .ok (.iadd, 1) := by decide +kernel
theorem dL_law_230 : decode cL_law 230 = .ok (.iaload, 1) := by decide +kernel
theorem dL_law_231 : decode cL_law 231 = .ok (.aload_n 0, 1) := by decide +kernel
theorem dL_law_232 : decode cL_law 232 = .ok (.iload_n 3, 1) := by decide +kernel
theorem dL_law_233 : decode cL_law 233 = .ok (.iconst 3, 1) := by decide +kernel
theorem dL_law_234 : decode cL_law 234 = .ok (.iadd, 1) := by decide +kernel
theorem dL_law_235 : decode cL_law 235 = .ok (.iaload, 1) := by decide +kernel
theorem dL_law_236 : decode cL_law 236 = .ok (.invokevirtual 23, 3) := by decide +kernel
theorem dL_law_239 : decode cL_law 239 = .ok (.aload_n 2, 1) := by decide +kernel
theorem dL_law_240 : decode cL_law 240 = .ok (.aload_n 0, 1) := by decide +kernel
theorem dL_law_241 : decode cL_law 241 = .ok (.iload_n 3, 1) := by decide +kernel
theorem dL_law_242 : decode cL_law 242 = .ok (.iconst 1, 1) := by decide +kernel
theorem dL_law_243 : decode cL_law 243 = .ok (.iadd, 1) := by decide +kernel
theorem dL_law_244 : decode cL_law 244 = .ok (.iaload, 1) := by decide +kernel
theorem dL_law_245 : decode cL_law 245 = .ok (.aload_n 0, 1) := by decide +kernel
theorem dL_law_246 : decode cL_law 246 = .ok (.iload_n 3, 1) := by decide +kernel
theorem dL_law_247 : decode cL_law 247 = .ok (.iconst 2, 1) := by decide +kernel
theorem dL_law_248 : decode cL_law 248 = .ok (.iadd, 1) := by decide +kernel
theorem dL_law_249 : decode cL_law 249 = .ok (.iaload, 1) := by decide +kernel
theorem dL_law_250 : decode cL_law 250 = .ok (.aload_n 0, 1) := by decide +kernel
theorem dL_law_251 : decode cL_law 251 = .ok (.iload_n 3, 1) := by decide +kernel
theorem dL_law_252 : decode cL_law 252 = .ok (.iconst 3, 1) := by decide +kernel
theorem dL_law_253 : decode cL_law 253 = .ok (.iadd, 1) := by decide +kernel
theorem dL_law_254 : decode cL_law 254 = .ok (.iaload, 1) := by decide +kernel
theorem dL_law_255 : decode cL_law 255 = .ok (.invokevirtual 27, 3) := by decide +kernel
theorem dL_law_258 : decode cL_law 258 = .ok (.if_icmp .eq 488, 3) := by decide +kernel
theorem dL_law_261 : decode cL_law 261 = .ok (.iconst 0, 1) := by decide +kernel
theorem dL_law_262 : decode cL_law 262 = .ok (.ireturn, 1) := by decide +kernel
theorem dL_law_263 : decode cL_law 263 = .ok (.aload_n 1, 1) := by decide +kernel
theorem dL_law_264 : decode cL_law 264 = .ok (.aload_n 0, 1) := by decide +kernel
theorem dL_law_265 : decode cL_law 265 = .ok (.iload_n 3, 1) := by decide +kernel
theorem dL_law_266 : decode cL_law 266 = .ok (.iconst 1, 1) := by decide +kernel
theorem dL_law_267 : decode cL_law 267 = .ok (.iadd, 1) := by decide +kernel
theorem dL_law_268 : decode cL_law 268 = .ok (.iaload, 1) := by decide +kernel
theorem dL_law_269 : decode cL_law 269 = .ok (.aload_n 0, 1) := by decide +kernel
theorem dL_law_270 : decode cL_law 270 = .ok (.iload_n 3, 1) := by decide +kernel
theorem dL_law_271 : decode cL_law 271 = .ok (.iconst 2, 1) := by decide +kernel
theorem dL_law_272 : decode cL_law 272 = .ok (.iadd, 1) := by decide +kernel
theorem dL_law_273 : decode cL_law 273 = .ok (.iaload, 1) := by decide +kernel
theorem dL_law_274 : decode cL_law 274 = .ok (.aload_n 0, 1) := by decide +kernel
theorem dL_law_275 : decode cL_law 275 = .ok (.iload_n 3, 1) := by decide +kernel
theorem dL_law_276 : decode cL_law 276 = .ok (.iconst 3, 1) := by decide +kernel
theorem dL_law_277 : decode cL_law 277 = .ok (.iadd, 1) := by decide +kernel
theorem dL_law_278 : decode cL_law 278 = .ok (.iaload, 1) := by decide +kernel
theorem dL_law_279 : decode cL_law 279 = .ok (.invokevirtual 28, 3) := by decide +kernel
theorem dL_law_282 : decode cL_law 282 = .ok (.aload_n 2, 1) := by decide +kernel
theorem dL_law_283 : decode cL_law 283 = .ok (.aload_n 0, 1) := by decide +kernel
theorem dL_law_284 : decode cL_law 284 = .ok (.iload_n 3, 1) := by decide +kernel
theorem dL_law_285 : decode cL_law 285 = .ok (.iconst 1, 1) := by decide +kernel
theorem dL_law_286 : decode cL_law 286 = .ok (.iadd, 1) := by decide +kernel
theorem dL_law_287 : decode cL_law 287 = .ok (.iaload, 1) := by decide +kernel
theorem dL_law_288 : decode cL_law 288 = .ok (.aload_n 0, 1) := by decide +kernel
theorem dL_law_289 : decode cL_law 289 = .ok (.iload_n 3, 1) := by decide +kernel
theorem dL_law_290 : decode cL_law 290 = .ok (.iconst 2, 1) := by decide +kernel
theorem dL_law_291 : decode cL_law 291 = .ok (.iadd, 1) := by decide +kernel
theorem dL_law_292 : decode cL_law 292 = .ok (.iaload, 1) := by decide +kernel
theorem dL_law_293 : decode cL_law 293 = .ok (.aload_n 0, 1) := by decide +kernel
theorem dL_law_294 : decode cL_law 294 = .ok (.iload_n 3, 1) := by decide +kernel
theorem dL_law_295 : decode cL_law 295 = .ok (.iconst 3, 1) := by decide +kernel
theorem dL_law_296 : decode cL_law 296 = .ok (.iadd, 1) := by decide +kernel
theorem dL_law_297 : decode cL_law 297 = .ok (.iaload, 1) := by decide +kernel
theorem dL_law_298 : decode cL_law 298 = .ok (.invokevirtual 31, 3) := by decide +kernel
theorem dL_law_301 : decode cL_law 301 = .ok (.if_icmp .eq 445, 3) := by decide +kernel
theorem dL_law_304 : decode cL_law 304 = .ok (.iconst 0, 1) := by decide +kernel
theorem dL_law_305 : decode cL_law 305 = .ok (.ireturn, 1) := by decide +kernel
theorem dL_law_306 : decode cL_law 306 = .ok (.aload_n 1, 1) := by decide +kernel
theorem dL_law_307 : decode cL_law 307 = .ok (.invokevirtual 32, 3) := by decide +kernel
theorem dL_law_310 : decode cL_law 310 = .ok (.aload_n 2, 1) := by decide +kernel
theorem dL_law_311 : decode cL_law 311 = .ok (.invokevirtual 36, 3) := by decide +kernel
theorem dL_law_314 : decode cL_law 314 = .ok (.if_icmp .eq 432, 3) := by decide +kernel
theorem dL_law_317 : decode cL_law 317 = .ok (.iconst 0, 1) := by decide +kernel
theorem dL_law_318 : decode cL_law 318 = .ok (.ireturn, 1) := by decide +kernel
theorem dL_law_319 : decode cL_law 319 = .ok (.aload_n 1, 1) := by decide +kernel
theorem dL_law_320 : decode cL_law 320 = .ok (.aload_n 0, 1) := by decide +kernel
theorem dL_law_321 : decode cL_law 321 = .ok (.iload_n 3, 1) := by decide +kernel
theorem dL_law_322 : decode cL_law 322 = .ok (.iconst 1, 1) := by decide +kernel
theorem dL_law_323 : decode cL_law 323 = .ok (.iadd, 1) := by decide +kernel
theorem dL_law_324 : decode cL_law 324 = .ok (.iaload, 1) := by decide +kernel
theorem dL_law_325 : decode cL_law 325 = .ok (.aload_n 0, 1) := by decide +kernel
theorem dL_law_326 : decode cL_law 326 = .ok (.iload_n 3, 1) := by decide +kernel
theorem dL_law_327 : decode cL_law 327 = .ok (.iconst 2, 1) := by decide +kernel
theorem dL_law_328 : decode cL_law 328 = .ok (.iadd, 1) := by decide +kernel
theorem dL_law_329 : decode cL_law 329 = .ok (.iaload, 1) := by decide +kernel
theorem dL_law_330 : decode cL_law 330 = .ok (.invokevirtual 37, 3) := by decide +kernel
theorem dL_law_333 : decode cL_law 333 = .ok (.aload_n 2, 1) := by decide +kernel
theorem dL_law_334 : decode cL_law 334 = .ok (.aload_n 0, 1) := by decide +kernel
theorem dL_law_335 : decode cL_law 335 = .ok (.iload_n 3, 1) := by decide +kernel
theorem dL_law_336 : decode cL_law 336 = .ok (.iconst 1, 1) := by decide +kernel
theorem dL_law_337 : decode cL_law 337 = .ok (.iadd, 1) := by decide +kernel
theorem dL_law_338 : decode cL_law 338 = .ok (.iaload, 1) := by decide +kernel
theorem dL_law_339 : decode cL_law 339 = .ok (.aload_n 0, 1) := by decide +kernel
theorem dL_law_340 : decode cL_law 340 = .ok (.iload_n 3, 1) := by decide +kernel
theorem dL_law_341 : decode cL_law 341 = .ok (.iconst 2, 1) := by decide +kernel
theorem dL_law_342 : decode cL_law 342 = .ok (.iadd, 1) := by decide +kernel
theorem dL_law_343 : decode cL_law 343 = .ok (.iaload, 1) := by decide +kernel
theorem dL_law_344 : decode cL_law 344 = .ok (.invokevirtual 41, 3) := by decide +kernel
theorem dL_law_347 : decode cL_law 347 = .ok (.if_icmp .eq 399, 3) := by decide +kernel
theorem dL_law_350 : decode cL_law 350 = .ok (.iconst 0, 1) := by decide +kernel
theorem dL_law_351 : decode cL_law 351 = .ok (.ireturn, 1) := by decide +kernel
theorem dL_law_352 : decode cL_law 352 = .ok (.aload_n 1, 1) := by decide +kernel
theorem dL_law_353 : decode cL_law 353 = .ok (.aload_n 0, 1) := by decide +kernel
theorem dL_law_354 : decode cL_law 354 = .ok (.iload_n 3, 1) := by decide +kernel
theorem dL_law_355 : decode cL_law 355 = .ok (.iconst 1, 1) := by decide +kernel
theorem dL_law_356 : decode cL_law 356 = .ok (.iadd, 1) := by decide +kernel
theorem dL_law_357 : decode cL_law 357 = .ok (.iaload, 1) := by decide +kernel
theorem dL_law_358 : decode cL_law 358 = .ok (.invokevirtual 42, 3) := by decide +kernel
theorem dL_law_361 : decode cL_law 361 = .ok (.aload_n 2, 1) := by decide +kernel
theorem dL_law_362 : decode cL_law 362 = .ok (.aload_n 0, 1) := by decide +kernel
theorem dL_law_363 : decode cL_law 363 = .ok (.iload_n 3, 1) := by decide +kernel
theorem dL_law_364 : decode cL_law 364 = .ok (.iconst 1, 1) := by decide +kernel
theorem dL_law_365 : decode cL_law 365 = .ok (.iadd, 1) := by decide +kernel
theorem dL_law_366 : decode cL_law 366 = .ok (.iaload, 1) := by decide +kernel
theorem dL_law_367 : decode cL_law 367 = .ok (.invokevirtual 45, 3) := by decide +kernel
theorem dL_law_370 : decode cL_law 370 = .ok (.if_icmp .eq 376, 3) := by decide +kernel
theorem dL_law_373 : decode cL_law 373 = .ok (.iconst 0, 1) := by decide +kernel
theorem dL_law_374 : decode cL_law 374 = .ok (.ireturn, 1) := by decide +kernel
theorem dL_law_375 : decode cL_law 375 = .ok (.aload_n 1, 1) := by decide +kernel
theorem dL_law_376 : decode cL_law 376 = .ok (.aload_n 0, 1) := by decide +kernel
theorem dL_law_377 : decode cL_law 377 = .ok (.iload_n 3, 1) := by decide +kernel
theorem dL_law_378 : decode cL_law 378 = .ok (.iconst 1, 1) := by decide +kernel
theorem dL_law_379 : decode cL_law 379 = .ok (.iadd, 1) := by decide +kernel
theorem dL_law_380 : decode cL_law 380 = .ok (.iaload, 1) := by decide +kernel
theorem dL_law_381 : decode cL_law 381 = .ok (.aload_n 0, 1) := by decide +kernel
theorem dL_law_382 : decode cL_law 382 = .ok (.iload_n 3, 1) := by decide +kernel
theorem dL_law_383 : decode cL_law 383 = .ok (.iconst 2, 1) := by decide +kernel
theorem dL_law_384 : decode cL_law 384 = .ok (.iadd, 1) := by decide +kernel
theorem dL_law_385 : decode cL_law 385 = .ok (.iaload, 1) := by decide +kernel
theorem dL_law_386 : decode cL_law 386 = .ok (.invokevirtual 46, 3) := by decide +kernel
theorem dL_law_389 : decode cL_law 389 = .ok (.aload_n 2, 1) := by decide +kernel
theorem dL_law_390 : decode cL_law 390 = .ok (.aload_n 0, 1) := by decide +kernel
theorem dL_law_391 : decode cL_law 391 = .ok (.iload_n 3, 1) := by decide +kernel
theorem dL_law_392 : decode cL_law 392 = .ok (.iconst 1, 1) := by decide +kernel
theorem dL_law_393 : decode cL_law 393 = .ok (.iadd, 1) := by decide +kernel
theorem dL_law_394 : decode cL_law 394 = .ok (.iaload, 1) := by decide +kernel
theorem dL_law_395 : decode cL_law 395 = .ok (.aload_n 0, 1) := by decide +kernel
theorem dL_law_396 : decode cL_law 396 = .ok (.iload_n 3, 1) := by decide +kernel
theorem dL_law_397 : decode cL_law 397 = .ok (.iconst 2, 1) := by decide +kernel
theorem dL_law_398 : decode cL_law 398 = .ok (.iadd, 1) := by decide +kernel
theorem dL_law_399 : decode cL_law 399 = .ok (.iaload, 1) := by decide +kernel
theorem dL_law_400 : decode cL_law 400 = .ok (.invokevirtual 49, 3) := by decide +kernel
theorem dL_law_403 : decode cL_law 403 = .ok (.if_icmp .eq 343, 3) := by decide +kernel
theorem dL_law_406 : decode cL_law 406 = .ok (.iconst 0, 1) := by decide +kernel
theorem dL_law_407 : decode cL_law 407 = .ok (.ireturn, 1) := by decide +kernel
theorem dL_law_408 : decode cL_law 408 = .ok (.aload_n 1, 1) := by decide +kernel
theorem dL_law_409 : decode cL_law 409 = .ok (.aload_n 0, 1) := by decide +kernel
theorem dL_law_410 : decode cL_law 410 = .ok (.iload_n 3, 1) := by decide +kernel
theorem dL_law_411 : decode cL_law 411 = .ok (.iconst 1, 1) := by decide +kernel
theorem dL_law_412 : decode cL_law 412 = .ok (.iadd, 1) := by decide +kernel
theorem dL_law_413 : decode cL_law 413 = .ok (.iaload, 1) := by decide +kernel
theorem dL_law_414 : decode cL_law 414 = .ok (.aload_n 0, 1) := by decide +kernel
theorem dL_law_415 : decode cL_law 415 = .ok (.iload_n 3, 1) := by decide +kernel
theorem dL_law_416 : decode cL_law 416 = .ok (.iconst 2, 1) := by decide +kernel
theorem dL_law_417 : decode cL_law 417 = .ok (.iadd, 1) := by decide +kernel
theorem dL_law_418 : decode cL_law 418 = .ok (.iaload, 1) := by decide +kernel
theorem dL_law_419 : decode cL_law 419 = .ok (.invokevirtual 50, 3) := by decide +kernel
theorem dL_law_422 : decode cL_law 422 = .ok (.aload_n 2, 1) := by decide +kernel
theorem dL_law_423 : decode cL_law 423 = .ok (.aload_n 0, 1) := by decide +kernel
theorem dL_law_424 : decode cL_law 424 = .ok (.iload_n 3, 1) := by decide +kernel
theorem dL_law_425 : decode cL_law 425 = .ok (.iconst 1, 1) := by decide +kernel
theorem dL_law_426 : decode cL_law 426 = .ok (.iadd, 1) := by decide +kernel
theorem dL_law_427 : decode cL_law 427 = .ok (.iaload, 1) := by decide +kernel
theorem dL_law_428 : decode cL_law 428 = .ok (.aload_n 0, 1) := by decide +kernel
theorem dL_law_429 : decode cL_law 429 = .ok (.iload_n 3, 1) := by decide +kernel
theorem dL_law_430 : decode cL_law 430 = .ok (.iconst 2, 1) := by decide +kernel
theorem dL_law_431 : decode cL_law 431 = .ok (.iadd, 1) := by decide +kernel
theorem dL_law_432 : decode cL_law 432 = .ok (.iaload, 1) := by decide +kernel
theorem dL_law_433 : decode cL_law 433 = .ok (.invokevirtual 53, 3) := by decide +kernel
theorem dL_law_436 : decode cL_law 436 = .ok (.if_icmp .eq 310, 3) := by decide +kernel
theorem dL_law_439 : decode cL_law 439 = .ok (.iconst 0, 1) := by decide +kernel
theorem dL_law_440 : decode cL_law 440 = .ok (.ireturn, 1) := by decide +kernel
theorem dL_law_441 : decode cL_law 441 = .ok (.aload_n 1, 1) := by decide +kernel
theorem dL_law_442 : decode cL_law 442 = .ok (.invokevirtual 54, 3) := by decide +kernel
theorem dL_law_445 : decode cL_law 445 = .ok (.aload_n 2, 1) := by decide +kernel
theorem dL_law_446 : decode cL_law 446 = .ok (.invokevirtual 57, 3) := by decide +kernel
theorem dL_law_449 : decode cL_law 449 = .ok (.if_icmp .eq 297, 3) := by decide +kernel
theorem dL_law_452 : decode cL_law 452 = .ok (.iconst 0, 1) := by decide +kernel
theorem dL_law_453 : decode cL_law 453 = .ok (.ireturn, 1) := by decide +kernel
theorem dL_law_454 : decode cL_law 454 = .ok (.aload_n 1, 1) := by decide +kernel
theorem dL_law_455 : decode cL_law 455 = .ok (.aload_n 0, 1) := by decide +kernel
theorem dL_law_456 : decode cL_law 456 = .ok (.iload_n 3, 1) := by decide +kernel
theorem dL_law_457 : decode cL_law 457 = .ok (.iconst 1, 1) := by decide +kernel
theorem dL_law_458 : decode cL_law 458 = .ok (.iadd, 1) := by decide +kernel
theorem dL_law_459 : decode cL_law 459 = .ok (.iaload, 1) := by decide +kernel
theorem dL_law_460 : decode cL_law 460 = .ok (.invokevirtual 58, 3) := by decide +kernel
theorem dL_law_463 : decode cL_law 463 = .ok (.aload_n 2, 1) := by decide +kernel
theorem dL_law_464 : decode cL_law 464 = .ok (.aload_n 0, 1) := by decide +kernel
theorem dL_law_465 : decode cL_law 465 = .ok (.iload_n 3, 1) := by decide +kernel
theorem dL_law_466 : decode cL_law 466 = .ok (.iconst 1, 1) := by decide +kernel
theorem dL_law_467 : decode cL_law 467 = .ok (.iadd, 1) := by decide +kernel
theorem dL_law_468 : decode cL_law 468 = .ok (.iaload, 1) := by decide +kernel
theorem dL_law_469 : decode cL_law 469 = .ok (.invokevirtual 61, 3) := by decide +kernel
theorem dL_law_472 : decode cL_law 472 = .ok (.if_icmp .eq 274, 3) := by decide +kernel
theorem dL_law_475 : decode cL_law 475 = .ok (.iconst 0, 1) := by decide +kernel
theorem dL_law_476 : decode cL_law 476 = .ok (.ireturn, 1) := by decide +kernel
theorem dL_law_477 : decode cL_law 477 = .ok (.aload_n 1, 1) := by decide +kernel
theorem dL_law_478 : decode cL_law 478 = .ok (.invokevirtual 62, 3) := by decide +kernel
theorem dL_law_481 : decode cL_law 481 = .ok (.aload_n 2, 1) := by decide +kernel
theorem dL_law_482 : decode cL_law 482 = .ok (.invokevirtual 65, 3) := by decide +kernel
theorem dL_law_485 : decode cL_law 485 = .ok (.if_icmp .eq 261, 3) := by decide +kernel
theorem dL_law_488 : decode cL_law 488 = .ok (.iconst 0, 1) := by decide +kernel
theorem dL_law_489 : decode cL_law 489 = .ok (.ireturn, 1) := by decide +kernel
theorem dL_law_490 : decode cL_law 490 = .ok (.aload_n 1, 1) := by decide +kernel
theorem dL_law_491 : decode cL_law 491 = .ok (.aload_n 0, 1) := by decide +kernel
theorem dL_law_492 : decode cL_law 492 = .ok (.iload_n 3, 1) := by decide +kernel
theorem dL_law_493 : decode cL_law 493 = .ok (.iconst 1, 1) := by decide +kernel
theorem dL_law_494 : decode cL_law 494 = .ok (.iadd, 1) := by decide +kernel
theorem dL_law_495 : decode cL_law 495 = .ok (.iaload, 1) := by decide +kernel
theorem dL_law_496 : decode cL_law 496 = .ok (.aload_n 0, 1) := by decide +kernel
theorem dL_law_497 : decode cL_law 497 = .ok (.iload_n 3, 1) := by decide +kernel
theorem dL_law_498 : decode cL_law 498 = .ok (.iconst 2, 1) := by decide +kernel
theorem dL_law_499 : decode cL_law 499 = .ok (.iadd, 1) := by decide +kernel
theorem dL_law_500 : decode cL_law 500 = .ok (.iaload, 1) := by decide +kernel
theorem dL_law_501 : decode cL_law 501 = .ok (.invokevirtual 66, 3) := by decide +kernel
theorem dL_law_504 : decode cL_law 504 = .ok (.aload_n 2, 1) := by decide +kernel
theorem dL_law_505 : decode cL_law 505 = .ok (.aload_n 0, 1) := by decide +kernel
theorem dL_law_506 : decode cL_law 506 = .ok (.iload_n 3, 1) := by decide +kernel
theorem dL_law_507 : decode cL_law 507 = .ok (.iconst 1, 1) := by decide +kernel
theorem dL_law_508 : decode cL_law 508 = .ok (.iadd, 1) := by decide +kernel
theorem dL_law_509 : decode cL_law 509 = .ok (.iaload, 1) := by decide +kernel
theorem dL_law_510 : decode cL_law 510 = .ok (.aload_n 0, 1) := by decide +kernel
theorem dL_law_511 : decode cL_law 511 = .ok (.iload_n 3, 1) := by decide +kernel
theorem dL_law_512 : decode cL_law 512 = .ok (.iconst 2, 1) := by decide +kernel
theorem dL_law_513 : decode cL_law 513 = .ok (.iadd, 1) := by decide +kernel
theorem dL_law_514 : decode cL_law 514 = .ok (.iaload, 1) := by decide +kernel
theorem dL_law_515 : decode cL_law 515 = .ok (.invokevirtual 69, 3) := by decide +kernel
theorem dL_law_518 : decode cL_law 518 = .ok (.if_icmp .eq 228, 3) := by decide +kernel
theorem dL_law_521 : decode cL_law 521 = .ok (.iconst 0, 1) := by decide +kernel
theorem dL_law_522 : decode cL_law 522 = .ok (.ireturn, 1) := by decide +kernel
theorem dL_law_523 : decode cL_law 523 = .ok (.aload_n 1, 1) := by decide +kernel
theorem dL_law_524 : decode cL_law 524 = .ok (.invokevirtual 70, 3) := by decide +kernel
theorem dL_law_527 : decode cL_law 527 = .ok (.aload_n 2, 1) := by decide +kernel
theorem dL_law_528 : decode cL_law 528 = .ok (.invokevirtual 73, 3) := by decide +kernel
theorem dL_law_531 : decode cL_law 531 = .ok (.if_icmp .eq 215, 3) := by decide +kernel
theorem dL_law_534 : decode cL_law 534 = .ok (.iconst 0, 1) := by decide +kernel
theorem dL_law_535 : decode cL_law 535 = .ok (.ireturn, 1) := by decide +kernel
theorem dL_law_536 : decode cL_law 536 = .ok (.aload_n 1, 1) := by decide +kernel
theorem dL_law_537 : decode cL_law 537 = .ok (.invokevirtual 74, 3) := by decide +kernel
theorem dL_law_540 : decode cL_law 540 = .ok (.aload_n 2, 1) := by decide +kernel
theorem dL_law_541 : decode cL_law 541 = .ok (.invokevirtual 77, 3) := by decide +kernel
theorem dL_law_544 : decode cL_law 544 = .ok (.if_icmp .eq 202, 3) := by decide +kernel
theorem dL_law_547 : decode cL_law 547 = .ok (.iconst 0, 1) := by decide +kernel
theorem dL_law_548 : decode cL_law 548 = .ok (.ireturn, 1) := by decide +kernel
theorem dL_law_549 : decode cL_law 549 = .ok (.aload_n 1, 1) := by decide +kernel
theorem dL_law_550 : decode cL_law 550 = .ok (.aload_n 0, 1) := by decide +kernel
theorem dL_law_551 : decode cL_law 551 = .ok (.iload_n 3, 1) := by decide +kernel
theorem dL_law_552 : decode cL_law 552 = .ok (.iconst 1, 1) := by decide +kernel
theorem dL_law_553 : decode cL_law 553 = .ok (.iadd, 1) := by decide +kernel
theorem dL_law_554 : decode cL_law 554 = .ok (.iaload, 1) := by decide +kernel
theorem dL_law_555 : decode cL_law 555 = .ok (.invokevirtual 78, 3) := by decide +kernel
theorem dL_law_558 : decode cL_law 558 = .ok (.aload_n 2, 1) := by decide +kernel
theorem dL_law_559 : decode cL_law 559 = .ok (.aload_n 0, 1) := by decide +kernel
theorem dL_law_560 : decode cL_law 560 = .ok (.iload_n 3, 1) := by decide +kernel
theorem dL_law_561 : decode cL_law 561 = .ok (.iconst 1, 1) := by decide +kernel
theorem dL_law_562 : decode cL_law 562 = .ok (.iadd, 1) := by decide +kernel
theorem dL_law_563 : decode cL_law 563 = .ok (.iaload, 1) := by decide +kernel
theorem dL_law_564 : decode cL_law 564 = .ok (.invokevirtual 81, 3) := by decide +kernel
theorem dL_law_567 : decode cL_law 567 = .ok (.if_icmp .eq 179, 3) := by decide +kernel
theorem dL_law_570 : decode cL_law 570 = .ok (.iconst 0, 1) := by decide +kernel
theorem dL_law_571 : decode cL_law 571 = .ok (.ireturn, 1) := by decide +kernel
theorem dL_law_572 : decode cL_law 572 = .ok (.aload_n 1, 1) := by decide +kernel
theorem dL_law_573 : decode cL_law 573 = .ok (.aload_n 0, 1) := by decide +kernel
theorem dL_law_574 : decode cL_law 574 = .ok (.iload_n 3, 1) := by decide +kernel
theorem dL_law_575 : decode cL_law 575 = .ok (.iconst 1, 1) := by decide +kernel
theorem dL_law_576 : decode cL_law 576 = .ok (.iadd, 1) := by decide +kernel
theorem dL_law_577 : decode cL_law 577 = .ok (.iaload, 1) := by decide +kernel
theorem dL_law_578 : decode cL_law 578 = .ok (.aload_n 0, 1) := by decide +kernel
theorem dL_law_579 : decode cL_law 579 = .ok (.iload_n 3, 1) := by decide +kernel
theorem dL_law_580 : decode cL_law 580 = .ok (.iconst 2, 1) := by decide +kernel
theorem dL_law_581 : decode cL_law 581 = .ok (.iadd, 1) := by decide +kernel
theorem dL_law_582 : decode cL_law 582 = .ok (.iaload, 1) := by decide +kernel
theorem dL_law_583 : decode cL_law 583 = .ok (.invokevirtual 82, 3) := by decide +kernel
theorem dL_law_586 : decode cL_law 586 = .ok (.aload_n 2, 1) := by decide +kernel
theorem dL_law_587 : decode cL_law 587 = .ok (.aload_n 0, 1) := by decide +kernel
theorem dL_law_588 : decode cL_law 588 = .ok (.iload_n 3, 1) := by decide +kernel
theorem dL_law_589 : decode cL_law 589 = .ok (.iconst 1, 1) := by decide +kernel
theorem dL_law_590 : decode cL_law 590 = .ok (.iadd, 1) := by decide +kernel
theorem dL_law_591 : decode cL_law 591 = .ok (.iaload, 1) := by decide +kernel
theorem dL_law_592 : decode cL_law 592 = .ok (.aload_n 0, 1) := by decide +kernel
theorem dL_law_593 : decode cL_law 593 = .ok (.iload_n 3, 1) := by decide +kernel
theorem dL_law_594 : decode cL_law 594 = .ok (.iconst 2, 1) := by decide +kernel
theorem dL_law_595 : decode cL_law 595 = .ok (.iadd, 1) := by decide +kernel
theorem dL_law_596 : decode cL_law 596 = .ok (.iaload, 1) := by decide +kernel
theorem dL_law_597 : decode cL_law 597 = .ok (.invokevirtual 85, 3) := by decide +kernel
theorem dL_law_600 : decode cL_law 600 = .ok (.if_icmp .eq 146, 3) := by decide +kernel
theorem dL_law_603 : decode cL_law 603 = .ok (.iconst 0, 1) := by decide +kernel
theorem dL_law_604 : decode cL_law 604 = .ok (.ireturn, 1) := by decide +kernel
theorem dL_law_605 : decode cL_law 605 = .ok (.aload_n 1, 1) := by decide +kernel
theorem dL_law_606 : decode cL_law 606 = .ok (.invokevirtual 86, 3) := by decide +kernel
theorem dL_law_609 : decode cL_law 609 = .ok (.aload_n 2, 1) := by decide +kernel
theorem dL_law_610 : decode cL_law 610 = .ok (.invokevirtual 89, 3) := by decide +kernel
theorem dL_law_613 : decode cL_law 613 = .ok (.if_icmp .eq 133, 3) := by decide +kernel
theorem dL_law_616 : decode cL_law 616 = .ok (.iconst 0, 1) := by decide +kernel
theorem dL_law_617 : decode cL_law 617 = .ok (.ireturn, 1) := by decide +kernel
theorem dL_law_618 : decode cL_law 618 = .ok (.aload_n 1, 1) := by decide +kernel
theorem dL_law_619 : decode cL_law 619 = .ok (.aload_n 0, 1) := by decide +kernel
theorem dL_law_620 : decode cL_law 620 = .ok (.iload_n 3, 1) := by decide +kernel
theorem dL_law_621 : decode cL_law 621 = .ok (.iconst 1, 1) := by decide +kernel
theorem dL_law_622 : decode cL_law 622 = .ok (.iadd, 1) := by decide +kernel
theorem dL_law_623 : decode cL_law 623 = .ok (.iaload, 1) := by decide +kernel
theorem dL_law_624 : decode cL_law 624 = .ok (.invokevirtual 90, 3) := by decide +kernel
theorem dL_law_627 : decode cL_law 627 = .ok (.aload_n 2, 1) := by decide +kernel
theorem dL_law_628 : decode cL_law 628 = .ok (.aload_n 0, 1) := by decide +kernel
theorem dL_law_629 : decode cL_law 629 = .ok (.iload_n 3, 1) := by decide +kernel
theorem dL_law_630 : decode cL_law 630 = .ok (.iconst 1, 1) := by decide +kernel
theorem dL_law_631 : decode cL_law 631 = .ok (.iadd, 1) := by decide +kernel
theorem dL_law_632 : decode cL_law 632 = .ok (.iaload, 1) := by decide +kernel
theorem dL_law_633 : decode cL_law 633 = .ok (.invokevirtual 93, 3) := by decide +kernel
theorem dL_law_636 : decode cL_law 636 = .ok (.if_icmp .eq 110, 3) := by decide +kernel
theorem dL_law_639 : decode cL_law 639 = .ok (.iconst 0, 1) := by decide +kernel
theorem dL_law_640 : decode cL_law 640 = .ok (.ireturn, 1) := by decide +kernel
theorem dL_law_641 : decode cL_law 641 = .ok (.aload_n 1, 1) := by decide +kernel
theorem dL_law_642 : decode cL_law 642 = .ok (.aload_n 0, 1) := by decide +kernel
theorem dL_law_643 : decode cL_law 643 = .ok (.iload_n 3, 1) := by decide +kernel
theorem dL_law_644 : decode cL_law 644 = .ok (.iconst 1, 1) := by decide +kernel
theorem dL_law_645 : decode cL_law 645 = .ok (.iadd, 1) := by decide +kernel
theorem dL_law_646 : decode cL_law 646 = .ok (.iaload, 1) := by decide +kernel
theorem dL_law_647 : decode cL_law 647 = .ok (.invokevirtual 94, 3) := by decide +kernel
theorem dL_law_650 : decode cL_law 650 = .ok (.aload_n 2, 1) := by decide +kernel
theorem dL_law_651 : decode cL_law 651 = .ok (.aload_n 0, 1) := by decide +kernel
theorem dL_law_652 : decode cL_law 652 = .ok (.iload_n 3, 1) := by decide +kernel
theorem dL_law_653 : decode cL_law 653 = .ok (.iconst 1, 1) := by decide +kernel
theorem dL_law_654 : decode cL_law 654 = .ok (.iadd, 1) := by decide +kernel
theorem dL_law_655 : decode cL_law 655 = .ok (.iaload, 1) := by decide +kernel
theorem dL_law_656 : decode cL_law 656 = .ok (.invokevirtual 97, 3) := by decide +kernel
theorem dL_law_659 : decode cL_law 659 = .ok (.if_icmp .eq 87, 3) := by decide +kernel
theorem dL_law_662 : decode cL_law 662 = .ok (.iconst 0, 1) := by decide +kernel
theorem dL_law_663 : decode cL_law 663 = .ok (.ireturn, 1) := by decide +kernel
theorem dL_law_664 : decode cL_law 664 = .ok (.aload_n 1, 1) := by decide +kernel
theorem dL_law_665 : decode cL_law 665 = .ok (.aload_n 0, 1) := by decide +kernel
theorem dL_law_666 : decode cL_law 666 = .ok (.iload_n 3, 1) := by decide +kernel
theorem dL_law_667 : decode cL_law 667 = .ok (.iconst 1, 1) := by decide +kernel
theorem dL_law_668 : decode cL_law 668 = .ok (.iadd, 1) := by decide +kernel
theorem dL_law_669 : decode cL_law 669 = .ok (.iaload, 1) := by decide +kernel
theorem dL_law_670 : decode cL_law 670 = .ok (.invokevirtual 98, 3) := by decide +kernel
theorem dL_law_673 : decode cL_law 673 = .ok (.aload_n 2, 1) := by decide +kernel
theorem dL_law_674 : decode cL_law 674 = .ok (.aload_n 0, 1) := by decide +kernel
theorem dL_law_675 : decode cL_law 675 = .ok (.iload_n 3, 1) := by decide +kernel
theorem dL_law_676 : decode cL_law 676 = .ok (.iconst 1, 1) := by decide +kernel
theorem dL_law_677 : decode cL_law 677 = .ok (.iadd, 1) := by decide +kernel
theorem dL_law_678 : decode cL_law 678 = .ok (.iaload, 1) := by decide +kernel
theorem dL_law_679 : decode cL_law 679 = .ok (.invokevirtual 101, 3) := by decide +kernel
theorem dL_law_682 : decode cL_law 682 = .ok (.if_icmp .eq 64, 3) := by decide +kernel
theorem dL_law_685 : decode cL_law 685 = .ok (.iconst 0, 1) := by decide +kernel
theorem dL_law_686 : decode cL_law 686 = .ok (.ireturn, 1) := by decide +kernel
theorem dL_law_687 : decode cL_law 687 = .ok (.aload_n 1, 1) := by decide +kernel
theorem dL_law_688 : decode cL_law 688 = .ok (.aload_n 0, 1) := by decide +kernel
theorem dL_law_689 : decode cL_law 689 = .ok (.iload_n 3, 1) := by decide +kernel
theorem dL_law_690 : decode cL_law 690 = .ok (.iconst 1, 1) := by decide +kernel
theorem dL_law_691 : decode cL_law 691 = .ok (.iadd, 1) := by decide +kernel
theorem dL_law_692 : decode cL_law 692 = .ok (.iaload, 1) := by decide +kernel
theorem dL_law_693 : decode cL_law 693 = .ok (.invokevirtual 102, 3) := by decide +kernel
theorem dL_law_696 : decode cL_law 696 = .ok (.aload_n 2, 1) := by decide +kernel
theorem dL_law_697 : decode cL_law 697 = .ok (.aload_n 0, 1) := by decide +kernel
theorem dL_law_698 : decode cL_law 698 = .ok (.iload_n 3, 1) := by decide +kernel
theorem dL_law_699 : decode cL_law 699 = .ok (.iconst 1, 1) := by decide +kernel
theorem dL_law_700 : decode cL_law 700 = .ok (.iadd, 1) := by decide +kernel
theorem dL_law_701 : decode cL_law 701 = .ok (.iaload, 1) := by decide +kernel
theorem dL_law_702 : decode cL_law 702 = .ok (.invokevirtual 105, 3) := by decide +kernel
theorem dL_law_705 : decode cL_law 705 = .ok (.if_icmp .eq 41, 3) := by decide +kernel
theorem dL_law_708 : decode cL_law 708 = .ok (.iconst 0, 1) := by decide +kernel
theorem dL_law_709 : decode cL_law 709 = .ok (.ireturn, 1) := by decide +kernel
theorem dL_law_710 : decode cL_law 710 = .ok (.aload_n 1, 1) := by decide +kernel
theorem dL_law_711 : decode cL_law 711 = .ok (.aload_n 0, 1) := by decide +kernel
theorem dL_law_712 : decode cL_law 712 = .ok (.iload_n 3, 1) := by decide +kernel
theorem dL_law_713 : decode cL_law 713 = .ok (.iconst 1, 1) := by decide +kernel
theorem dL_law_714 : decode cL_law 714 = .ok (.iadd, 1) := by decide +kernel
theorem dL_law_715 : decode cL_law 715 = .ok (.iaload, 1) := by decide +kernel
theorem dL_law_716 : decode cL_law 716 = .ok (.invokevirtual 106, 3) := by decide +kernel
theorem dL_law_719 : decode cL_law 719 = .ok (.aload_n 2, 1) := by decide +kernel
theorem dL_law_720 : decode cL_law 720 = .ok (.aload_n 0, 1) := by decide +kernel
theorem dL_law_721 : decode cL_law 721 = .ok (.iload_n 3, 1) := by decide +kernel
theorem dL_law_722 : decode cL_law 722 = .ok (.iconst 1, 1) := by decide +kernel
theorem dL_law_723 : decode cL_law 723 = .ok (.iadd, 1) := by decide +kernel
theorem dL_law_724 : decode cL_law 724 = .ok (.iaload, 1) := by decide +kernel
theorem dL_law_725 : decode cL_law 725 = .ok (.invokevirtual 109, 3) := by decide +kernel
theorem dL_law_728 : decode cL_law 728 = .ok (.if_icmp .eq 18, 3) := by decide +kernel
theorem dL_law_731 : decode cL_law 731 = .ok (.iconst 0, 1) := by decide +kernel
theorem dL_law_732 : decode cL_law 732 = .ok (.ireturn, 1) := by decide +kernel
theorem dL_law_733 : decode cL_law 733 = .ok (.aload_n 1, 1) := by decide +kernel
theorem dL_law_734 : decode cL_law 734 = .ok (.invokevirtual 110, 3) := by decide +kernel
theorem dL_law_737 : decode cL_law 737 = .ok (.aload_n 2, 1) := by decide +kernel
theorem dL_law_738 : decode cL_law 738 = .ok (.invokevirtual 113, 3) := by decide +kernel
theorem dL_law_741 : decode cL_law 741 = .ok (.if_icmp .eq 5, 3) := by decide +kernel
theorem dL_law_744 : decode cL_law 744 = .ok (.iconst 0, 1) := by decide +kernel
theorem dL_law_745 : decode cL_law 745 = .ok (.ireturn, 1) := by decide +kernel
theorem dL_law_746 : decode cL_law 746 = .ok (.iinc 3 5, 3) := by decide +kernel
theorem dL_law_749 : decode cL_law 749 = .ok (.goto (-731), 3) := by decide +kernel
theorem dL_law_752 : decode cL_law 752 = .ok (.iconst 1, 1) := by decide +kernel
theorem dL_law_753 : decode cL_law 753 = .ok (.ireturn, 1) := by decide +kernel
end
section
/-! ===== words: each word of the law's list by its place; the nest mates' words ===== -/
theorem in_t1 : ∀ w ∈ tables_1_1, w ∈ lw_tbl := fun _ h => List.mem_append_right _ (List.mem_append_left _ h)
theorem in_t2 : ∀ w ∈ tables_1_2, w ∈ lw_tbl := fun _ h => List.mem_append_right _ (List.mem_append_right _ (List.mem_append_left _ h))
theorem in_t3 : ∀ w ∈ tables_1_3, w ∈ lw_tbl := fun _ h => List.mem_append_right _ (List.mem_append_right _ (List.mem_append_right _ h))
theorem inr_1 : ∀ w ∈ wsL_law_r1, w ∈ wsL_law := fun _ h => List.mem_append_left _ (List.mem_append_left _ (List.mem_append_left _ (List.mem_append_left _ (List.mem_append_left _ (List.mem_append_left _ (List.mem_append_left _ (List.mem_append_left _ (List.mem_append_left _ h))))))))
theorem inr_2 : ∀ w ∈ wsL_law_r2, w ∈ wsL_law := fun _ h => List.mem_append_left _ (List.mem_append_left _ (List.mem_append_left _ (List.mem_append_left _ (List.mem_append_left _ (List.mem_append_left _ (List.mem_append_left _ (List.mem_append_left _ (List.mem_append_right _ (List.mem_append_left _ h)))))))))
theorem inr_3 : ∀ w ∈ wsL_law_r3, w ∈ wsL_law := fun _ h => List.mem_append_left _ (List.mem_append_left _ (List.mem_append_left _ (List.mem_append_left _ (List.mem_append_left _ (List.mem_append_left _ (List.mem_append_left _ (List.mem_append_left _ (List.mem_append_right _ (List.mem_append_right _ (List.mem_append_left _ h))))))))))
theorem inr_4 : ∀ w ∈ wsL_law_r4, w ∈ wsL_law := fun _ h => List.mem_append_left _ (List.mem_append_left _ (List.mem_append_left _ (List.mem_append_left _ (List.mem_append_left _ (List.mem_append_left _ (List.mem_append_left _ (List.mem_append_left _ (List.mem_append_right _ (List.mem_append_right _ (List.mem_append_right _ (List.mem_append_left _ h)))))))))))
theorem inr_5 : ∀ w ∈ wsL_law_r5, w ∈ wsL_law := fun _ h => List.mem_append_left _ (List.mem_append_left _ (List.mem_append_left _ (List.mem_append_left _ (List.mem_append_left _ (List.mem_append_left _ (List.mem_append_left _ (List.mem_append_left _ (List.mem_append_right _ (List.mem_append_right _ (List.mem_append_right _ (List.mem_append_right _ (List.mem_append_left _ h))))))))))))
theorem inr_6 : ∀ w ∈ wsL_law_r6, w ∈ wsL_law := fun _ h => List.mem_append_left _ (List.mem_append_left _ (List.mem_append_left _ (List.mem_append_left _ (List.mem_append_left _ (List.mem_append_left _ (List.mem_append_left _ (List.mem_append_left _ (List.mem_append_right _ (List.mem_append_right _ (List.mem_append_right _ (List.mem_append_right _ (List.mem_append_right _ (List.mem_append_left _ h)))))))))))))
theorem inr_7 : ∀ w ∈ wsL_law_r7, w ∈ wsL_law := fun _ h => List.mem_append_left _ (List.mem_append_left _ (List.mem_append_left _ (List.mem_append_left _ (List.mem_append_left _ (List.mem_append_left _ (List.mem_append_left _ (List.mem_append_left _ (List.mem_append_right _ (List.mem_append_right _ (List.mem_append_right _ (List.mem_append_right _ (List.mem_append_right _ (List.mem_append_right _ (List.mem_append_left _ h))))))))))))))
theorem inr_8 : ∀ w ∈ wsL_law_r8, w ∈ wsL_law := fun _ h => List.mem_append_left _ (List.mem_append_left _ (List.mem_append_left _ (List.mem_append_left _ (List.mem_append_left _ (List.mem_append_left _ (List.mem_append_left _ (List.mem_append_left _ (List.mem_append_right _ (List.mem_append_right _ (List.mem_append_right _ (List.mem_append_right _ (List.mem_append_right _ (List.mem_append_right _ (List.mem_append_right _ (List.mem_append_left _ h)))))))))))))))
theorem inr_9 : ∀ w ∈ wsL_law_r9, w ∈ wsL_law := fun _ h => List.mem_append_left _ (List.mem_append_left _ (List.mem_append_left _ (List.mem_append_left _ (List.mem_append_left _ (List.mem_append_left _ (List.mem_append_left _ (List.mem_append_left _ (List.mem_append_right _ (List.mem_append_right _ (List.mem_append_right _ (List.mem_append_right _ (List.mem_append_right _ (List.mem_append_right _ (List.mem_append_right _ (List.mem_append_right _ (List.mem_append_left _ h))))))))))))))))
theorem inr_10 : ∀ w ∈ wsL_law_r10, w ∈ wsL_law := fun _ h => List.mem_append_left _ (List.mem_append_left _ (List.mem_append_left _ (List.mem_append_left _ (List.mem_append_left _ (List.mem_append_left _ (List.mem_append_left _ (List.mem_append_left _ (List.mem_append_right _ (List.mem_append_right _ (List.mem_append_right _ (List.mem_append_right _ (List.mem_append_right _ (List.mem_append_right _ (List.mem_append_right _ (List.mem_append_right _ (List.mem_append_right _ (List.mem_append_left _ h)))))))))))))))))
theorem inr_11 : ∀ w ∈ wsL_law_r11, w ∈ wsL_law := fun _ h => List.mem_append_left _ (List.mem_append_left _ (List.mem_append_left _ (List.mem_append_left _ (List.mem_append_left _ (List.mem_append_left _ (List.mem_append_left _ (List.mem_append_left _ (List.mem_append_right _ (List.mem_append_right _ (List.mem_append_right _ (List.mem_append_right _ (List.mem_append_right _ (List.mem_append_right _ (List.mem_append_right _ (List.mem_append_right _ (List.mem_append_right _ (List.mem_append_right _ (List.mem_append_left _ h))))))))))))))))))
theorem inr_12 : ∀ w ∈ wsL_law_r12, w ∈ wsL_law := fun _ h => List.mem_append_left _ (List.mem_append_left _ (List.mem_append_left _ (List.mem_append_left _ (List.mem_append_left _ (List.mem_append_left _ (List.mem_append_left _ (List.mem_append_left _ (List.mem_append_right _ (List.mem_append_right _ (List.mem_append_right _ (List.mem_append_right _ (List.mem_append_right _ (List.mem_append_right _ (List.mem_append_right _ (List.mem_append_right _ (List.mem_append_right _ (List.mem_append_right _ (List.mem_append_right _ (List.mem_append_left _ h)))))))))))))))))))
theorem inr_13 : ∀ w ∈ wsL_law_r13, w ∈ wsL_law := fun _ h => List.mem_append_left _ (List.mem_append_left _ (List.mem_append_left _ (List.mem_append_left _ (List.mem_append_left _ (List.mem_append_left _ (List.mem_append_left _ (List.mem_append_left _ (List.mem_append_right _ (List.mem_append_right _ (List.mem_append_right _ (List.mem_append_right _ (List.mem_append_right _ (List.mem_append_right _ (List.mem_append_right _ (List.mem_append_right _ (List.mem_append_right _ (List.mem_append_right _ (List.mem_append_right _ (List.mem_append_right _ (List.mem_append_left _ h))))))))))))))))))))
theorem inr_14 : ∀ w ∈ wsL_law_r14, w ∈ wsL_law := fun _ h => List.mem_append_left _ (List.mem_append_left _ (List.mem_append_left _ (List.mem_append_left _ (List.mem_append_left _ (List.mem_append_left _ (List.mem_append_left _ (List.mem_append_left _ (List.mem_append_right _ (List.mem_append_right _ (List.mem_append_right _ (List.mem_append_right _ (List.mem_append_right _ (List.mem_append_right _ (List.mem_append_right _ (List.mem_append_right _ (List.mem_append_right _ (List.mem_append_right _ (List.mem_append_right _ (List.mem_append_right _ (List.mem_append_right _ (List.mem_append_left _ h)))))))))))))))))))))
theorem inr_15 : ∀ w ∈ wsL_law_r15, w ∈ wsL_law := fun _ h => List.mem_append_left _ (List.mem_append_left _ (List.mem_append_left _ (List.mem_append_left _ (List.mem_append_left _ (List.mem_append_left _ (List.mem_append_left _ (List.mem_append_left _ (List.mem_append_right _ (List.mem_append_right _ (List.mem_append_right _ (List.mem_append_right _ (List.mem_append_right _ (List.mem_append_right _ (List.mem_append_right _ (List.mem_append_right _ (List.mem_append_right _ (List.mem_append_right _ (List.mem_append_right _ (List.mem_append_right _ (List.mem_append_right _ (List.mem_append_right _ (List.mem_append_left _ h))))))))))))))))))))))
theorem inr_16 : ∀ w ∈ wsL_law_r16, w ∈ wsL_law := fun _ h => List.mem_append_left _ (List.mem_append_left _ (List.mem_append_left _ (List.mem_append_left _ (List.mem_append_left _ (List.mem_append_left _ (List.mem_append_left _ (List.mem_append_left _ (List.mem_append_right _ (List.mem_append_right _ (List.mem_append_right _ (List.mem_append_right _ (List.mem_append_right _ (List.mem_append_right _ (List.mem_append_right _ (List.mem_append_right _ (List.mem_append_right _ (List.mem_append_right _ (List.mem_append_right _ (List.mem_append_right _ (List.mem_append_right _ (List.mem_append_right _ (List.mem_append_right _ (List.mem_append_left _ h)))))))))))))))))))))))
theorem inr_17 : ∀ w ∈ wsL_law_r17, w ∈ wsL_law := fun _ h => List.mem_append_left _ (List.mem_append_left _ (List.mem_append_left _ (List.mem_append_left _ (List.mem_append_left _ (List.mem_append_left _ (List.mem_append_left _ (List.mem_append_left _ (List.mem_append_right _ (List.mem_append_right _ (List.mem_append_right _ (List.mem_append_right _ (List.mem_append_right _ (List.mem_append_right _ (List.mem_append_right _ (List.mem_append_right _ (List.mem_append_right _ (List.mem_append_right _ (List.mem_append_right _ (List.mem_append_right _ (List.mem_append_right _ (List.mem_append_right _ (List.mem_append_right _ (List.mem_append_right _ (List.mem_append_left _ h))))))))))))))))))))))))
theorem inr_18 : ∀ w ∈ wsL_law_r18, w ∈ wsL_law := fun _ h => List.mem_append_left _ (List.mem_append_left _ (List.mem_append_left _ (List.mem_append_left _ (List.mem_append_left _ (List.mem_append_left _ (List.mem_append_left _ (List.mem_append_left _ (List.mem_append_right _ (List.mem_append_right _ (List.mem_append_right _ (List.mem_append_right _ (List.mem_append_right _ (List.mem_append_right _ (List.mem_append_right _ (List.mem_append_right _ (List.mem_append_right _ (List.mem_append_right _ (List.mem_append_right _ (List.mem_append_right _ (List.mem_append_right _ (List.mem_append_right _ (List.mem_append_right _ (List.mem_append_right _ (List.mem_append_right _ (List.mem_append_left _ h)))))))))))))))))))))))))
theorem inr_19 : ∀ w ∈ wsL_law_r19, w ∈ wsL_law := fun _ h => List.mem_append_left _ (List.mem_append_left _ (List.mem_append_left _ (List.mem_append_left _ (List.mem_append_left _ (List.mem_append_left _ (List.mem_append_left _ (List.mem_append_left _ (List.mem_append_right _ (List.mem_append_right _ (List.mem_append_right _ (List.mem_append_right _ (List.mem_append_right _ (List.mem_append_right _ (List.mem_append_right _ (List.mem_append_right _ (List.mem_append_right _ (List.mem_append_right _ (List.mem_append_right _ (List.mem_append_right _ (List.mem_append_right _ (List.mem_append_right _ (List.mem_append_right _ (List.mem_append_right _ (List.mem_append_right _ (List.mem_append_right _ (List.mem_append_left _ h))))))))))))))))))))))))))
theorem inr_20 : ∀ w ∈ wsL_law_r20, w ∈ wsL_law := fun _ h => List.mem_append_left _ (List.mem_append_left _ (List.mem_append_left _ (List.mem_append_left _ (List.mem_append_left _ (List.mem_append_left _ (List.mem_append_left _ (List.mem_append_left _ (List.mem_append_right _ (List.mem_append_right _ (List.mem_append_right _ (List.mem_append_right _ (List.mem_append_right _ (List.mem_append_right _ (List.mem_append_right _ (List.mem_append_right _ (List.mem_append_right _ (List.mem_append_right _ (List.mem_append_right _ (List.mem_append_right _ (List.mem_append_right _ (List.mem_append_right _ (List.mem_append_right _ (List.mem_append_right _ (List.mem_append_right _ (List.mem_append_right _ (List.mem_append_right _ (List.mem_append_left _ h)))))))))))))))))))))))))))
theorem inr_21 : ∀ w ∈ wsL_law_r21, w ∈ wsL_law := fun _ h => List.mem_append_left _ (List.mem_append_left _ (List.mem_append_left _ (List.mem_append_left _ (List.mem_append_left _ (List.mem_append_left _ (List.mem_append_left _ (List.mem_append_left _ (List.mem_append_right _ (List.mem_append_right _ (List.mem_append_right _ (List.mem_append_right _ (List.mem_append_right _ (List.mem_append_right _ (List.mem_append_right _ (List.mem_append_right _ (List.mem_append_right _ (List.mem_append_right _ (List.mem_append_right _ (List.mem_append_right _ (List.mem_append_right _ (List.mem_append_right _ (List.mem_append_right _ (List.mem_append_right _ (List.mem_append_right _ (List.mem_append_right _ (List.mem_append_right _ (List.mem_append_right _ (h))))))))))))))))))))))))))))
theorem wd_0 : Cond.classLink RL 7 RX5 ∈ wsL_law := inr_1 _ (List.mem_of_getElem? (i := 0) rfl)
theorem wt_0 : Cond.classLink RL 7 RX5 ∈ lw_tbl := in_t1 _ (List.mem_of_getElem? (i := 11) rfl)
theorem wd_1 : Cond.instantiable RX5 5 ∈ wsL_law := inr_1 _ (List.mem_of_getElem? (i := 1) rfl)
theorem wt_1 : Cond.instantiable RX5 5 ∈ lw_tbl := in_t1 _ (List.mem_of_getElem? (i := 12) rfl)
theorem wd_2 : Cond.initialized RX5 ∈ wsL_law := inr_1 _ (List.mem_of_getElem? (i := 2) rfl)
theorem wt_2 : Cond.initialized RX5 ∈ lw_tbl := in_t1 _ (List.mem_of_getElem? (i := 1) rfl)
theorem wd_3 : Cond.classLink RL 10 RX6 ∈ wsL_law := inr_1 _ (List.mem_of_getElem? (i := 3) rfl)
theorem wt_3 : Cond.classLink RL 10 RX6 ∈ lw_tbl := in_t2 _ (List.mem_of_getElem? (i := 175) rfl)
theorem wd_4 : Cond.instantiable RX6 12 ∈ wsL_law := inr_1 _ (List.mem_of_getElem? (i := 4) rfl)
theorem wt_4 : Cond.instantiable RX6 12 ∈ lw_tbl := in_t2 _ (List.mem_of_getElem? (i := 176) rfl)
theorem wd_5 : Cond.initialized RX6 ∈ wsL_law := inr_1 _ (List.mem_of_getElem? (i := 5) rfl)
theorem wt_5 : Cond.initialized RX6 ∈ lw_tbl := in_t1 _ (List.mem_of_getElem? (i := 7) rfl)
theorem wd_6 : Cond.methodLink RL 9 yX5_init ∈ wsL_law := inr_1 _ (List.mem_of_getElem? (i := 6) rfl)
theorem wt_6 : Cond.methodLink RL 9 yX5_init ∈ lw_tbl := in_t1 _ (List.mem_of_getElem? (i := 13) rfl)
theorem wd_7 : Cond.instanceMethod yX5_init ∈ wsL_law := inr_1 _ (List.mem_of_getElem? (i := 7) rfl)
theorem wt_7 : Cond.instanceMethod yX5_init ∈ lw_tbl := in_t1 _ (List.mem_of_getElem? (i := 14) rfl)
theorem wd_8 : Cond.code yX5_init cX5_init 1 none ∈ wsL_law := inr_1 _ (List.mem_of_getElem? (i := 8) rfl)
theorem wt_8 : Cond.code yX5_init cX5_init 1 none ∈ lw_tbl := in_t1 _ (List.mem_of_getElem? (i := 15) rfl)
theorem wd_9 : Cond.methodLink RX5 1 objectInit ∈ wsL_law := inr_1 _ (List.mem_of_getElem? (i := 9) rfl)
theorem wt_9 : Cond.methodLink RX5 1 objectInit ∈ lw_tbl := in_t1 _ (List.mem_of_getElem? (i := 16) rfl)
theorem wd_10 : Cond.instanceMethod objectInit ∈ wsL_law := inr_1 _ (List.mem_of_getElem? (i := 10) rfl)
theorem wt_10 : Cond.instanceMethod objectInit ∈ lw_tbl := in_t1 _ (List.mem_of_getElem? (i := 17) rfl)
theorem wd_11 : Cond.code objectInit ⟨#[0xb1]⟩ 1 none ∈ wsL_law := inr_1 _ (List.mem_of_getElem? (i := 11) rfl)
theorem wt_11 : Cond.code objectInit ⟨#[0xb1]⟩ 1 none ∈ lw_tbl := in_t1 _ (List.mem_of_getElem? (i := 18) rfl)
theorem wd_12 : Cond.classLink RX5 7 RX4 ∈ wsL_law := inr_1 _ (List.mem_of_getElem? (i := 12) rfl)
theorem wt_12 : Cond.classLink RX5 7 RX4 ∈ lw_tbl := in_t1 _ (List.mem_of_getElem? (i := 19) rfl)
theorem wd_13 : Cond.instantiable RX4 2 ∈ wsL_law := inr_1 _ (List.mem_of_getElem? (i := 13) rfl)
theorem wt_13 : Cond.instantiable RX4 2 ∈ lw_tbl := in_t1 _ (List.mem_of_getElem? (i := 20) rfl)
theorem wd_14 : Cond.initialized RX4 ∈ wsL_law := inr_1 _ (List.mem_of_getElem? (i := 14) rfl)
theorem wt_14 : Cond.initialized RX4 ∈ lw_tbl := in_t1 _ (List.mem_of_getElem? (i := 2) rfl)
theorem wd_15 : Cond.fieldLink RX5 10 "DieStudy" "specimens" "LDieStudy$Specimens;" ∈ wsL_law := inr_1 _ (List.mem_of_getElem? (i := 15) rfl)
theorem wt_15 : Cond.fieldLink RX5 10 "DieStudy" "specimens" "LDieStudy$Specimens;" ∈ lw_tbl := in_t1 _ (List.mem_of_getElem? (i := 122) rfl)
theorem wd_16 : Cond.classLink RX5 16 RX2 ∈ wsL_law := inr_1 _ (List.mem_of_getElem? (i := 16) rfl)
theorem wt_16 : Cond.classLink RX5 16 RX2 ∈ lw_tbl := in_t1 _ (List.mem_of_getElem? (i := 37) rfl)
theorem wd_17 : Cond.instantiable RX2 4 ∈ wsL_law := inr_1 _ (List.mem_of_getElem? (i := 17) rfl)
theorem wt_17 : Cond.instantiable RX2 4 ∈ lw_tbl := in_t1 _ (List.mem_of_getElem? (i := 38) rfl)
theorem wd_18 : Cond.initialized RX2 ∈ wsL_law := inr_1 _ (List.mem_of_getElem? (i := 18) rfl)
theorem wt_18 : Cond.initialized RX2 ∈ lw_tbl := in_t1 _ (List.mem_of_getElem? (i := 3) rfl)
theorem wd_19 : Cond.fieldLink RX5 19 "DieStudy" "history" "LDieStudy$History;" ∈ wsL_law := inr_1 _ (List.mem_of_getElem? (i := 19) rfl)
theorem wt_19 : Cond.fieldLink RX5 19 "DieStudy" "history" "LDieStudy$History;" ∈ lw_tbl := in_t1 _ (List.mem_of_getElem? (i := 123) rfl)
theorem wd_20 : Cond.classLink RX5 23 RX1 ∈ wsL_law := inr_1 _ (List.mem_of_getElem? (i := 20) rfl)
theorem wt_20 : Cond.classLink RX5 23 RX1 ∈ lw_tbl := in_t1 _ (List.mem_of_getElem? (i := 57) rfl)
theorem wd_21 : Cond.instantiable RX1 5 ∈ wsL_law := inr_1 _ (List.mem_of_getElem? (i := 21) rfl)
theorem wt_21 : Cond.instantiable RX1 5 ∈ lw_tbl := in_t1 _ (List.mem_of_getElem? (i := 58) rfl)
theorem wd_22 : Cond.initialized RX1 ∈ wsL_law := inr_1 _ (List.mem_of_getElem? (i := 22) rfl)
theorem wt_22 : Cond.initialized RX1 ∈ lw_tbl := in_t1 _ (List.mem_of_getElem? (i := 4) rfl)
theorem wd_23 : Cond.fieldLink RX5 26 "DieStudy" "couples" "LDieStudy$Couples;" ∈ wsL_law := inr_1 _ (List.mem_of_getElem? (i := 23) rfl)
theorem wt_23 : Cond.fieldLink RX5 26 "DieStudy" "couples" "LDieStudy$Couples;" ∈ lw_tbl := in_t1 _ (List.mem_of_getElem? (i := 124) rfl)
theorem wr_1 : ∀ w ∈ wsL_law_r1, w ∈ lw_tbl := List.forall_mem_cons.mpr ⟨wt_0, List.forall_mem_cons.mpr ⟨wt_1, List.forall_mem_cons.mpr ⟨wt_2, List.forall_mem_cons.mpr ⟨wt_3, List.forall_mem_cons.mpr ⟨wt_4, List.forall_mem_cons.mpr ⟨wt_5, List.forall_mem_cons.mpr ⟨wt_6, List.forall_mem_cons.mpr ⟨wt_7, List.forall_mem_cons.mpr ⟨wt_8, List.forall_mem_cons.mpr ⟨wt_9, List.forall_mem_cons.mpr ⟨wt_10, List.forall_mem_cons.mpr ⟨wt_11, List.forall_mem_cons.mpr ⟨wt_12, List.forall_mem_cons.mpr ⟨wt_13, List.forall_mem_cons.mpr ⟨wt_14, List.forall_mem_cons.mpr ⟨wt_15, List.forall_mem_cons.mpr ⟨wt_16, List.forall_mem_cons.mpr ⟨wt_17, List.forall_mem_cons.mpr ⟨wt_18, List.forall_mem_cons.mpr ⟨wt_19, List.forall_mem_cons.mpr ⟨wt_20, List.forall_mem_cons.mpr ⟨wt_21, List.forall_mem_cons.mpr ⟨wt_22, List.forall_mem_cons.mpr ⟨wt_23, fun _ h => absurd h List.not_mem_nil⟩⟩⟩⟩⟩⟩⟩⟩⟩⟩⟩⟩⟩⟩⟩⟩⟩⟩⟩⟩⟩⟩⟩⟩
theorem wd_24 : Cond.classLink RX5 30 RX3 ∈ wsL_law := inr_2 _ (List.mem_of_getElem? (i := 0) rfl)
theorem wt_24 : Cond.classLink RX5 30 RX3 ∈ lw_tbl := in_t1 _ (List.mem_of_getElem? (i := 86) rfl)
theorem wd_25 : Cond.instantiable RX3 3 ∈ wsL_law := inr_2 _ (List.mem_of_getElem? (i := 1) rfl)
theorem wt_25 : Cond.instantiable RX3 3 ∈ lw_tbl := in_t1 _ (List.mem_of_getElem? (i := 87) rfl)
theorem wd_26 : Cond.initialized RX3 ∈ wsL_law := inr_2 _ (List.mem_of_getElem? (i := 2) rfl)
theorem wt_26 : Cond.initialized RX3 ∈ lw_tbl := in_t1 _ (List.mem_of_getElem? (i := 5) rfl)
theorem wd_27 : Cond.fieldLink RX5 33 "DieStudy" "graph" "LDieStudy$LinkGraph;" ∈ wsL_law := inr_2 _ (List.mem_of_getElem? (i := 3) rfl)
theorem wt_27 : Cond.fieldLink RX5 33 "DieStudy" "graph" "LDieStudy$LinkGraph;" ∈ lw_tbl := in_t1 _ (List.mem_of_getElem? (i := 125) rfl)
theorem wd_28 : Cond.classLink RX5 37 RX0 ∈ wsL_law := inr_2 _ (List.mem_of_getElem? (i := 4) rfl)
theorem wt_28 : Cond.classLink RX5 37 RX0 ∈ lw_tbl := in_t1 _ (List.mem_of_getElem? (i := 104) rfl)
theorem wd_29 : Cond.instantiable RX0 3 ∈ wsL_law := inr_2 _ (List.mem_of_getElem? (i := 5) rfl)
theorem wt_29 : Cond.instantiable RX0 3 ∈ lw_tbl := in_t1 _ (List.mem_of_getElem? (i := 105) rfl)
theorem wd_30 : Cond.initialized RX0 ∈ wsL_law := inr_2 _ (List.mem_of_getElem? (i := 6) rfl)
theorem wt_30 : Cond.initialized RX0 ∈ lw_tbl := in_t1 _ (List.mem_of_getElem? (i := 6) rfl)
theorem wd_31 : Cond.fieldLink RX5 40 "DieStudy" "chronology" "LDieStudy$Chronology;" ∈ wsL_law := inr_2 _ (List.mem_of_getElem? (i := 7) rfl)
theorem wt_31 : Cond.fieldLink RX5 40 "DieStudy" "chronology" "LDieStudy$Chronology;" ∈ lw_tbl := in_t1 _ (List.mem_of_getElem? (i := 126) rfl)
theorem wd_32 : Cond.instanceMethod yX4_init ∈ wsL_law := inr_2 _ (List.mem_of_getElem? (i := 8) rfl)
theorem wt_32 : Cond.instanceMethod yX4_init ∈ lw_tbl := in_t1 _ (List.mem_of_getElem? (i := 22) rfl)
theorem wd_33 : Cond.code yX4_init cX4_init 1 none ∈ wsL_law := inr_2 _ (List.mem_of_getElem? (i := 9) rfl)
theorem wt_33 : Cond.code yX4_init cX4_init 1 none ∈ lw_tbl := in_t1 _ (List.mem_of_getElem? (i := 23) rfl)
theorem wd_34 : Cond.methodLink RX4 5 objectInit ∈ wsL_law := inr_2 _ (List.mem_of_getElem? (i := 10) rfl)
theorem wt_34 : Cond.methodLink RX4 5 objectInit ∈ lw_tbl := in_t1 _ (List.mem_of_getElem? (i := 24) rfl)
theorem wd_35 : Cond.arrayClass .int ∈ wsL_law := inr_2 _ (List.mem_of_getElem? (i := 11) rfl)
theorem wt_35 : Cond.arrayClass .int ∈ lw_tbl := in_t1 _ (List.mem_of_getElem? (i := 36) rfl)
theorem wd_36 : Cond.fieldLink RX4 11 "DieStudy$Specimens" "cells" "[I" ∈ wsL_law := inr_2 _ (List.mem_of_getElem? (i := 12) rfl)
theorem wt_36 : Cond.fieldLink RX4 11 "DieStudy$Specimens" "cells" "[I" ∈ lw_tbl := in_t1 _ (List.mem_of_getElem? (i := 25) rfl)
theorem wd_37 : Cond.fieldLink RX4 15 "DieStudy$Specimens" "count" "I" ∈ wsL_law := inr_2 _ (List.mem_of_getElem? (i := 13) rfl)
theorem wt_37 : Cond.fieldLink RX4 15 "DieStudy$Specimens" "count" "I" ∈ lw_tbl := in_t1 _ (List.mem_of_getElem? (i := 27) rfl)
theorem wd_38 : Cond.instanceMethod yX2_init ∈ wsL_law := inr_2 _ (List.mem_of_getElem? (i := 14) rfl)
theorem wt_38 : Cond.instanceMethod yX2_init ∈ lw_tbl := in_t1 _ (List.mem_of_getElem? (i := 40) rfl)
theorem wd_39 : Cond.code yX2_init cX2_init 1 none ∈ wsL_law := inr_2 _ (List.mem_of_getElem? (i := 15) rfl)
theorem wt_39 : Cond.code yX2_init cX2_init 1 none ∈ lw_tbl := in_t1 _ (List.mem_of_getElem? (i := 41) rfl)
theorem wd_40 : Cond.methodLink RX2 3 objectInit ∈ wsL_law := inr_2 _ (List.mem_of_getElem? (i := 16) rfl)
theorem wt_40 : Cond.methodLink RX2 3 objectInit ∈ lw_tbl := in_t1 _ (List.mem_of_getElem? (i := 42) rfl)
theorem wd_41 : Cond.fieldLink RX2 11 "DieStudy$History" "cells" "[I" ∈ wsL_law := inr_2 _ (List.mem_of_getElem? (i := 17) rfl)
theorem wt_41 : Cond.fieldLink RX2 11 "DieStudy$History" "cells" "[I" ∈ lw_tbl := in_t1 _ (List.mem_of_getElem? (i := 43) rfl)
theorem wd_42 : Cond.fieldLink RX2 17 "DieStudy$History" "counts" "[I" ∈ wsL_law := inr_2 _ (List.mem_of_getElem? (i := 18) rfl)
theorem wt_42 : Cond.fieldLink RX2 17 "DieStudy$History" "counts" "[I" ∈ lw_tbl := in_t1 _ (List.mem_of_getElem? (i := 44) rfl)
theorem wd_43 : Cond.fieldLink RX2 20 "DieStudy$History" "saved" "I" ∈ wsL_law := inr_2 _ (List.mem_of_getElem? (i := 19) rfl)
theorem wt_43 : Cond.fieldLink RX2 20 "DieStudy$History" "saved" "I" ∈ lw_tbl := in_t1 _ (List.mem_of_getElem? (i := 45) rfl)
theorem wd_44 : Cond.fieldLink RX2 24 "DieStudy$History" "next" "I" ∈ wsL_law := inr_2 _ (List.mem_of_getElem? (i := 20) rfl)
theorem wt_44 : Cond.fieldLink RX2 24 "DieStudy$History" "next" "I" ∈ lw_tbl := in_t1 _ (List.mem_of_getElem? (i := 47) rfl)
theorem wd_45 : Cond.instanceMethod yX1_init ∈ wsL_law := inr_2 _ (List.mem_of_getElem? (i := 21) rfl)
theorem wt_45 : Cond.instanceMethod yX1_init ∈ lw_tbl := in_t1 _ (List.mem_of_getElem? (i := 60) rfl)
theorem wd_46 : Cond.code yX1_init cX1_init 1 none ∈ wsL_law := inr_2 _ (List.mem_of_getElem? (i := 22) rfl)
theorem wt_46 : Cond.code yX1_init cX1_init 1 none ∈ lw_tbl := in_t1 _ (List.mem_of_getElem? (i := 61) rfl)
theorem wd_47 : Cond.methodLink RX1 3 objectInit ∈ wsL_law := inr_2 _ (List.mem_of_getElem? (i := 23) rfl)
theorem wt_47 : Cond.methodLink RX1 3 objectInit ∈ lw_tbl := in_t1 _ (List.mem_of_getElem? (i := 62) rfl)
theorem wr_2 : ∀ w ∈ wsL_law_r2, w ∈ lw_tbl := List.forall_mem_cons.mpr ⟨wt_24, List.forall_mem_cons.mpr ⟨wt_25, List.forall_mem_cons.mpr ⟨wt_26, List.forall_mem_cons.mpr ⟨wt_27, List.forall_mem_cons.mpr ⟨wt_28, List.forall_mem_cons.mpr ⟨wt_29, List.forall_mem_cons.mpr ⟨wt_30, List.forall_mem_cons.mpr ⟨wt_31, List.forall_mem_cons.mpr ⟨wt_32, List.forall_mem_cons.mpr ⟨wt_33, List.forall_mem_cons.mpr ⟨wt_34, List.forall_mem_cons.mpr ⟨wt_35, List.forall_mem_cons.mpr ⟨wt_36, List.forall_mem_cons.mpr ⟨wt_37, List.forall_mem_cons.mpr ⟨wt_38, List.forall_mem_cons.mpr ⟨wt_39, List.forall_mem_cons.mpr ⟨wt_40, List.forall_mem_cons.mpr ⟨wt_41, List.forall_mem_cons.mpr ⟨wt_42, List.forall_mem_cons.mpr ⟨wt_43, List.forall_mem_cons.mpr ⟨wt_44, List.forall_mem_cons.mpr ⟨wt_45, List.forall_mem_cons.mpr ⟨wt_46, List.forall_mem_cons.mpr ⟨wt_47, fun _ h => absurd h List.not_mem_nil⟩⟩⟩⟩⟩⟩⟩⟩⟩⟩⟩⟩⟩⟩⟩⟩⟩⟩⟩⟩⟩⟩⟩⟩
theorem wd_48 : Cond.fieldLink RX1 11 "DieStudy$Couples" "numberOfPair" "[I" ∈ wsL_law := inr_3 _ (List.mem_of_getElem? (i := 0) rfl)
theorem wt_48 : Cond.fieldLink RX1 11 "DieStudy$Couples" "numberOfPair" "[I" ∈ lw_tbl := in_t1 _ (List.mem_of_getElem? (i := 65) rfl)
theorem wd_49 : Cond.classLink RX1 15 "[[I" ∈ wsL_law := inr_3 _ (List.mem_of_getElem? (i := 1) rfl)
theorem wt_49 : Cond.classLink RX1 15 "[[I" ∈ lw_tbl := in_t1 _ (List.mem_of_getElem? (i := 63) rfl)
theorem wd_50 : Cond.fieldLink RX1 17 "DieStudy$Couples" "die" "[[I" ∈ wsL_law := inr_3 _ (List.mem_of_getElem? (i := 2) rfl)
theorem wt_50 : Cond.fieldLink RX1 17 "DieStudy$Couples" "die" "[[I" ∈ lw_tbl := in_t1 _ (List.mem_of_getElem? (i := 66) rfl)
theorem wd_51 : Cond.fieldLink RX1 20 "DieStudy$Couples" "leastWear" "[[I" ∈ wsL_law := inr_3 _ (List.mem_of_getElem? (i := 3) rfl)
theorem wt_51 : Cond.fieldLink RX1 20 "DieStudy$Couples" "leastWear" "[[I" ∈ lw_tbl := in_t1 _ (List.mem_of_getElem? (i := 69) rfl)
theorem wd_52 : Cond.fieldLink RX1 23 "DieStudy$Couples" "greatestWear" "[[I" ∈ wsL_law := inr_3 _ (List.mem_of_getElem? (i := 4) rfl)
theorem wt_52 : Cond.fieldLink RX1 23 "DieStudy$Couples" "greatestWear" "[[I" ∈ lw_tbl := in_t1 _ (List.mem_of_getElem? (i := 70) rfl)
theorem wd_53 : Cond.fieldLink RX1 26 "DieStudy$Couples" "count" "I" ∈ wsL_law := inr_3 _ (List.mem_of_getElem? (i := 5) rfl)
theorem wt_53 : Cond.fieldLink RX1 26 "DieStudy$Couples" "count" "I" ∈ lw_tbl := in_t1 _ (List.mem_of_getElem? (i := 71) rfl)
theorem wd_54 : Cond.instanceMethod yX3_init ∈ wsL_law := inr_3 _ (List.mem_of_getElem? (i := 6) rfl)
theorem wt_54 : Cond.instanceMethod yX3_init ∈ lw_tbl := in_t1 _ (List.mem_of_getElem? (i := 89) rfl)
theorem wd_55 : Cond.code yX3_init cX3_init 1 none ∈ wsL_law := inr_3 _ (List.mem_of_getElem? (i := 7) rfl)
theorem wt_55 : Cond.code yX3_init cX3_init 1 none ∈ lw_tbl := in_t1 _ (List.mem_of_getElem? (i := 90) rfl)
theorem wd_56 : Cond.methodLink RX3 3 objectInit ∈ wsL_law := inr_3 _ (List.mem_of_getElem? (i := 8) rfl)
theorem wt_56 : Cond.methodLink RX3 3 objectInit ∈ lw_tbl := in_t1 _ (List.mem_of_getElem? (i := 91) rfl)
theorem wd_57 : Cond.fieldLink RX3 11 "DieStudy$LinkGraph" "component" "[I" ∈ wsL_law := inr_3 _ (List.mem_of_getElem? (i := 9) rfl)
theorem wt_57 : Cond.fieldLink RX3 11 "DieStudy$LinkGraph" "component" "[I" ∈ lw_tbl := in_t1 _ (List.mem_of_getElem? (i := 92) rfl)
theorem wd_58 : Cond.fieldLink RX3 15 "DieStudy$LinkGraph" "dies" "I" ∈ wsL_law := inr_3 _ (List.mem_of_getElem? (i := 10) rfl)
theorem wt_58 : Cond.fieldLink RX3 15 "DieStudy$LinkGraph" "dies" "I" ∈ lw_tbl := in_t1 _ (List.mem_of_getElem? (i := 93) rfl)
theorem wd_59 : Cond.fieldLink RX3 19 "DieStudy$LinkGraph" "components" "I" ∈ wsL_law := inr_3 _ (List.mem_of_getElem? (i := 11) rfl)
theorem wt_59 : Cond.fieldLink RX3 19 "DieStudy$LinkGraph" "components" "I" ∈ lw_tbl := in_t1 _ (List.mem_of_getElem? (i := 95) rfl)
theorem wd_60 : Cond.instanceMethod yX0_init ∈ wsL_law := inr_3 _ (List.mem_of_getElem? (i := 12) rfl)
theorem wt_60 : Cond.instanceMethod yX0_init ∈ lw_tbl := in_t1 _ (List.mem_of_getElem? (i := 107) rfl)
theorem wd_61 : Cond.code yX0_init cX0_init 1 none ∈ wsL_law := inr_3 _ (List.mem_of_getElem? (i := 13) rfl)
theorem wt_61 : Cond.code yX0_init cX0_init 1 none ∈ lw_tbl := in_t1 _ (List.mem_of_getElem? (i := 108) rfl)
theorem wd_62 : Cond.methodLink RX0 3 objectInit ∈ wsL_law := inr_3 _ (List.mem_of_getElem? (i := 14) rfl)
theorem wt_62 : Cond.methodLink RX0 3 objectInit ∈ lw_tbl := in_t1 _ (List.mem_of_getElem? (i := 109) rfl)
theorem wd_63 : Cond.fieldLink RX0 9 "DieStudy$Chronology" "order" "[I" ∈ wsL_law := inr_3 _ (List.mem_of_getElem? (i := 15) rfl)
theorem wt_63 : Cond.fieldLink RX0 9 "DieStudy$Chronology" "order" "[I" ∈ lw_tbl := in_t1 _ (List.mem_of_getElem? (i := 110) rfl)
theorem wd_64 : Cond.fieldLink RX0 15 "DieStudy$Chronology" "depth" "[I" ∈ wsL_law := inr_3 _ (List.mem_of_getElem? (i := 16) rfl)
theorem wt_64 : Cond.fieldLink RX0 15 "DieStudy$Chronology" "depth" "[I" ∈ lw_tbl := in_t1 _ (List.mem_of_getElem? (i := 112) rfl)
theorem wd_65 : Cond.fieldLink RX0 18 "DieStudy$Chronology" "waitsFor" "[I" ∈ wsL_law := inr_3 _ (List.mem_of_getElem? (i := 17) rfl)
theorem wt_65 : Cond.fieldLink RX0 18 "DieStudy$Chronology" "waitsFor" "[I" ∈ lw_tbl := in_t1 _ (List.mem_of_getElem? (i := 114) rfl)
theorem wd_66 : Cond.methodLink RL 12 yX6_init ∈ wsL_law := inr_3 _ (List.mem_of_getElem? (i := 18) rfl)
theorem wt_66 : Cond.methodLink RL 12 yX6_init ∈ lw_tbl := in_t2 _ (List.mem_of_getElem? (i := 177) rfl)
theorem wd_67 : Cond.instanceMethod yX6_init ∈ wsL_law := inr_3 _ (List.mem_of_getElem? (i := 19) rfl)
theorem wt_67 : Cond.instanceMethod yX6_init ∈ lw_tbl := in_t2 _ (List.mem_of_getElem? (i := 178) rfl)
theorem wd_68 : Cond.code yX6_init cX6_init 1 none ∈ wsL_law := inr_3 _ (List.mem_of_getElem? (i := 20) rfl)
theorem wt_68 : Cond.code yX6_init cX6_init 1 none ∈ lw_tbl := in_t2 _ (List.mem_of_getElem? (i := 179) rfl)
theorem wd_69 : Cond.methodLink RX6 1 objectInit ∈ wsL_law := inr_3 _ (List.mem_of_getElem? (i := 21) rfl)
theorem wt_69 : Cond.methodLink RX6 1 objectInit ∈ lw_tbl := in_t2 _ (List.mem_of_getElem? (i := 180) rfl)
theorem wd_70 : Cond.fieldLink RX6 7 "DieStudyModel" "now" "[I" ∈ wsL_law := inr_3 _ (List.mem_of_getElem? (i := 22) rfl)
theorem wt_70 : Cond.fieldLink RX6 7 "DieStudyModel" "now" "[I" ∈ lw_tbl := in_t2 _ (List.mem_of_getElem? (i := 181) rfl)
theorem wd_71 : Cond.fieldLink RX6 13 "DieStudyModel" "history" "[I" ∈ wsL_law := inr_3 _ (List.mem_of_getElem? (i := 23) rfl)
theorem wt_71 : Cond.fieldLink RX6 13 "DieStudyModel" "history" "[I" ∈ lw_tbl := in_t2 _ (List.mem_of_getElem? (i := 182) rfl)
theorem wr_3 : ∀ w ∈ wsL_law_r3, w ∈ lw_tbl := List.forall_mem_cons.mpr ⟨wt_48, List.forall_mem_cons.mpr ⟨wt_49, List.forall_mem_cons.mpr ⟨wt_50, List.forall_mem_cons.mpr ⟨wt_51, List.forall_mem_cons.mpr ⟨wt_52, List.forall_mem_cons.mpr ⟨wt_53, List.forall_mem_cons.mpr ⟨wt_54, List.forall_mem_cons.mpr ⟨wt_55, List.forall_mem_cons.mpr ⟨wt_56, List.forall_mem_cons.mpr ⟨wt_57, List.forall_mem_cons.mpr ⟨wt_58, List.forall_mem_cons.mpr ⟨wt_59, List.forall_mem_cons.mpr ⟨wt_60, List.forall_mem_cons.mpr ⟨wt_61, List.forall_mem_cons.mpr ⟨wt_62, List.forall_mem_cons.mpr ⟨wt_63, List.forall_mem_cons.mpr ⟨wt_64, List.forall_mem_cons.mpr ⟨wt_65, List.forall_mem_cons.mpr ⟨wt_66, List.forall_mem_cons.mpr ⟨wt_67, List.forall_mem_cons.mpr ⟨wt_68, List.forall_mem_cons.mpr ⟨wt_69, List.forall_mem_cons.mpr ⟨wt_70, List.forall_mem_cons.mpr ⟨wt_71, fun _ h => absurd h List.not_mem_nil⟩⟩⟩⟩⟩⟩⟩⟩⟩⟩⟩⟩⟩⟩⟩⟩⟩⟩⟩⟩⟩⟩⟩⟩
theorem wd_72 : Cond.fieldLink RX6 16 "DieStudyModel" "obverse" "[I" ∈ wsL_law := inr_4 _ (List.mem_of_getElem? (i := 0) rfl)
theorem wt_72 : Cond.fieldLink RX6 16 "DieStudyModel" "obverse" "[I" ∈ lw_tbl := in_t2 _ (List.mem_of_getElem? (i := 185) rfl)
theorem wd_73 : Cond.fieldLink RX6 19 "DieStudyModel" "reverse" "[I" ∈ wsL_law := inr_4 _ (List.mem_of_getElem? (i := 1) rfl)
theorem wt_73 : Cond.fieldLink RX6 19 "DieStudyModel" "reverse" "[I" ∈ lw_tbl := in_t2 _ (List.mem_of_getElem? (i := 186) rfl)
theorem wd_74 : Cond.fieldLink RX6 22 "DieStudyModel" "low" "[I" ∈ wsL_law := inr_4 _ (List.mem_of_getElem? (i := 2) rfl)
theorem wt_74 : Cond.fieldLink RX6 22 "DieStudyModel" "low" "[I" ∈ lw_tbl := in_t2 _ (List.mem_of_getElem? (i := 187) rfl)
theorem wd_75 : Cond.fieldLink RX6 25 "DieStudyModel" "high" "[I" ∈ wsL_law := inr_4 _ (List.mem_of_getElem? (i := 3) rfl)
theorem wt_75 : Cond.fieldLink RX6 25 "DieStudyModel" "high" "[I" ∈ lw_tbl := in_t2 _ (List.mem_of_getElem? (i := 188) rfl)
theorem wd_76 : Cond.fieldLink RX6 28 "DieStudyModel" "order" "[I" ∈ wsL_law := inr_4 _ (List.mem_of_getElem? (i := 4) rfl)
theorem wt_76 : Cond.fieldLink RX6 28 "DieStudyModel" "order" "[I" ∈ lw_tbl := in_t2 _ (List.mem_of_getElem? (i := 189) rfl)
theorem wd_77 : Cond.fieldLink RX6 31 "DieStudyModel" "generations" "[I" ∈ wsL_law := inr_4 _ (List.mem_of_getElem? (i := 5) rfl)
theorem wt_77 : Cond.fieldLink RX6 31 "DieStudyModel" "generations" "[I" ∈ lw_tbl := in_t2 _ (List.mem_of_getElem? (i := 190) rfl)
theorem wd_78 : Cond.arrayClass .boolean ∈ wsL_law := inr_4 _ (List.mem_of_getElem? (i := 6) rfl)
theorem wt_78 : Cond.arrayClass .boolean ∈ lw_tbl := in_t2 _ (List.mem_of_getElem? (i := 218) rfl)
theorem wd_79 : Cond.fieldLink RX6 34 "DieStudyModel" "placed" "[Z" ∈ wsL_law := inr_4 _ (List.mem_of_getElem? (i := 7) rfl)
theorem wt_79 : Cond.fieldLink RX6 34 "DieStudyModel" "placed" "[Z" ∈ lw_tbl := in_t2 _ (List.mem_of_getElem? (i := 191) rfl)
theorem wd_80 : Cond.fieldLink RX6 38 "DieStudyModel" "net" "[I" ∈ wsL_law := inr_4 _ (List.mem_of_getElem? (i := 8) rfl)
theorem wt_80 : Cond.fieldLink RX6 38 "DieStudyModel" "net" "[I" ∈ lw_tbl := in_t2 _ (List.mem_of_getElem? (i := 192) rfl)
theorem wd_81 : Cond.methodLink RL 13 yX5_addSpecimen ∈ wsL_law := inr_4 _ (List.mem_of_getElem? (i := 9) rfl)
theorem wt_81 : Cond.methodLink RL 13 yX5_addSpecimen ∈ lw_tbl := in_t1 _ (List.mem_of_getElem? (i := 138) rfl)
theorem wd_82 : Cond.instanceMethod yX5_addSpecimen ∈ wsL_law := inr_4 _ (List.mem_of_getElem? (i := 10) rfl)
theorem wt_82 : Cond.instanceMethod yX5_addSpecimen ∈ lw_tbl := in_t1 _ (List.mem_of_getElem? (i := 139) rfl)
theorem wd_83 : Cond.selects RX5 yX5_addSpecimen yX5_addSpecimen ∈ wsL_law := inr_4 _ (List.mem_of_getElem? (i := 11) rfl)
theorem wt_83 : Cond.selects RX5 yX5_addSpecimen yX5_addSpecimen ∈ lw_tbl := in_t1 _ (List.mem_of_getElem? (i := 140) rfl)
theorem wd_84 : Cond.code yX5_addSpecimen cX5_addSpecimen 6 (some .int) ∈ wsL_law := inr_4 _ (List.mem_of_getElem? (i := 12) rfl)
theorem wt_84 : Cond.code yX5_addSpecimen cX5_addSpecimen 6 (some .int) ∈ lw_tbl := in_t1 _ (List.mem_of_getElem? (i := 141) rfl)
theorem wd_85 : Cond.methodLink RX5 44 yX5_isDie ∈ wsL_law := inr_4 _ (List.mem_of_getElem? (i := 13) rfl)
theorem wt_85 : Cond.methodLink RX5 44 yX5_isDie ∈ lw_tbl := in_t1 _ (List.mem_of_getElem? (i := 142) rfl)
theorem wd_86 : Cond.static yX5_isDie ∈ wsL_law := inr_4 _ (List.mem_of_getElem? (i := 14) rfl)
theorem wt_86 : Cond.static yX5_isDie ∈ lw_tbl := in_t1 _ (List.mem_of_getElem? (i := 143) rfl)
theorem wd_87 : Cond.code yX5_isDie cX5_isDie 1 (some .boolean) ∈ wsL_law := inr_4 _ (List.mem_of_getElem? (i := 15) rfl)
theorem wt_87 : Cond.code yX5_isDie cX5_isDie 1 (some .boolean) ∈ lw_tbl := in_t1 _ (List.mem_of_getElem? (i := 144) rfl)
theorem wd_88 : Cond.methodLink RX5 48 yX5_isWear ∈ wsL_law := inr_4 _ (List.mem_of_getElem? (i := 16) rfl)
theorem wt_88 : Cond.methodLink RX5 48 yX5_isWear ∈ lw_tbl := in_t1 _ (List.mem_of_getElem? (i := 145) rfl)
theorem wd_89 : Cond.static yX5_isWear ∈ wsL_law := inr_4 _ (List.mem_of_getElem? (i := 17) rfl)
theorem wt_89 : Cond.static yX5_isWear ∈ lw_tbl := in_t1 _ (List.mem_of_getElem? (i := 146) rfl)
theorem wd_90 : Cond.code yX5_isWear cX5_isWear 1 (some .boolean) ∈ wsL_law := inr_4 _ (List.mem_of_getElem? (i := 18) rfl)
theorem wt_90 : Cond.code yX5_isWear cX5_isWear 1 (some .boolean) ∈ lw_tbl := in_t1 _ (List.mem_of_getElem? (i := 147) rfl)
theorem wd_91 : Cond.instanceMethod yX2_save ∈ wsL_law := inr_4 _ (List.mem_of_getElem? (i := 19) rfl)
theorem wt_91 : Cond.instanceMethod yX2_save ∈ lw_tbl := in_t1 _ (List.mem_of_getElem? (i := 150) rfl)
theorem wd_92 : Cond.selects RX2 yX2_save yX2_save ∈ wsL_law := inr_4 _ (List.mem_of_getElem? (i := 20) rfl)
theorem wt_92 : Cond.selects RX2 yX2_save yX2_save ∈ lw_tbl := List.mem_append_left _ (List.mem_of_getElem? (i := 0) rfl)
theorem wd_93 : Cond.code yX2_save cX2_save 2 none ∈ wsL_law := inr_4 _ (List.mem_of_getElem? (i := 21) rfl)
theorem wt_93 : Cond.code yX2_save cX2_save 2 none ∈ lw_tbl := in_t1 _ (List.mem_of_getElem? (i := 151) rfl)
theorem wd_94 : Cond.methodLink RX2 28 arraycopyName ∈ wsL_law := inr_4 _ (List.mem_of_getElem? (i := 22) rfl)
theorem wt_94 : Cond.methodLink RX2 28 arraycopyName ∈ lw_tbl := in_t1 _ (List.mem_of_getElem? (i := 152) rfl)
theorem wd_95 : Cond.native arraycopyName ∈ wsL_law := inr_4 _ (List.mem_of_getElem? (i := 23) rfl)
theorem wt_95 : Cond.native arraycopyName ∈ lw_tbl := in_t1 _ (List.mem_of_getElem? (i := 154) rfl)
theorem wr_4 : ∀ w ∈ wsL_law_r4, w ∈ lw_tbl := List.forall_mem_cons.mpr ⟨wt_72, List.forall_mem_cons.mpr ⟨wt_73, List.forall_mem_cons.mpr ⟨wt_74, List.forall_mem_cons.mpr ⟨wt_75, List.forall_mem_cons.mpr ⟨wt_76, List.forall_mem_cons.mpr ⟨wt_77, List.forall_mem_cons.mpr ⟨wt_78, List.forall_mem_cons.mpr ⟨wt_79, List.forall_mem_cons.mpr ⟨wt_80, List.forall_mem_cons.mpr ⟨wt_81, List.forall_mem_cons.mpr ⟨wt_82, List.forall_mem_cons.mpr ⟨wt_83, List.forall_mem_cons.mpr ⟨wt_84, List.forall_mem_cons.mpr ⟨wt_85, List.forall_mem_cons.mpr ⟨wt_86, List.forall_mem_cons.mpr ⟨wt_87, List.forall_mem_cons.mpr ⟨wt_88, List.forall_mem_cons.mpr ⟨wt_89, List.forall_mem_cons.mpr ⟨wt_90, List.forall_mem_cons.mpr ⟨wt_91, List.forall_mem_cons.mpr ⟨wt_92, List.forall_mem_cons.mpr ⟨wt_93, List.forall_mem_cons.mpr ⟨wt_94, List.forall_mem_cons.mpr ⟨wt_95, fun _ h => absurd h List.not_mem_nil⟩⟩⟩⟩⟩⟩⟩⟩⟩⟩⟩⟩⟩⟩⟩⟩⟩⟩⟩⟩⟩⟩⟩⟩
theorem wd_96 : Cond.static arraycopyName ∈ wsL_law := inr_5 _ (List.mem_of_getElem? (i := 0) rfl)
theorem wt_96 : Cond.static arraycopyName ∈ lw_tbl := in_t1 _ (List.mem_of_getElem? (i := 153) rfl)
theorem wd_97 : Cond.initialized "java/lang/System" ∈ wsL_law := inr_5 _ (List.mem_of_getElem? (i := 1) rfl)
theorem wt_97 : Cond.initialized "java/lang/System" ∈ lw_tbl := in_t1 _ (List.mem_of_getElem? (i := 8) rfl)
theorem wd_98 : Cond.instanceMethod yX4_putDie ∈ wsL_law := inr_5 _ (List.mem_of_getElem? (i := 2) rfl)
theorem wt_98 : Cond.instanceMethod yX4_putDie ∈ lw_tbl := in_t1 _ (List.mem_of_getElem? (i := 157) rfl)
theorem wd_99 : Cond.selects RX4 yX4_putDie yX4_putDie ∈ wsL_law := inr_5 _ (List.mem_of_getElem? (i := 3) rfl)
theorem wt_99 : Cond.selects RX4 yX4_putDie yX4_putDie ∈ lw_tbl := List.mem_append_left _ (List.mem_of_getElem? (i := 1) rfl)
theorem wd_100 : Cond.code yX4_putDie cX4_putDie 4 none ∈ wsL_law := inr_5 _ (List.mem_of_getElem? (i := 4) rfl)
theorem wt_100 : Cond.code yX4_putDie cX4_putDie 4 none ∈ lw_tbl := in_t1 _ (List.mem_of_getElem? (i := 158) rfl)
theorem wd_101 : Cond.instanceMethod yX4_putWear ∈ wsL_law := inr_5 _ (List.mem_of_getElem? (i := 5) rfl)
theorem wt_101 : Cond.instanceMethod yX4_putWear ∈ lw_tbl := in_t1 _ (List.mem_of_getElem? (i := 161) rfl)
theorem wd_102 : Cond.selects RX4 yX4_putWear yX4_putWear ∈ wsL_law := inr_5 _ (List.mem_of_getElem? (i := 6) rfl)
theorem wt_102 : Cond.selects RX4 yX4_putWear yX4_putWear ∈ lw_tbl := List.mem_append_left _ (List.mem_of_getElem? (i := 2) rfl)
theorem wd_103 : Cond.code yX4_putWear cX4_putWear 4 none ∈ wsL_law := inr_5 _ (List.mem_of_getElem? (i := 7) rfl)
theorem wt_103 : Cond.code yX4_putWear cX4_putWear 4 none ∈ lw_tbl := in_t1 _ (List.mem_of_getElem? (i := 162) rfl)
theorem wd_104 : Cond.methodLink RL 17 yX6_addSpecimen ∈ wsL_law := inr_5 _ (List.mem_of_getElem? (i := 8) rfl)
theorem wt_104 : Cond.methodLink RL 17 yX6_addSpecimen ∈ lw_tbl := in_t2 _ (List.mem_of_getElem? (i := 223) rfl)
theorem wd_105 : Cond.instanceMethod yX6_addSpecimen ∈ wsL_law := inr_5 _ (List.mem_of_getElem? (i := 9) rfl)
theorem wt_105 : Cond.instanceMethod yX6_addSpecimen ∈ lw_tbl := in_t2 _ (List.mem_of_getElem? (i := 224) rfl)
theorem wd_106 : Cond.selects RX6 yX6_addSpecimen yX6_addSpecimen ∈ wsL_law := inr_5 _ (List.mem_of_getElem? (i := 10) rfl)
theorem wt_106 : Cond.selects RX6 yX6_addSpecimen yX6_addSpecimen ∈ lw_tbl := in_t2 _ (List.mem_of_getElem? (i := 225) rfl)
theorem wd_107 : Cond.code yX6_addSpecimen cX6_addSpecimen 6 (some .int) ∈ wsL_law := inr_5 _ (List.mem_of_getElem? (i := 11) rfl)
theorem wt_107 : Cond.code yX6_addSpecimen cX6_addSpecimen 6 (some .int) ∈ lw_tbl := in_t2 _ (List.mem_of_getElem? (i := 226) rfl)
theorem wd_108 : Cond.methodLink RX6 45 yX6_in ∈ wsL_law := inr_5 _ (List.mem_of_getElem? (i := 12) rfl)
theorem wt_108 : Cond.methodLink RX6 45 yX6_in ∈ lw_tbl := in_t2 _ (List.mem_of_getElem? (i := 227) rfl)
theorem wd_109 : Cond.static yX6_in ∈ wsL_law := inr_5 _ (List.mem_of_getElem? (i := 13) rfl)
theorem wt_109 : Cond.static yX6_in ∈ lw_tbl := in_t2 _ (List.mem_of_getElem? (i := 228) rfl)
theorem wd_110 : Cond.code yX6_in cX6_in 3 (some .boolean) ∈ wsL_law := inr_5 _ (List.mem_of_getElem? (i := 14) rfl)
theorem wt_110 : Cond.code yX6_in cX6_in 3 (some .boolean) ∈ lw_tbl := in_t2 _ (List.mem_of_getElem? (i := 229) rfl)
theorem wd_111 : Cond.methodLink RX6 49 yX6_edit ∈ wsL_law := inr_5 _ (List.mem_of_getElem? (i := 15) rfl)
theorem wt_111 : Cond.methodLink RX6 49 yX6_edit ∈ lw_tbl := in_t2 _ (List.mem_of_getElem? (i := 230) rfl)
theorem wd_112 : Cond.instanceMethod yX6_edit ∈ wsL_law := inr_5 _ (List.mem_of_getElem? (i := 16) rfl)
theorem wt_112 : Cond.instanceMethod yX6_edit ∈ lw_tbl := in_t2 _ (List.mem_of_getElem? (i := 232) rfl)
theorem wd_113 : Cond.selects RX6 yX6_edit yX6_edit ∈ wsL_law := inr_5 _ (List.mem_of_getElem? (i := 17) rfl)
theorem wt_113 : Cond.selects RX6 yX6_edit yX6_edit ∈ lw_tbl := List.mem_append_left _ (List.mem_of_getElem? (i := 32) rfl)
theorem wd_114 : Cond.code yX6_edit cX6_edit 2 none ∈ wsL_law := inr_5 _ (List.mem_of_getElem? (i := 18) rfl)
theorem wt_114 : Cond.code yX6_edit cX6_edit 2 none ∈ lw_tbl := in_t2 _ (List.mem_of_getElem? (i := 233) rfl)
theorem wd_115 : Cond.fieldLink RX6 41 "DieStudyModel" "edits" "I" ∈ wsL_law := inr_5 _ (List.mem_of_getElem? (i := 19) rfl)
theorem wt_115 : Cond.fieldLink RX6 41 "DieStudyModel" "edits" "I" ∈ lw_tbl := in_t2 _ (List.mem_of_getElem? (i := 183) rfl)
theorem wd_116 : Cond.methodLink RL 18 yX5_removeSpecimen ∈ wsL_law := inr_5 _ (List.mem_of_getElem? (i := 20) rfl)
theorem wt_116 : Cond.methodLink RL 18 yX5_removeSpecimen ∈ lw_tbl := in_t1 _ (List.mem_of_getElem? (i := 163) rfl)
theorem wd_117 : Cond.instanceMethod yX5_removeSpecimen ∈ wsL_law := inr_5 _ (List.mem_of_getElem? (i := 21) rfl)
theorem wt_117 : Cond.instanceMethod yX5_removeSpecimen ∈ lw_tbl := in_t1 _ (List.mem_of_getElem? (i := 164) rfl)
theorem wd_118 : Cond.selects RX5 yX5_removeSpecimen yX5_removeSpecimen ∈ wsL_law := inr_5 _ (List.mem_of_getElem? (i := 22) rfl)
theorem wt_118 : Cond.selects RX5 yX5_removeSpecimen yX5_removeSpecimen ∈ lw_tbl := in_t1 _ (List.mem_of_getElem? (i := 165) rfl)
theorem wd_119 : Cond.code yX5_removeSpecimen cX5_removeSpecimen 2 (some .int) ∈ wsL_law := inr_5 _ (List.mem_of_getElem? (i := 23) rfl)
theorem wt_119 : Cond.code yX5_removeSpecimen cX5_removeSpecimen 2 (some .int) ∈ lw_tbl := in_t1 _ (List.mem_of_getElem? (i := 166) rfl)
theorem wr_5 : ∀ w ∈ wsL_law_r5, w ∈ lw_tbl := List.forall_mem_cons.mpr ⟨wt_96, List.forall_mem_cons.mpr ⟨wt_97, List.forall_mem_cons.mpr ⟨wt_98, List.forall_mem_cons.mpr ⟨wt_99, List.forall_mem_cons.mpr ⟨wt_100, List.forall_mem_cons.mpr ⟨wt_101, List.forall_mem_cons.mpr ⟨wt_102, List.forall_mem_cons.mpr ⟨wt_103, List.forall_mem_cons.mpr ⟨wt_104, List.forall_mem_cons.mpr ⟨wt_105, List.forall_mem_cons.mpr ⟨wt_106, List.forall_mem_cons.mpr ⟨wt_107, List.forall_mem_cons.mpr ⟨wt_108, List.forall_mem_cons.mpr ⟨wt_109, List.forall_mem_cons.mpr ⟨wt_110, List.forall_mem_cons.mpr ⟨wt_111, List.forall_mem_cons.mpr ⟨wt_112, List.forall_mem_cons.mpr ⟨wt_113, List.forall_mem_cons.mpr ⟨wt_114, List.forall_mem_cons.mpr ⟨wt_115, List.forall_mem_cons.mpr ⟨wt_116, List.forall_mem_cons.mpr ⟨wt_117, List.forall_mem_cons.mpr ⟨wt_118, List.forall_mem_cons.mpr ⟨wt_119, fun _ h => absurd h List.not_mem_nil⟩⟩⟩⟩⟩⟩⟩⟩⟩⟩⟩⟩⟩⟩⟩⟩⟩⟩⟩⟩⟩⟩⟩⟩
theorem wd_120 : Cond.instanceMethod yX4_has ∈ wsL_law := inr_6 _ (List.mem_of_getElem? (i := 0) rfl)
theorem wt_120 : Cond.instanceMethod yX4_has ∈ lw_tbl := in_t1 _ (List.mem_of_getElem? (i := 169) rfl)
theorem wd_121 : Cond.selects RX4 yX4_has yX4_has ∈ wsL_law := inr_6 _ (List.mem_of_getElem? (i := 1) rfl)
theorem wt_121 : Cond.selects RX4 yX4_has yX4_has ∈ lw_tbl := List.mem_append_left _ (List.mem_of_getElem? (i := 3) rfl)
theorem wd_122 : Cond.code yX4_has cX4_has 2 (some .boolean) ∈ wsL_law := inr_6 _ (List.mem_of_getElem? (i := 2) rfl)
theorem wt_122 : Cond.code yX4_has cX4_has 2 (some .boolean) ∈ lw_tbl := in_t1 _ (List.mem_of_getElem? (i := 170) rfl)
theorem wd_123 : Cond.instanceMethod yX4_close ∈ wsL_law := inr_6 _ (List.mem_of_getElem? (i := 3) rfl)
theorem wt_123 : Cond.instanceMethod yX4_close ∈ lw_tbl := in_t1 _ (List.mem_of_getElem? (i := 173) rfl)
theorem wd_124 : Cond.selects RX4 yX4_close yX4_close ∈ wsL_law := inr_6 _ (List.mem_of_getElem? (i := 4) rfl)
theorem wt_124 : Cond.selects RX4 yX4_close yX4_close ∈ lw_tbl := List.mem_append_left _ (List.mem_of_getElem? (i := 4) rfl)
theorem wd_125 : Cond.code yX4_close cX4_close 4 none ∈ wsL_law := inr_6 _ (List.mem_of_getElem? (i := 5) rfl)
theorem wt_125 : Cond.code yX4_close cX4_close 4 none ∈ lw_tbl := in_t1 _ (List.mem_of_getElem? (i := 174) rfl)
theorem wd_126 : Cond.methodLink RX4 19 arraycopyName ∈ wsL_law := inr_6 _ (List.mem_of_getElem? (i := 6) rfl)
theorem wt_126 : Cond.methodLink RX4 19 arraycopyName ∈ lw_tbl := in_t1 _ (List.mem_of_getElem? (i := 175) rfl)
theorem wd_127 : Cond.methodLink RL 22 yX6_removeSpecimen ∈ wsL_law := inr_6 _ (List.mem_of_getElem? (i := 7) rfl)
theorem wt_127 : Cond.methodLink RL 22 yX6_removeSpecimen ∈ lw_tbl := in_t2 _ (List.mem_of_getElem? (i := 234) rfl)
theorem wd_128 : Cond.instanceMethod yX6_removeSpecimen ∈ wsL_law := inr_6 _ (List.mem_of_getElem? (i := 8) rfl)
theorem wt_128 : Cond.instanceMethod yX6_removeSpecimen ∈ lw_tbl := in_t2 _ (List.mem_of_getElem? (i := 235) rfl)
theorem wd_129 : Cond.selects RX6 yX6_removeSpecimen yX6_removeSpecimen ∈ wsL_law := inr_6 _ (List.mem_of_getElem? (i := 9) rfl)
theorem wt_129 : Cond.selects RX6 yX6_removeSpecimen yX6_removeSpecimen ∈ lw_tbl := in_t2 _ (List.mem_of_getElem? (i := 236) rfl)
theorem wd_130 : Cond.code yX6_removeSpecimen cX6_removeSpecimen 3 (some .int) ∈ wsL_law := inr_6 _ (List.mem_of_getElem? (i := 10) rfl)
theorem wt_130 : Cond.code yX6_removeSpecimen cX6_removeSpecimen 3 (some .int) ∈ lw_tbl := in_t2 _ (List.mem_of_getElem? (i := 237) rfl)
theorem wd_131 : Cond.methodLink RX6 52 yX6_isSpecimen ∈ wsL_law := inr_6 _ (List.mem_of_getElem? (i := 11) rfl)
theorem wt_131 : Cond.methodLink RX6 52 yX6_isSpecimen ∈ lw_tbl := in_t2 _ (List.mem_of_getElem? (i := 238) rfl)
theorem wd_132 : Cond.instanceMethod yX6_isSpecimen ∈ wsL_law := inr_6 _ (List.mem_of_getElem? (i := 12) rfl)
theorem wt_132 : Cond.instanceMethod yX6_isSpecimen ∈ lw_tbl := in_t3 _ (List.mem_of_getElem? (i := 0) rfl)
theorem wd_133 : Cond.selects RX6 yX6_isSpecimen yX6_isSpecimen ∈ wsL_law := inr_6 _ (List.mem_of_getElem? (i := 13) rfl)
theorem wt_133 : Cond.selects RX6 yX6_isSpecimen yX6_isSpecimen ∈ lw_tbl := List.mem_append_left _ (List.mem_of_getElem? (i := 33) rfl)
theorem wd_134 : Cond.code yX6_isSpecimen cX6_isSpecimen 2 (some .boolean) ∈ wsL_law := inr_6 _ (List.mem_of_getElem? (i := 14) rfl)
theorem wt_134 : Cond.code yX6_isSpecimen cX6_isSpecimen 2 (some .boolean) ∈ lw_tbl := in_t3 _ (List.mem_of_getElem? (i := 1) rfl)
theorem wd_135 : Cond.methodLink RL 23 yX5_setWear ∈ wsL_law := inr_6 _ (List.mem_of_getElem? (i := 15) rfl)
theorem wt_135 : Cond.methodLink RL 23 yX5_setWear ∈ lw_tbl := in_t1 _ (List.mem_of_getElem? (i := 176) rfl)
theorem wd_136 : Cond.instanceMethod yX5_setWear ∈ wsL_law := inr_6 _ (List.mem_of_getElem? (i := 16) rfl)
theorem wt_136 : Cond.instanceMethod yX5_setWear ∈ lw_tbl := in_t1 _ (List.mem_of_getElem? (i := 177) rfl)
theorem wd_137 : Cond.selects RX5 yX5_setWear yX5_setWear ∈ wsL_law := inr_6 _ (List.mem_of_getElem? (i := 17) rfl)
theorem wt_137 : Cond.selects RX5 yX5_setWear yX5_setWear ∈ lw_tbl := in_t1 _ (List.mem_of_getElem? (i := 178) rfl)
theorem wd_138 : Cond.code yX5_setWear cX5_setWear 5 (some .int) ∈ wsL_law := inr_6 _ (List.mem_of_getElem? (i := 18) rfl)
theorem wt_138 : Cond.code yX5_setWear cX5_setWear 5 (some .int) ∈ lw_tbl := in_t1 _ (List.mem_of_getElem? (i := 179) rfl)
theorem wd_139 : Cond.methodLink RX5 73 yX5_isSide ∈ wsL_law := inr_6 _ (List.mem_of_getElem? (i := 19) rfl)
theorem wt_139 : Cond.methodLink RX5 73 yX5_isSide ∈ lw_tbl := in_t1 _ (List.mem_of_getElem? (i := 180) rfl)
theorem wd_140 : Cond.static yX5_isSide ∈ wsL_law := inr_6 _ (List.mem_of_getElem? (i := 20) rfl)
theorem wt_140 : Cond.static yX5_isSide ∈ lw_tbl := in_t1 _ (List.mem_of_getElem? (i := 181) rfl)
theorem wd_141 : Cond.code yX5_isSide cX5_isSide 1 (some .boolean) ∈ wsL_law := inr_6 _ (List.mem_of_getElem? (i := 21) rfl)
theorem wt_141 : Cond.code yX5_isSide cX5_isSide 1 (some .boolean) ∈ lw_tbl := in_t1 _ (List.mem_of_getElem? (i := 182) rfl)
theorem wd_142 : Cond.instanceMethod yX4_wear ∈ wsL_law := inr_6 _ (List.mem_of_getElem? (i := 22) rfl)
theorem wt_142 : Cond.instanceMethod yX4_wear ∈ lw_tbl := in_t1 _ (List.mem_of_getElem? (i := 185) rfl)
theorem wd_143 : Cond.selects RX4 yX4_wear yX4_wear ∈ wsL_law := inr_6 _ (List.mem_of_getElem? (i := 23) rfl)
theorem wt_143 : Cond.selects RX4 yX4_wear yX4_wear ∈ lw_tbl := List.mem_append_left _ (List.mem_of_getElem? (i := 5) rfl)
theorem wr_6 : ∀ w ∈ wsL_law_r6, w ∈ lw_tbl := List.forall_mem_cons.mpr ⟨wt_120, List.forall_mem_cons.mpr ⟨wt_121, List.forall_mem_cons.mpr ⟨wt_122, List.forall_mem_cons.mpr ⟨wt_123, List.forall_mem_cons.mpr ⟨wt_124, List.forall_mem_cons.mpr ⟨wt_125, List.forall_mem_cons.mpr ⟨wt_126, List.forall_mem_cons.mpr ⟨wt_127, List.forall_mem_cons.mpr ⟨wt_128, List.forall_mem_cons.mpr ⟨wt_129, List.forall_mem_cons.mpr ⟨wt_130, List.forall_mem_cons.mpr ⟨wt_131, List.forall_mem_cons.mpr ⟨wt_132, List.forall_mem_cons.mpr ⟨wt_133, List.forall_mem_cons.mpr ⟨wt_134, List.forall_mem_cons.mpr ⟨wt_135, List.forall_mem_cons.mpr ⟨wt_136, List.forall_mem_cons.mpr ⟨wt_137, List.forall_mem_cons.mpr ⟨wt_138, List.forall_mem_cons.mpr ⟨wt_139, List.forall_mem_cons.mpr ⟨wt_140, List.forall_mem_cons.mpr ⟨wt_141, List.forall_mem_cons.mpr ⟨wt_142, List.forall_mem_cons.mpr ⟨wt_143, fun _ h => absurd h List.not_mem_nil⟩⟩⟩⟩⟩⟩⟩⟩⟩⟩⟩⟩⟩⟩⟩⟩⟩⟩⟩⟩⟩⟩⟩⟩
theorem wd_144 : Cond.code yX4_wear cX4_wear 3 (some .int) ∈ wsL_law := inr_7 _ (List.mem_of_getElem? (i := 0) rfl)
theorem wt_144 : Cond.code yX4_wear cX4_wear 3 (some .int) ∈ lw_tbl := in_t1 _ (List.mem_of_getElem? (i := 186) rfl)
theorem wd_145 : Cond.methodLink RL 27 yX6_setWear ∈ wsL_law := inr_7 _ (List.mem_of_getElem? (i := 1) rfl)
theorem wt_145 : Cond.methodLink RL 27 yX6_setWear ∈ lw_tbl := in_t3 _ (List.mem_of_getElem? (i := 2) rfl)
theorem wd_146 : Cond.instanceMethod yX6_setWear ∈ wsL_law := inr_7 _ (List.mem_of_getElem? (i := 2) rfl)
theorem wt_146 : Cond.instanceMethod yX6_setWear ∈ lw_tbl := in_t3 _ (List.mem_of_getElem? (i := 3) rfl)
theorem wd_147 : Cond.selects RX6 yX6_setWear yX6_setWear ∈ wsL_law := inr_7 _ (List.mem_of_getElem? (i := 3) rfl)
theorem wt_147 : Cond.selects RX6 yX6_setWear yX6_setWear ∈ lw_tbl := in_t3 _ (List.mem_of_getElem? (i := 4) rfl)
theorem wd_148 : Cond.code yX6_setWear cX6_setWear 5 (some .int) ∈ wsL_law := inr_7 _ (List.mem_of_getElem? (i := 4) rfl)
theorem wt_148 : Cond.code yX6_setWear cX6_setWear 5 (some .int) ∈ lw_tbl := in_t3 _ (List.mem_of_getElem? (i := 5) rfl)
theorem wd_149 : Cond.methodLink RX6 56 yX6_isSide ∈ wsL_law := inr_7 _ (List.mem_of_getElem? (i := 5) rfl)
theorem wt_149 : Cond.methodLink RX6 56 yX6_isSide ∈ lw_tbl := in_t3 _ (List.mem_of_getElem? (i := 6) rfl)
theorem wd_150 : Cond.static yX6_isSide ∈ wsL_law := inr_7 _ (List.mem_of_getElem? (i := 6) rfl)
theorem wt_150 : Cond.static yX6_isSide ∈ lw_tbl := in_t3 _ (List.mem_of_getElem? (i := 7) rfl)
theorem wd_151 : Cond.code yX6_isSide cX6_isSide 1 (some .boolean) ∈ wsL_law := inr_7 _ (List.mem_of_getElem? (i := 7) rfl)
theorem wt_151 : Cond.code yX6_isSide cX6_isSide 1 (some .boolean) ∈ lw_tbl := in_t3 _ (List.mem_of_getElem? (i := 8) rfl)
theorem wd_152 : Cond.methodLink RL 28 yX5_mergeDies ∈ wsL_law := inr_7 _ (List.mem_of_getElem? (i := 8) rfl)
theorem wt_152 : Cond.methodLink RL 28 yX5_mergeDies ∈ lw_tbl := in_t1 _ (List.mem_of_getElem? (i := 187) rfl)
theorem wd_153 : Cond.instanceMethod yX5_mergeDies ∈ wsL_law := inr_7 _ (List.mem_of_getElem? (i := 9) rfl)
theorem wt_153 : Cond.instanceMethod yX5_mergeDies ∈ lw_tbl := in_t1 _ (List.mem_of_getElem? (i := 188) rfl)
theorem wd_154 : Cond.selects RX5 yX5_mergeDies yX5_mergeDies ∈ wsL_law := inr_7 _ (List.mem_of_getElem? (i := 10) rfl)
theorem wt_154 : Cond.selects RX5 yX5_mergeDies yX5_mergeDies ∈ lw_tbl := in_t1 _ (List.mem_of_getElem? (i := 189) rfl)
theorem wd_155 : Cond.code yX5_mergeDies cX5_mergeDies 4 (some .int) ∈ wsL_law := inr_7 _ (List.mem_of_getElem? (i := 11) rfl)
theorem wt_155 : Cond.code yX5_mergeDies cX5_mergeDies 4 (some .int) ∈ lw_tbl := in_t1 _ (List.mem_of_getElem? (i := 190) rfl)
theorem wd_156 : Cond.instanceMethod yX4_struckWith ∈ wsL_law := inr_7 _ (List.mem_of_getElem? (i := 12) rfl)
theorem wt_156 : Cond.instanceMethod yX4_struckWith ∈ lw_tbl := in_t1 _ (List.mem_of_getElem? (i := 193) rfl)
theorem wd_157 : Cond.selects RX4 yX4_struckWith yX4_struckWith ∈ wsL_law := inr_7 _ (List.mem_of_getElem? (i := 13) rfl)
theorem wt_157 : Cond.selects RX4 yX4_struckWith yX4_struckWith ∈ lw_tbl := List.mem_append_left _ (List.mem_of_getElem? (i := 6) rfl)
theorem wd_158 : Cond.code yX4_struckWith cX4_struckWith 5 (some .int) ∈ wsL_law := inr_7 _ (List.mem_of_getElem? (i := 14) rfl)
theorem wt_158 : Cond.code yX4_struckWith cX4_struckWith 5 (some .int) ∈ lw_tbl := in_t1 _ (List.mem_of_getElem? (i := 194) rfl)
theorem wd_159 : Cond.methodLink RX4 25 yX4_die ∈ wsL_law := inr_7 _ (List.mem_of_getElem? (i := 15) rfl)
theorem wt_159 : Cond.methodLink RX4 25 yX4_die ∈ lw_tbl := in_t1 _ (List.mem_of_getElem? (i := 195) rfl)
theorem wd_160 : Cond.instanceMethod yX4_die ∈ wsL_law := inr_7 _ (List.mem_of_getElem? (i := 16) rfl)
theorem wt_160 : Cond.instanceMethod yX4_die ∈ lw_tbl := in_t1 _ (List.mem_of_getElem? (i := 197) rfl)
theorem wd_161 : Cond.selects RX4 yX4_die yX4_die ∈ wsL_law := inr_7 _ (List.mem_of_getElem? (i := 17) rfl)
theorem wt_161 : Cond.selects RX4 yX4_die yX4_die ∈ lw_tbl := List.mem_append_left _ (List.mem_of_getElem? (i := 7) rfl)
theorem wd_162 : Cond.code yX4_die cX4_die 3 (some .int) ∈ wsL_law := inr_7 _ (List.mem_of_getElem? (i := 18) rfl)
theorem wt_162 : Cond.code yX4_die cX4_die 3 (some .int) ∈ lw_tbl := in_t1 _ (List.mem_of_getElem? (i := 198) rfl)
theorem wd_163 : Cond.instanceMethod yX4_replaceDie ∈ wsL_law := inr_7 _ (List.mem_of_getElem? (i := 19) rfl)
theorem wt_163 : Cond.instanceMethod yX4_replaceDie ∈ lw_tbl := in_t1 _ (List.mem_of_getElem? (i := 201) rfl)
theorem wd_164 : Cond.selects RX4 yX4_replaceDie yX4_replaceDie ∈ wsL_law := inr_7 _ (List.mem_of_getElem? (i := 20) rfl)
theorem wt_164 : Cond.selects RX4 yX4_replaceDie yX4_replaceDie ∈ lw_tbl := List.mem_append_left _ (List.mem_of_getElem? (i := 8) rfl)
theorem wd_165 : Cond.code yX4_replaceDie cX4_replaceDie 6 (some .int) ∈ wsL_law := inr_7 _ (List.mem_of_getElem? (i := 21) rfl)
theorem wt_165 : Cond.code yX4_replaceDie cX4_replaceDie 6 (some .int) ∈ lw_tbl := in_t1 _ (List.mem_of_getElem? (i := 202) rfl)
theorem wd_166 : Cond.methodLink RX4 29 yX4_putDie ∈ wsL_law := inr_7 _ (List.mem_of_getElem? (i := 22) rfl)
theorem wt_166 : Cond.methodLink RX4 29 yX4_putDie ∈ lw_tbl := in_t1 _ (List.mem_of_getElem? (i := 203) rfl)
theorem wd_167 : Cond.methodLink RL 31 yX6_mergeDies ∈ wsL_law := inr_7 _ (List.mem_of_getElem? (i := 23) rfl)
theorem wt_167 : Cond.methodLink RL 31 yX6_mergeDies ∈ lw_tbl := in_t3 _ (List.mem_of_getElem? (i := 9) rfl)
theorem wr_7 : ∀ w ∈ wsL_law_r7, w ∈ lw_tbl := List.forall_mem_cons.mpr ⟨wt_144, List.forall_mem_cons.mpr ⟨wt_145, List.forall_mem_cons.mpr ⟨wt_146, List.forall_mem_cons.mpr ⟨wt_147, List.forall_mem_cons.mpr ⟨wt_148, List.forall_mem_cons.mpr ⟨wt_149, List.forall_mem_cons.mpr ⟨wt_150, List.forall_mem_cons.mpr ⟨wt_151, List.forall_mem_cons.mpr ⟨wt_152, List.forall_mem_cons.mpr ⟨wt_153, List.forall_mem_cons.mpr ⟨wt_154, List.forall_mem_cons.mpr ⟨wt_155, List.forall_mem_cons.mpr ⟨wt_156, List.forall_mem_cons.mpr ⟨wt_157, List.forall_mem_cons.mpr ⟨wt_158, List.forall_mem_cons.mpr ⟨wt_159, List.forall_mem_cons.mpr ⟨wt_160, List.forall_mem_cons.mpr ⟨wt_161, List.forall_mem_cons.mpr ⟨wt_162, List.forall_mem_cons.mpr ⟨wt_163, List.forall_mem_cons.mpr ⟨wt_164, List.forall_mem_cons.mpr ⟨wt_165, List.forall_mem_cons.mpr ⟨wt_166, List.forall_mem_cons.mpr ⟨wt_167, fun _ h => absurd h List.not_mem_nil⟩⟩⟩⟩⟩⟩⟩⟩⟩⟩⟩⟩⟩⟩⟩⟩⟩⟩⟩⟩⟩⟩⟩⟩
theorem wd_168 : Cond.instanceMethod yX6_mergeDies ∈ wsL_law := inr_8 _ (List.mem_of_getElem? (i := 0) rfl)
theorem wt_168 : Cond.instanceMethod yX6_mergeDies ∈ lw_tbl := in_t3 _ (List.mem_of_getElem? (i := 10) rfl)
theorem wd_169 : Cond.selects RX6 yX6_mergeDies yX6_mergeDies ∈ wsL_law := inr_8 _ (List.mem_of_getElem? (i := 1) rfl)
theorem wt_169 : Cond.selects RX6 yX6_mergeDies yX6_mergeDies ∈ lw_tbl := in_t3 _ (List.mem_of_getElem? (i := 11) rfl)
theorem wd_170 : Cond.code yX6_mergeDies cX6_mergeDies 6 (some .int) ∈ wsL_law := inr_8 _ (List.mem_of_getElem? (i := 2) rfl)
theorem wt_170 : Cond.code yX6_mergeDies cX6_mergeDies 6 (some .int) ∈ lw_tbl := in_t3 _ (List.mem_of_getElem? (i := 12) rfl)
theorem wd_171 : Cond.methodLink RX6 59 yX6_isDie ∈ wsL_law := inr_8 _ (List.mem_of_getElem? (i := 3) rfl)
theorem wt_171 : Cond.methodLink RX6 59 yX6_isDie ∈ lw_tbl := in_t3 _ (List.mem_of_getElem? (i := 13) rfl)
theorem wd_172 : Cond.static yX6_isDie ∈ wsL_law := inr_8 _ (List.mem_of_getElem? (i := 4) rfl)
theorem wt_172 : Cond.static yX6_isDie ∈ lw_tbl := in_t3 _ (List.mem_of_getElem? (i := 14) rfl)
theorem wd_173 : Cond.code yX6_isDie cX6_isDie 2 (some .boolean) ∈ wsL_law := inr_8 _ (List.mem_of_getElem? (i := 5) rfl)
theorem wt_173 : Cond.code yX6_isDie cX6_isDie 2 (some .boolean) ∈ lw_tbl := in_t3 _ (List.mem_of_getElem? (i := 15) rfl)
theorem wd_174 : Cond.methodLink RX6 63 yX6_specimens ∈ wsL_law := inr_8 _ (List.mem_of_getElem? (i := 6) rfl)
theorem wt_174 : Cond.methodLink RX6 63 yX6_specimens ∈ lw_tbl := in_t3 _ (List.mem_of_getElem? (i := 16) rfl)
theorem wd_175 : Cond.instanceMethod yX6_specimens ∈ wsL_law := inr_8 _ (List.mem_of_getElem? (i := 7) rfl)
theorem wt_175 : Cond.instanceMethod yX6_specimens ∈ lw_tbl := in_t3 _ (List.mem_of_getElem? (i := 18) rfl)
theorem wd_176 : Cond.selects RX6 yX6_specimens yX6_specimens ∈ wsL_law := inr_8 _ (List.mem_of_getElem? (i := 8) rfl)
theorem wt_176 : Cond.selects RX6 yX6_specimens yX6_specimens ∈ lw_tbl := List.mem_append_left _ (List.mem_of_getElem? (i := 34) rfl)
theorem wd_177 : Cond.code yX6_specimens cX6_specimens 5 (some .int) ∈ wsL_law := inr_8 _ (List.mem_of_getElem? (i := 9) rfl)
theorem wt_177 : Cond.code yX6_specimens cX6_specimens 5 (some .int) ∈ lw_tbl := in_t3 _ (List.mem_of_getElem? (i := 19) rfl)
theorem wd_178 : Cond.methodLink RL 32 yX5_specimenCount ∈ wsL_law := inr_8 _ (List.mem_of_getElem? (i := 10) rfl)
theorem wt_178 : Cond.methodLink RL 32 yX5_specimenCount ∈ lw_tbl := in_t1 _ (List.mem_of_getElem? (i := 204) rfl)
theorem wd_179 : Cond.instanceMethod yX5_specimenCount ∈ wsL_law := inr_8 _ (List.mem_of_getElem? (i := 11) rfl)
theorem wt_179 : Cond.instanceMethod yX5_specimenCount ∈ lw_tbl := in_t1 _ (List.mem_of_getElem? (i := 205) rfl)
theorem wd_180 : Cond.selects RX5 yX5_specimenCount yX5_specimenCount ∈ wsL_law := inr_8 _ (List.mem_of_getElem? (i := 12) rfl)
theorem wt_180 : Cond.selects RX5 yX5_specimenCount yX5_specimenCount ∈ lw_tbl := in_t1 _ (List.mem_of_getElem? (i := 206) rfl)
theorem wd_181 : Cond.code yX5_specimenCount cX5_specimenCount 1 (some .int) ∈ wsL_law := inr_8 _ (List.mem_of_getElem? (i := 13) rfl)
theorem wt_181 : Cond.code yX5_specimenCount cX5_specimenCount 1 (some .int) ∈ lw_tbl := in_t1 _ (List.mem_of_getElem? (i := 207) rfl)
theorem wd_182 : Cond.methodLink RL 36 yX6_specimenCount ∈ wsL_law := inr_8 _ (List.mem_of_getElem? (i := 14) rfl)
theorem wt_182 : Cond.methodLink RL 36 yX6_specimenCount ∈ lw_tbl := in_t3 _ (List.mem_of_getElem? (i := 20) rfl)
theorem wd_183 : Cond.instanceMethod yX6_specimenCount ∈ wsL_law := inr_8 _ (List.mem_of_getElem? (i := 15) rfl)
theorem wt_183 : Cond.instanceMethod yX6_specimenCount ∈ lw_tbl := in_t3 _ (List.mem_of_getElem? (i := 21) rfl)
theorem wd_184 : Cond.selects RX6 yX6_specimenCount yX6_specimenCount ∈ wsL_law := inr_8 _ (List.mem_of_getElem? (i := 16) rfl)
theorem wt_184 : Cond.selects RX6 yX6_specimenCount yX6_specimenCount ∈ lw_tbl := in_t3 _ (List.mem_of_getElem? (i := 22) rfl)
theorem wd_185 : Cond.code yX6_specimenCount cX6_specimenCount 1 (some .int) ∈ wsL_law := inr_8 _ (List.mem_of_getElem? (i := 17) rfl)
theorem wt_185 : Cond.code yX6_specimenCount cX6_specimenCount 1 (some .int) ∈ lw_tbl := in_t3 _ (List.mem_of_getElem? (i := 23) rfl)
theorem wd_186 : Cond.methodLink RL 37 yX5_dieOf ∈ wsL_law := inr_8 _ (List.mem_of_getElem? (i := 18) rfl)
theorem wt_186 : Cond.methodLink RL 37 yX5_dieOf ∈ lw_tbl := in_t1 _ (List.mem_of_getElem? (i := 208) rfl)
theorem wd_187 : Cond.instanceMethod yX5_dieOf ∈ wsL_law := inr_8 _ (List.mem_of_getElem? (i := 19) rfl)
theorem wt_187 : Cond.instanceMethod yX5_dieOf ∈ lw_tbl := in_t1 _ (List.mem_of_getElem? (i := 209) rfl)
theorem wd_188 : Cond.selects RX5 yX5_dieOf yX5_dieOf ∈ wsL_law := inr_8 _ (List.mem_of_getElem? (i := 20) rfl)
theorem wt_188 : Cond.selects RX5 yX5_dieOf yX5_dieOf ∈ lw_tbl := in_t1 _ (List.mem_of_getElem? (i := 210) rfl)
theorem wd_189 : Cond.code yX5_dieOf cX5_dieOf 3 (some .int) ∈ wsL_law := inr_8 _ (List.mem_of_getElem? (i := 21) rfl)
theorem wt_189 : Cond.code yX5_dieOf cX5_dieOf 3 (some .int) ∈ lw_tbl := in_t1 _ (List.mem_of_getElem? (i := 211) rfl)
theorem wd_190 : Cond.methodLink RL 41 yX6_dieOf ∈ wsL_law := inr_8 _ (List.mem_of_getElem? (i := 22) rfl)
theorem wt_190 : Cond.methodLink RL 41 yX6_dieOf ∈ lw_tbl := in_t3 _ (List.mem_of_getElem? (i := 24) rfl)
theorem wd_191 : Cond.instanceMethod yX6_dieOf ∈ wsL_law := inr_8 _ (List.mem_of_getElem? (i := 23) rfl)
theorem wt_191 : Cond.instanceMethod yX6_dieOf ∈ lw_tbl := in_t3 _ (List.mem_of_getElem? (i := 25) rfl)
theorem wr_8 : ∀ w ∈ wsL_law_r8, w ∈ lw_tbl := List.forall_mem_cons.mpr ⟨wt_168, List.forall_mem_cons.mpr ⟨wt_169, List.forall_mem_cons.mpr ⟨wt_170, List.forall_mem_cons.mpr ⟨wt_171, List.forall_mem_cons.mpr ⟨wt_172, List.forall_mem_cons.mpr ⟨wt_173, List.forall_mem_cons.mpr ⟨wt_174, List.forall_mem_cons.mpr ⟨wt_175, List.forall_mem_cons.mpr ⟨wt_176, List.forall_mem_cons.mpr ⟨wt_177, List.forall_mem_cons.mpr ⟨wt_178, List.forall_mem_cons.mpr ⟨wt_179, List.forall_mem_cons.mpr ⟨wt_180, List.forall_mem_cons.mpr ⟨wt_181, List.forall_mem_cons.mpr ⟨wt_182, List.forall_mem_cons.mpr ⟨wt_183, List.forall_mem_cons.mpr ⟨wt_184, List.forall_mem_cons.mpr ⟨wt_185, List.forall_mem_cons.mpr ⟨wt_186, List.forall_mem_cons.mpr ⟨wt_187, List.forall_mem_cons.mpr ⟨wt_188, List.forall_mem_cons.mpr ⟨wt_189, List.forall_mem_cons.mpr ⟨wt_190, List.forall_mem_cons.mpr ⟨wt_191, fun _ h => absurd h List.not_mem_nil⟩⟩⟩⟩⟩⟩⟩⟩⟩⟩⟩⟩⟩⟩⟩⟩⟩⟩⟩⟩⟩⟩⟩⟩
theorem wd_192 : Cond.selects RX6 yX6_dieOf yX6_dieOf ∈ wsL_law := inr_9 _ (List.mem_of_getElem? (i := 0) rfl)
theorem wt_192 : Cond.selects RX6 yX6_dieOf yX6_dieOf ∈ lw_tbl := in_t3 _ (List.mem_of_getElem? (i := 26) rfl)
theorem wd_193 : Cond.code yX6_dieOf cX6_dieOf 3 (some .int) ∈ wsL_law := inr_9 _ (List.mem_of_getElem? (i := 1) rfl)
theorem wt_193 : Cond.code yX6_dieOf cX6_dieOf 3 (some .int) ∈ lw_tbl := in_t3 _ (List.mem_of_getElem? (i := 27) rfl)
theorem wd_194 : Cond.methodLink RL 42 yX5_dieCount ∈ wsL_law := inr_9 _ (List.mem_of_getElem? (i := 2) rfl)
theorem wt_194 : Cond.methodLink RL 42 yX5_dieCount ∈ lw_tbl := in_t1 _ (List.mem_of_getElem? (i := 213) rfl)
theorem wd_195 : Cond.instanceMethod yX5_dieCount ∈ wsL_law := inr_9 _ (List.mem_of_getElem? (i := 3) rfl)
theorem wt_195 : Cond.instanceMethod yX5_dieCount ∈ lw_tbl := in_t1 _ (List.mem_of_getElem? (i := 214) rfl)
theorem wd_196 : Cond.selects RX5 yX5_dieCount yX5_dieCount ∈ wsL_law := inr_9 _ (List.mem_of_getElem? (i := 4) rfl)
theorem wt_196 : Cond.selects RX5 yX5_dieCount yX5_dieCount ∈ lw_tbl := in_t1 _ (List.mem_of_getElem? (i := 215) rfl)
theorem wd_197 : Cond.code yX5_dieCount cX5_dieCount 2 (some .int) ∈ wsL_law := inr_9 _ (List.mem_of_getElem? (i := 5) rfl)
theorem wt_197 : Cond.code yX5_dieCount cX5_dieCount 2 (some .int) ∈ lw_tbl := in_t1 _ (List.mem_of_getElem? (i := 216) rfl)
theorem wd_198 : Cond.instanceMethod yX4_knownDies ∈ wsL_law := inr_9 _ (List.mem_of_getElem? (i := 6) rfl)
theorem wt_198 : Cond.instanceMethod yX4_knownDies ∈ lw_tbl := in_t1 _ (List.mem_of_getElem? (i := 219) rfl)
theorem wd_199 : Cond.selects RX4 yX4_knownDies yX4_knownDies ∈ wsL_law := inr_9 _ (List.mem_of_getElem? (i := 7) rfl)
theorem wt_199 : Cond.selects RX4 yX4_knownDies yX4_knownDies ∈ lw_tbl := List.mem_append_left _ (List.mem_of_getElem? (i := 9) rfl)
theorem wd_200 : Cond.code yX4_knownDies cX4_knownDies 4 (some .int) ∈ wsL_law := inr_9 _ (List.mem_of_getElem? (i := 8) rfl)
theorem wt_200 : Cond.code yX4_knownDies cX4_knownDies 4 (some .int) ∈ lw_tbl := in_t1 _ (List.mem_of_getElem? (i := 220) rfl)
theorem wd_201 : Cond.methodLink RX4 36 yX4_struckWith ∈ wsL_law := inr_9 _ (List.mem_of_getElem? (i := 9) rfl)
theorem wt_201 : Cond.methodLink RX4 36 yX4_struckWith ∈ lw_tbl := in_t1 _ (List.mem_of_getElem? (i := 221) rfl)
theorem wd_202 : Cond.methodLink RL 45 yX6_dieCount ∈ wsL_law := inr_9 _ (List.mem_of_getElem? (i := 10) rfl)
theorem wt_202 : Cond.methodLink RL 45 yX6_dieCount ∈ lw_tbl := in_t3 _ (List.mem_of_getElem? (i := 28) rfl)
theorem wd_203 : Cond.instanceMethod yX6_dieCount ∈ wsL_law := inr_9 _ (List.mem_of_getElem? (i := 11) rfl)
theorem wt_203 : Cond.instanceMethod yX6_dieCount ∈ lw_tbl := in_t3 _ (List.mem_of_getElem? (i := 29) rfl)
theorem wd_204 : Cond.selects RX6 yX6_dieCount yX6_dieCount ∈ wsL_law := inr_9 _ (List.mem_of_getElem? (i := 12) rfl)
theorem wt_204 : Cond.selects RX6 yX6_dieCount yX6_dieCount ∈ lw_tbl := in_t3 _ (List.mem_of_getElem? (i := 30) rfl)
theorem wd_205 : Cond.code yX6_dieCount cX6_dieCount 2 (some .int) ∈ wsL_law := inr_9 _ (List.mem_of_getElem? (i := 13) rfl)
theorem wt_205 : Cond.code yX6_dieCount cX6_dieCount 2 (some .int) ∈ lw_tbl := in_t3 _ (List.mem_of_getElem? (i := 31) rfl)
theorem wd_206 : Cond.methodLink RX6 67 yX6_known ∈ wsL_law := inr_9 _ (List.mem_of_getElem? (i := 14) rfl)
theorem wt_206 : Cond.methodLink RX6 67 yX6_known ∈ lw_tbl := in_t3 _ (List.mem_of_getElem? (i := 32) rfl)
theorem wd_207 : Cond.instanceMethod yX6_known ∈ wsL_law := inr_9 _ (List.mem_of_getElem? (i := 15) rfl)
theorem wt_207 : Cond.instanceMethod yX6_known ∈ lw_tbl := in_t3 _ (List.mem_of_getElem? (i := 34) rfl)
theorem wd_208 : Cond.selects RX6 yX6_known yX6_known ∈ wsL_law := inr_9 _ (List.mem_of_getElem? (i := 16) rfl)
theorem wt_208 : Cond.selects RX6 yX6_known yX6_known ∈ lw_tbl := List.mem_append_left _ (List.mem_of_getElem? (i := 35) rfl)
theorem wd_209 : Cond.code yX6_known cX6_known 4 (some .int) ∈ wsL_law := inr_9 _ (List.mem_of_getElem? (i := 17) rfl)
theorem wt_209 : Cond.code yX6_known cX6_known 4 (some .int) ∈ lw_tbl := in_t3 _ (List.mem_of_getElem? (i := 35) rfl)
theorem wd_210 : Cond.methodLink RL 46 yX5_frequency ∈ wsL_law := inr_9 _ (List.mem_of_getElem? (i := 18) rfl)
theorem wt_210 : Cond.methodLink RL 46 yX5_frequency ∈ lw_tbl := in_t1 _ (List.mem_of_getElem? (i := 222) rfl)
theorem wd_211 : Cond.instanceMethod yX5_frequency ∈ wsL_law := inr_9 _ (List.mem_of_getElem? (i := 19) rfl)
theorem wt_211 : Cond.instanceMethod yX5_frequency ∈ lw_tbl := in_t1 _ (List.mem_of_getElem? (i := 223) rfl)
theorem wd_212 : Cond.selects RX5 yX5_frequency yX5_frequency ∈ wsL_law := inr_9 _ (List.mem_of_getElem? (i := 20) rfl)
theorem wt_212 : Cond.selects RX5 yX5_frequency yX5_frequency ∈ lw_tbl := in_t1 _ (List.mem_of_getElem? (i := 224) rfl)
theorem wd_213 : Cond.code yX5_frequency cX5_frequency 3 (some .int) ∈ wsL_law := inr_9 _ (List.mem_of_getElem? (i := 21) rfl)
theorem wt_213 : Cond.code yX5_frequency cX5_frequency 3 (some .int) ∈ lw_tbl := in_t1 _ (List.mem_of_getElem? (i := 225) rfl)
theorem wd_214 : Cond.methodLink RL 49 yX6_frequency ∈ wsL_law := inr_9 _ (List.mem_of_getElem? (i := 22) rfl)
theorem wt_214 : Cond.methodLink RL 49 yX6_frequency ∈ lw_tbl := in_t3 _ (List.mem_of_getElem? (i := 36) rfl)
theorem wd_215 : Cond.instanceMethod yX6_frequency ∈ wsL_law := inr_9 _ (List.mem_of_getElem? (i := 23) rfl)
theorem wt_215 : Cond.instanceMethod yX6_frequency ∈ lw_tbl := in_t3 _ (List.mem_of_getElem? (i := 37) rfl)
theorem wr_9 : ∀ w ∈ wsL_law_r9, w ∈ lw_tbl := List.forall_mem_cons.mpr ⟨wt_192, List.forall_mem_cons.mpr ⟨wt_193, List.forall_mem_cons.mpr ⟨wt_194, List.forall_mem_cons.mpr ⟨wt_195, List.forall_mem_cons.mpr ⟨wt_196, List.forall_mem_cons.mpr ⟨wt_197, List.forall_mem_cons.mpr ⟨wt_198, List.forall_mem_cons.mpr ⟨wt_199, List.forall_mem_cons.mpr ⟨wt_200, List.forall_mem_cons.mpr ⟨wt_201, List.forall_mem_cons.mpr ⟨wt_202, List.forall_mem_cons.mpr ⟨wt_203, List.forall_mem_cons.mpr ⟨wt_204, List.forall_mem_cons.mpr ⟨wt_205, List.forall_mem_cons.mpr ⟨wt_206, List.forall_mem_cons.mpr ⟨wt_207, List.forall_mem_cons.mpr ⟨wt_208, List.forall_mem_cons.mpr ⟨wt_209, List.forall_mem_cons.mpr ⟨wt_210, List.forall_mem_cons.mpr ⟨wt_211, List.forall_mem_cons.mpr ⟨wt_212, List.forall_mem_cons.mpr ⟨wt_213, List.forall_mem_cons.mpr ⟨wt_214, List.forall_mem_cons.mpr ⟨wt_215, fun _ h => absurd h List.not_mem_nil⟩⟩⟩⟩⟩⟩⟩⟩⟩⟩⟩⟩⟩⟩⟩⟩⟩⟩⟩⟩⟩⟩⟩⟩
theorem wd_216 : Cond.selects RX6 yX6_frequency yX6_frequency ∈ wsL_law := inr_10 _ (List.mem_of_getElem? (i := 0) rfl)
theorem wt_216 : Cond.selects RX6 yX6_frequency yX6_frequency ∈ lw_tbl := in_t3 _ (List.mem_of_getElem? (i := 38) rfl)
theorem wd_217 : Cond.code yX6_frequency cX6_frequency 3 (some .int) ∈ wsL_law := inr_10 _ (List.mem_of_getElem? (i := 1) rfl)
theorem wt_217 : Cond.code yX6_frequency cX6_frequency 3 (some .int) ∈ lw_tbl := in_t3 _ (List.mem_of_getElem? (i := 39) rfl)
theorem wd_218 : Cond.methodLink RL 50 yX5_meanWearBits ∈ wsL_law := inr_10 _ (List.mem_of_getElem? (i := 2) rfl)
theorem wt_218 : Cond.methodLink RL 50 yX5_meanWearBits ∈ lw_tbl := in_t1 _ (List.mem_of_getElem? (i := 226) rfl)
theorem wd_219 : Cond.instanceMethod yX5_meanWearBits ∈ wsL_law := inr_10 _ (List.mem_of_getElem? (i := 3) rfl)
theorem wt_219 : Cond.instanceMethod yX5_meanWearBits ∈ lw_tbl := in_t1 _ (List.mem_of_getElem? (i := 227) rfl)
theorem wd_220 : Cond.selects RX5 yX5_meanWearBits yX5_meanWearBits ∈ wsL_law := inr_10 _ (List.mem_of_getElem? (i := 4) rfl)
theorem wt_220 : Cond.selects RX5 yX5_meanWearBits yX5_meanWearBits ∈ lw_tbl := in_t1 _ (List.mem_of_getElem? (i := 228) rfl)
theorem wd_221 : Cond.code yX5_meanWearBits cX5_meanWearBits 4 (some .int) ∈ wsL_law := inr_10 _ (List.mem_of_getElem? (i := 5) rfl)
theorem wt_221 : Cond.code yX5_meanWearBits cX5_meanWearBits 4 (some .int) ∈ lw_tbl := in_t1 _ (List.mem_of_getElem? (i := 229) rfl)
theorem wd_222 : Cond.instanceMethod yX4_wearSum ∈ wsL_law := inr_10 _ (List.mem_of_getElem? (i := 6) rfl)
theorem wt_222 : Cond.instanceMethod yX4_wearSum ∈ lw_tbl := in_t1 _ (List.mem_of_getElem? (i := 232) rfl)
theorem wd_223 : Cond.selects RX4 yX4_wearSum yX4_wearSum ∈ wsL_law := inr_10 _ (List.mem_of_getElem? (i := 7) rfl)
theorem wt_223 : Cond.selects RX4 yX4_wearSum yX4_wearSum ∈ lw_tbl := List.mem_append_left _ (List.mem_of_getElem? (i := 10) rfl)
theorem wd_224 : Cond.code yX4_wearSum cX4_wearSum 5 (some .int) ∈ wsL_law := inr_10 _ (List.mem_of_getElem? (i := 8) rfl)
theorem wt_224 : Cond.code yX4_wearSum cX4_wearSum 5 (some .int) ∈ lw_tbl := in_t1 _ (List.mem_of_getElem? (i := 233) rfl)
theorem wd_225 : Cond.methodLink RX4 33 yX4_wear ∈ wsL_law := inr_10 _ (List.mem_of_getElem? (i := 9) rfl)
theorem wt_225 : Cond.methodLink RX4 33 yX4_wear ∈ lw_tbl := in_t1 _ (List.mem_of_getElem? (i := 234) rfl)
theorem wd_226 : Cond.methodLink RX5 97 yX5_bitsOf ∈ wsL_law := inr_10 _ (List.mem_of_getElem? (i := 10) rfl)
theorem wt_226 : Cond.methodLink RX5 97 yX5_bitsOf ∈ lw_tbl := in_t1 _ (List.mem_of_getElem? (i := 235) rfl)
theorem wd_227 : Cond.static yX5_bitsOf ∈ wsL_law := inr_10 _ (List.mem_of_getElem? (i := 11) rfl)
theorem wt_227 : Cond.static yX5_bitsOf ∈ lw_tbl := in_t1 _ (List.mem_of_getElem? (i := 236) rfl)
theorem wd_228 : Cond.code yX5_bitsOf cX5_bitsOf 4 (some .int) ∈ wsL_law := inr_10 _ (List.mem_of_getElem? (i := 12) rfl)
theorem wt_228 : Cond.code yX5_bitsOf cX5_bitsOf 4 (some .int) ∈ lw_tbl := in_t1 _ (List.mem_of_getElem? (i := 237) rfl)
theorem wd_229 : Cond.constantFloat RX5 156 (1258291200) ∈ wsL_law := inr_10 _ (List.mem_of_getElem? (i := 13) rfl)
theorem wt_229 : Cond.constantFloat RX5 156 (1258291200) ∈ lw_tbl := in_t1 _ (List.mem_of_getElem? (i := 238) rfl)
theorem wd_230 : Cond.methodLink RL 53 yX6_meanWearBits ∈ wsL_law := inr_10 _ (List.mem_of_getElem? (i := 14) rfl)
theorem wt_230 : Cond.methodLink RL 53 yX6_meanWearBits ∈ lw_tbl := in_t3 _ (List.mem_of_getElem? (i := 40) rfl)
theorem wd_231 : Cond.instanceMethod yX6_meanWearBits ∈ wsL_law := inr_10 _ (List.mem_of_getElem? (i := 15) rfl)
theorem wt_231 : Cond.instanceMethod yX6_meanWearBits ∈ lw_tbl := in_t3 _ (List.mem_of_getElem? (i := 41) rfl)
theorem wd_232 : Cond.selects RX6 yX6_meanWearBits yX6_meanWearBits ∈ wsL_law := inr_10 _ (List.mem_of_getElem? (i := 16) rfl)
theorem wt_232 : Cond.selects RX6 yX6_meanWearBits yX6_meanWearBits ∈ lw_tbl := in_t3 _ (List.mem_of_getElem? (i := 42) rfl)
theorem wd_233 : Cond.code yX6_meanWearBits cX6_meanWearBits 6 (some .int) ∈ wsL_law := inr_10 _ (List.mem_of_getElem? (i := 17) rfl)
theorem wt_233 : Cond.code yX6_meanWearBits cX6_meanWearBits 6 (some .int) ∈ lw_tbl := in_t3 _ (List.mem_of_getElem? (i := 43) rfl)
theorem wd_234 : Cond.methodLink RX6 73 yX6_bits ∈ wsL_law := inr_10 _ (List.mem_of_getElem? (i := 18) rfl)
theorem wt_234 : Cond.methodLink RX6 73 yX6_bits ∈ lw_tbl := in_t3 _ (List.mem_of_getElem? (i := 44) rfl)
theorem wd_235 : Cond.static yX6_bits ∈ wsL_law := inr_10 _ (List.mem_of_getElem? (i := 19) rfl)
theorem wt_235 : Cond.static yX6_bits ∈ lw_tbl := in_t3 _ (List.mem_of_getElem? (i := 45) rfl)
theorem wd_236 : Cond.code yX6_bits cX6_bits 9 (some .int) ∈ wsL_law := inr_10 _ (List.mem_of_getElem? (i := 20) rfl)
theorem wt_236 : Cond.code yX6_bits cX6_bits 9 (some .int) ∈ lw_tbl := in_t3 _ (List.mem_of_getElem? (i := 46) rfl)
theorem wd_237 : Cond.constantLong RX6 71 (2) ∈ wsL_law := inr_10 _ (List.mem_of_getElem? (i := 21) rfl)
theorem wt_237 : Cond.constantLong RX6 71 (2) ∈ lw_tbl := in_t3 _ (List.mem_of_getElem? (i := 47) rfl)
theorem wd_238 : Cond.methodLink RL 54 yX5_coupleCount ∈ wsL_law := inr_10 _ (List.mem_of_getElem? (i := 22) rfl)
theorem wt_238 : Cond.methodLink RL 54 yX5_coupleCount ∈ lw_tbl := in_t1 _ (List.mem_of_getElem? (i := 239) rfl)
theorem wd_239 : Cond.instanceMethod yX5_coupleCount ∈ wsL_law := inr_10 _ (List.mem_of_getElem? (i := 23) rfl)
theorem wt_239 : Cond.instanceMethod yX5_coupleCount ∈ lw_tbl := in_t2 _ (List.mem_of_getElem? (i := 0) rfl)
theorem wr_10 : ∀ w ∈ wsL_law_r10, w ∈ lw_tbl := List.forall_mem_cons.mpr ⟨wt_216, List.forall_mem_cons.mpr ⟨wt_217, List.forall_mem_cons.mpr ⟨wt_218, List.forall_mem_cons.mpr ⟨wt_219, List.forall_mem_cons.mpr ⟨wt_220, List.forall_mem_cons.mpr ⟨wt_221, List.forall_mem_cons.mpr ⟨wt_222, List.forall_mem_cons.mpr ⟨wt_223, List.forall_mem_cons.mpr ⟨wt_224, List.forall_mem_cons.mpr ⟨wt_225, List.forall_mem_cons.mpr ⟨wt_226, List.forall_mem_cons.mpr ⟨wt_227, List.forall_mem_cons.mpr ⟨wt_228, List.forall_mem_cons.mpr ⟨wt_229, List.forall_mem_cons.mpr ⟨wt_230, List.forall_mem_cons.mpr ⟨wt_231, List.forall_mem_cons.mpr ⟨wt_232, List.forall_mem_cons.mpr ⟨wt_233, List.forall_mem_cons.mpr ⟨wt_234, List.forall_mem_cons.mpr ⟨wt_235, List.forall_mem_cons.mpr ⟨wt_236, List.forall_mem_cons.mpr ⟨wt_237, List.forall_mem_cons.mpr ⟨wt_238, List.forall_mem_cons.mpr ⟨wt_239, fun _ h => absurd h List.not_mem_nil⟩⟩⟩⟩⟩⟩⟩⟩⟩⟩⟩⟩⟩⟩⟩⟩⟩⟩⟩⟩⟩⟩⟩⟩
theorem wd_240 : Cond.selects RX5 yX5_coupleCount yX5_coupleCount ∈ wsL_law := inr_11 _ (List.mem_of_getElem? (i := 0) rfl)
theorem wt_240 : Cond.selects RX5 yX5_coupleCount yX5_coupleCount ∈ lw_tbl := in_t2 _ (List.mem_of_getElem? (i := 1) rfl)
theorem wd_241 : Cond.code yX5_coupleCount cX5_coupleCount 1 (some .int) ∈ wsL_law := inr_11 _ (List.mem_of_getElem? (i := 1) rfl)
theorem wt_241 : Cond.code yX5_coupleCount cX5_coupleCount 1 (some .int) ∈ lw_tbl := in_t2 _ (List.mem_of_getElem? (i := 2) rfl)
theorem wd_242 : Cond.instanceMethod yX1_list ∈ wsL_law := inr_11 _ (List.mem_of_getElem? (i := 2) rfl)
theorem wt_242 : Cond.instanceMethod yX1_list ∈ lw_tbl := in_t2 _ (List.mem_of_getElem? (i := 5) rfl)
theorem wd_243 : Cond.selects RX1 yX1_list yX1_list ∈ wsL_law := inr_11 _ (List.mem_of_getElem? (i := 3) rfl)
theorem wt_243 : Cond.selects RX1 yX1_list yX1_list ∈ lw_tbl := List.mem_append_left _ (List.mem_of_getElem? (i := 11) rfl)
theorem wd_244 : Cond.code yX1_list cX1_list 4 none ∈ wsL_law := inr_11 _ (List.mem_of_getElem? (i := 4) rfl)
theorem wt_244 : Cond.code yX1_list cX1_list 4 none ∈ lw_tbl := in_t2 _ (List.mem_of_getElem? (i := 6) rfl)
theorem wd_245 : Cond.methodLink RX1 30 yX1_markPairs ∈ wsL_law := inr_11 _ (List.mem_of_getElem? (i := 5) rfl)
theorem wt_245 : Cond.methodLink RX1 30 yX1_markPairs ∈ lw_tbl := in_t2 _ (List.mem_of_getElem? (i := 7) rfl)
theorem wd_246 : Cond.instanceMethod yX1_markPairs ∈ wsL_law := inr_11 _ (List.mem_of_getElem? (i := 6) rfl)
theorem wt_246 : Cond.instanceMethod yX1_markPairs ∈ lw_tbl := in_t2 _ (List.mem_of_getElem? (i := 9) rfl)
theorem wd_247 : Cond.selects RX1 yX1_markPairs yX1_markPairs ∈ wsL_law := inr_11 _ (List.mem_of_getElem? (i := 7) rfl)
theorem wt_247 : Cond.selects RX1 yX1_markPairs yX1_markPairs ∈ lw_tbl := List.mem_append_left _ (List.mem_of_getElem? (i := 12) rfl)
theorem wd_248 : Cond.code yX1_markPairs cX1_markPairs 3 none ∈ wsL_law := inr_11 _ (List.mem_of_getElem? (i := 8) rfl)
theorem wt_248 : Cond.code yX1_markPairs cX1_markPairs 3 none ∈ lw_tbl := in_t2 _ (List.mem_of_getElem? (i := 10) rfl)
theorem wd_249 : Cond.methodLink RX1 58 yJ7_fill_53178 ∈ wsL_law := inr_11 _ (List.mem_of_getElem? (i := 9) rfl)
theorem wt_249 : Cond.methodLink RX1 58 yJ7_fill_53178 ∈ lw_tbl := in_t2 _ (List.mem_of_getElem? (i := 11) rfl)
theorem wd_250 : Cond.static yJ7_fill_53178 ∈ wsL_law := inr_11 _ (List.mem_of_getElem? (i := 10) rfl)
theorem wt_250 : Cond.static yJ7_fill_53178 ∈ lw_tbl := in_t2 _ (List.mem_of_getElem? (i := 12) rfl)
theorem wd_251 : Cond.initialized RJ7 ∈ wsL_law := inr_11 _ (List.mem_of_getElem? (i := 11) rfl)
theorem wt_251 : Cond.initialized RJ7 ∈ lw_tbl := in_t1 _ (List.mem_of_getElem? (i := 9) rfl)
theorem wd_252 : Cond.code yJ7_fill_53178 cJ7_fill_53178 4 none ∈ wsL_law := inr_11 _ (List.mem_of_getElem? (i := 12) rfl)
theorem wt_252 : Cond.code yJ7_fill_53178 cJ7_fill_53178 4 none ∈ lw_tbl := in_t2 _ (List.mem_of_getElem? (i := 13) rfl)
theorem wd_253 : Cond.methodLink RX1 40 yX1_pairOf ∈ wsL_law := inr_11 _ (List.mem_of_getElem? (i := 13) rfl)
theorem wt_253 : Cond.methodLink RX1 40 yX1_pairOf ∈ lw_tbl := in_t2 _ (List.mem_of_getElem? (i := 14) rfl)
theorem wd_254 : Cond.static yX1_pairOf ∈ wsL_law := inr_11 _ (List.mem_of_getElem? (i := 14) rfl)
theorem wt_254 : Cond.static yX1_pairOf ∈ lw_tbl := in_t2 _ (List.mem_of_getElem? (i := 15) rfl)
theorem wd_255 : Cond.code yX1_pairOf cX1_pairOf 2 (some .int) ∈ wsL_law := inr_11 _ (List.mem_of_getElem? (i := 15) rfl)
theorem wt_255 : Cond.code yX1_pairOf cX1_pairOf 2 (some .int) ∈ lw_tbl := in_t2 _ (List.mem_of_getElem? (i := 16) rfl)
theorem wd_256 : Cond.methodLink RX1 34 yX1_numberPairs ∈ wsL_law := inr_11 _ (List.mem_of_getElem? (i := 16) rfl)
theorem wt_256 : Cond.methodLink RX1 34 yX1_numberPairs ∈ lw_tbl := in_t2 _ (List.mem_of_getElem? (i := 18) rfl)
theorem wd_257 : Cond.instanceMethod yX1_numberPairs ∈ wsL_law := inr_11 _ (List.mem_of_getElem? (i := 17) rfl)
theorem wt_257 : Cond.instanceMethod yX1_numberPairs ∈ lw_tbl := in_t2 _ (List.mem_of_getElem? (i := 20) rfl)
theorem wd_258 : Cond.selects RX1 yX1_numberPairs yX1_numberPairs ∈ wsL_law := inr_11 _ (List.mem_of_getElem? (i := 18) rfl)
theorem wt_258 : Cond.selects RX1 yX1_numberPairs yX1_numberPairs ∈ lw_tbl := List.mem_append_left _ (List.mem_of_getElem? (i := 13) rfl)
theorem wd_259 : Cond.code yX1_numberPairs cX1_numberPairs 2 none ∈ wsL_law := inr_11 _ (List.mem_of_getElem? (i := 19) rfl)
theorem wt_259 : Cond.code yX1_numberPairs cX1_numberPairs 2 none ∈ lw_tbl := in_t2 _ (List.mem_of_getElem? (i := 21) rfl)
theorem wd_260 : Cond.methodLink RX1 64 yX1_enter ∈ wsL_law := inr_11 _ (List.mem_of_getElem? (i := 20) rfl)
theorem wt_260 : Cond.methodLink RX1 64 yX1_enter ∈ lw_tbl := in_t2 _ (List.mem_of_getElem? (i := 22) rfl)
theorem wd_261 : Cond.instanceMethod yX1_enter ∈ wsL_law := inr_11 _ (List.mem_of_getElem? (i := 21) rfl)
theorem wt_261 : Cond.instanceMethod yX1_enter ∈ lw_tbl := in_t2 _ (List.mem_of_getElem? (i := 24) rfl)
theorem wd_262 : Cond.selects RX1 yX1_enter yX1_enter ∈ wsL_law := inr_11 _ (List.mem_of_getElem? (i := 22) rfl)
theorem wt_262 : Cond.selects RX1 yX1_enter yX1_enter ∈ lw_tbl := List.mem_append_left _ (List.mem_of_getElem? (i := 14) rfl)
theorem wd_263 : Cond.code yX1_enter cX1_enter 4 none ∈ wsL_law := inr_11 _ (List.mem_of_getElem? (i := 23) rfl)
theorem wt_263 : Cond.code yX1_enter cX1_enter 4 none ∈ lw_tbl := in_t2 _ (List.mem_of_getElem? (i := 25) rfl)
theorem wr_11 : ∀ w ∈ wsL_law_r11, w ∈ lw_tbl := List.forall_mem_cons.mpr ⟨wt_240, List.forall_mem_cons.mpr ⟨wt_241, List.forall_mem_cons.mpr ⟨wt_242, List.forall_mem_cons.mpr ⟨wt_243, List.forall_mem_cons.mpr ⟨wt_244, List.forall_mem_cons.mpr ⟨wt_245, List.forall_mem_cons.mpr ⟨wt_246, List.forall_mem_cons.mpr ⟨wt_247, List.forall_mem_cons.mpr ⟨wt_248, List.forall_mem_cons.mpr ⟨wt_249, List.forall_mem_cons.mpr ⟨wt_250, List.forall_mem_cons.mpr ⟨wt_251, List.forall_mem_cons.mpr ⟨wt_252, List.forall_mem_cons.mpr ⟨wt_253, List.forall_mem_cons.mpr ⟨wt_254, List.forall_mem_cons.mpr ⟨wt_255, List.forall_mem_cons.mpr ⟨wt_256, List.forall_mem_cons.mpr ⟨wt_257, List.forall_mem_cons.mpr ⟨wt_258, List.forall_mem_cons.mpr ⟨wt_259, List.forall_mem_cons.mpr ⟨wt_260, List.forall_mem_cons.mpr ⟨wt_261, List.forall_mem_cons.mpr ⟨wt_262, List.forall_mem_cons.mpr ⟨wt_263, fun _ h => absurd h List.not_mem_nil⟩⟩⟩⟩⟩⟩⟩⟩⟩⟩⟩⟩⟩⟩⟩⟩⟩⟩⟩⟩⟩⟩⟩⟩
theorem wd_264 : Cond.methodLink RX1 44 yX1_has ∈ wsL_law := inr_12 _ (List.mem_of_getElem? (i := 0) rfl)
theorem wt_264 : Cond.methodLink RX1 44 yX1_has ∈ lw_tbl := in_t2 _ (List.mem_of_getElem? (i := 26) rfl)
theorem wd_265 : Cond.instanceMethod yX1_has ∈ wsL_law := inr_12 _ (List.mem_of_getElem? (i := 1) rfl)
theorem wt_265 : Cond.instanceMethod yX1_has ∈ lw_tbl := in_t2 _ (List.mem_of_getElem? (i := 28) rfl)
theorem wd_266 : Cond.selects RX1 yX1_has yX1_has ∈ wsL_law := inr_12 _ (List.mem_of_getElem? (i := 2) rfl)
theorem wt_266 : Cond.selects RX1 yX1_has yX1_has ∈ lw_tbl := List.mem_append_left _ (List.mem_of_getElem? (i := 15) rfl)
theorem wd_267 : Cond.code yX1_has cX1_has 2 (some .boolean) ∈ wsL_law := inr_12 _ (List.mem_of_getElem? (i := 3) rfl)
theorem wt_267 : Cond.code yX1_has cX1_has 2 (some .boolean) ∈ lw_tbl := in_t2 _ (List.mem_of_getElem? (i := 29) rfl)
theorem wd_268 : Cond.methodLink RX1 52 yX1_spanWear ∈ wsL_law := inr_12 _ (List.mem_of_getElem? (i := 4) rfl)
theorem wt_268 : Cond.methodLink RX1 52 yX1_spanWear ∈ lw_tbl := in_t2 _ (List.mem_of_getElem? (i := 31) rfl)
theorem wd_269 : Cond.instanceMethod yX1_spanWear ∈ wsL_law := inr_12 _ (List.mem_of_getElem? (i := 5) rfl)
theorem wt_269 : Cond.instanceMethod yX1_spanWear ∈ lw_tbl := in_t2 _ (List.mem_of_getElem? (i := 33) rfl)
theorem wd_270 : Cond.selects RX1 yX1_spanWear yX1_spanWear ∈ wsL_law := inr_12 _ (List.mem_of_getElem? (i := 6) rfl)
theorem wt_270 : Cond.selects RX1 yX1_spanWear yX1_spanWear ∈ lw_tbl := List.mem_append_left _ (List.mem_of_getElem? (i := 16) rfl)
theorem wd_271 : Cond.code yX1_spanWear cX1_spanWear 4 none ∈ wsL_law := inr_12 _ (List.mem_of_getElem? (i := 7) rfl)
theorem wt_271 : Cond.code yX1_spanWear cX1_spanWear 4 none ∈ lw_tbl := in_t2 _ (List.mem_of_getElem? (i := 34) rfl)
theorem wd_272 : Cond.methodLink RX1 68 Lib.Math.min.name ∈ wsL_law := inr_12 _ (List.mem_of_getElem? (i := 8) rfl)
theorem wt_272 : Cond.methodLink RX1 68 Lib.Math.min.name ∈ lw_tbl := in_t2 _ (List.mem_of_getElem? (i := 35) rfl)
theorem wd_273 : Cond.static Lib.Math.min.name ∈ wsL_law := inr_12 _ (List.mem_of_getElem? (i := 9) rfl)
theorem wt_273 : Cond.static Lib.Math.min.name ∈ lw_tbl := in_t2 _ (List.mem_of_getElem? (i := 36) rfl)
theorem wd_274 : Cond.initialized "java/lang/Math" ∈ wsL_law := inr_12 _ (List.mem_of_getElem? (i := 10) rfl)
theorem wt_274 : Cond.initialized "java/lang/Math" ∈ lw_tbl := in_t1 _ (List.mem_of_getElem? (i := 10) rfl)
theorem wd_275 : Cond.code Lib.Math.min.name Lib.Math.min.code 2 (some .int) ∈ wsL_law := inr_12 _ (List.mem_of_getElem? (i := 11) rfl)
theorem wt_275 : Cond.code Lib.Math.min.name Lib.Math.min.code 2 (some .int) ∈ lw_tbl := in_t2 _ (List.mem_of_getElem? (i := 37) rfl)
theorem wd_276 : Cond.methodLink RX1 73 Lib.Math.max.name ∈ wsL_law := inr_12 _ (List.mem_of_getElem? (i := 12) rfl)
theorem wt_276 : Cond.methodLink RX1 73 Lib.Math.max.name ∈ lw_tbl := in_t2 _ (List.mem_of_getElem? (i := 38) rfl)
theorem wd_277 : Cond.static Lib.Math.max.name ∈ wsL_law := inr_12 _ (List.mem_of_getElem? (i := 13) rfl)
theorem wt_277 : Cond.static Lib.Math.max.name ∈ lw_tbl := in_t2 _ (List.mem_of_getElem? (i := 39) rfl)
theorem wd_278 : Cond.code Lib.Math.max.name Lib.Math.max.code 2 (some .int) ∈ wsL_law := inr_12 _ (List.mem_of_getElem? (i := 14) rfl)
theorem wt_278 : Cond.code Lib.Math.max.name Lib.Math.max.code 2 (some .int) ∈ lw_tbl := in_t2 _ (List.mem_of_getElem? (i := 40) rfl)
theorem wd_279 : Cond.methodLink RL 57 yX6_coupleCount ∈ wsL_law := inr_12 _ (List.mem_of_getElem? (i := 15) rfl)
theorem wt_279 : Cond.methodLink RL 57 yX6_coupleCount ∈ lw_tbl := in_t3 _ (List.mem_of_getElem? (i := 48) rfl)
theorem wd_280 : Cond.instanceMethod yX6_coupleCount ∈ wsL_law := inr_12 _ (List.mem_of_getElem? (i := 16) rfl)
theorem wt_280 : Cond.instanceMethod yX6_coupleCount ∈ lw_tbl := in_t3 _ (List.mem_of_getElem? (i := 49) rfl)
theorem wd_281 : Cond.selects RX6 yX6_coupleCount yX6_coupleCount ∈ wsL_law := inr_12 _ (List.mem_of_getElem? (i := 17) rfl)
theorem wt_281 : Cond.selects RX6 yX6_coupleCount yX6_coupleCount ∈ lw_tbl := in_t3 _ (List.mem_of_getElem? (i := 50) rfl)
theorem wd_282 : Cond.code yX6_coupleCount cX6_coupleCount 1 (some .int) ∈ wsL_law := inr_12 _ (List.mem_of_getElem? (i := 18) rfl)
theorem wt_282 : Cond.code yX6_coupleCount cX6_coupleCount 1 (some .int) ∈ lw_tbl := in_t3 _ (List.mem_of_getElem? (i := 51) rfl)
theorem wd_283 : Cond.fieldLink RX6 76 "DieStudyModel" "couples" "I" ∈ wsL_law := inr_12 _ (List.mem_of_getElem? (i := 19) rfl)
theorem wt_283 : Cond.fieldLink RX6 76 "DieStudyModel" "couples" "I" ∈ lw_tbl := in_t2 _ (List.mem_of_getElem? (i := 184) rfl)
theorem wd_284 : Cond.methodLink RX6 82 yX6_finds ∈ wsL_law := inr_12 _ (List.mem_of_getElem? (i := 20) rfl)
theorem wt_284 : Cond.methodLink RX6 82 yX6_finds ∈ lw_tbl := in_t3 _ (List.mem_of_getElem? (i := 52) rfl)
theorem wd_285 : Cond.instanceMethod yX6_finds ∈ wsL_law := inr_12 _ (List.mem_of_getElem? (i := 21) rfl)
theorem wt_285 : Cond.instanceMethod yX6_finds ∈ lw_tbl := in_t3 _ (List.mem_of_getElem? (i := 54) rfl)
theorem wd_286 : Cond.selects RX6 yX6_finds yX6_finds ∈ wsL_law := inr_12 _ (List.mem_of_getElem? (i := 22) rfl)
theorem wt_286 : Cond.selects RX6 yX6_finds yX6_finds ∈ lw_tbl := List.mem_append_left _ (List.mem_of_getElem? (i := 36) rfl)
theorem wd_287 : Cond.code yX6_finds cX6_finds 7 none ∈ wsL_law := inr_12 _ (List.mem_of_getElem? (i := 23) rfl)
theorem wt_287 : Cond.code yX6_finds cX6_finds 7 none ∈ lw_tbl := in_t3 _ (List.mem_of_getElem? (i := 55) rfl)
theorem wr_12 : ∀ w ∈ wsL_law_r12, w ∈ lw_tbl := List.forall_mem_cons.mpr ⟨wt_264, List.forall_mem_cons.mpr ⟨wt_265, List.forall_mem_cons.mpr ⟨wt_266, List.forall_mem_cons.mpr ⟨wt_267, List.forall_mem_cons.mpr ⟨wt_268, List.forall_mem_cons.mpr ⟨wt_269, List.forall_mem_cons.mpr ⟨wt_270, List.forall_mem_cons.mpr ⟨wt_271, List.forall_mem_cons.mpr ⟨wt_272, List.forall_mem_cons.mpr ⟨wt_273, List.forall_mem_cons.mpr ⟨wt_274, List.forall_mem_cons.mpr ⟨wt_275, List.forall_mem_cons.mpr ⟨wt_276, List.forall_mem_cons.mpr ⟨wt_277, List.forall_mem_cons.mpr ⟨wt_278, List.forall_mem_cons.mpr ⟨wt_279, List.forall_mem_cons.mpr ⟨wt_280, List.forall_mem_cons.mpr ⟨wt_281, List.forall_mem_cons.mpr ⟨wt_282, List.forall_mem_cons.mpr ⟨wt_283, List.forall_mem_cons.mpr ⟨wt_284, List.forall_mem_cons.mpr ⟨wt_285, List.forall_mem_cons.mpr ⟨wt_286, List.forall_mem_cons.mpr ⟨wt_287, fun _ h => absurd h List.not_mem_nil⟩⟩⟩⟩⟩⟩⟩⟩⟩⟩⟩⟩⟩⟩⟩⟩⟩⟩⟩⟩⟩⟩⟩⟩
theorem wd_288 : Cond.methodLink RX6 79 yX6_isCouple ∈ wsL_law := inr_13 _ (List.mem_of_getElem? (i := 0) rfl)
theorem wt_288 : Cond.methodLink RX6 79 yX6_isCouple ∈ lw_tbl := in_t3 _ (List.mem_of_getElem? (i := 56) rfl)
theorem wd_289 : Cond.instanceMethod yX6_isCouple ∈ wsL_law := inr_13 _ (List.mem_of_getElem? (i := 1) rfl)
theorem wt_289 : Cond.instanceMethod yX6_isCouple ∈ lw_tbl := in_t3 _ (List.mem_of_getElem? (i := 58) rfl)
theorem wd_290 : Cond.selects RX6 yX6_isCouple yX6_isCouple ∈ wsL_law := inr_13 _ (List.mem_of_getElem? (i := 2) rfl)
theorem wt_290 : Cond.selects RX6 yX6_isCouple yX6_isCouple ∈ lw_tbl := List.mem_append_left _ (List.mem_of_getElem? (i := 37) rfl)
theorem wd_291 : Cond.code yX6_isCouple cX6_isCouple 4 (some .boolean) ∈ wsL_law := inr_13 _ (List.mem_of_getElem? (i := 3) rfl)
theorem wt_291 : Cond.code yX6_isCouple cX6_isCouple 4 (some .boolean) ∈ lw_tbl := in_t3 _ (List.mem_of_getElem? (i := 59) rfl)
theorem wd_292 : Cond.methodLink RL 58 yX5_coupleAt ∈ wsL_law := inr_13 _ (List.mem_of_getElem? (i := 4) rfl)
theorem wt_292 : Cond.methodLink RL 58 yX5_coupleAt ∈ lw_tbl := in_t2 _ (List.mem_of_getElem? (i := 41) rfl)
theorem wd_293 : Cond.instanceMethod yX5_coupleAt ∈ wsL_law := inr_13 _ (List.mem_of_getElem? (i := 5) rfl)
theorem wt_293 : Cond.instanceMethod yX5_coupleAt ∈ lw_tbl := in_t2 _ (List.mem_of_getElem? (i := 42) rfl)
theorem wd_294 : Cond.selects RX5 yX5_coupleAt yX5_coupleAt ∈ wsL_law := inr_13 _ (List.mem_of_getElem? (i := 6) rfl)
theorem wt_294 : Cond.selects RX5 yX5_coupleAt yX5_coupleAt ∈ lw_tbl := in_t2 _ (List.mem_of_getElem? (i := 43) rfl)
theorem wd_295 : Cond.code yX5_coupleAt cX5_coupleAt 3 (some .int) ∈ wsL_law := inr_13 _ (List.mem_of_getElem? (i := 7) rfl)
theorem wt_295 : Cond.code yX5_coupleAt cX5_coupleAt 3 (some .int) ∈ lw_tbl := in_t2 _ (List.mem_of_getElem? (i := 44) rfl)
theorem wd_296 : Cond.methodLink RX5 105 yX5_errorOfPlace ∈ wsL_law := inr_13 _ (List.mem_of_getElem? (i := 8) rfl)
theorem wt_296 : Cond.methodLink RX5 105 yX5_errorOfPlace ∈ lw_tbl := in_t2 _ (List.mem_of_getElem? (i := 45) rfl)
theorem wd_297 : Cond.instanceMethod yX5_errorOfPlace ∈ wsL_law := inr_13 _ (List.mem_of_getElem? (i := 9) rfl)
theorem wt_297 : Cond.instanceMethod yX5_errorOfPlace ∈ lw_tbl := in_t2 _ (List.mem_of_getElem? (i := 47) rfl)
theorem wd_298 : Cond.selects RX5 yX5_errorOfPlace yX5_errorOfPlace ∈ wsL_law := inr_13 _ (List.mem_of_getElem? (i := 10) rfl)
theorem wt_298 : Cond.selects RX5 yX5_errorOfPlace yX5_errorOfPlace ∈ lw_tbl := List.mem_append_left _ (List.mem_of_getElem? (i := 17) rfl)
theorem wd_299 : Cond.code yX5_errorOfPlace cX5_errorOfPlace 2 (some .int) ∈ wsL_law := inr_13 _ (List.mem_of_getElem? (i := 11) rfl)
theorem wt_299 : Cond.code yX5_errorOfPlace cX5_errorOfPlace 2 (some .int) ∈ lw_tbl := in_t2 _ (List.mem_of_getElem? (i := 48) rfl)
theorem wd_300 : Cond.methodLink RL 61 yX6_coupleAt ∈ wsL_law := inr_13 _ (List.mem_of_getElem? (i := 12) rfl)
theorem wt_300 : Cond.methodLink RL 61 yX6_coupleAt ∈ lw_tbl := in_t3 _ (List.mem_of_getElem? (i := 60) rfl)
theorem wd_301 : Cond.instanceMethod yX6_coupleAt ∈ wsL_law := inr_13 _ (List.mem_of_getElem? (i := 13) rfl)
theorem wt_301 : Cond.instanceMethod yX6_coupleAt ∈ lw_tbl := in_t3 _ (List.mem_of_getElem? (i := 61) rfl)
theorem wd_302 : Cond.selects RX6 yX6_coupleAt yX6_coupleAt ∈ wsL_law := inr_13 _ (List.mem_of_getElem? (i := 14) rfl)
theorem wt_302 : Cond.selects RX6 yX6_coupleAt yX6_coupleAt ∈ lw_tbl := in_t3 _ (List.mem_of_getElem? (i := 62) rfl)
theorem wd_303 : Cond.code yX6_coupleAt cX6_coupleAt 2 (some .int) ∈ wsL_law := inr_13 _ (List.mem_of_getElem? (i := 15) rfl)
theorem wt_303 : Cond.code yX6_coupleAt cX6_coupleAt 2 (some .int) ∈ lw_tbl := in_t3 _ (List.mem_of_getElem? (i := 63) rfl)
theorem wd_304 : Cond.methodLink RL 62 yX5_componentCount ∈ wsL_law := inr_13 _ (List.mem_of_getElem? (i := 16) rfl)
theorem wt_304 : Cond.methodLink RL 62 yX5_componentCount ∈ lw_tbl := in_t2 _ (List.mem_of_getElem? (i := 50) rfl)
theorem wd_305 : Cond.instanceMethod yX5_componentCount ∈ wsL_law := inr_13 _ (List.mem_of_getElem? (i := 17) rfl)
theorem wt_305 : Cond.instanceMethod yX5_componentCount ∈ lw_tbl := in_t2 _ (List.mem_of_getElem? (i := 51) rfl)
theorem wd_306 : Cond.selects RX5 yX5_componentCount yX5_componentCount ∈ wsL_law := inr_13 _ (List.mem_of_getElem? (i := 18) rfl)
theorem wt_306 : Cond.selects RX5 yX5_componentCount yX5_componentCount ∈ lw_tbl := in_t2 _ (List.mem_of_getElem? (i := 52) rfl)
theorem wd_307 : Cond.code yX5_componentCount cX5_componentCount 1 (some .int) ∈ wsL_law := inr_13 _ (List.mem_of_getElem? (i := 19) rfl)
theorem wt_307 : Cond.code yX5_componentCount cX5_componentCount 1 (some .int) ∈ lw_tbl := in_t2 _ (List.mem_of_getElem? (i := 53) rfl)
theorem wd_308 : Cond.instanceMethod yX3_connect ∈ wsL_law := inr_13 _ (List.mem_of_getElem? (i := 20) rfl)
theorem wt_308 : Cond.instanceMethod yX3_connect ∈ lw_tbl := in_t2 _ (List.mem_of_getElem? (i := 56) rfl)
theorem wd_309 : Cond.selects RX3 yX3_connect yX3_connect ∈ wsL_law := inr_13 _ (List.mem_of_getElem? (i := 21) rfl)
theorem wt_309 : Cond.selects RX3 yX3_connect yX3_connect ∈ lw_tbl := List.mem_append_left _ (List.mem_of_getElem? (i := 18) rfl)
theorem wd_310 : Cond.code yX3_connect cX3_connect 4 none ∈ wsL_law := inr_13 _ (List.mem_of_getElem? (i := 22) rfl)
theorem wt_310 : Cond.code yX3_connect cX3_connect 4 none ∈ lw_tbl := in_t2 _ (List.mem_of_getElem? (i := 57) rfl)
theorem wd_311 : Cond.methodLink RX3 22 yX3_enterDies ∈ wsL_law := inr_13 _ (List.mem_of_getElem? (i := 23) rfl)
theorem wt_311 : Cond.methodLink RX3 22 yX3_enterDies ∈ lw_tbl := in_t2 _ (List.mem_of_getElem? (i := 58) rfl)
theorem wr_13 : ∀ w ∈ wsL_law_r13, w ∈ lw_tbl := List.forall_mem_cons.mpr ⟨wt_288, List.forall_mem_cons.mpr ⟨wt_289, List.forall_mem_cons.mpr ⟨wt_290, List.forall_mem_cons.mpr ⟨wt_291, List.forall_mem_cons.mpr ⟨wt_292, List.forall_mem_cons.mpr ⟨wt_293, List.forall_mem_cons.mpr ⟨wt_294, List.forall_mem_cons.mpr ⟨wt_295, List.forall_mem_cons.mpr ⟨wt_296, List.forall_mem_cons.mpr ⟨wt_297, List.forall_mem_cons.mpr ⟨wt_298, List.forall_mem_cons.mpr ⟨wt_299, List.forall_mem_cons.mpr ⟨wt_300, List.forall_mem_cons.mpr ⟨wt_301, List.forall_mem_cons.mpr ⟨wt_302, List.forall_mem_cons.mpr ⟨wt_303, List.forall_mem_cons.mpr ⟨wt_304, List.forall_mem_cons.mpr ⟨wt_305, List.forall_mem_cons.mpr ⟨wt_306, List.forall_mem_cons.mpr ⟨wt_307, List.forall_mem_cons.mpr ⟨wt_308, List.forall_mem_cons.mpr ⟨wt_309, List.forall_mem_cons.mpr ⟨wt_310, List.forall_mem_cons.mpr ⟨wt_311, fun _ h => absurd h List.not_mem_nil⟩⟩⟩⟩⟩⟩⟩⟩⟩⟩⟩⟩⟩⟩⟩⟩⟩⟩⟩⟩⟩⟩⟩⟩
theorem wd_312 : Cond.instanceMethod yX3_enterDies ∈ wsL_law := inr_14 _ (List.mem_of_getElem? (i := 0) rfl)
theorem wt_312 : Cond.instanceMethod yX3_enterDies ∈ lw_tbl := in_t2 _ (List.mem_of_getElem? (i := 60) rfl)
theorem wd_313 : Cond.selects RX3 yX3_enterDies yX3_enterDies ∈ wsL_law := inr_14 _ (List.mem_of_getElem? (i := 1) rfl)
theorem wt_313 : Cond.selects RX3 yX3_enterDies yX3_enterDies ∈ lw_tbl := List.mem_append_left _ (List.mem_of_getElem? (i := 19) rfl)
theorem wd_314 : Cond.code yX3_enterDies cX3_enterDies 3 none ∈ wsL_law := inr_14 _ (List.mem_of_getElem? (i := 2) rfl)
theorem wt_314 : Cond.code yX3_enterDies cX3_enterDies 3 none ∈ lw_tbl := in_t2 _ (List.mem_of_getElem? (i := 61) rfl)
theorem wd_315 : Cond.methodLink RX3 50 yJ7_fill_53178 ∈ wsL_law := inr_14 _ (List.mem_of_getElem? (i := 3) rfl)
theorem wt_315 : Cond.methodLink RX3 50 yJ7_fill_53178 ∈ lw_tbl := in_t2 _ (List.mem_of_getElem? (i := 62) rfl)
theorem wd_316 : Cond.methodLink RX3 31 yX3_obverseOf ∈ wsL_law := inr_14 _ (List.mem_of_getElem? (i := 4) rfl)
theorem wt_316 : Cond.methodLink RX3 31 yX3_obverseOf ∈ lw_tbl := in_t2 _ (List.mem_of_getElem? (i := 63) rfl)
theorem wd_317 : Cond.static yX3_obverseOf ∈ wsL_law := inr_14 _ (List.mem_of_getElem? (i := 5) rfl)
theorem wt_317 : Cond.static yX3_obverseOf ∈ lw_tbl := in_t2 _ (List.mem_of_getElem? (i := 64) rfl)
theorem wd_318 : Cond.code yX3_obverseOf cX3_obverseOf 2 (some .int) ∈ wsL_law := inr_14 _ (List.mem_of_getElem? (i := 6) rfl)
theorem wt_318 : Cond.code yX3_obverseOf cX3_obverseOf 2 (some .int) ∈ lw_tbl := in_t2 _ (List.mem_of_getElem? (i := 65) rfl)
theorem wd_319 : Cond.methodLink RX3 46 yX3_vertexOf ∈ wsL_law := inr_14 _ (List.mem_of_getElem? (i := 7) rfl)
theorem wt_319 : Cond.methodLink RX3 46 yX3_vertexOf ∈ lw_tbl := in_t2 _ (List.mem_of_getElem? (i := 66) rfl)
theorem wd_320 : Cond.static yX3_vertexOf ∈ wsL_law := inr_14 _ (List.mem_of_getElem? (i := 8) rfl)
theorem wt_320 : Cond.static yX3_vertexOf ∈ lw_tbl := in_t2 _ (List.mem_of_getElem? (i := 67) rfl)
theorem wd_321 : Cond.code yX3_vertexOf cX3_vertexOf 2 (some .int) ∈ wsL_law := inr_14 _ (List.mem_of_getElem? (i := 9) rfl)
theorem wt_321 : Cond.code yX3_vertexOf cX3_vertexOf 2 (some .int) ∈ lw_tbl := in_t2 _ (List.mem_of_getElem? (i := 68) rfl)
theorem wd_322 : Cond.methodLink RX3 56 yX3_enterDie ∈ wsL_law := inr_14 _ (List.mem_of_getElem? (i := 10) rfl)
theorem wt_322 : Cond.methodLink RX3 56 yX3_enterDie ∈ lw_tbl := in_t2 _ (List.mem_of_getElem? (i := 69) rfl)
theorem wd_323 : Cond.instanceMethod yX3_enterDie ∈ wsL_law := inr_14 _ (List.mem_of_getElem? (i := 11) rfl)
theorem wt_323 : Cond.instanceMethod yX3_enterDie ∈ lw_tbl := in_t2 _ (List.mem_of_getElem? (i := 71) rfl)
theorem wd_324 : Cond.selects RX3 yX3_enterDie yX3_enterDie ∈ wsL_law := inr_14 _ (List.mem_of_getElem? (i := 12) rfl)
theorem wt_324 : Cond.selects RX3 yX3_enterDie yX3_enterDie ∈ lw_tbl := List.mem_append_left _ (List.mem_of_getElem? (i := 20) rfl)
theorem wd_325 : Cond.code yX3_enterDie cX3_enterDie 2 none ∈ wsL_law := inr_14 _ (List.mem_of_getElem? (i := 13) rfl)
theorem wt_325 : Cond.code yX3_enterDie cX3_enterDie 2 none ∈ lw_tbl := in_t2 _ (List.mem_of_getElem? (i := 72) rfl)
theorem wd_326 : Cond.methodLink RX3 35 yX3_reverseOf ∈ wsL_law := inr_14 _ (List.mem_of_getElem? (i := 14) rfl)
theorem wt_326 : Cond.methodLink RX3 35 yX3_reverseOf ∈ lw_tbl := in_t2 _ (List.mem_of_getElem? (i := 73) rfl)
theorem wd_327 : Cond.static yX3_reverseOf ∈ wsL_law := inr_14 _ (List.mem_of_getElem? (i := 15) rfl)
theorem wt_327 : Cond.static yX3_reverseOf ∈ lw_tbl := in_t2 _ (List.mem_of_getElem? (i := 74) rfl)
theorem wd_328 : Cond.code yX3_reverseOf cX3_reverseOf 2 (some .int) ∈ wsL_law := inr_14 _ (List.mem_of_getElem? (i := 16) rfl)
theorem wt_328 : Cond.code yX3_reverseOf cX3_reverseOf 2 (some .int) ∈ lw_tbl := in_t2 _ (List.mem_of_getElem? (i := 75) rfl)
theorem wd_329 : Cond.methodLink RX3 38 yX3_join ∈ wsL_law := inr_14 _ (List.mem_of_getElem? (i := 17) rfl)
theorem wt_329 : Cond.methodLink RX3 38 yX3_join ∈ lw_tbl := in_t2 _ (List.mem_of_getElem? (i := 76) rfl)
theorem wd_330 : Cond.instanceMethod yX3_join ∈ wsL_law := inr_14 _ (List.mem_of_getElem? (i := 18) rfl)
theorem wt_330 : Cond.instanceMethod yX3_join ∈ lw_tbl := in_t2 _ (List.mem_of_getElem? (i := 78) rfl)
theorem wd_331 : Cond.selects RX3 yX3_join yX3_join ∈ wsL_law := inr_14 _ (List.mem_of_getElem? (i := 19) rfl)
theorem wt_331 : Cond.selects RX3 yX3_join yX3_join ∈ lw_tbl := List.mem_append_left _ (List.mem_of_getElem? (i := 21) rfl)
theorem wd_332 : Cond.code yX3_join cX3_join 6 none ∈ wsL_law := inr_14 _ (List.mem_of_getElem? (i := 20) rfl)
theorem wt_332 : Cond.code yX3_join cX3_join 6 none ∈ lw_tbl := in_t2 _ (List.mem_of_getElem? (i := 79) rfl)
theorem wd_333 : Cond.methodLink RL 65 yX6_componentCount ∈ wsL_law := inr_14 _ (List.mem_of_getElem? (i := 21) rfl)
theorem wt_333 : Cond.methodLink RL 65 yX6_componentCount ∈ lw_tbl := in_t3 _ (List.mem_of_getElem? (i := 64) rfl)
theorem wd_334 : Cond.instanceMethod yX6_componentCount ∈ wsL_law := inr_14 _ (List.mem_of_getElem? (i := 22) rfl)
theorem wt_334 : Cond.instanceMethod yX6_componentCount ∈ lw_tbl := in_t3 _ (List.mem_of_getElem? (i := 65) rfl)
theorem wd_335 : Cond.selects RX6 yX6_componentCount yX6_componentCount ∈ wsL_law := inr_14 _ (List.mem_of_getElem? (i := 23) rfl)
theorem wt_335 : Cond.selects RX6 yX6_componentCount yX6_componentCount ∈ lw_tbl := in_t3 _ (List.mem_of_getElem? (i := 66) rfl)
theorem wr_14 : ∀ w ∈ wsL_law_r14, w ∈ lw_tbl := List.forall_mem_cons.mpr ⟨wt_312, List.forall_mem_cons.mpr ⟨wt_313, List.forall_mem_cons.mpr ⟨wt_314, List.forall_mem_cons.mpr ⟨wt_315, List.forall_mem_cons.mpr ⟨wt_316, List.forall_mem_cons.mpr ⟨wt_317, List.forall_mem_cons.mpr ⟨wt_318, List.forall_mem_cons.mpr ⟨wt_319, List.forall_mem_cons.mpr ⟨wt_320, List.forall_mem_cons.mpr ⟨wt_321, List.forall_mem_cons.mpr ⟨wt_322, List.forall_mem_cons.mpr ⟨wt_323, List.forall_mem_cons.mpr ⟨wt_324, List.forall_mem_cons.mpr ⟨wt_325, List.forall_mem_cons.mpr ⟨wt_326, List.forall_mem_cons.mpr ⟨wt_327, List.forall_mem_cons.mpr ⟨wt_328, List.forall_mem_cons.mpr ⟨wt_329, List.forall_mem_cons.mpr ⟨wt_330, List.forall_mem_cons.mpr ⟨wt_331, List.forall_mem_cons.mpr ⟨wt_332, List.forall_mem_cons.mpr ⟨wt_333, List.forall_mem_cons.mpr ⟨wt_334, List.forall_mem_cons.mpr ⟨wt_335, fun _ h => absurd h List.not_mem_nil⟩⟩⟩⟩⟩⟩⟩⟩⟩⟩⟩⟩⟩⟩⟩⟩⟩⟩⟩⟩⟩⟩⟩⟩
theorem wd_336 : Cond.code yX6_componentCount cX6_componentCount 1 (some .int) ∈ wsL_law := inr_15 _ (List.mem_of_getElem? (i := 0) rfl)
theorem wt_336 : Cond.code yX6_componentCount cX6_componentCount 1 (some .int) ∈ lw_tbl := in_t3 _ (List.mem_of_getElem? (i := 67) rfl)
theorem wd_337 : Cond.methodLink RX6 85 yX6_nets ∈ wsL_law := inr_15 _ (List.mem_of_getElem? (i := 1) rfl)
theorem wt_337 : Cond.methodLink RX6 85 yX6_nets ∈ lw_tbl := in_t3 _ (List.mem_of_getElem? (i := 68) rfl)
theorem wd_338 : Cond.instanceMethod yX6_nets ∈ wsL_law := inr_15 _ (List.mem_of_getElem? (i := 2) rfl)
theorem wt_338 : Cond.instanceMethod yX6_nets ∈ lw_tbl := in_t3 _ (List.mem_of_getElem? (i := 70) rfl)
theorem wd_339 : Cond.selects RX6 yX6_nets yX6_nets ∈ wsL_law := inr_15 _ (List.mem_of_getElem? (i := 3) rfl)
theorem wt_339 : Cond.selects RX6 yX6_nets yX6_nets ∈ lw_tbl := List.mem_append_left _ (List.mem_of_getElem? (i := 38) rfl)
theorem wd_340 : Cond.code yX6_nets cX6_nets 6 (some .int) ∈ wsL_law := inr_15 _ (List.mem_of_getElem? (i := 4) rfl)
theorem wt_340 : Cond.code yX6_nets cX6_nets 6 (some .int) ∈ lw_tbl := in_t3 _ (List.mem_of_getElem? (i := 71) rfl)
theorem wd_341 : Cond.methodLink RL 66 yX5_componentSize ∈ wsL_law := inr_15 _ (List.mem_of_getElem? (i := 5) rfl)
theorem wt_341 : Cond.methodLink RL 66 yX5_componentSize ∈ lw_tbl := in_t2 _ (List.mem_of_getElem? (i := 80) rfl)
theorem wd_342 : Cond.instanceMethod yX5_componentSize ∈ wsL_law := inr_15 _ (List.mem_of_getElem? (i := 6) rfl)
theorem wt_342 : Cond.instanceMethod yX5_componentSize ∈ lw_tbl := in_t2 _ (List.mem_of_getElem? (i := 81) rfl)
theorem wd_343 : Cond.selects RX5 yX5_componentSize yX5_componentSize ∈ wsL_law := inr_15 _ (List.mem_of_getElem? (i := 7) rfl)
theorem wt_343 : Cond.selects RX5 yX5_componentSize yX5_componentSize ∈ lw_tbl := in_t2 _ (List.mem_of_getElem? (i := 82) rfl)
theorem wd_344 : Cond.code yX5_componentSize cX5_componentSize 4 (some .int) ∈ wsL_law := inr_15 _ (List.mem_of_getElem? (i := 8) rfl)
theorem wt_344 : Cond.code yX5_componentSize cX5_componentSize 4 (some .int) ∈ lw_tbl := in_t2 _ (List.mem_of_getElem? (i := 83) rfl)
theorem wd_345 : Cond.instanceMethod yX3_diesAround ∈ wsL_law := inr_15 _ (List.mem_of_getElem? (i := 9) rfl)
theorem wt_345 : Cond.instanceMethod yX3_diesAround ∈ lw_tbl := in_t2 _ (List.mem_of_getElem? (i := 86) rfl)
theorem wd_346 : Cond.selects RX3 yX3_diesAround yX3_diesAround ∈ wsL_law := inr_15 _ (List.mem_of_getElem? (i := 10) rfl)
theorem wt_346 : Cond.selects RX3 yX3_diesAround yX3_diesAround ∈ lw_tbl := List.mem_append_left _ (List.mem_of_getElem? (i := 22) rfl)
theorem wd_347 : Cond.code yX3_diesAround cX3_diesAround 6 (some .int) ∈ wsL_law := inr_15 _ (List.mem_of_getElem? (i := 11) rfl)
theorem wt_347 : Cond.code yX3_diesAround cX3_diesAround 6 (some .int) ∈ lw_tbl := in_t2 _ (List.mem_of_getElem? (i := 87) rfl)
theorem wd_348 : Cond.methodLink RL 69 yX6_componentSize ∈ wsL_law := inr_15 _ (List.mem_of_getElem? (i := 12) rfl)
theorem wt_348 : Cond.methodLink RL 69 yX6_componentSize ∈ lw_tbl := in_t3 _ (List.mem_of_getElem? (i := 72) rfl)
theorem wd_349 : Cond.instanceMethod yX6_componentSize ∈ wsL_law := inr_15 _ (List.mem_of_getElem? (i := 13) rfl)
theorem wt_349 : Cond.instanceMethod yX6_componentSize ∈ lw_tbl := in_t3 _ (List.mem_of_getElem? (i := 73) rfl)
theorem wd_350 : Cond.selects RX6 yX6_componentSize yX6_componentSize ∈ wsL_law := inr_15 _ (List.mem_of_getElem? (i := 14) rfl)
theorem wt_350 : Cond.selects RX6 yX6_componentSize yX6_componentSize ∈ lw_tbl := in_t3 _ (List.mem_of_getElem? (i := 74) rfl)
theorem wd_351 : Cond.code yX6_componentSize cX6_componentSize 5 (some .int) ∈ wsL_law := inr_15 _ (List.mem_of_getElem? (i := 15) rfl)
theorem wt_351 : Cond.code yX6_componentSize cX6_componentSize 5 (some .int) ∈ lw_tbl := in_t3 _ (List.mem_of_getElem? (i := 75) rfl)
theorem wd_352 : Cond.methodLink RL 70 yX5_cycleRank ∈ wsL_law := inr_15 _ (List.mem_of_getElem? (i := 16) rfl)
theorem wt_352 : Cond.methodLink RL 70 yX5_cycleRank ∈ lw_tbl := in_t2 _ (List.mem_of_getElem? (i := 88) rfl)
theorem wd_353 : Cond.instanceMethod yX5_cycleRank ∈ wsL_law := inr_15 _ (List.mem_of_getElem? (i := 17) rfl)
theorem wt_353 : Cond.instanceMethod yX5_cycleRank ∈ lw_tbl := in_t2 _ (List.mem_of_getElem? (i := 89) rfl)
theorem wd_354 : Cond.selects RX5 yX5_cycleRank yX5_cycleRank ∈ wsL_law := inr_15 _ (List.mem_of_getElem? (i := 18) rfl)
theorem wt_354 : Cond.selects RX5 yX5_cycleRank yX5_cycleRank ∈ lw_tbl := in_t2 _ (List.mem_of_getElem? (i := 90) rfl)
theorem wd_355 : Cond.code yX5_cycleRank cX5_cycleRank 1 (some .int) ∈ wsL_law := inr_15 _ (List.mem_of_getElem? (i := 19) rfl)
theorem wt_355 : Cond.code yX5_cycleRank cX5_cycleRank 1 (some .int) ∈ lw_tbl := in_t2 _ (List.mem_of_getElem? (i := 91) rfl)
theorem wd_356 : Cond.methodLink RL 73 yX6_cycleRank ∈ wsL_law := inr_15 _ (List.mem_of_getElem? (i := 20) rfl)
theorem wt_356 : Cond.methodLink RL 73 yX6_cycleRank ∈ lw_tbl := in_t3 _ (List.mem_of_getElem? (i := 76) rfl)
theorem wd_357 : Cond.instanceMethod yX6_cycleRank ∈ wsL_law := inr_15 _ (List.mem_of_getElem? (i := 21) rfl)
theorem wt_357 : Cond.instanceMethod yX6_cycleRank ∈ lw_tbl := in_t3 _ (List.mem_of_getElem? (i := 77) rfl)
theorem wd_358 : Cond.selects RX6 yX6_cycleRank yX6_cycleRank ∈ wsL_law := inr_15 _ (List.mem_of_getElem? (i := 22) rfl)
theorem wt_358 : Cond.selects RX6 yX6_cycleRank yX6_cycleRank ∈ lw_tbl := in_t3 _ (List.mem_of_getElem? (i := 78) rfl)
theorem wd_359 : Cond.code yX6_cycleRank cX6_cycleRank 1 (some .int) ∈ wsL_law := inr_15 _ (List.mem_of_getElem? (i := 23) rfl)
theorem wt_359 : Cond.code yX6_cycleRank cX6_cycleRank 1 (some .int) ∈ lw_tbl := in_t3 _ (List.mem_of_getElem? (i := 79) rfl)
theorem wr_15 : ∀ w ∈ wsL_law_r15, w ∈ lw_tbl := List.forall_mem_cons.mpr ⟨wt_336, List.forall_mem_cons.mpr ⟨wt_337, List.forall_mem_cons.mpr ⟨wt_338, List.forall_mem_cons.mpr ⟨wt_339, List.forall_mem_cons.mpr ⟨wt_340, List.forall_mem_cons.mpr ⟨wt_341, List.forall_mem_cons.mpr ⟨wt_342, List.forall_mem_cons.mpr ⟨wt_343, List.forall_mem_cons.mpr ⟨wt_344, List.forall_mem_cons.mpr ⟨wt_345, List.forall_mem_cons.mpr ⟨wt_346, List.forall_mem_cons.mpr ⟨wt_347, List.forall_mem_cons.mpr ⟨wt_348, List.forall_mem_cons.mpr ⟨wt_349, List.forall_mem_cons.mpr ⟨wt_350, List.forall_mem_cons.mpr ⟨wt_351, List.forall_mem_cons.mpr ⟨wt_352, List.forall_mem_cons.mpr ⟨wt_353, List.forall_mem_cons.mpr ⟨wt_354, List.forall_mem_cons.mpr ⟨wt_355, List.forall_mem_cons.mpr ⟨wt_356, List.forall_mem_cons.mpr ⟨wt_357, List.forall_mem_cons.mpr ⟨wt_358, List.forall_mem_cons.mpr ⟨wt_359, fun _ h => absurd h List.not_mem_nil⟩⟩⟩⟩⟩⟩⟩⟩⟩⟩⟩⟩⟩⟩⟩⟩⟩⟩⟩⟩⟩⟩⟩⟩
theorem wd_360 : Cond.methodLink RL 74 yX5_bridgeCount ∈ wsL_law := inr_16 _ (List.mem_of_getElem? (i := 0) rfl)
theorem wt_360 : Cond.methodLink RL 74 yX5_bridgeCount ∈ lw_tbl := in_t2 _ (List.mem_of_getElem? (i := 92) rfl)
theorem wd_361 : Cond.instanceMethod yX5_bridgeCount ∈ wsL_law := inr_16 _ (List.mem_of_getElem? (i := 1) rfl)
theorem wt_361 : Cond.instanceMethod yX5_bridgeCount ∈ lw_tbl := in_t2 _ (List.mem_of_getElem? (i := 93) rfl)
theorem wd_362 : Cond.selects RX5 yX5_bridgeCount yX5_bridgeCount ∈ wsL_law := inr_16 _ (List.mem_of_getElem? (i := 2) rfl)
theorem wt_362 : Cond.selects RX5 yX5_bridgeCount yX5_bridgeCount ∈ lw_tbl := in_t2 _ (List.mem_of_getElem? (i := 94) rfl)
theorem wd_363 : Cond.code yX5_bridgeCount cX5_bridgeCount 3 (some .int) ∈ wsL_law := inr_16 _ (List.mem_of_getElem? (i := 3) rfl)
theorem wt_363 : Cond.code yX5_bridgeCount cX5_bridgeCount 3 (some .int) ∈ lw_tbl := in_t2 _ (List.mem_of_getElem? (i := 95) rfl)
theorem wd_364 : Cond.instanceMethod yX3_fallsApartWithout ∈ wsL_law := inr_16 _ (List.mem_of_getElem? (i := 4) rfl)
theorem wt_364 : Cond.instanceMethod yX3_fallsApartWithout ∈ lw_tbl := in_t2 _ (List.mem_of_getElem? (i := 98) rfl)
theorem wd_365 : Cond.selects RX3 yX3_fallsApartWithout yX3_fallsApartWithout ∈ wsL_law := inr_16 _ (List.mem_of_getElem? (i := 5) rfl)
theorem wt_365 : Cond.selects RX3 yX3_fallsApartWithout yX3_fallsApartWithout ∈ lw_tbl := List.mem_append_left _ (List.mem_of_getElem? (i := 23) rfl)
theorem wd_366 : Cond.code yX3_fallsApartWithout cX3_fallsApartWithout 3 (some .boolean) ∈ wsL_law := inr_16 _ (List.mem_of_getElem? (i := 6) rfl)
theorem wt_366 : Cond.code yX3_fallsApartWithout cX3_fallsApartWithout 3 (some .boolean) ∈ lw_tbl := in_t2 _ (List.mem_of_getElem? (i := 99) rfl)
theorem wd_367 : Cond.methodLink RX3 60 yX3_connect ∈ wsL_law := inr_16 _ (List.mem_of_getElem? (i := 7) rfl)
theorem wt_367 : Cond.methodLink RX3 60 yX3_connect ∈ lw_tbl := in_t2 _ (List.mem_of_getElem? (i := 100) rfl)
theorem wd_368 : Cond.methodLink RL 77 yX6_bridgeCount ∈ wsL_law := inr_16 _ (List.mem_of_getElem? (i := 8) rfl)
theorem wt_368 : Cond.methodLink RL 77 yX6_bridgeCount ∈ lw_tbl := in_t3 _ (List.mem_of_getElem? (i := 80) rfl)
theorem wd_369 : Cond.instanceMethod yX6_bridgeCount ∈ wsL_law := inr_16 _ (List.mem_of_getElem? (i := 9) rfl)
theorem wt_369 : Cond.instanceMethod yX6_bridgeCount ∈ lw_tbl := in_t3 _ (List.mem_of_getElem? (i := 81) rfl)
theorem wd_370 : Cond.selects RX6 yX6_bridgeCount yX6_bridgeCount ∈ wsL_law := inr_16 _ (List.mem_of_getElem? (i := 10) rfl)
theorem wt_370 : Cond.selects RX6 yX6_bridgeCount yX6_bridgeCount ∈ lw_tbl := in_t3 _ (List.mem_of_getElem? (i := 82) rfl)
theorem wd_371 : Cond.code yX6_bridgeCount cX6_bridgeCount 4 (some .int) ∈ wsL_law := inr_16 _ (List.mem_of_getElem? (i := 11) rfl)
theorem wt_371 : Cond.code yX6_bridgeCount cX6_bridgeCount 4 (some .int) ∈ lw_tbl := in_t3 _ (List.mem_of_getElem? (i := 83) rfl)
theorem wd_372 : Cond.methodLink RL 78 yX5_isBridge ∈ wsL_law := inr_16 _ (List.mem_of_getElem? (i := 12) rfl)
theorem wt_372 : Cond.methodLink RL 78 yX5_isBridge ∈ lw_tbl := in_t2 _ (List.mem_of_getElem? (i := 101) rfl)
theorem wd_373 : Cond.instanceMethod yX5_isBridge ∈ wsL_law := inr_16 _ (List.mem_of_getElem? (i := 13) rfl)
theorem wt_373 : Cond.instanceMethod yX5_isBridge ∈ lw_tbl := in_t2 _ (List.mem_of_getElem? (i := 102) rfl)
theorem wd_374 : Cond.selects RX5 yX5_isBridge yX5_isBridge ∈ wsL_law := inr_16 _ (List.mem_of_getElem? (i := 14) rfl)
theorem wt_374 : Cond.selects RX5 yX5_isBridge yX5_isBridge ∈ lw_tbl := in_t2 _ (List.mem_of_getElem? (i := 103) rfl)
theorem wd_375 : Cond.code yX5_isBridge cX5_isBridge 3 (some .int) ∈ wsL_law := inr_16 _ (List.mem_of_getElem? (i := 15) rfl)
theorem wt_375 : Cond.code yX5_isBridge cX5_isBridge 3 (some .int) ∈ lw_tbl := in_t2 _ (List.mem_of_getElem? (i := 104) rfl)
theorem wd_376 : Cond.methodLink RL 81 yX6_isBridge ∈ wsL_law := inr_16 _ (List.mem_of_getElem? (i := 16) rfl)
theorem wt_376 : Cond.methodLink RL 81 yX6_isBridge ∈ lw_tbl := in_t3 _ (List.mem_of_getElem? (i := 84) rfl)
theorem wd_377 : Cond.instanceMethod yX6_isBridge ∈ wsL_law := inr_16 _ (List.mem_of_getElem? (i := 17) rfl)
theorem wt_377 : Cond.instanceMethod yX6_isBridge ∈ lw_tbl := in_t3 _ (List.mem_of_getElem? (i := 85) rfl)
theorem wd_378 : Cond.selects RX6 yX6_isBridge yX6_isBridge ∈ wsL_law := inr_16 _ (List.mem_of_getElem? (i := 18) rfl)
theorem wt_378 : Cond.selects RX6 yX6_isBridge yX6_isBridge ∈ lw_tbl := in_t3 _ (List.mem_of_getElem? (i := 86) rfl)
theorem wd_379 : Cond.code yX6_isBridge cX6_isBridge 2 (some .int) ∈ wsL_law := inr_16 _ (List.mem_of_getElem? (i := 19) rfl)
theorem wt_379 : Cond.code yX6_isBridge cX6_isBridge 2 (some .int) ∈ lw_tbl := in_t3 _ (List.mem_of_getElem? (i := 87) rfl)
theorem wd_380 : Cond.methodLink RL 82 yX5_compareCouples ∈ wsL_law := inr_16 _ (List.mem_of_getElem? (i := 20) rfl)
theorem wt_380 : Cond.methodLink RL 82 yX5_compareCouples ∈ lw_tbl := in_t2 _ (List.mem_of_getElem? (i := 105) rfl)
theorem wd_381 : Cond.instanceMethod yX5_compareCouples ∈ wsL_law := inr_16 _ (List.mem_of_getElem? (i := 21) rfl)
theorem wt_381 : Cond.instanceMethod yX5_compareCouples ∈ lw_tbl := in_t2 _ (List.mem_of_getElem? (i := 106) rfl)
theorem wd_382 : Cond.selects RX5 yX5_compareCouples yX5_compareCouples ∈ wsL_law := inr_16 _ (List.mem_of_getElem? (i := 22) rfl)
theorem wt_382 : Cond.selects RX5 yX5_compareCouples yX5_compareCouples ∈ lw_tbl := in_t2 _ (List.mem_of_getElem? (i := 107) rfl)
theorem wd_383 : Cond.code yX5_compareCouples cX5_compareCouples 3 (some .int) ∈ wsL_law := inr_16 _ (List.mem_of_getElem? (i := 23) rfl)
theorem wt_383 : Cond.code yX5_compareCouples cX5_compareCouples 3 (some .int) ∈ lw_tbl := in_t2 _ (List.mem_of_getElem? (i := 108) rfl)
theorem wr_16 : ∀ w ∈ wsL_law_r16, w ∈ lw_tbl := List.forall_mem_cons.mpr ⟨wt_360, List.forall_mem_cons.mpr ⟨wt_361, List.forall_mem_cons.mpr ⟨wt_362, List.forall_mem_cons.mpr ⟨wt_363, List.forall_mem_cons.mpr ⟨wt_364, List.forall_mem_cons.mpr ⟨wt_365, List.forall_mem_cons.mpr ⟨wt_366, List.forall_mem_cons.mpr ⟨wt_367, List.forall_mem_cons.mpr ⟨wt_368, List.forall_mem_cons.mpr ⟨wt_369, List.forall_mem_cons.mpr ⟨wt_370, List.forall_mem_cons.mpr ⟨wt_371, List.forall_mem_cons.mpr ⟨wt_372, List.forall_mem_cons.mpr ⟨wt_373, List.forall_mem_cons.mpr ⟨wt_374, List.forall_mem_cons.mpr ⟨wt_375, List.forall_mem_cons.mpr ⟨wt_376, List.forall_mem_cons.mpr ⟨wt_377, List.forall_mem_cons.mpr ⟨wt_378, List.forall_mem_cons.mpr ⟨wt_379, List.forall_mem_cons.mpr ⟨wt_380, List.forall_mem_cons.mpr ⟨wt_381, List.forall_mem_cons.mpr ⟨wt_382, List.forall_mem_cons.mpr ⟨wt_383, fun _ h => absurd h List.not_mem_nil⟩⟩⟩⟩⟩⟩⟩⟩⟩⟩⟩⟩⟩⟩⟩⟩⟩⟩⟩⟩⟩⟩⟩⟩
theorem wd_384 : Cond.instanceMethod yX1_isEarlier ∈ wsL_law := inr_17 _ (List.mem_of_getElem? (i := 0) rfl)
theorem wt_384 : Cond.instanceMethod yX1_isEarlier ∈ lw_tbl := in_t2 _ (List.mem_of_getElem? (i := 111) rfl)
theorem wd_385 : Cond.selects RX1 yX1_isEarlier yX1_isEarlier ∈ wsL_law := inr_17 _ (List.mem_of_getElem? (i := 1) rfl)
theorem wt_385 : Cond.selects RX1 yX1_isEarlier yX1_isEarlier ∈ lw_tbl := List.mem_append_left _ (List.mem_of_getElem? (i := 24) rfl)
theorem wd_386 : Cond.code yX1_isEarlier cX1_isEarlier 3 (some .boolean) ∈ wsL_law := inr_17 _ (List.mem_of_getElem? (i := 2) rfl)
theorem wt_386 : Cond.code yX1_isEarlier cX1_isEarlier 3 (some .boolean) ∈ lw_tbl := in_t2 _ (List.mem_of_getElem? (i := 112) rfl)
theorem wd_387 : Cond.methodLink RX1 76 yX1_isEarlierBy ∈ wsL_law := inr_17 _ (List.mem_of_getElem? (i := 3) rfl)
theorem wt_387 : Cond.methodLink RX1 76 yX1_isEarlierBy ∈ lw_tbl := in_t2 _ (List.mem_of_getElem? (i := 113) rfl)
theorem wd_388 : Cond.instanceMethod yX1_isEarlierBy ∈ wsL_law := inr_17 _ (List.mem_of_getElem? (i := 4) rfl)
theorem wt_388 : Cond.instanceMethod yX1_isEarlierBy ∈ lw_tbl := in_t2 _ (List.mem_of_getElem? (i := 115) rfl)
theorem wd_389 : Cond.selects RX1 yX1_isEarlierBy yX1_isEarlierBy ∈ wsL_law := inr_17 _ (List.mem_of_getElem? (i := 5) rfl)
theorem wt_389 : Cond.selects RX1 yX1_isEarlierBy yX1_isEarlierBy ∈ lw_tbl := List.mem_append_left _ (List.mem_of_getElem? (i := 25) rfl)
theorem wd_390 : Cond.code yX1_isEarlierBy cX1_isEarlierBy 4 (some .boolean) ∈ wsL_law := inr_17 _ (List.mem_of_getElem? (i := 6) rfl)
theorem wt_390 : Cond.code yX1_isEarlierBy cX1_isEarlierBy 4 (some .boolean) ∈ lw_tbl := in_t2 _ (List.mem_of_getElem? (i := 116) rfl)
theorem wd_391 : Cond.methodLink RL 85 yX6_compareCouples ∈ wsL_law := inr_17 _ (List.mem_of_getElem? (i := 7) rfl)
theorem wt_391 : Cond.methodLink RL 85 yX6_compareCouples ∈ lw_tbl := in_t3 _ (List.mem_of_getElem? (i := 88) rfl)
theorem wd_392 : Cond.instanceMethod yX6_compareCouples ∈ wsL_law := inr_17 _ (List.mem_of_getElem? (i := 8) rfl)
theorem wt_392 : Cond.instanceMethod yX6_compareCouples ∈ lw_tbl := in_t3 _ (List.mem_of_getElem? (i := 89) rfl)
theorem wd_393 : Cond.selects RX6 yX6_compareCouples yX6_compareCouples ∈ wsL_law := inr_17 _ (List.mem_of_getElem? (i := 9) rfl)
theorem wt_393 : Cond.selects RX6 yX6_compareCouples yX6_compareCouples ∈ lw_tbl := in_t3 _ (List.mem_of_getElem? (i := 90) rfl)
theorem wd_394 : Cond.code yX6_compareCouples cX6_compareCouples 3 (some .int) ∈ wsL_law := inr_17 _ (List.mem_of_getElem? (i := 10) rfl)
theorem wt_394 : Cond.code yX6_compareCouples cX6_compareCouples 3 (some .int) ∈ lw_tbl := in_t3 _ (List.mem_of_getElem? (i := 91) rfl)
theorem wd_395 : Cond.methodLink RX6 91 yX6_isEarlier ∈ wsL_law := inr_17 _ (List.mem_of_getElem? (i := 11) rfl)
theorem wt_395 : Cond.methodLink RX6 91 yX6_isEarlier ∈ lw_tbl := in_t3 _ (List.mem_of_getElem? (i := 92) rfl)
theorem wd_396 : Cond.instanceMethod yX6_isEarlier ∈ wsL_law := inr_17 _ (List.mem_of_getElem? (i := 12) rfl)
theorem wt_396 : Cond.instanceMethod yX6_isEarlier ∈ lw_tbl := in_t3 _ (List.mem_of_getElem? (i := 94) rfl)
theorem wd_397 : Cond.selects RX6 yX6_isEarlier yX6_isEarlier ∈ wsL_law := inr_17 _ (List.mem_of_getElem? (i := 13) rfl)
theorem wt_397 : Cond.selects RX6 yX6_isEarlier yX6_isEarlier ∈ lw_tbl := List.mem_append_left _ (List.mem_of_getElem? (i := 39) rfl)
theorem wd_398 : Cond.code yX6_isEarlier cX6_isEarlier 3 (some .boolean) ∈ wsL_law := inr_17 _ (List.mem_of_getElem? (i := 14) rfl)
theorem wt_398 : Cond.code yX6_isEarlier cX6_isEarlier 3 (some .boolean) ∈ lw_tbl := in_t3 _ (List.mem_of_getElem? (i := 95) rfl)
theorem wd_399 : Cond.methodLink RX6 88 yX6_isBy ∈ wsL_law := inr_17 _ (List.mem_of_getElem? (i := 15) rfl)
theorem wt_399 : Cond.methodLink RX6 88 yX6_isBy ∈ lw_tbl := in_t3 _ (List.mem_of_getElem? (i := 96) rfl)
theorem wd_400 : Cond.instanceMethod yX6_isBy ∈ wsL_law := inr_17 _ (List.mem_of_getElem? (i := 16) rfl)
theorem wt_400 : Cond.instanceMethod yX6_isBy ∈ lw_tbl := in_t3 _ (List.mem_of_getElem? (i := 98) rfl)
theorem wd_401 : Cond.selects RX6 yX6_isBy yX6_isBy ∈ wsL_law := inr_17 _ (List.mem_of_getElem? (i := 17) rfl)
theorem wt_401 : Cond.selects RX6 yX6_isBy yX6_isBy ∈ lw_tbl := List.mem_append_left _ (List.mem_of_getElem? (i := 40) rfl)
theorem wd_402 : Cond.code yX6_isBy cX6_isBy 4 (some .boolean) ∈ wsL_law := inr_17 _ (List.mem_of_getElem? (i := 18) rfl)
theorem wt_402 : Cond.code yX6_isBy cX6_isBy 4 (some .boolean) ∈ lw_tbl := in_t3 _ (List.mem_of_getElem? (i := 99) rfl)
theorem wd_403 : Cond.methodLink RL 86 yX5_isConsistent ∈ wsL_law := inr_17 _ (List.mem_of_getElem? (i := 19) rfl)
theorem wt_403 : Cond.methodLink RL 86 yX5_isConsistent ∈ lw_tbl := in_t2 _ (List.mem_of_getElem? (i := 117) rfl)
theorem wd_404 : Cond.instanceMethod yX5_isConsistent ∈ wsL_law := inr_17 _ (List.mem_of_getElem? (i := 20) rfl)
theorem wt_404 : Cond.instanceMethod yX5_isConsistent ∈ lw_tbl := in_t2 _ (List.mem_of_getElem? (i := 118) rfl)
theorem wd_405 : Cond.selects RX5 yX5_isConsistent yX5_isConsistent ∈ wsL_law := inr_17 _ (List.mem_of_getElem? (i := 21) rfl)
theorem wt_405 : Cond.selects RX5 yX5_isConsistent yX5_isConsistent ∈ lw_tbl := in_t2 _ (List.mem_of_getElem? (i := 119) rfl)
theorem wd_406 : Cond.code yX5_isConsistent cX5_isConsistent 1 (some .int) ∈ wsL_law := inr_17 _ (List.mem_of_getElem? (i := 22) rfl)
theorem wt_406 : Cond.code yX5_isConsistent cX5_isConsistent 1 (some .int) ∈ lw_tbl := in_t2 _ (List.mem_of_getElem? (i := 120) rfl)
theorem wd_407 : Cond.instanceMethod yX0_arrange ∈ wsL_law := inr_17 _ (List.mem_of_getElem? (i := 23) rfl)
theorem wt_407 : Cond.instanceMethod yX0_arrange ∈ lw_tbl := in_t2 _ (List.mem_of_getElem? (i := 123) rfl)
theorem wr_17 : ∀ w ∈ wsL_law_r17, w ∈ lw_tbl := List.forall_mem_cons.mpr ⟨wt_384, List.forall_mem_cons.mpr ⟨wt_385, List.forall_mem_cons.mpr ⟨wt_386, List.forall_mem_cons.mpr ⟨wt_387, List.forall_mem_cons.mpr ⟨wt_388, List.forall_mem_cons.mpr ⟨wt_389, List.forall_mem_cons.mpr ⟨wt_390, List.forall_mem_cons.mpr ⟨wt_391, List.forall_mem_cons.mpr ⟨wt_392, List.forall_mem_cons.mpr ⟨wt_393, List.forall_mem_cons.mpr ⟨wt_394, List.forall_mem_cons.mpr ⟨wt_395, List.forall_mem_cons.mpr ⟨wt_396, List.forall_mem_cons.mpr ⟨wt_397, List.forall_mem_cons.mpr ⟨wt_398, List.forall_mem_cons.mpr ⟨wt_399, List.forall_mem_cons.mpr ⟨wt_400, List.forall_mem_cons.mpr ⟨wt_401, List.forall_mem_cons.mpr ⟨wt_402, List.forall_mem_cons.mpr ⟨wt_403, List.forall_mem_cons.mpr ⟨wt_404, List.forall_mem_cons.mpr ⟨wt_405, List.forall_mem_cons.mpr ⟨wt_406, List.forall_mem_cons.mpr ⟨wt_407, fun _ h => absurd h List.not_mem_nil⟩⟩⟩⟩⟩⟩⟩⟩⟩⟩⟩⟩⟩⟩⟩⟩⟩⟩⟩⟩⟩⟩⟩⟩
theorem wd_408 : Cond.selects RX0 yX0_arrange yX0_arrange ∈ wsL_law := inr_18 _ (List.mem_of_getElem? (i := 0) rfl)
theorem wt_408 : Cond.selects RX0 yX0_arrange yX0_arrange ∈ lw_tbl := List.mem_append_left _ (List.mem_of_getElem? (i := 26) rfl)
theorem wd_409 : Cond.code yX0_arrange cX0_arrange 4 (some .boolean) ∈ wsL_law := inr_18 _ (List.mem_of_getElem? (i := 1) rfl)
theorem wt_409 : Cond.code yX0_arrange cX0_arrange 4 (some .boolean) ∈ lw_tbl := in_t2 _ (List.mem_of_getElem? (i := 124) rfl)
theorem wd_410 : Cond.methodLink RX0 21 yX0_countEarlier ∈ wsL_law := inr_18 _ (List.mem_of_getElem? (i := 2) rfl)
theorem wt_410 : Cond.methodLink RX0 21 yX0_countEarlier ∈ lw_tbl := in_t2 _ (List.mem_of_getElem? (i := 125) rfl)
theorem wd_411 : Cond.instanceMethod yX0_countEarlier ∈ wsL_law := inr_18 _ (List.mem_of_getElem? (i := 3) rfl)
theorem wt_411 : Cond.instanceMethod yX0_countEarlier ∈ lw_tbl := in_t2 _ (List.mem_of_getElem? (i := 127) rfl)
theorem wd_412 : Cond.selects RX0 yX0_countEarlier yX0_countEarlier ∈ wsL_law := inr_18 _ (List.mem_of_getElem? (i := 4) rfl)
theorem wt_412 : Cond.selects RX0 yX0_countEarlier yX0_countEarlier ∈ lw_tbl := List.mem_append_left _ (List.mem_of_getElem? (i := 27) rfl)
theorem wd_413 : Cond.code yX0_countEarlier cX0_countEarlier 4 none ∈ wsL_law := inr_18 _ (List.mem_of_getElem? (i := 5) rfl)
theorem wt_413 : Cond.code yX0_countEarlier cX0_countEarlier 4 none ∈ lw_tbl := in_t2 _ (List.mem_of_getElem? (i := 128) rfl)
theorem wd_414 : Cond.methodLink RX0 39 yJ7_fill_53178 ∈ wsL_law := inr_18 _ (List.mem_of_getElem? (i := 6) rfl)
theorem wt_414 : Cond.methodLink RX0 39 yJ7_fill_53178 ∈ lw_tbl := in_t2 _ (List.mem_of_getElem? (i := 129) rfl)
theorem wd_415 : Cond.methodLink RX0 31 yX0_lowestThatWaitsForNone ∈ wsL_law := inr_18 _ (List.mem_of_getElem? (i := 7) rfl)
theorem wt_415 : Cond.methodLink RX0 31 yX0_lowestThatWaitsForNone ∈ lw_tbl := in_t2 _ (List.mem_of_getElem? (i := 131) rfl)
theorem wd_416 : Cond.instanceMethod yX0_lowestThatWaitsForNone ∈ wsL_law := inr_18 _ (List.mem_of_getElem? (i := 8) rfl)
theorem wt_416 : Cond.instanceMethod yX0_lowestThatWaitsForNone ∈ lw_tbl := in_t2 _ (List.mem_of_getElem? (i := 133) rfl)
theorem wd_417 : Cond.selects RX0 yX0_lowestThatWaitsForNone yX0_lowestThatWaitsForNone ∈ wsL_law := inr_18 _ (List.mem_of_getElem? (i := 9) rfl)
theorem wt_417 : Cond.selects RX0 yX0_lowestThatWaitsForNone yX0_lowestThatWaitsForNone ∈ lw_tbl := List.mem_append_left _ (List.mem_of_getElem? (i := 28) rfl)
theorem wd_418 : Cond.code yX0_lowestThatWaitsForNone cX0_lowestThatWaitsForNone 3 (some .int) ∈ wsL_law := inr_18 _ (List.mem_of_getElem? (i := 10) rfl)
theorem wt_418 : Cond.code yX0_lowestThatWaitsForNone cX0_lowestThatWaitsForNone 3 (some .int) ∈ lw_tbl := in_t2 _ (List.mem_of_getElem? (i := 134) rfl)
theorem wd_419 : Cond.methodLink RX0 35 yX0_releaseLater ∈ wsL_law := inr_18 _ (List.mem_of_getElem? (i := 11) rfl)
theorem wt_419 : Cond.methodLink RX0 35 yX0_releaseLater ∈ lw_tbl := in_t2 _ (List.mem_of_getElem? (i := 135) rfl)
theorem wd_420 : Cond.instanceMethod yX0_releaseLater ∈ wsL_law := inr_18 _ (List.mem_of_getElem? (i := 12) rfl)
theorem wt_420 : Cond.instanceMethod yX0_releaseLater ∈ lw_tbl := in_t2 _ (List.mem_of_getElem? (i := 137) rfl)
theorem wd_421 : Cond.selects RX0 yX0_releaseLater yX0_releaseLater ∈ wsL_law := inr_18 _ (List.mem_of_getElem? (i := 13) rfl)
theorem wt_421 : Cond.selects RX0 yX0_releaseLater yX0_releaseLater ∈ lw_tbl := List.mem_append_left _ (List.mem_of_getElem? (i := 29) rfl)
theorem wd_422 : Cond.code yX0_releaseLater cX0_releaseLater 4 none ∈ wsL_law := inr_18 _ (List.mem_of_getElem? (i := 14) rfl)
theorem wt_422 : Cond.code yX0_releaseLater cX0_releaseLater 4 none ∈ lw_tbl := in_t2 _ (List.mem_of_getElem? (i := 138) rfl)
theorem wd_423 : Cond.methodLink RX0 49 Lib.Math.max.name ∈ wsL_law := inr_18 _ (List.mem_of_getElem? (i := 15) rfl)
theorem wt_423 : Cond.methodLink RX0 49 Lib.Math.max.name ∈ lw_tbl := in_t2 _ (List.mem_of_getElem? (i := 139) rfl)
theorem wd_424 : Cond.methodLink RL 89 yX6_isConsistent ∈ wsL_law := inr_18 _ (List.mem_of_getElem? (i := 16) rfl)
theorem wt_424 : Cond.methodLink RL 89 yX6_isConsistent ∈ lw_tbl := in_t3 _ (List.mem_of_getElem? (i := 100) rfl)
theorem wd_425 : Cond.instanceMethod yX6_isConsistent ∈ wsL_law := inr_18 _ (List.mem_of_getElem? (i := 17) rfl)
theorem wt_425 : Cond.instanceMethod yX6_isConsistent ∈ lw_tbl := in_t3 _ (List.mem_of_getElem? (i := 101) rfl)
theorem wd_426 : Cond.selects RX6 yX6_isConsistent yX6_isConsistent ∈ wsL_law := inr_18 _ (List.mem_of_getElem? (i := 18) rfl)
theorem wt_426 : Cond.selects RX6 yX6_isConsistent yX6_isConsistent ∈ lw_tbl := in_t3 _ (List.mem_of_getElem? (i := 102) rfl)
theorem wd_427 : Cond.code yX6_isConsistent cX6_isConsistent 1 (some .int) ∈ wsL_law := inr_18 _ (List.mem_of_getElem? (i := 19) rfl)
theorem wt_427 : Cond.code yX6_isConsistent cX6_isConsistent 1 (some .int) ∈ lw_tbl := in_t3 _ (List.mem_of_getElem? (i := 103) rfl)
theorem wd_428 : Cond.methodLink RX6 94 yX6_places ∈ wsL_law := inr_18 _ (List.mem_of_getElem? (i := 20) rfl)
theorem wt_428 : Cond.methodLink RX6 94 yX6_places ∈ lw_tbl := in_t3 _ (List.mem_of_getElem? (i := 104) rfl)
theorem wd_429 : Cond.instanceMethod yX6_places ∈ wsL_law := inr_18 _ (List.mem_of_getElem? (i := 21) rfl)
theorem wt_429 : Cond.instanceMethod yX6_places ∈ lw_tbl := in_t3 _ (List.mem_of_getElem? (i := 106) rfl)
theorem wd_430 : Cond.selects RX6 yX6_places yX6_places ∈ wsL_law := inr_18 _ (List.mem_of_getElem? (i := 22) rfl)
theorem wt_430 : Cond.selects RX6 yX6_places yX6_places ∈ lw_tbl := List.mem_append_left _ (List.mem_of_getElem? (i := 41) rfl)
theorem wd_431 : Cond.code yX6_places cX6_places 6 (some .boolean) ∈ wsL_law := inr_18 _ (List.mem_of_getElem? (i := 23) rfl)
theorem wt_431 : Cond.code yX6_places cX6_places 6 (some .boolean) ∈ lw_tbl := in_t3 _ (List.mem_of_getElem? (i := 107) rfl)
theorem wr_18 : ∀ w ∈ wsL_law_r18, w ∈ lw_tbl := List.forall_mem_cons.mpr ⟨wt_408, List.forall_mem_cons.mpr ⟨wt_409, List.forall_mem_cons.mpr ⟨wt_410, List.forall_mem_cons.mpr ⟨wt_411, List.forall_mem_cons.mpr ⟨wt_412, List.forall_mem_cons.mpr ⟨wt_413, List.forall_mem_cons.mpr ⟨wt_414, List.forall_mem_cons.mpr ⟨wt_415, List.forall_mem_cons.mpr ⟨wt_416, List.forall_mem_cons.mpr ⟨wt_417, List.forall_mem_cons.mpr ⟨wt_418, List.forall_mem_cons.mpr ⟨wt_419, List.forall_mem_cons.mpr ⟨wt_420, List.forall_mem_cons.mpr ⟨wt_421, List.forall_mem_cons.mpr ⟨wt_422, List.forall_mem_cons.mpr ⟨wt_423, List.forall_mem_cons.mpr ⟨wt_424, List.forall_mem_cons.mpr ⟨wt_425, List.forall_mem_cons.mpr ⟨wt_426, List.forall_mem_cons.mpr ⟨wt_427, List.forall_mem_cons.mpr ⟨wt_428, List.forall_mem_cons.mpr ⟨wt_429, List.forall_mem_cons.mpr ⟨wt_430, List.forall_mem_cons.mpr ⟨wt_431, fun _ h => absurd h List.not_mem_nil⟩⟩⟩⟩⟩⟩⟩⟩⟩⟩⟩⟩⟩⟩⟩⟩⟩⟩⟩⟩⟩⟩⟩⟩
theorem wd_432 : Cond.methodLink RL 90 yX5_coupleInOrder ∈ wsL_law := inr_19 _ (List.mem_of_getElem? (i := 0) rfl)
theorem wt_432 : Cond.methodLink RL 90 yX5_coupleInOrder ∈ lw_tbl := in_t2 _ (List.mem_of_getElem? (i := 140) rfl)
theorem wd_433 : Cond.instanceMethod yX5_coupleInOrder ∈ wsL_law := inr_19 _ (List.mem_of_getElem? (i := 1) rfl)
theorem wt_433 : Cond.instanceMethod yX5_coupleInOrder ∈ lw_tbl := in_t2 _ (List.mem_of_getElem? (i := 141) rfl)
theorem wd_434 : Cond.selects RX5 yX5_coupleInOrder yX5_coupleInOrder ∈ wsL_law := inr_19 _ (List.mem_of_getElem? (i := 2) rfl)
theorem wt_434 : Cond.selects RX5 yX5_coupleInOrder yX5_coupleInOrder ∈ lw_tbl := in_t2 _ (List.mem_of_getElem? (i := 142) rfl)
theorem wd_435 : Cond.code yX5_coupleInOrder cX5_coupleInOrder 3 (some .int) ∈ wsL_law := inr_19 _ (List.mem_of_getElem? (i := 3) rfl)
theorem wt_435 : Cond.code yX5_coupleInOrder cX5_coupleInOrder 3 (some .int) ∈ lw_tbl := in_t2 _ (List.mem_of_getElem? (i := 143) rfl)
theorem wd_436 : Cond.methodLink RL 93 yX6_coupleInOrder ∈ wsL_law := inr_19 _ (List.mem_of_getElem? (i := 4) rfl)
theorem wt_436 : Cond.methodLink RL 93 yX6_coupleInOrder ∈ lw_tbl := in_t3 _ (List.mem_of_getElem? (i := 108) rfl)
theorem wd_437 : Cond.instanceMethod yX6_coupleInOrder ∈ wsL_law := inr_19 _ (List.mem_of_getElem? (i := 5) rfl)
theorem wt_437 : Cond.instanceMethod yX6_coupleInOrder ∈ lw_tbl := in_t3 _ (List.mem_of_getElem? (i := 109) rfl)
theorem wd_438 : Cond.selects RX6 yX6_coupleInOrder yX6_coupleInOrder ∈ wsL_law := inr_19 _ (List.mem_of_getElem? (i := 6) rfl)
theorem wt_438 : Cond.selects RX6 yX6_coupleInOrder yX6_coupleInOrder ∈ lw_tbl := in_t3 _ (List.mem_of_getElem? (i := 110) rfl)
theorem wd_439 : Cond.code yX6_coupleInOrder cX6_coupleInOrder 2 (some .int) ∈ wsL_law := inr_19 _ (List.mem_of_getElem? (i := 7) rfl)
theorem wt_439 : Cond.code yX6_coupleInOrder cX6_coupleInOrder 2 (some .int) ∈ lw_tbl := in_t3 _ (List.mem_of_getElem? (i := 111) rfl)
theorem wd_440 : Cond.methodLink RL 94 yX5_generation ∈ wsL_law := inr_19 _ (List.mem_of_getElem? (i := 8) rfl)
theorem wt_440 : Cond.methodLink RL 94 yX5_generation ∈ lw_tbl := in_t2 _ (List.mem_of_getElem? (i := 144) rfl)
theorem wd_441 : Cond.instanceMethod yX5_generation ∈ wsL_law := inr_19 _ (List.mem_of_getElem? (i := 9) rfl)
theorem wt_441 : Cond.instanceMethod yX5_generation ∈ lw_tbl := in_t2 _ (List.mem_of_getElem? (i := 145) rfl)
theorem wd_442 : Cond.selects RX5 yX5_generation yX5_generation ∈ wsL_law := inr_19 _ (List.mem_of_getElem? (i := 10) rfl)
theorem wt_442 : Cond.selects RX5 yX5_generation yX5_generation ∈ lw_tbl := in_t2 _ (List.mem_of_getElem? (i := 146) rfl)
theorem wd_443 : Cond.code yX5_generation cX5_generation 3 (some .int) ∈ wsL_law := inr_19 _ (List.mem_of_getElem? (i := 11) rfl)
theorem wt_443 : Cond.code yX5_generation cX5_generation 3 (some .int) ∈ lw_tbl := in_t2 _ (List.mem_of_getElem? (i := 147) rfl)
theorem wd_444 : Cond.methodLink RL 97 yX6_generation ∈ wsL_law := inr_19 _ (List.mem_of_getElem? (i := 12) rfl)
theorem wt_444 : Cond.methodLink RL 97 yX6_generation ∈ lw_tbl := in_t3 _ (List.mem_of_getElem? (i := 112) rfl)
theorem wd_445 : Cond.instanceMethod yX6_generation ∈ wsL_law := inr_19 _ (List.mem_of_getElem? (i := 13) rfl)
theorem wt_445 : Cond.instanceMethod yX6_generation ∈ lw_tbl := in_t3 _ (List.mem_of_getElem? (i := 113) rfl)
theorem wd_446 : Cond.selects RX6 yX6_generation yX6_generation ∈ wsL_law := inr_19 _ (List.mem_of_getElem? (i := 14) rfl)
theorem wt_446 : Cond.selects RX6 yX6_generation yX6_generation ∈ lw_tbl := in_t3 _ (List.mem_of_getElem? (i := 114) rfl)
theorem wd_447 : Cond.code yX6_generation cX6_generation 2 (some .int) ∈ wsL_law := inr_19 _ (List.mem_of_getElem? (i := 15) rfl)
theorem wt_447 : Cond.code yX6_generation cX6_generation 2 (some .int) ∈ lw_tbl := in_t3 _ (List.mem_of_getElem? (i := 115) rfl)
theorem wd_448 : Cond.methodLink RL 98 yX5_singletons ∈ wsL_law := inr_19 _ (List.mem_of_getElem? (i := 16) rfl)
theorem wt_448 : Cond.methodLink RL 98 yX5_singletons ∈ lw_tbl := in_t2 _ (List.mem_of_getElem? (i := 148) rfl)
theorem wd_449 : Cond.instanceMethod yX5_singletons ∈ wsL_law := inr_19 _ (List.mem_of_getElem? (i := 17) rfl)
theorem wt_449 : Cond.instanceMethod yX5_singletons ∈ lw_tbl := in_t2 _ (List.mem_of_getElem? (i := 149) rfl)
theorem wd_450 : Cond.selects RX5 yX5_singletons yX5_singletons ∈ wsL_law := inr_19 _ (List.mem_of_getElem? (i := 18) rfl)
theorem wt_450 : Cond.selects RX5 yX5_singletons yX5_singletons ∈ lw_tbl := in_t2 _ (List.mem_of_getElem? (i := 150) rfl)
theorem wd_451 : Cond.code yX5_singletons cX5_singletons 2 (some .int) ∈ wsL_law := inr_19 _ (List.mem_of_getElem? (i := 19) rfl)
theorem wt_451 : Cond.code yX5_singletons cX5_singletons 2 (some .int) ∈ lw_tbl := in_t2 _ (List.mem_of_getElem? (i := 151) rfl)
theorem wd_452 : Cond.instanceMethod yX4_diesStruckOnce ∈ wsL_law := inr_19 _ (List.mem_of_getElem? (i := 20) rfl)
theorem wt_452 : Cond.instanceMethod yX4_diesStruckOnce ∈ lw_tbl := in_t2 _ (List.mem_of_getElem? (i := 154) rfl)
theorem wd_453 : Cond.selects RX4 yX4_diesStruckOnce yX4_diesStruckOnce ∈ wsL_law := inr_19 _ (List.mem_of_getElem? (i := 21) rfl)
theorem wt_453 : Cond.selects RX4 yX4_diesStruckOnce yX4_diesStruckOnce ∈ lw_tbl := List.mem_append_left _ (List.mem_of_getElem? (i := 30) rfl)
theorem wd_454 : Cond.code yX4_diesStruckOnce cX4_diesStruckOnce 4 (some .int) ∈ wsL_law := inr_19 _ (List.mem_of_getElem? (i := 22) rfl)
theorem wt_454 : Cond.code yX4_diesStruckOnce cX4_diesStruckOnce 4 (some .int) ∈ lw_tbl := in_t2 _ (List.mem_of_getElem? (i := 155) rfl)
theorem wd_455 : Cond.methodLink RL 101 yX6_singletons ∈ wsL_law := inr_19 _ (List.mem_of_getElem? (i := 23) rfl)
theorem wt_455 : Cond.methodLink RL 101 yX6_singletons ∈ lw_tbl := in_t3 _ (List.mem_of_getElem? (i := 116) rfl)
theorem wr_19 : ∀ w ∈ wsL_law_r19, w ∈ lw_tbl := List.forall_mem_cons.mpr ⟨wt_432, List.forall_mem_cons.mpr ⟨wt_433, List.forall_mem_cons.mpr ⟨wt_434, List.forall_mem_cons.mpr ⟨wt_435, List.forall_mem_cons.mpr ⟨wt_436, List.forall_mem_cons.mpr ⟨wt_437, List.forall_mem_cons.mpr ⟨wt_438, List.forall_mem_cons.mpr ⟨wt_439, List.forall_mem_cons.mpr ⟨wt_440, List.forall_mem_cons.mpr ⟨wt_441, List.forall_mem_cons.mpr ⟨wt_442, List.forall_mem_cons.mpr ⟨wt_443, List.forall_mem_cons.mpr ⟨wt_444, List.forall_mem_cons.mpr ⟨wt_445, List.forall_mem_cons.mpr ⟨wt_446, List.forall_mem_cons.mpr ⟨wt_447, List.forall_mem_cons.mpr ⟨wt_448, List.forall_mem_cons.mpr ⟨wt_449, List.forall_mem_cons.mpr ⟨wt_450, List.forall_mem_cons.mpr ⟨wt_451, List.forall_mem_cons.mpr ⟨wt_452, List.forall_mem_cons.mpr ⟨wt_453, List.forall_mem_cons.mpr ⟨wt_454, List.forall_mem_cons.mpr ⟨wt_455, fun _ h => absurd h List.not_mem_nil⟩⟩⟩⟩⟩⟩⟩⟩⟩⟩⟩⟩⟩⟩⟩⟩⟩⟩⟩⟩⟩⟩⟩⟩
theorem wd_456 : Cond.instanceMethod yX6_singletons ∈ wsL_law := inr_20 _ (List.mem_of_getElem? (i := 0) rfl)
theorem wt_456 : Cond.instanceMethod yX6_singletons ∈ lw_tbl := in_t3 _ (List.mem_of_getElem? (i := 117) rfl)
theorem wd_457 : Cond.selects RX6 yX6_singletons yX6_singletons ∈ wsL_law := inr_20 _ (List.mem_of_getElem? (i := 1) rfl)
theorem wt_457 : Cond.selects RX6 yX6_singletons yX6_singletons ∈ lw_tbl := in_t3 _ (List.mem_of_getElem? (i := 118) rfl)
theorem wd_458 : Cond.code yX6_singletons cX6_singletons 2 (some .int) ∈ wsL_law := inr_20 _ (List.mem_of_getElem? (i := 2) rfl)
theorem wt_458 : Cond.code yX6_singletons cX6_singletons 2 (some .int) ∈ lw_tbl := in_t3 _ (List.mem_of_getElem? (i := 119) rfl)
theorem wd_459 : Cond.methodLink RX6 98 yX6_single ∈ wsL_law := inr_20 _ (List.mem_of_getElem? (i := 3) rfl)
theorem wt_459 : Cond.methodLink RX6 98 yX6_single ∈ lw_tbl := in_t3 _ (List.mem_of_getElem? (i := 120) rfl)
theorem wd_460 : Cond.instanceMethod yX6_single ∈ wsL_law := inr_20 _ (List.mem_of_getElem? (i := 4) rfl)
theorem wt_460 : Cond.instanceMethod yX6_single ∈ lw_tbl := in_t3 _ (List.mem_of_getElem? (i := 122) rfl)
theorem wd_461 : Cond.selects RX6 yX6_single yX6_single ∈ wsL_law := inr_20 _ (List.mem_of_getElem? (i := 5) rfl)
theorem wt_461 : Cond.selects RX6 yX6_single yX6_single ∈ lw_tbl := List.mem_append_left _ (List.mem_of_getElem? (i := 42) rfl)
theorem wd_462 : Cond.code yX6_single cX6_single 4 (some .int) ∈ wsL_law := inr_20 _ (List.mem_of_getElem? (i := 6) rfl)
theorem wt_462 : Cond.code yX6_single cX6_single 4 (some .int) ∈ lw_tbl := in_t3 _ (List.mem_of_getElem? (i := 123) rfl)
theorem wd_463 : Cond.methodLink RL 102 yX5_coverageEstimate ∈ wsL_law := inr_20 _ (List.mem_of_getElem? (i := 7) rfl)
theorem wt_463 : Cond.methodLink RL 102 yX5_coverageEstimate ∈ lw_tbl := in_t2 _ (List.mem_of_getElem? (i := 156) rfl)
theorem wd_464 : Cond.instanceMethod yX5_coverageEstimate ∈ wsL_law := inr_20 _ (List.mem_of_getElem? (i := 8) rfl)
theorem wt_464 : Cond.instanceMethod yX5_coverageEstimate ∈ lw_tbl := in_t2 _ (List.mem_of_getElem? (i := 157) rfl)
theorem wd_465 : Cond.selects RX5 yX5_coverageEstimate yX5_coverageEstimate ∈ wsL_law := inr_20 _ (List.mem_of_getElem? (i := 9) rfl)
theorem wt_465 : Cond.selects RX5 yX5_coverageEstimate yX5_coverageEstimate ∈ lw_tbl := in_t2 _ (List.mem_of_getElem? (i := 158) rfl)
theorem wd_466 : Cond.code yX5_coverageEstimate cX5_coverageEstimate 4 (some .int) ∈ wsL_law := inr_20 _ (List.mem_of_getElem? (i := 10) rfl)
theorem wt_466 : Cond.code yX5_coverageEstimate cX5_coverageEstimate 4 (some .int) ∈ lw_tbl := in_t2 _ (List.mem_of_getElem? (i := 159) rfl)
theorem wd_467 : Cond.methodLink RL 105 yX6_coverageEstimate ∈ wsL_law := inr_20 _ (List.mem_of_getElem? (i := 11) rfl)
theorem wt_467 : Cond.methodLink RL 105 yX6_coverageEstimate ∈ lw_tbl := in_t3 _ (List.mem_of_getElem? (i := 124) rfl)
theorem wd_468 : Cond.instanceMethod yX6_coverageEstimate ∈ wsL_law := inr_20 _ (List.mem_of_getElem? (i := 12) rfl)
theorem wt_468 : Cond.instanceMethod yX6_coverageEstimate ∈ lw_tbl := in_t3 _ (List.mem_of_getElem? (i := 125) rfl)
theorem wd_469 : Cond.selects RX6 yX6_coverageEstimate yX6_coverageEstimate ∈ wsL_law := inr_20 _ (List.mem_of_getElem? (i := 13) rfl)
theorem wt_469 : Cond.selects RX6 yX6_coverageEstimate yX6_coverageEstimate ∈ lw_tbl := in_t3 _ (List.mem_of_getElem? (i := 126) rfl)
theorem wd_470 : Cond.code yX6_coverageEstimate cX6_coverageEstimate 4 (some .int) ∈ wsL_law := inr_20 _ (List.mem_of_getElem? (i := 14) rfl)
theorem wt_470 : Cond.code yX6_coverageEstimate cX6_coverageEstimate 4 (some .int) ∈ lw_tbl := in_t3 _ (List.mem_of_getElem? (i := 127) rfl)
theorem wd_471 : Cond.methodLink RL 106 yX5_frequencyEstimate ∈ wsL_law := inr_20 _ (List.mem_of_getElem? (i := 15) rfl)
theorem wt_471 : Cond.methodLink RL 106 yX5_frequencyEstimate ∈ lw_tbl := in_t2 _ (List.mem_of_getElem? (i := 160) rfl)
theorem wd_472 : Cond.instanceMethod yX5_frequencyEstimate ∈ wsL_law := inr_20 _ (List.mem_of_getElem? (i := 16) rfl)
theorem wt_472 : Cond.instanceMethod yX5_frequencyEstimate ∈ lw_tbl := in_t2 _ (List.mem_of_getElem? (i := 161) rfl)
theorem wd_473 : Cond.selects RX5 yX5_frequencyEstimate yX5_frequencyEstimate ∈ wsL_law := inr_20 _ (List.mem_of_getElem? (i := 17) rfl)
theorem wt_473 : Cond.selects RX5 yX5_frequencyEstimate yX5_frequencyEstimate ∈ lw_tbl := in_t2 _ (List.mem_of_getElem? (i := 162) rfl)
theorem wd_474 : Cond.code yX5_frequencyEstimate cX5_frequencyEstimate 5 (some .int) ∈ wsL_law := inr_20 _ (List.mem_of_getElem? (i := 18) rfl)
theorem wt_474 : Cond.code yX5_frequencyEstimate cX5_frequencyEstimate 5 (some .int) ∈ lw_tbl := in_t2 _ (List.mem_of_getElem? (i := 163) rfl)
theorem wd_475 : Cond.methodLink RX5 147 yX5_divisorOfFrequencyEstimate ∈ wsL_law := inr_20 _ (List.mem_of_getElem? (i := 19) rfl)
theorem wt_475 : Cond.methodLink RX5 147 yX5_divisorOfFrequencyEstimate ∈ lw_tbl := in_t2 _ (List.mem_of_getElem? (i := 164) rfl)
theorem wd_476 : Cond.static yX5_divisorOfFrequencyEstimate ∈ wsL_law := inr_20 _ (List.mem_of_getElem? (i := 20) rfl)
theorem wt_476 : Cond.static yX5_divisorOfFrequencyEstimate ∈ lw_tbl := in_t2 _ (List.mem_of_getElem? (i := 165) rfl)
theorem wd_477 : Cond.code yX5_divisorOfFrequencyEstimate cX5_divisorOfFrequencyEstimate 2 (some .int) ∈ wsL_law := inr_20 _ (List.mem_of_getElem? (i := 21) rfl)
theorem wt_477 : Cond.code yX5_divisorOfFrequencyEstimate cX5_divisorOfFrequencyEstimate 2 (some .int) ∈ lw_tbl := in_t2 _ (List.mem_of_getElem? (i := 166) rfl)
theorem wd_478 : Cond.methodLink RL 109 yX6_frequencyEstimate ∈ wsL_law := inr_20 _ (List.mem_of_getElem? (i := 22) rfl)
theorem wt_478 : Cond.methodLink RL 109 yX6_frequencyEstimate ∈ lw_tbl := in_t3 _ (List.mem_of_getElem? (i := 128) rfl)
theorem wd_479 : Cond.instanceMethod yX6_frequencyEstimate ∈ wsL_law := inr_20 _ (List.mem_of_getElem? (i := 23) rfl)
theorem wt_479 : Cond.instanceMethod yX6_frequencyEstimate ∈ lw_tbl := in_t3 _ (List.mem_of_getElem? (i := 129) rfl)
theorem wr_20 : ∀ w ∈ wsL_law_r20, w ∈ lw_tbl := List.forall_mem_cons.mpr ⟨wt_456, List.forall_mem_cons.mpr ⟨wt_457, List.forall_mem_cons.mpr ⟨wt_458, List.forall_mem_cons.mpr ⟨wt_459, List.forall_mem_cons.mpr ⟨wt_460, List.forall_mem_cons.mpr ⟨wt_461, List.forall_mem_cons.mpr ⟨wt_462, List.forall_mem_cons.mpr ⟨wt_463, List.forall_mem_cons.mpr ⟨wt_464, List.forall_mem_cons.mpr ⟨wt_465, List.forall_mem_cons.mpr ⟨wt_466, List.forall_mem_cons.mpr ⟨wt_467, List.forall_mem_cons.mpr ⟨wt_468, List.forall_mem_cons.mpr ⟨wt_469, List.forall_mem_cons.mpr ⟨wt_470, List.forall_mem_cons.mpr ⟨wt_471, List.forall_mem_cons.mpr ⟨wt_472, List.forall_mem_cons.mpr ⟨wt_473, List.forall_mem_cons.mpr ⟨wt_474, List.forall_mem_cons.mpr ⟨wt_475, List.forall_mem_cons.mpr ⟨wt_476, List.forall_mem_cons.mpr ⟨wt_477, List.forall_mem_cons.mpr ⟨wt_478, List.forall_mem_cons.mpr ⟨wt_479, fun _ h => absurd h List.not_mem_nil⟩⟩⟩⟩⟩⟩⟩⟩⟩⟩⟩⟩⟩⟩⟩⟩⟩⟩⟩⟩⟩⟩⟩⟩
theorem wd_480 : Cond.selects RX6 yX6_frequencyEstimate yX6_frequencyEstimate ∈ wsL_law := inr_21 _ (List.mem_of_getElem? (i := 0) rfl)
theorem wt_480 : Cond.selects RX6 yX6_frequencyEstimate yX6_frequencyEstimate ∈ lw_tbl := in_t3 _ (List.mem_of_getElem? (i := 130) rfl)
theorem wd_481 : Cond.code yX6_frequencyEstimate cX6_frequencyEstimate 5 (some .int) ∈ wsL_law := inr_21 _ (List.mem_of_getElem? (i := 1) rfl)
theorem wt_481 : Cond.code yX6_frequencyEstimate cX6_frequencyEstimate 5 (some .int) ∈ lw_tbl := in_t3 _ (List.mem_of_getElem? (i := 131) rfl)
theorem wd_482 : Cond.constant RX6 101 (1000000) ∈ wsL_law := inr_21 _ (List.mem_of_getElem? (i := 2) rfl)
theorem wt_482 : Cond.constant RX6 101 (1000000) ∈ lw_tbl := in_t3 _ (List.mem_of_getElem? (i := 132) rfl)
theorem wd_483 : Cond.methodLink RL 110 yX5_undo ∈ wsL_law := inr_21 _ (List.mem_of_getElem? (i := 3) rfl)
theorem wt_483 : Cond.methodLink RL 110 yX5_undo ∈ lw_tbl := in_t2 _ (List.mem_of_getElem? (i := 167) rfl)
theorem wd_484 : Cond.instanceMethod yX5_undo ∈ wsL_law := inr_21 _ (List.mem_of_getElem? (i := 4) rfl)
theorem wt_484 : Cond.instanceMethod yX5_undo ∈ lw_tbl := in_t2 _ (List.mem_of_getElem? (i := 168) rfl)
theorem wd_485 : Cond.selects RX5 yX5_undo yX5_undo ∈ wsL_law := inr_21 _ (List.mem_of_getElem? (i := 5) rfl)
theorem wt_485 : Cond.selects RX5 yX5_undo yX5_undo ∈ lw_tbl := in_t2 _ (List.mem_of_getElem? (i := 169) rfl)
theorem wd_486 : Cond.code yX5_undo cX5_undo 1 (some .int) ∈ wsL_law := inr_21 _ (List.mem_of_getElem? (i := 6) rfl)
theorem wt_486 : Cond.code yX5_undo cX5_undo 1 (some .int) ∈ lw_tbl := in_t2 _ (List.mem_of_getElem? (i := 170) rfl)
theorem wd_487 : Cond.instanceMethod yX2_restore ∈ wsL_law := inr_21 _ (List.mem_of_getElem? (i := 7) rfl)
theorem wt_487 : Cond.instanceMethod yX2_restore ∈ lw_tbl := in_t2 _ (List.mem_of_getElem? (i := 173) rfl)
theorem wd_488 : Cond.selects RX2 yX2_restore yX2_restore ∈ wsL_law := inr_21 _ (List.mem_of_getElem? (i := 8) rfl)
theorem wt_488 : Cond.selects RX2 yX2_restore yX2_restore ∈ lw_tbl := List.mem_append_left _ (List.mem_of_getElem? (i := 31) rfl)
theorem wd_489 : Cond.code yX2_restore cX2_restore 2 none ∈ wsL_law := inr_21 _ (List.mem_of_getElem? (i := 9) rfl)
theorem wt_489 : Cond.code yX2_restore cX2_restore 2 none ∈ lw_tbl := in_t2 _ (List.mem_of_getElem? (i := 174) rfl)
theorem wd_490 : Cond.methodLink RL 113 yX6_undo ∈ wsL_law := inr_21 _ (List.mem_of_getElem? (i := 10) rfl)
theorem wt_490 : Cond.methodLink RL 113 yX6_undo ∈ lw_tbl := in_t2 _ (List.mem_of_getElem? (i := 219) rfl)
theorem wd_491 : Cond.instanceMethod yX6_undo ∈ wsL_law := inr_21 _ (List.mem_of_getElem? (i := 11) rfl)
theorem wt_491 : Cond.instanceMethod yX6_undo ∈ lw_tbl := in_t2 _ (List.mem_of_getElem? (i := 220) rfl)
theorem wd_492 : Cond.selects RX6 yX6_undo yX6_undo ∈ wsL_law := inr_21 _ (List.mem_of_getElem? (i := 12) rfl)
theorem wt_492 : Cond.selects RX6 yX6_undo yX6_undo ∈ lw_tbl := in_t2 _ (List.mem_of_getElem? (i := 221) rfl)
theorem wd_493 : Cond.code yX6_undo cX6_undo 2 (some .int) ∈ wsL_law := inr_21 _ (List.mem_of_getElem? (i := 13) rfl)
theorem wt_493 : Cond.code yX6_undo cX6_undo 2 (some .int) ∈ lw_tbl := in_t2 _ (List.mem_of_getElem? (i := 222) rfl)
theorem wr_21 : ∀ w ∈ wsL_law_r21, w ∈ lw_tbl := List.forall_mem_cons.mpr ⟨wt_480, List.forall_mem_cons.mpr ⟨wt_481, List.forall_mem_cons.mpr ⟨wt_482, List.forall_mem_cons.mpr ⟨wt_483, List.forall_mem_cons.mpr ⟨wt_484, List.forall_mem_cons.mpr ⟨wt_485, List.forall_mem_cons.mpr ⟨wt_486, List.forall_mem_cons.mpr ⟨wt_487, List.forall_mem_cons.mpr ⟨wt_488, List.forall_mem_cons.mpr ⟨wt_489, List.forall_mem_cons.mpr ⟨wt_490, List.forall_mem_cons.mpr ⟨wt_491, List.forall_mem_cons.mpr ⟨wt_492, List.forall_mem_cons.mpr ⟨wt_493, fun _ h => absurd h List.not_mem_nil⟩⟩⟩⟩⟩⟩⟩⟩⟩⟩⟩⟩⟩⟩
theorem wu_X5 : ∀ w ∈ wsX50, w ∈ lw_tbl := by
  show ∀ w ∈ [u_lay RX5 TX5 0, u_lay RX5 TX5 1, u_lay RX5 TX5 2, u_lay RX5 TX5 3, u_lay RX5 TX5 4], w ∈ lw_tbl
  exact List.forall_mem_cons.mpr ⟨in_t1 _ (List.mem_of_getElem? (i := 127) rfl), List.forall_mem_cons.mpr ⟨in_t1 _ (List.mem_of_getElem? (i := 129) rfl), List.forall_mem_cons.mpr ⟨in_t1 _ (List.mem_of_getElem? (i := 131) rfl), List.forall_mem_cons.mpr ⟨in_t1 _ (List.mem_of_getElem? (i := 133) rfl), List.forall_mem_cons.mpr ⟨in_t1 _ (List.mem_of_getElem? (i := 135) rfl), fun _ h => absurd h List.not_mem_nil⟩⟩⟩⟩⟩
theorem wu_X6 : ∀ w ∈ wsX60, w ∈ lw_tbl := by
  show ∀ w ∈ [u_lay RX6 TX6 0, u_lay RX6 TX6 1, u_lay RX6 TX6 2, u_lay RX6 TX6 3, u_lay RX6 TX6 4, u_lay RX6 TX6 5, u_lay RX6 TX6 6, u_lay RX6 TX6 7, u_lay RX6 TX6 8, u_lay RX6 TX6 9, u_lay RX6 TX6 10, u_lay RX6 TX6 11], w ∈ lw_tbl
  exact List.forall_mem_cons.mpr ⟨in_t2 _ (List.mem_of_getElem? (i := 193) rfl), List.forall_mem_cons.mpr ⟨in_t2 _ (List.mem_of_getElem? (i := 195) rfl), List.forall_mem_cons.mpr ⟨in_t2 _ (List.mem_of_getElem? (i := 197) rfl), List.forall_mem_cons.mpr ⟨in_t2 _ (List.mem_of_getElem? (i := 199) rfl), List.forall_mem_cons.mpr ⟨in_t2 _ (List.mem_of_getElem? (i := 201) rfl), List.forall_mem_cons.mpr ⟨in_t2 _ (List.mem_of_getElem? (i := 203) rfl), List.forall_mem_cons.mpr ⟨in_t2 _ (List.mem_of_getElem? (i := 205) rfl), List.forall_mem_cons.mpr ⟨in_t2 _ (List.mem_of_getElem? (i := 207) rfl), List.forall_mem_cons.mpr ⟨in_t2 _ (List.mem_of_getElem? (i := 209) rfl), List.forall_mem_cons.mpr ⟨in_t2 _ (List.mem_of_getElem? (i := 211) rfl), List.forall_mem_cons.mpr ⟨in_t2 _ (List.mem_of_getElem? (i := 213) rfl), List.forall_mem_cons.mpr ⟨in_t2 _ (List.mem_of_getElem? (i := 215) rfl), fun _ h => absurd h List.not_mem_nil⟩⟩⟩⟩⟩⟩⟩⟩⟩⟩⟩⟩
theorem wu_X4 : ∀ w ∈ wsX40, w ∈ lw_tbl := by
  show ∀ w ∈ [u_lay RX4 TX4 0, u_lay RX4 TX4 1], w ∈ lw_tbl
  exact List.forall_mem_cons.mpr ⟨in_t1 _ (List.mem_of_getElem? (i := 31) rfl), List.forall_mem_cons.mpr ⟨in_t1 _ (List.mem_of_getElem? (i := 33) rfl), fun _ h => absurd h List.not_mem_nil⟩⟩
theorem wu_X2 : ∀ w ∈ wsX20, w ∈ lw_tbl := by
  show ∀ w ∈ [u_lay RX2 TX2 0, u_lay RX2 TX2 1, u_lay RX2 TX2 2, u_lay RX2 TX2 3], w ∈ lw_tbl
  exact List.forall_mem_cons.mpr ⟨in_t1 _ (List.mem_of_getElem? (i := 48) rfl), List.forall_mem_cons.mpr ⟨in_t1 _ (List.mem_of_getElem? (i := 50) rfl), List.forall_mem_cons.mpr ⟨in_t1 _ (List.mem_of_getElem? (i := 52) rfl), List.forall_mem_cons.mpr ⟨in_t1 _ (List.mem_of_getElem? (i := 54) rfl), fun _ h => absurd h List.not_mem_nil⟩⟩⟩⟩
theorem wu_X1 : ∀ w ∈ wsX10, w ∈ lw_tbl := by
  show ∀ w ∈ [u_lay RX1 TX1 0, u_lay RX1 TX1 1, u_lay RX1 TX1 2, u_lay RX1 TX1 3, u_lay RX1 TX1 4], w ∈ lw_tbl
  exact List.forall_mem_cons.mpr ⟨in_t1 _ (List.mem_of_getElem? (i := 75) rfl), List.forall_mem_cons.mpr ⟨in_t1 _ (List.mem_of_getElem? (i := 77) rfl), List.forall_mem_cons.mpr ⟨in_t1 _ (List.mem_of_getElem? (i := 79) rfl), List.forall_mem_cons.mpr ⟨in_t1 _ (List.mem_of_getElem? (i := 81) rfl), List.forall_mem_cons.mpr ⟨in_t1 _ (List.mem_of_getElem? (i := 83) rfl), fun _ h => absurd h List.not_mem_nil⟩⟩⟩⟩⟩
theorem wu_X3 : ∀ w ∈ wsX30, w ∈ lw_tbl := by
  show ∀ w ∈ [u_lay RX3 TX3 0, u_lay RX3 TX3 1, u_lay RX3 TX3 2], w ∈ lw_tbl
  exact List.forall_mem_cons.mpr ⟨in_t1 _ (List.mem_of_getElem? (i := 97) rfl), List.forall_mem_cons.mpr ⟨in_t1 _ (List.mem_of_getElem? (i := 99) rfl), List.forall_mem_cons.mpr ⟨in_t1 _ (List.mem_of_getElem? (i := 101) rfl), fun _ h => absurd h List.not_mem_nil⟩⟩⟩
theorem wu_X0 : ∀ w ∈ wsX00, w ∈ lw_tbl := by
  show ∀ w ∈ [u_lay RX0 TX0 0, u_lay RX0 TX0 1, u_lay RX0 TX0 2], w ∈ lw_tbl
  exact List.forall_mem_cons.mpr ⟨in_t1 _ (List.mem_of_getElem? (i := 115) rfl), List.forall_mem_cons.mpr ⟨in_t1 _ (List.mem_of_getElem? (i := 117) rfl), List.forall_mem_cons.mpr ⟨in_t1 _ (List.mem_of_getElem? (i := 119) rfl), fun _ h => absurd h List.not_mem_nil⟩⟩⟩
theorem wsL_law_in : ∀ w ∈ wsL_law, w ∈ lw_tbl := List.forall_mem_append.mpr ⟨List.forall_mem_append.mpr ⟨List.forall_mem_append.mpr ⟨List.forall_mem_append.mpr ⟨List.forall_mem_append.mpr ⟨List.forall_mem_append.mpr ⟨List.forall_mem_append.mpr ⟨List.forall_mem_append.mpr ⟨List.forall_mem_append.mpr ⟨wr_1, List.forall_mem_append.mpr ⟨wr_2, List.forall_mem_append.mpr ⟨wr_3, List.forall_mem_append.mpr ⟨wr_4, List.forall_mem_append.mpr ⟨wr_5, List.forall_mem_append.mpr ⟨wr_6, List.forall_mem_append.mpr ⟨wr_7, List.forall_mem_append.mpr ⟨wr_8, List.forall_mem_append.mpr ⟨wr_9, List.forall_mem_append.mpr ⟨wr_10, List.forall_mem_append.mpr ⟨wr_11, List.forall_mem_append.mpr ⟨wr_12, List.forall_mem_append.mpr ⟨wr_13, List.forall_mem_append.mpr ⟨wr_14, List.forall_mem_append.mpr ⟨wr_15, List.forall_mem_append.mpr ⟨wr_16, List.forall_mem_append.mpr ⟨wr_17, List.forall_mem_append.mpr ⟨wr_18, List.forall_mem_append.mpr ⟨wr_19, List.forall_mem_append.mpr ⟨wr_20, wr_21⟩⟩⟩⟩⟩⟩⟩⟩⟩⟩⟩⟩⟩⟩⟩⟩⟩⟩⟩⟩, wu_X5⟩, wu_X6⟩, wu_X4⟩, wu_X2⟩, wu_X1⟩, wu_X3⟩, wu_X0⟩, fun _ h => absurd h List.not_mem_nil⟩
theorem wg_1 : wsL_law_r1.all goodWord = true := by decide +kernel
theorem wg_2 : wsL_law_r2.all goodWord = true := by decide +kernel
theorem wg_3 : wsL_law_r3.all goodWord = true := by decide +kernel
theorem wg_4 : wsL_law_r4.all goodWord = true := by decide +kernel
theorem wg_5 : wsL_law_r5.all goodWord = true := by decide +kernel
theorem wg_6 : wsL_law_r6.all goodWord = true := by decide +kernel
theorem wg_7 : wsL_law_r7.all goodWord = true := by decide +kernel
theorem wg_8 : wsL_law_r8.all goodWord = true := by decide +kernel
theorem wg_9 : wsL_law_r9.all goodWord = true := by decide +kernel
theorem wg_10 : wsL_law_r10.all goodWord = true := by decide +kernel
theorem wg_11 : wsL_law_r11.all goodWord = true := by decide +kernel
theorem wg_12 : wsL_law_r12.all goodWord = true := by decide +kernel
theorem wg_13 : wsL_law_r13.all goodWord = true := by decide +kernel
theorem wg_14 : wsL_law_r14.all goodWord = true := by decide +kernel
theorem wg_15 : wsL_law_r15.all goodWord = true := by decide +kernel
theorem wg_16 : wsL_law_r16.all goodWord = true := by decide +kernel
theorem wg_17 : wsL_law_r17.all goodWord = true := by decide +kernel
theorem wg_18 : wsL_law_r18.all goodWord = true := by decide +kernel
theorem wg_19 : wsL_law_r19.all goodWord = true := by decide +kernel
theorem wg_20 : wsL_law_r20.all goodWord = true := by decide +kernel
theorem wg_21 : wsL_law_r21.all goodWord = true := by decide +kernel
theorem wg_X5 : wsX50.all goodWord = true := by decide +kernel
theorem wg_X6 : wsX60.all goodWord = true := by decide +kernel
theorem wg_X4 : wsX40.all goodWord = true := by decide +kernel
theorem wg_X2 : wsX20.all goodWord = true := by decide +kernel
theorem wg_X1 : wsX10.all goodWord = true := by decide +kernel
theorem wg_X3 : wsX30.all goodWord = true := by decide +kernel
theorem wg_X0 : wsX00.all goodWord = true := by decide +kernel
theorem wsL_good1 : ∀ w ∈ wsL_law, goodWord w = true := List.forall_mem_append.mpr ⟨List.forall_mem_append.mpr ⟨List.forall_mem_append.mpr ⟨List.forall_mem_append.mpr ⟨List.forall_mem_append.mpr ⟨List.forall_mem_append.mpr ⟨List.forall_mem_append.mpr ⟨List.forall_mem_append.mpr ⟨List.forall_mem_append.mpr ⟨List.all_eq_true.mp wg_1, List.forall_mem_append.mpr ⟨List.all_eq_true.mp wg_2, List.forall_mem_append.mpr ⟨List.all_eq_true.mp wg_3, List.forall_mem_append.mpr ⟨List.all_eq_true.mp wg_4, List.forall_mem_append.mpr ⟨List.all_eq_true.mp wg_5, List.forall_mem_append.mpr ⟨List.all_eq_true.mp wg_6, List.forall_mem_append.mpr ⟨List.all_eq_true.mp wg_7, List.forall_mem_append.mpr ⟨List.all_eq_true.mp wg_8, List.forall_mem_append.mpr ⟨List.all_eq_true.mp wg_9, List.forall_mem_append.mpr ⟨List.all_eq_true.mp wg_10, List.forall_mem_append.mpr ⟨List.all_eq_true.mp wg_11, List.forall_mem_append.mpr ⟨List.all_eq_true.mp wg_12, List.forall_mem_append.mpr ⟨List.all_eq_true.mp wg_13, List.forall_mem_append.mpr ⟨List.all_eq_true.mp wg_14, List.forall_mem_append.mpr ⟨List.all_eq_true.mp wg_15, List.forall_mem_append.mpr ⟨List.all_eq_true.mp wg_16, List.forall_mem_append.mpr ⟨List.all_eq_true.mp wg_17, List.forall_mem_append.mpr ⟨List.all_eq_true.mp wg_18, List.forall_mem_append.mpr ⟨List.all_eq_true.mp wg_19, List.forall_mem_append.mpr ⟨List.all_eq_true.mp wg_20, List.all_eq_true.mp wg_21⟩⟩⟩⟩⟩⟩⟩⟩⟩⟩⟩⟩⟩⟩⟩⟩⟩⟩⟩⟩, List.all_eq_true.mp wg_X5⟩, List.all_eq_true.mp wg_X6⟩, List.all_eq_true.mp wg_X4⟩, List.all_eq_true.mp wg_X2⟩, List.all_eq_true.mp wg_X1⟩, List.all_eq_true.mp wg_X3⟩, List.all_eq_true.mp wg_X0⟩, fun _ h => absurd h List.not_mem_nil⟩
def nestF : List (String × Nat × String × String × String × String) := [(RX2, 27, RX4, "cells", "[I", RX5), (RX2, 34, RX4, "count", "I", RX5), (RX5, 51, RX4, "count", "I", RX5), (RX1, 37, RX4, "count", "I", RX5), (RX5, 150, RX2, "saved", "I", RX5), (RX3, 42, RX1, "die", "[[I", RX5), (RX5, 108, RX1, "die", "[[I", RX5), (RX0, 25, RX1, "count", "I", RX5), (RX3, 26, RX1, "count", "I", RX5), (RX5, 104, RX1, "count", "I", RX5), (RX5, 121, RX3, "dies", "I", RX5), (RX5, 115, RX3, "components", "I", RX5), (RX5, 137, RX0, "order", "[I", RX5), (RX5, 141, RX0, "depth", "[I", RX5)]
def nestM : List (String × Nat × MethodName × String) := [(RX5, 9, yX4_init, RX5), (RX5, 18, yX2_init, RX5), (RX5, 25, yX1_init, RX5), (RX5, 32, yX3_init, RX5), (RX5, 39, yX0_init, RX5), (RX5, 55, yX2_save, RX5), (RX5, 59, yX4_putDie, RX5), (RX5, 63, yX4_putWear, RX5), (RX5, 66, yX4_has, RX5), (RX5, 69, yX4_close, RX5), (RX5, 76, yX4_wear, RX5), (RX5, 80, yX4_struckWith, RX5), (RX5, 83, yX4_replaceDie, RX5), (RX5, 87, yX4_die, RX5), (RX5, 90, yX4_knownDies, RX5), (RX5, 94, yX4_wearSum, RX5), (RX5, 101, yX1_list, RX5), (RX1, 56, yX4_die, RX5), (RX1, 48, yX4_wear, RX5), (RX5, 128, yX1_has, RX5), (RX5, 111, yX3_connect, RX5), (RX5, 118, yX3_diesAround, RX5), (RX5, 124, yX3_fallsApartWithout, RX5), (RX5, 129, yX1_isEarlier, RX5), (RX5, 133, yX0_arrange, RX5), (RX0, 45, yX1_isEarlier, RX5), (RX5, 144, yX4_diesStruckOnce, RX5), (RX5, 153, yX2_restore, RX5)]
def zAOA (U : State) : Prop := (Cond.arrayOver (.array .int)).before #[] U = true
def NW (U : State) : Prop := (∀ q ∈ nestF, va_Nw (.fieldLinkNest q.1 q.2.1 q.2.2.1 q.2.2.2.1 q.2.2.2.2.1 q.2.2.2.2.2) U) ∧ (∀ q ∈ nestM, va_Nw (.methodLinkNest q.1 q.2.1 q.2.2.1 q.2.2.2) U) ∧ zAOA U
theorem nf_X2_27 {U : State} (h : NW U) : va_Nw (.fieldLinkNest RX2 27 (TX4 0).1 (TX4 0).2.1 (TX4 0).2.2.1 RX5) U := h.1 (RX2, 27, RX4, "cells", "[I", RX5) (List.mem_of_getElem? (i := 0) rfl)
theorem nf_X2_34 {U : State} (h : NW U) : va_Nw (.fieldLinkNest RX2 34 (TX4 1).1 (TX4 1).2.1 (TX4 1).2.2.1 RX5) U := h.1 (RX2, 34, RX4, "count", "I", RX5) (List.mem_of_getElem? (i := 1) rfl)
theorem nf_X5_51 {U : State} (h : NW U) : va_Nw (.fieldLinkNest RX5 51 (TX4 1).1 (TX4 1).2.1 (TX4 1).2.2.1 RX5) U := h.1 (RX5, 51, RX4, "count", "I", RX5) (List.mem_of_getElem? (i := 2) rfl)
theorem nf_X1_37 {U : State} (h : NW U) : va_Nw (.fieldLinkNest RX1 37 (TX4 1).1 (TX4 1).2.1 (TX4 1).2.2.1 RX5) U := h.1 (RX1, 37, RX4, "count", "I", RX5) (List.mem_of_getElem? (i := 3) rfl)
theorem nf_X5_150 {U : State} (h : NW U) : va_Nw (.fieldLinkNest RX5 150 (TX2 2).1 (TX2 2).2.1 (TX2 2).2.2.1 RX5) U := h.1 (RX5, 150, RX2, "saved", "I", RX5) (List.mem_of_getElem? (i := 4) rfl)
theorem nf_X3_42 {U : State} (h : NW U) : va_Nw (.fieldLinkNest RX3 42 (TX1 1).1 (TX1 1).2.1 (TX1 1).2.2.1 RX5) U := h.1 (RX3, 42, RX1, "die", "[[I", RX5) (List.mem_of_getElem? (i := 5) rfl)
theorem nf_X5_108 {U : State} (h : NW U) : va_Nw (.fieldLinkNest RX5 108 (TX1 1).1 (TX1 1).2.1 (TX1 1).2.2.1 RX5) U := h.1 (RX5, 108, RX1, "die", "[[I", RX5) (List.mem_of_getElem? (i := 6) rfl)
theorem nf_X0_25 {U : State} (h : NW U) : va_Nw (.fieldLinkNest RX0 25 (TX1 4).1 (TX1 4).2.1 (TX1 4).2.2.1 RX5) U := h.1 (RX0, 25, RX1, "count", "I", RX5) (List.mem_of_getElem? (i := 7) rfl)
theorem nf_X3_26 {U : State} (h : NW U) : va_Nw (.fieldLinkNest RX3 26 (TX1 4).1 (TX1 4).2.1 (TX1 4).2.2.1 RX5) U := h.1 (RX3, 26, RX1, "count", "I", RX5) (List.mem_of_getElem? (i := 8) rfl)
theorem nf_X5_104 {U : State} (h : NW U) : va_Nw (.fieldLinkNest RX5 104 (TX1 4).1 (TX1 4).2.1 (TX1 4).2.2.1 RX5) U := h.1 (RX5, 104, RX1, "count", "I", RX5) (List.mem_of_getElem? (i := 9) rfl)
theorem nf_X5_121 {U : State} (h : NW U) : va_Nw (.fieldLinkNest RX5 121 (TX3 1).1 (TX3 1).2.1 (TX3 1).2.2.1 RX5) U := h.1 (RX5, 121, RX3, "dies", "I", RX5) (List.mem_of_getElem? (i := 10) rfl)
theorem nf_X5_115 {U : State} (h : NW U) : va_Nw (.fieldLinkNest RX5 115 (TX3 2).1 (TX3 2).2.1 (TX3 2).2.2.1 RX5) U := h.1 (RX5, 115, RX3, "components", "I", RX5) (List.mem_of_getElem? (i := 11) rfl)
theorem nf_X5_137 {U : State} (h : NW U) : va_Nw (.fieldLinkNest RX5 137 (TX0 0).1 (TX0 0).2.1 (TX0 0).2.2.1 RX5) U := h.1 (RX5, 137, RX0, "order", "[I", RX5) (List.mem_of_getElem? (i := 12) rfl)
theorem nf_X5_141 {U : State} (h : NW U) : va_Nw (.fieldLinkNest RX5 141 (TX0 1).1 (TX0 1).2.1 (TX0 1).2.2.1 RX5) U := h.1 (RX5, 141, RX0, "depth", "[I", RX5) (List.mem_of_getElem? (i := 13) rfl)
theorem nm_X5_9 {U : State} (h : NW U) : va_Nw (.methodLinkNest RX5 9 yX4_init RX5) U := h.2.1 (RX5, 9, yX4_init, RX5) (List.mem_of_getElem? (i := 0) rfl)
theorem nm_X5_18 {U : State} (h : NW U) : va_Nw (.methodLinkNest RX5 18 yX2_init RX5) U := h.2.1 (RX5, 18, yX2_init, RX5) (List.mem_of_getElem? (i := 1) rfl)
theorem nm_X5_25 {U : State} (h : NW U) : va_Nw (.methodLinkNest RX5 25 yX1_init RX5) U := h.2.1 (RX5, 25, yX1_init, RX5) (List.mem_of_getElem? (i := 2) rfl)
theorem nm_X5_32 {U : State} (h : NW U) : va_Nw (.methodLinkNest RX5 32 yX3_init RX5) U := h.2.1 (RX5, 32, yX3_init, RX5) (List.mem_of_getElem? (i := 3) rfl)
theorem nm_X5_39 {U : State} (h : NW U) : va_Nw (.methodLinkNest RX5 39 yX0_init RX5) U := h.2.1 (RX5, 39, yX0_init, RX5) (List.mem_of_getElem? (i := 4) rfl)
theorem nm_X5_55 {U : State} (h : NW U) : va_Nw (.methodLinkNest RX5 55 yX2_save RX5) U := h.2.1 (RX5, 55, yX2_save, RX5) (List.mem_of_getElem? (i := 5) rfl)
theorem nm_X5_59 {U : State} (h : NW U) : va_Nw (.methodLinkNest RX5 59 yX4_putDie RX5) U := h.2.1 (RX5, 59, yX4_putDie, RX5) (List.mem_of_getElem? (i := 6) rfl)
theorem nm_X5_63 {U : State} (h : NW U) : va_Nw (.methodLinkNest RX5 63 yX4_putWear RX5) U := h.2.1 (RX5, 63, yX4_putWear, RX5) (List.mem_of_getElem? (i := 7) rfl)
theorem nm_X5_66 {U : State} (h : NW U) : va_Nw (.methodLinkNest RX5 66 yX4_has RX5) U := h.2.1 (RX5, 66, yX4_has, RX5) (List.mem_of_getElem? (i := 8) rfl)
theorem nm_X5_69 {U : State} (h : NW U) : va_Nw (.methodLinkNest RX5 69 yX4_close RX5) U := h.2.1 (RX5, 69, yX4_close, RX5) (List.mem_of_getElem? (i := 9) rfl)
theorem nm_X5_76 {U : State} (h : NW U) : va_Nw (.methodLinkNest RX5 76 yX4_wear RX5) U := h.2.1 (RX5, 76, yX4_wear, RX5) (List.mem_of_getElem? (i := 10) rfl)
theorem nm_X5_80 {U : State} (h : NW U) : va_Nw (.methodLinkNest RX5 80 yX4_struckWith RX5) U := h.2.1 (RX5, 80, yX4_struckWith, RX5) (List.mem_of_getElem? (i := 11) rfl)
theorem nm_X5_83 {U : State} (h : NW U) : va_Nw (.methodLinkNest RX5 83 yX4_replaceDie RX5) U := h.2.1 (RX5, 83, yX4_replaceDie, RX5) (List.mem_of_getElem? (i := 12) rfl)
theorem nm_X5_87 {U : State} (h : NW U) : va_Nw (.methodLinkNest RX5 87 yX4_die RX5) U := h.2.1 (RX5, 87, yX4_die, RX5) (List.mem_of_getElem? (i := 13) rfl)
theorem nm_X5_90 {U : State} (h : NW U) : va_Nw (.methodLinkNest RX5 90 yX4_knownDies RX5) U := h.2.1 (RX5, 90, yX4_knownDies, RX5) (List.mem_of_getElem? (i := 14) rfl)
theorem nm_X5_94 {U : State} (h : NW U) : va_Nw (.methodLinkNest RX5 94 yX4_wearSum RX5) U := h.2.1 (RX5, 94, yX4_wearSum, RX5) (List.mem_of_getElem? (i := 15) rfl)
theorem nm_X5_101 {U : State} (h : NW U) : va_Nw (.methodLinkNest RX5 101 yX1_list RX5) U := h.2.1 (RX5, 101, yX1_list, RX5) (List.mem_of_getElem? (i := 16) rfl)
theorem nm_X1_56 {U : State} (h : NW U) : va_Nw (.methodLinkNest RX1 56 yX4_die RX5) U := h.2.1 (RX1, 56, yX4_die, RX5) (List.mem_of_getElem? (i := 17) rfl)
theorem nm_X1_48 {U : State} (h : NW U) : va_Nw (.methodLinkNest RX1 48 yX4_wear RX5) U := h.2.1 (RX1, 48, yX4_wear, RX5) (List.mem_of_getElem? (i := 18) rfl)
theorem nm_X5_128 {U : State} (h : NW U) : va_Nw (.methodLinkNest RX5 128 yX1_has RX5) U := h.2.1 (RX5, 128, yX1_has, RX5) (List.mem_of_getElem? (i := 19) rfl)
theorem nm_X5_111 {U : State} (h : NW U) : va_Nw (.methodLinkNest RX5 111 yX3_connect RX5) U := h.2.1 (RX5, 111, yX3_connect, RX5) (List.mem_of_getElem? (i := 20) rfl)
theorem nm_X5_118 {U : State} (h : NW U) : va_Nw (.methodLinkNest RX5 118 yX3_diesAround RX5) U := h.2.1 (RX5, 118, yX3_diesAround, RX5) (List.mem_of_getElem? (i := 21) rfl)
theorem nm_X5_124 {U : State} (h : NW U) : va_Nw (.methodLinkNest RX5 124 yX3_fallsApartWithout RX5) U := h.2.1 (RX5, 124, yX3_fallsApartWithout, RX5) (List.mem_of_getElem? (i := 22) rfl)
theorem nm_X5_129 {U : State} (h : NW U) : va_Nw (.methodLinkNest RX5 129 yX1_isEarlier RX5) U := h.2.1 (RX5, 129, yX1_isEarlier, RX5) (List.mem_of_getElem? (i := 23) rfl)
theorem nm_X5_133 {U : State} (h : NW U) : va_Nw (.methodLinkNest RX5 133 yX0_arrange RX5) U := h.2.1 (RX5, 133, yX0_arrange, RX5) (List.mem_of_getElem? (i := 24) rfl)
theorem nm_X0_45 {U : State} (h : NW U) : va_Nw (.methodLinkNest RX0 45 yX1_isEarlier RX5) U := h.2.1 (RX0, 45, yX1_isEarlier, RX5) (List.mem_of_getElem? (i := 25) rfl)
theorem nm_X5_144 {U : State} (h : NW U) : va_Nw (.methodLinkNest RX5 144 yX4_diesStruckOnce RX5) U := h.2.1 (RX5, 144, yX4_diesStruckOnce, RX5) (List.mem_of_getElem? (i := 26) rfl)
theorem nm_X5_153 {U : State} (h : NW U) : va_Nw (.methodLinkNest RX5 153 yX2_restore RX5) U := h.2.1 (RX5, 153, yX2_restore, RX5) (List.mem_of_getElem? (i := 27) rfl)
theorem nestF_in : ∀ q ∈ nestF, Cond.fieldLinkNest q.1 q.2.1 q.2.2.1 q.2.2.2.1 q.2.2.2.2.1 q.2.2.2.2.2 ∈ lw_tbl := List.forall_mem_cons.mpr ⟨in_t1 _ (List.mem_of_getElem? (i := 26) rfl), List.forall_mem_cons.mpr ⟨in_t1 _ (List.mem_of_getElem? (i := 28) rfl), List.forall_mem_cons.mpr ⟨in_t1 _ (List.mem_of_getElem? (i := 29) rfl), List.forall_mem_cons.mpr ⟨in_t1 _ (List.mem_of_getElem? (i := 30) rfl), List.forall_mem_cons.mpr ⟨in_t1 _ (List.mem_of_getElem? (i := 46) rfl), List.forall_mem_cons.mpr ⟨in_t1 _ (List.mem_of_getElem? (i := 67) rfl), List.forall_mem_cons.mpr ⟨in_t1 _ (List.mem_of_getElem? (i := 68) rfl), List.forall_mem_cons.mpr ⟨in_t1 _ (List.mem_of_getElem? (i := 72) rfl), List.forall_mem_cons.mpr ⟨in_t1 _ (List.mem_of_getElem? (i := 73) rfl), List.forall_mem_cons.mpr ⟨in_t1 _ (List.mem_of_getElem? (i := 74) rfl), List.forall_mem_cons.mpr ⟨in_t1 _ (List.mem_of_getElem? (i := 94) rfl), List.forall_mem_cons.mpr ⟨in_t1 _ (List.mem_of_getElem? (i := 96) rfl), List.forall_mem_cons.mpr ⟨in_t1 _ (List.mem_of_getElem? (i := 111) rfl), List.forall_mem_cons.mpr ⟨in_t1 _ (List.mem_of_getElem? (i := 113) rfl), fun _ h => absurd h List.not_mem_nil⟩⟩⟩⟩⟩⟩⟩⟩⟩⟩⟩⟩⟩⟩
theorem nestM_in : ∀ q ∈ nestM, Cond.methodLinkNest q.1 q.2.1 q.2.2.1 q.2.2.2 ∈ lw_tbl := List.forall_mem_cons.mpr ⟨in_t1 _ (List.mem_of_getElem? (i := 21) rfl), List.forall_mem_cons.mpr ⟨in_t1 _ (List.mem_of_getElem? (i := 39) rfl), List.forall_mem_cons.mpr ⟨in_t1 _ (List.mem_of_getElem? (i := 59) rfl), List.forall_mem_cons.mpr ⟨in_t1 _ (List.mem_of_getElem? (i := 88) rfl), List.forall_mem_cons.mpr ⟨in_t1 _ (List.mem_of_getElem? (i := 106) rfl), List.forall_mem_cons.mpr ⟨in_t1 _ (List.mem_of_getElem? (i := 148) rfl), List.forall_mem_cons.mpr ⟨in_t1 _ (List.mem_of_getElem? (i := 155) rfl), List.forall_mem_cons.mpr ⟨in_t1 _ (List.mem_of_getElem? (i := 159) rfl), List.forall_mem_cons.mpr ⟨in_t1 _ (List.mem_of_getElem? (i := 167) rfl), List.forall_mem_cons.mpr ⟨in_t1 _ (List.mem_of_getElem? (i := 171) rfl), List.forall_mem_cons.mpr ⟨in_t1 _ (List.mem_of_getElem? (i := 183) rfl), List.forall_mem_cons.mpr ⟨in_t1 _ (List.mem_of_getElem? (i := 191) rfl), List.forall_mem_cons.mpr ⟨in_t1 _ (List.mem_of_getElem? (i := 199) rfl), List.forall_mem_cons.mpr ⟨in_t1 _ (List.mem_of_getElem? (i := 212) rfl), List.forall_mem_cons.mpr ⟨in_t1 _ (List.mem_of_getElem? (i := 217) rfl), List.forall_mem_cons.mpr ⟨in_t1 _ (List.mem_of_getElem? (i := 230) rfl), List.forall_mem_cons.mpr ⟨in_t2 _ (List.mem_of_getElem? (i := 3) rfl), List.forall_mem_cons.mpr ⟨in_t2 _ (List.mem_of_getElem? (i := 17) rfl), List.forall_mem_cons.mpr ⟨in_t2 _ (List.mem_of_getElem? (i := 30) rfl), List.forall_mem_cons.mpr ⟨in_t2 _ (List.mem_of_getElem? (i := 49) rfl), List.forall_mem_cons.mpr ⟨in_t2 _ (List.mem_of_getElem? (i := 54) rfl), List.forall_mem_cons.mpr ⟨in_t2 _ (List.mem_of_getElem? (i := 84) rfl), List.forall_mem_cons.mpr ⟨in_t2 _ (List.mem_of_getElem? (i := 96) rfl), List.forall_mem_cons.mpr ⟨in_t2 _ (List.mem_of_getElem? (i := 109) rfl), List.forall_mem_cons.mpr ⟨in_t2 _ (List.mem_of_getElem? (i := 121) rfl), List.forall_mem_cons.mpr ⟨in_t2 _ (List.mem_of_getElem? (i := 130) rfl), List.forall_mem_cons.mpr ⟨in_t2 _ (List.mem_of_getElem? (i := 152) rfl), List.forall_mem_cons.mpr ⟨in_t2 _ (List.mem_of_getElem? (i := 171) rfl), fun _ h => absurd h List.not_mem_nil⟩⟩⟩⟩⟩⟩⟩⟩⟩⟩⟩⟩⟩⟩⟩⟩⟩⟩⟩⟩⟩⟩⟩⟩⟩⟩⟩⟩
theorem zAOA_in : Cond.arrayOver (.array .int) ∈ lw_tbl := in_t1 _ (List.mem_of_getElem? (i := 64) rfl)
end
section
/-! ===== base: numbers, rows of numbers, worlds, contracts ===== -/
def bI (b : Bool) : Int32 := nI (cond b 1 0)
theorem bI_t : bI true = nI 1 := rfl
theorem bI_f : bI false = nI 0 := rfl
theorem bI_eq0 {b : Bool} : bI b = 0 ↔ b = false := by cases b <;> decide
theorem bI_of {b : Bool} {c : Prop} [Decidable c] (h : b = decide c) : bI b = nI (if c then 1 else 0) := by subst h; by_cases h : c <;> simp [bI, h]
/-- x is one of 0 .. n-1 -/
def inR (x : Int32) (n : Nat) : Bool := decide (0 ≤ x.toInt ∧ x.toInt < n)
theorem inR_nI {k n : Nat} (hk : k < 2 ^ 31) : inR (nI k) n = decide (k < n) := by
  unfold inR
  rw [nI_toInt hk]
  simp
theorem inR_get {x : Int32} {n : Nat} (h : inR x n = true) (hn : n < 2 ^ 31) : ∃ k : Nat, k < n ∧ x = nI k := by
  unfold inR at h
  have h := of_decide_eq_true h
  exact vp_in_of (vp_in_iff.mpr h) hn
theorem inR_neg {x : Int32} {n : Nat} (h : x < 0) : inR x n = false := by
  unfold inR
  rw [Int32.lt_iff_toInt_lt, Int32.toInt_zero] at h
  simp; omega
theorem inR_ge {x : Int32} {n : Nat} (hn : n < 2 ^ 31) (h : nI n ≤ x) : inR x n = false := by
  unfold inR
  rw [Int32.le_iff_toInt_le, nI_toInt hn] at h
  simp; omega
theorem inR_in {x : Int32} {n : Nat} (hn : n < 2 ^ 31) (h0 : ¬ x < 0) (h : ¬ nI n ≤ x) : inR x n = true := by
  unfold inR
  rw [Int32.le_iff_toInt_le, nI_toInt hn] at h
  rw [Int32.lt_iff_toInt_lt, Int32.toInt_zero] at h0
  simp; omega
/-- in(v, 0, b) -/
theorem inR_le {x : Int32} {n : Nat} (hn : n < 2 ^ 31) : decide ((nI 0) ≤ x ∧ x ≤ nI n) = inR x (n + 1) := by
  unfold inR
  refine decide_eq_decide.mpr ?_
  rw [Int32.le_iff_toInt_le, Int32.le_iff_toInt_le, nI_toInt hn, nI_toInt (by omega)]
  omega
theorem inR_pred {x : Int32} {n : Nat} (hn : n < 2 ^ 30) : decide ((nI 0) ≤ x ∧ x ≤ nI n - nI 1) = inR x n := by
  unfold inR
  refine decide_eq_decide.mpr ?_
  rw [Int32.le_iff_toInt_le, Int32.le_iff_toInt_le, pk_sub_toInt (by omega) (by omega), nI_toInt (by omega)]
  omega
/-- rows of numbers -/
def nA (F : Nat → Nat) : Nat → Int32 := fun j => nI (F j)
def updN (F : Nat → Nat) (k v : Nat) : Nat → Nat := fun j => if j = k then v else F j
theorem updN_eq (F : Nat → Nat) (k v : Nat) : updN F k v k = v := if_pos rfl
theorem updN_ne (F : Nat → Nat) {k j : Nat} (v : Nat) (h : j ≠ k) : updN F k v j = F j := if_neg h
theorem nA_upd (F : Nat → Nat) (k v : Nat) : upd (nA F) k (nI v) = nA (updN F k v) := by
  funext j
  simp only [upd, nA, updN]
  split <;> rfl
def cpyN (F G : Nat → Nat) (sp dp n : Nat) : Nat → Nat := fun j => if dp ≤ j ∧ j < dp + n then F (sp + (j - dp)) else G j
theorem nA_cpy (F G : Nat → Nat) (sp dp n : Nat) : va_cpy (nA F) (nA G) sp dp n = nA (cpyN F G sp dp n) := by
  funext j
  simp only [va_cpy, nA, cpyN]
  split <;> rfl
/-- the classes' numbers, and those of the arrays' classes -/
abbrev ZE : Type := va_G × ClassId × ClassId × ClassId
abbrev ZT (E : ZE) : List (ClassId × FieldType) := [(E.2.1, .int), (E.2.2.1, .boolean), (E.2.2.2, .array .int)]
abbrev ia (E : ZE) (n : Nat) (f : Nat → Int32) : va_E := .inl (E.2.1, n, .inl f)
abbrev ba (E : ZE) (n : Nat) (f : Nat → Int32) : va_E := .inl (E.2.2.1, n, .inl f)
def two (a b : Nat) : Nat → Option Nat := fun i => if i = 0 then some a else if i = 1 then some b else none
abbrev ra (E : ZE) (a b : Nat) : va_E := .inl (E.2.2.2, 2, .inr (.inr (.inr (.inr (two a b)))))
abbrev ob (ci : Nat) (fs : List Value) : va_E := .inr (ci, fs)
theorem zAOA.spec {U : State} (h : zAOA U) : ∃ comp c k, U.vm.findClass (FieldType.array .int).toString = some comp ∧ (U.vm.classes.findIdx? fun x => match x.kind with | .array component _ => component == comp | _ => false) = some c ∧ U.vm.classes[c]? = some k ∧ k.kind = .array comp (.array .int) ∧
      U.vm.findClass ("[" ++ (FieldType.array .int).toString) = some c := by
  unfold zAOA at h
  simp only [Cond.before, Cond.holds, Cond.value, beq_iff_eq] at h
  cases hc : U.vm.findClass (FieldType.array .int).toString with
  | none => simp [hc] at h
  | some comp =>
    simp only [hc, Option.bind_some, Option.bind_eq_some_iff, Option.map_eq_some_iff] at h
    obtain ⟨c, hi, k, hk, hb⟩ := h
    obtain ⟨hlt, hp, -⟩ := Array.findIdx?_eq_some_iff_getElem.mp hi
    have hkk : U.vm.classes[c] = k := (Array.getElem?_eq_some_iff.mp hk).2
    rw [hkk] at hp
    cases hkind : k.kind with
    | array component ty =>
      rw [hkind] at hb hp
      simp at hb hp
      exact ⟨comp, c, k, rfl, hi, hk, by rw [hkind, hp, hb.1], hb.2⟩
    | _ => rw [hkind] at hb; simp at hb
theorem zAOA.moved {u U : State} (hvm : u.vm.Alike U.vm) (h : zAOA u) : zAOA U := by
  obtain ⟨comp, c, k, h1, h2, h3, h4, h5⟩ := h.spec
  obtain ⟨k', hk', he⟩ := hvm.2.2 _ _ h3
  have hi : (U.vm.classes.findIdx? fun (x : Class) => match x.kind with | .array component _ => component == comp | _ => false) = some c := by
    have e1 := va_idx_bare U.vm comp
    have e2 := va_idx_bare u.vm comp
    refine e1.symm.trans ?_
    first | rw [hvm.bare_eq] | rw [← hvm.bare_eq]
    exact e2.trans h2
  have hkind : k'.kind = .array comp (.array .int) := by rw [he]; exact h4
  have f1 : U.vm.findClass (FieldType.array .int).toString = some comp := by rw [hvm.findClass]; exact h1
  have f2 : U.vm.findClass ("[" ++ (FieldType.array .int).toString) = some c := by rw [hvm.findClass]; exact h5
  unfold zAOA Cond.before Cond.holds
  simp only [Cond.value]
  rw [f1, Option.bind_some]
  refine (congrArg (fun o : Option Nat => (o.bind (fun c => (U.vm.classes[c]?).map fun (k : Class) => match k.kind with | .array _ ty => decide (ty = FieldType.array .int) && decide (U.vm.findClass ("[" ++ (FieldType.array .int).toString) = some c) | _ => false) == some true)) hi).trans ?_
  simp [hk', hkind, f2]
theorem NW.warm {s U : State} (hW : s.WarmedH U.vm) (h : NW s) : NW U :=
  ⟨fun q hq => va_Nw.warmF hW (h.1 q hq), fun q hq => va_Nw.warmM hW (h.2.1 q hq), zAOA.moved hW.alike h.2.2⟩
theorem NW.call {U : State} {g : JFrame} {mk : MethodId} {a : Array Value} (h : NW U) : NW (U.calling g mk a) :=
  ⟨fun q hq => va_Nw.same rfl rfl (h.1 q hq), fun q hq => va_Nw.same rfl rfl (h.2.1 q hq), zAOA.moved (Vm.Alike.refl U.vm) h.2.2⟩
/-- what a walk always has at hand -/
def Cx (p : Program) (s : State) (m : MethodId) (args : Array Value) (meth : Method) (c : Code) (cc : ByteArray) (nL : Nat) (own : String) (E : ZE) (A : Nat → Prop) : Prop :=
  p.tables.exec = Jvm.exec ∧ c.code = cc ∧ c.maxLocals = nL ∧ s.vm.findClass own = some m.cls ∧ (∀ w ∈ wsL_law, w.before args s = true) ∧ va_K E.1 vwCl (ZT E) s ∧ NW s ∧ (∀ q, s.heap.size ≤ q → A q) ∧ meth.locks = false
def ZW (E : ZE) (A : Nat → Prop) (s : State) (w : va_W) (H : Heap) (locs : List Loc) : Prop := va_P E.1 vwCl w H ∧ va_D A w ∧ va_S A s.heap H locs
def ZP (E : ZE) (av : List Value) (w : va_W) (sz : Nat) : Array Value → State → Prop := va_Pc av (fun U => U.heap.size = sz ∧ va_P E.1 vwCl w U.heap ∧ va_K E.1 vwCl (ZT E) U ∧ va_D (fun _ => True) w ∧ NW U)
def ZB {S : Type} (E : ZE) (w : va_W) (sz : Nat) (W1 : S → va_W) : S → State → Prop := fun u t => va_P E.1 vwCl (W1 u) t.heap ∧ va_K E.1 vwCl (ZT E) t ∧ va_D (va_A w sz) (W1 u)
/-- a contract: int answer, or none -/
def ZMi (l : Launch) (y : MethodName) (b : ByteArray) (mL : Nat) (rt : Option FieldType) (rm : Room) (E : ZE) (av : List Value) (w : va_W) {S : Type} (post : Int32 → S → Prop) (W1 : S → va_W) : Prop :=
  ∀ sz, Met l y (Cond.code y b mL rt :: wsL_law) rm (ZP E av w sz) (va_Qi post (ZB E w sz W1) (va_A w sz)) rm.cells rm.slots (va_A w sz)
def ZMv (l : Launch) (y : MethodName) (b : ByteArray) (mL : Nat) (rm : Room) (E : ZE) (av : List Value) (w : va_W) {S : Type} (post : S → Prop) (W1 : S → va_W) : Prop :=
  ∀ sz, Met l y (Cond.code y b mL none :: wsL_law) rm (ZP E av w sz) (va_Qv post (ZB E w sz W1) (va_A w sz)) rm.cells rm.slots (va_A w sz)
theorem ZP.blind {E : ZE} {av : List Value} {w : va_W} {sz : Nat} : FrameBlind (ZP E av w sz) := by
  intro a U g mk q
  obtain ⟨q0, q1, q2, q3, q4, q5⟩ := q
  exact ⟨q0, q1, q2, va_K.moved (u := U) (U := U.calling g mk a) (Vm.Alike.refl U.vm) q3, q4, q5.call⟩
theorem wsL_good : GoodIn wsL_law wsL_law := fun w h => ⟨h, good_of_word (wsL_good1 w h)⟩
theorem gAll {y : MethodName} {b : ByteArray} {mL : Nat} {rt : Option FieldType} (h : Cond.code y b mL rt ∈ wsL_law) : GoodIn wsL_law (Cond.code y b mL rt :: wsL_law) := fun w hw => by
  rcases List.mem_cons.mp hw with rfl | hw
  · exact wsL_good _ h
  · exact wsL_good _ hw
end
section
/-! ===== rows over numbers, worlds and contracts ===== -/
section ZR
variable {p : Program} {l : Launch} {e : Env} {R : Room} {s : State} {m : MethodId} {args : Array Value} {below : List Frame} {meth : Method} {c : Code} {H : Heap} {locs : List Loc} {cells slots : Nat} {Q : State → Prop}
variable {cc : ByteArray} {pc nL : Nat} {ls : Array Slot} {rest : List Value} {own : String} {E : ZE} {A : Nat → Prop} {w : va_W} {a : Nat}
theorem z_narb (b : Bool) : vp_nar .boolean (bI b) = bI b := by cases b <;> decide
theorem z_iadd (hx : p.tables.exec = Jvm.exec) (hb : c.code = cc) {x y : Nat} (r : Nat) (hr : x + y = r) (hd : decode cc pc = .ok (.iadd, 1)) (k : W p l e R s m args below meth c H locs cells slots Q (F0 m (pc + 1) ls (.int (nI r) :: rest))) : W p l e R s m args below meth c H locs cells slots Q (F0 m pc ls (.int (nI y) :: .int (nI x) :: rest)) := by
  subst hr
  exact lv_iadd hx hb hd (by rw [nI_add]; exact k)
theorem z_isub (hx : p.tables.exec = Jvm.exec) (hb : c.code = cc) {x y : Nat} (r : Nat) (h : y ≤ x) (hr : x - y = r) (hd : decode cc pc = .ok (.isub, 1)) (k : W p l e R s m args below meth c H locs cells slots Q (F0 m (pc + 1) ls (.int (nI r) :: rest))) : W p l e R s m args below meth c H locs cells slots Q (F0 m pc ls (.int (nI y) :: .int (nI x) :: rest)) := by
  subst hr
  exact lv_isub hx hb hd (by rw [pk_sub h]; exact k)
theorem z_imul (hx : p.tables.exec = Jvm.exec) (hb : c.code = cc) {x y : Nat} (r : Nat) (hr : x * y = r) (hd : decode cc pc = .ok (.imul, 1)) (k : W p l e R s m args below meth c H locs cells slots Q (F0 m (pc + 1) ls (.int (nI r) :: rest))) : W p l e R s m args below meth c H locs cells slots Q (F0 m pc ls (.int (nI y) :: .int (nI x) :: rest)) := by
  subst hr
  exact lv_imul hx hb hd (by rw [pk_mul]; exact k)
theorem z_idiv (hx : p.tables.exec = Jvm.exec) (hb : c.code = cc) {x y : Nat} (r : Nat) (h1 : x < 2 ^ 31) (h0 : 0 < y) (h2 : y < 2 ^ 31) (hr : x / y = r) (hd : decode cc pc = .ok (.idiv, 1)) (k : W p l e R s m args below meth c H locs cells slots Q (F0 m (pc + 1) ls (.int (nI r) :: rest))) : W p l e R s m args below meth c H locs cells slots Q (F0 m pc ls (.int (nI y) :: .int (nI x) :: rest)) := by
  subst hr
  exact lv_idiv hx hb hd (nI_ne0 h0 h2) (by rw [pk_div h1 h0 h2]; exact k)
theorem z_irem (hx : p.tables.exec = Jvm.exec) (hb : c.code = cc) {x y : Nat} (r : Nat) (h1 : x < 2 ^ 31) (h0 : 0 < y) (h2 : y < 2 ^ 31) (hr : x % y = r) (hd : decode cc pc = .ok (.irem, 1)) (k : W p l e R s m args below meth c H locs cells slots Q (F0 m (pc + 1) ls (.int (nI r) :: rest))) : W p l e R s m args below meth c H locs cells slots Q (F0 m pc ls (.int (nI y) :: .int (nI x) :: rest)) := by
  subst hr
  exact lv_irem hx hb hd (nI_ne0 h0 h2) (by rw [pk_rem h1 h0 h2]; exact k)
theorem z_icmp_eq (hx : p.tables.exec = Jvm.exec) (hb : c.code = cc) {x y : Nat} (h1 : x < 2 ^ 31) (h2 : y < 2 ^ 31) {off : Int} (tgt : Nat) (hd : decode cc pc = .ok (.if_icmp .eq off, 3)) (ht : (pc : Int) + off = (tgt : Int)) (kt : x = y → W p l e R s m args below meth c H locs cells slots Q (F0 m tgt ls rest)) (kf : ¬ x = y → W p l e R s m args below meth c H locs cells slots Q (F0 m (pc + 3) ls rest)) : W p l e R s m args below meth c H locs cells slots Q (F0 m pc ls (.int (nI y) :: .int (nI x) :: rest)) := lv_icmp_eq hx hb hd ht (fun h => kt ((nI_eq h1 h2).mp h)) (fun h => kf ((not_congr (nI_eq h1 h2)).mp h))
theorem z_icmp_ne (hx : p.tables.exec = Jvm.exec) (hb : c.code = cc) {x y : Nat} (h1 : x < 2 ^ 31) (h2 : y < 2 ^ 31) {off : Int} (tgt : Nat) (hd : decode cc pc = .ok (.if_icmp .ne off, 3)) (ht : (pc : Int) + off = (tgt : Int)) (kt : ¬ x = y → W p l e R s m args below meth c H locs cells slots Q (F0 m tgt ls rest)) (kf : x = y → W p l e R s m args below meth c H locs cells slots Q (F0 m (pc + 3) ls rest)) : W p l e R s m args below meth c H locs cells slots Q (F0 m pc ls (.int (nI y) :: .int (nI x) :: rest)) := lv_icmp_ne hx hb hd ht (fun h => kt ((not_congr (nI_eq h1 h2)).mp h)) (fun h => kf ((nI_eq h1 h2).mp h))
theorem z_icmp_lt (hx : p.tables.exec = Jvm.exec) (hb : c.code = cc) {x y : Nat} (h1 : x < 2 ^ 31) (h2 : y < 2 ^ 31) {off : Int} (tgt : Nat) (hd : decode cc pc = .ok (.if_icmp .lt off, 3)) (ht : (pc : Int) + off = (tgt : Int)) (kt : x < y → W p l e R s m args below meth c H locs cells slots Q (F0 m tgt ls rest)) (kf : y ≤ x → W p l e R s m args below meth c H locs cells slots Q (F0 m (pc + 3) ls rest)) : W p l e R s m args below meth c H locs cells slots Q (F0 m pc ls (.int (nI y) :: .int (nI x) :: rest)) := lv_icmp_lt hx hb hd ht (fun h => kt ((nI_ltI h1 h2).mp h)) (fun h => kf (by have := (not_congr (nI_ltI h1 h2)).mp h; omega))
theorem z_icmp_ge (hx : p.tables.exec = Jvm.exec) (hb : c.code = cc) {x y : Nat} (h1 : x < 2 ^ 31) (h2 : y < 2 ^ 31) {off : Int} (tgt : Nat) (hd : decode cc pc = .ok (.if_icmp .ge off, 3)) (ht : (pc : Int) + off = (tgt : Int)) (kt : y ≤ x → W p l e R s m args below meth c H locs cells slots Q (F0 m tgt ls rest)) (kf : x < y → W p l e R s m args below meth c H locs cells slots Q (F0 m (pc + 3) ls rest)) : W p l e R s m args below meth c H locs cells slots Q (F0 m pc ls (.int (nI y) :: .int (nI x) :: rest)) := lv_icmp_ge hx hb hd ht (fun h => kt ((nI_leI h2 h1).mp h)) (fun h => kf (by have := (not_congr (nI_leI h2 h1)).mp h; omega))
theorem z_icmp_gt (hx : p.tables.exec = Jvm.exec) (hb : c.code = cc) {x y : Nat} (h1 : x < 2 ^ 31) (h2 : y < 2 ^ 31) {off : Int} (tgt : Nat) (hd : decode cc pc = .ok (.if_icmp .gt off, 3)) (ht : (pc : Int) + off = (tgt : Int)) (kt : y < x → W p l e R s m args below meth c H locs cells slots Q (F0 m tgt ls rest)) (kf : x ≤ y → W p l e R s m args below meth c H locs cells slots Q (F0 m (pc + 3) ls rest)) : W p l e R s m args below meth c H locs cells slots Q (F0 m pc ls (.int (nI y) :: .int (nI x) :: rest)) := lv_icmp_gt hx hb hd ht (fun h => kt ((nI_ltI h2 h1).mp h)) (fun h => kf (by have := (not_congr (nI_ltI h2 h1)).mp h; omega))
theorem z_icmp_le (hx : p.tables.exec = Jvm.exec) (hb : c.code = cc) {x y : Nat} (h1 : x < 2 ^ 31) (h2 : y < 2 ^ 31) {off : Int} (tgt : Nat) (hd : decode cc pc = .ok (.if_icmp .le off, 3)) (ht : (pc : Int) + off = (tgt : Int)) (kt : x ≤ y → W p l e R s m args below meth c H locs cells slots Q (F0 m tgt ls rest)) (kf : y < x → W p l e R s m args below meth c H locs cells slots Q (F0 m (pc + 3) ls rest)) : W p l e R s m args below meth c H locs cells slots Q (F0 m pc ls (.int (nI y) :: .int (nI x) :: rest)) := lv_icmp_le hx hb hd ht (fun h => kt ((nI_leI h1 h2).mp h)) (fun h => kf (by have := (not_congr (nI_leI h1 h2)).mp h; omega))
theorem z_if_eq (hx : p.tables.exec = Jvm.exec) (hb : c.code = cc) {x : Nat} (h1 : x < 2 ^ 31) {off : Int} (tgt : Nat) (hd : decode cc pc = .ok (.ifCond .eq off, 3)) (ht : (pc : Int) + off = (tgt : Int)) (kt : x = 0 → W p l e R s m args below meth c H locs cells slots Q (F0 m tgt ls rest)) (kf : 0 < x → W p l e R s m args below meth c H locs cells slots Q (F0 m (pc + 3) ls rest)) : W p l e R s m args below meth c H locs cells slots Q (F0 m pc ls (.int (nI x) :: rest)) := lv_if_eq hx hb hd ht (fun h => kt ((nI_eq h1 (by omega)).mp (h.trans nI_0.symm))) (fun h => kf (Nat.pos_of_ne_zero (fun q => h (by rw [q]; exact nI_0))))
theorem z_if_ne (hx : p.tables.exec = Jvm.exec) (hb : c.code = cc) {x : Nat} (h1 : x < 2 ^ 31) {off : Int} (tgt : Nat) (hd : decode cc pc = .ok (.ifCond .ne off, 3)) (ht : (pc : Int) + off = (tgt : Int)) (kt : 0 < x → W p l e R s m args below meth c H locs cells slots Q (F0 m tgt ls rest)) (kf : x = 0 → W p l e R s m args below meth c H locs cells slots Q (F0 m (pc + 3) ls rest)) : W p l e R s m args below meth c H locs cells slots Q (F0 m pc ls (.int (nI x) :: rest)) := lv_if_ne hx hb hd ht (fun h => kt (Nat.pos_of_ne_zero (fun q => h (by rw [q]; exact nI_0)))) (fun h => kf ((nI_eq h1 (by omega)).mp (h.trans nI_0.symm)))
theorem z_if_gt (hx : p.tables.exec = Jvm.exec) (hb : c.code = cc) {x : Nat} (h1 : x < 2 ^ 31) {off : Int} (tgt : Nat) (hd : decode cc pc = .ok (.ifCond .gt off, 3)) (ht : (pc : Int) + off = (tgt : Int)) (kt : 0 < x → W p l e R s m args below meth c H locs cells slots Q (F0 m tgt ls rest)) (kf : x = 0 → W p l e R s m args below meth c H locs cells slots Q (F0 m (pc + 3) ls rest)) : W p l e R s m args below meth c H locs cells slots Q (F0 m pc ls (.int (nI x) :: rest)) := lv_if_gt hx hb hd ht (fun h => kt ((nI_ltI (by omega) h1).mp (by rw [nI_0]; exact h))) (fun h => kf (Nat.eq_zero_of_not_pos (fun q => h (by rw [← nI_0]; exact nI_lt q h1))))
theorem z_if_le (hx : p.tables.exec = Jvm.exec) (hb : c.code = cc) {x : Nat} (h1 : x < 2 ^ 31) {off : Int} (tgt : Nat) (hd : decode cc pc = .ok (.ifCond .le off, 3)) (ht : (pc : Int) + off = (tgt : Int)) (kt : x = 0 → W p l e R s m args below meth c H locs cells slots Q (F0 m tgt ls rest)) (kf : 0 < x → W p l e R s m args below meth c H locs cells slots Q (F0 m (pc + 3) ls rest)) : W p l e R s m args below meth c H locs cells slots Q (F0 m pc ls (.int (nI x) :: rest)) := lv_if_le hx hb hd ht (fun h => kt (Nat.eq_zero_of_not_pos (fun q => nI_nle q h1 h))) (fun h => kf (Nat.pos_of_ne_zero (fun q => h (by rw [q, nI_0]; decide))))
theorem z_if_lt (hx : p.tables.exec = Jvm.exec) (hb : c.code = cc) {x : Nat} (h1 : x < 2 ^ 31) {off : Int} (tgt : Nat) (hd : decode cc pc = .ok (.ifCond .lt off, 3)) (ht : (pc : Int) + off = (tgt : Int)) (kf : W p l e R s m args below meth c H locs cells slots Q (F0 m (pc + 3) ls rest)) : W p l e R s m args below meth c H locs cells slots Q (F0 m pc ls (.int (nI x) :: rest)) := lv_if_lt hx hb hd ht (fun h => absurd h (nI_pos h1)) (fun _ => kf)
theorem z_if_ge (hx : p.tables.exec = Jvm.exec) (hb : c.code = cc) {x : Nat} (h1 : x < 2 ^ 31) {off : Int} (tgt : Nat) (hd : decode cc pc = .ok (.ifCond .ge off, 3)) (ht : (pc : Int) + off = (tgt : Int)) (kt : W p l e R s m args below meth c H locs cells slots Q (F0 m tgt ls rest)) : W p l e R s m args below meth c H locs cells slots Q (F0 m pc ls (.int (nI x) :: rest)) := lv_if_ge hx hb hd ht (fun _ => kt) (fun h => absurd (nI_pos' h1) h)
theorem z_ifb_eq (hx : p.tables.exec = Jvm.exec) (hb : c.code = cc) {b : Bool} {off : Int} (tgt : Nat) (hd : decode cc pc = .ok (.ifCond .eq off, 3)) (ht : (pc : Int) + off = (tgt : Int)) (kt : b = false → W p l e R s m args below meth c H locs cells slots Q (F0 m tgt ls rest)) (kf : b = true → W p l e R s m args below meth c H locs cells slots Q (F0 m (pc + 3) ls rest)) : W p l e R s m args below meth c H locs cells slots Q (F0 m pc ls (.int (bI b) :: rest)) := lv_if_eq hx hb hd ht (fun h => kt (bI_eq0.mp h)) (fun h => kf (by cases b; exact absurd (bI_eq0.mpr rfl) h; rfl))
theorem z_ifb_ne (hx : p.tables.exec = Jvm.exec) (hb : c.code = cc) {b : Bool} {off : Int} (tgt : Nat) (hd : decode cc pc = .ok (.ifCond .ne off, 3)) (ht : (pc : Int) + off = (tgt : Int)) (kt : b = true → W p l e R s m args below meth c H locs cells slots Q (F0 m tgt ls rest)) (kf : b = false → W p l e R s m args below meth c H locs cells slots Q (F0 m (pc + 3) ls rest)) : W p l e R s m args below meth c H locs cells slots Q (F0 m pc ls (.int (bI b) :: rest)) := lv_if_ne hx hb hd ht (fun h => kt (by cases b; exact absurd (bI_eq0.mpr rfl) h; rfl)) (fun h => kf (bI_eq0.mp h))
theorem z_get (cx : Cx p s m args meth c cc nL own E A) (hw : ZW E A s w H locs) (q0 k : Nat) {C : String} {T : u_T} {N ci index : Nat} {fs : List Value} {v : Value} (he : w[q0]? = some (a, .inr (ci, fs))) (hc : vwCl[ci]? = some (C, T, N)) (hin : ∀ x ∈ u_ws C T N, x ∈ wsL_law) (hk : k < N) (hl : Cond.fieldLink own index (T k).1 (T k).2.1 (T k).2.2.1 ∈ wsL_law) (hv : fs[k]? = some v) (hd : decode cc pc = .ok (.getfield index, 3)) (kk : W p l e R s m args below meth c H locs cells slots Q (F0 m (pc + 3) ls (v :: rest))) : W p l e R s m args below meth c H locs cells slots Q (F0 m pc ls (.ref a :: rest)) := by
  obtain ⟨hx, hb, hml, hown, hts, hK, hN, hA, hlk⟩ := cx
  exact va_get hx hb hts hin hown hK hw.1 q0 he hc k hk (hts _ hl) (fun _ h => h) hv hd kk
theorem z_getN (cx : Cx p s m args meth c cc nL own E A) (hw : ZW E A s w H locs) (q0 k : Nat) {C host : String} {T : u_T} {N ci index : Nat} {fs : List Value} {v : Value} (he : w[q0]? = some (a, .inr (ci, fs))) (hc : vwCl[ci]? = some (C, T, N)) (hin : ∀ x ∈ u_ws C T N, x ∈ wsL_law) (hk : k < N) (hl : va_Nw (.fieldLinkNest own index (T k).1 (T k).2.1 (T k).2.2.1 host) s) (hv : fs[k]? = some v) (hd : decode cc pc = .ok (.getfield index, 3)) (kk : W p l e R s m args below meth c H locs cells slots Q (F0 m (pc + 3) ls (v :: rest))) : W p l e R s m args below meth c H locs cells slots Q (F0 m pc ls (.ref a :: rest)) := by
  obtain ⟨hx, hb, hml, hown, hts, hK, hN, hA, hlk⟩ := cx
  exact va_getN hx hb hts hin hown hK hw.1 q0 he hc k hk (va_Nw.use rfl hl) (fun _ h => h) hv hd kk
theorem z_put (cx : Cx p s m args meth c cc nL own E A) (hw : ZW E A s w H locs) (q0 k : Nat) {C : String} {T : u_T} {N ci index : Nat} {fs : List Value} {v : Value} (he : w[q0]? = some (a, .inr (ci, fs))) (hc : vwCl[ci]? = some (C, T, N)) (hin : ∀ x ∈ u_ws C T N, x ∈ wsL_law) {ty0 : Nat → FieldType} (hty : ∀ k, k < N → parseFieldDescriptor (T k).2.2.1 = some (ty0 k)) (hnm : ∀ a, a < N → ∀ b, b < N → a ≠ b → (T a).2.1 ≠ (T b).2.1) (hk : k < N) (hl : Cond.fieldLink own index (T k).1 (T k).2.1 (T k).2.2.1 ∈ wsL_law) (hfin : (T k).2.2.2 = false) (hn : narrow (ty0 k) v = v) (hfit : fits (ty0 k) v = true) (hlen : k < fs.length) (hd : decode cc pc = .ok (.putfield index, 3)) (kk : ∀ (H1 : Heap) (locs1 : List Loc), ZW E A s (w.set q0 (a, .inr (ci, fs.set k v))) H1 locs1 → W p l e R s m args below meth c H1 locs1 cells slots Q (F0 m (pc + 3) ls rest)) : W p l e R s m args below meth c H locs cells slots Q (F0 m pc ls (v :: .ref a :: rest)) := by
  obtain ⟨hx, hb, hml, hown, hts, hK, hN, hA, hlk⟩ := cx
  exact va_put hx hb hts hin ty0 hty hnm hown hK hw.1 hw.2.1 hw.2.2 q0 he hc k hk (hts _ hl) (fun _ h => h) hfin (hty k hk) hn hfit hlen hd (fun H1 locs1 h1 h2 h3 => kk H1 locs1 ⟨h1, h2, h3⟩)
theorem z_putN (cx : Cx p s m args meth c cc nL own E A) (hw : ZW E A s w H locs) (q0 k : Nat) {C : String} {T : u_T} {N ci index : Nat} {fs : List Value} {v : Value} (he : w[q0]? = some (a, .inr (ci, fs))) (hc : vwCl[ci]? = some (C, T, N)) (hin : ∀ x ∈ u_ws C T N, x ∈ wsL_law) {ty0 : Nat → FieldType} (hty : ∀ k, k < N → parseFieldDescriptor (T k).2.2.1 = some (ty0 k)) (hnm : ∀ a, a < N → ∀ b, b < N → a ≠ b → (T a).2.1 ≠ (T b).2.1) (hk : k < N) {host : String} (hl : va_Nw (.fieldLinkNest own index (T k).1 (T k).2.1 (T k).2.2.1 host) s) (hfin : (T k).2.2.2 = false) (hn : narrow (ty0 k) v = v) (hfit : fits (ty0 k) v = true) (hlen : k < fs.length) (hd : decode cc pc = .ok (.putfield index, 3)) (kk : ∀ (H1 : Heap) (locs1 : List Loc), ZW E A s (w.set q0 (a, .inr (ci, fs.set k v))) H1 locs1 → W p l e R s m args below meth c H1 locs1 cells slots Q (F0 m (pc + 3) ls rest)) : W p l e R s m args below meth c H locs cells slots Q (F0 m pc ls (v :: .ref a :: rest)) := by
  obtain ⟨hx, hb, hml, hown, hts, hK, hN, hA, hlk⟩ := cx
  exact va_putN hx hb hts hin ty0 hty hnm hown hK hw.1 hw.2.1 hw.2.2 q0 he hc k hk (va_Nw.use rfl hl) (fun _ h => h) hfin (hty k hk) hn hfit hlen hd (fun H1 locs1 h1 h2 h3 => kk H1 locs1 ⟨h1, h2, h3⟩)
theorem z_putF (cx : Cx p s m args meth c cc nL own E A) (hw : ZW E A s w H locs) (q0 k : Nat) {C : String} {T : u_T} {N ci index : Nat} {fs : List Value} {v : Value} (he : w[q0]? = some (a, .inr (ci, fs))) (hc : vwCl[ci]? = some (C, T, N)) (hin : ∀ x ∈ u_ws C T N, x ∈ wsL_law) {ty0 : Nat → FieldType} (hty : ∀ k, k < N → parseFieldDescriptor (T k).2.2.1 = some (ty0 k)) (hnm : ∀ a, a < N → ∀ b, b < N → a ≠ b → (T a).2.1 ≠ (T b).2.1) (hk : k < N) (hl : Cond.fieldLink own index (T k).1 (T k).2.1 (T k).2.2.1 ∈ wsL_law) (hfin : (T k).2.2.2 = true) (hin2 : meth.name = "<init>") (hdecl : (T k).1 = own) (hn : narrow (ty0 k) v = v) (hfit : fits (ty0 k) v = true) (hlen : k < fs.length) (hd : decode cc pc = .ok (.putfield index, 3)) (kk : ∀ (H1 : Heap) (locs1 : List Loc), ZW E A s (w.set q0 (a, .inr (ci, fs.set k v))) H1 locs1 → W p l e R s m args below meth c H1 locs1 cells slots Q (F0 m (pc + 3) ls rest)) : W p l e R s m args below meth c H locs cells slots Q (F0 m pc ls (v :: .ref a :: rest)) := by
  obtain ⟨hx, hb, hml, hown, hts, hK, hN, hA, hlk⟩ := cx
  exact va_putF hx hb hts hin ty0 hty hnm hown hK hw.1 hw.2.1 hw.2.2 q0 he hc k hk (hts _ hl) (fun _ h => h) hfin hin2 hdecl (hty k hk) hn hfit hlen hd (fun H1 locs1 h1 h2 h3 => kk H1 locs1 ⟨h1, h2, h3⟩)
theorem z_ald (cx : Cx p s m args meth c cc nL own E A) (hw : ZW E A s w H locs) (q0 : Nat) {n : Nat} {f : Nat → Int32} (he : w[q0]? = some (a, ia E n f)) (i : Nat) {x : Int32} (hxi : x = nI i) (hi : i < n) (hn : n < 2 ^ 31) (hd : decode cc pc = .ok (.iaload, 1)) (kk : W p l e R s m args below meth c H locs cells slots Q (F0 m (pc + 1) ls (.int (f i) :: rest))) : W p l e R s m args below meth c H locs cells slots Q (F0 m pc ls (.int x :: .ref a :: rest)) := by
  obtain ⟨hx, hb, hml, hown, hts, hK, hN, hA, hlk⟩ := cx
  subst hxi
  exact va_iald hx hb hK hw.1 q0 0 he rfl (vp_in_nI hi hn) hd (by rw [nI_clamp (Nat.lt_trans hi hn)]; exact kk)
theorem z_aldN (cx : Cx p s m args meth c cc nL own E A) (hw : ZW E A s w H locs) (q0 : Nat) {n : Nat} {F : Nat → Nat} (he : w[q0]? = some (a, ia E n (nA F))) (i : Nat) {x : Int32} (hxi : x = nI i) (hi : i < n) (hn : n < 2 ^ 31) (hd : decode cc pc = .ok (.iaload, 1)) (kk : W p l e R s m args below meth c H locs cells slots Q (F0 m (pc + 1) ls (.int (nI (F i)) :: rest))) : W p l e R s m args below meth c H locs cells slots Q (F0 m pc ls (.int x :: .ref a :: rest)) := by
  obtain ⟨hx, hb, hml, hown, hts, hK, hN, hA, hlk⟩ := cx
  subst hxi
  exact va_iald hx hb hK hw.1 q0 0 he rfl (vp_in_nI hi hn) hd (by rw [nI_clamp (Nat.lt_trans hi hn)]; exact kk)
theorem z_zald (cx : Cx p s m args meth c cc nL own E A) (hw : ZW E A s w H locs) (q0 : Nat) {n : Nat} {f : Nat → Int32} (he : w[q0]? = some (a, ba E n f)) (i : Nat) {x : Int32} (hxi : x = nI i) (hi : i < n) (hn : n < 2 ^ 31) (hd : decode cc pc = .ok (.baload, 1)) (kk : W p l e R s m args below meth c H locs cells slots Q (F0 m (pc + 1) ls (.int (f i) :: rest))) : W p l e R s m args below meth c H locs cells slots Q (F0 m pc ls (.int x :: .ref a :: rest)) := by
  obtain ⟨hx, hb, hml, hown, hts, hK, hN, hA, hlk⟩ := cx
  subst hxi
  exact va_zald hx hb hK hw.1 q0 1 he rfl (vp_in_nI hi hn) hd (by rw [nI_clamp (Nat.lt_trans hi hn)]; exact kk)
theorem z_ast (cx : Cx p s m args meth c cc nL own E A) (hw : ZW E A s w H locs) (q0 : Nat) {n : Nat} {f : Nat → Int32} {v : Int32} (he : w[q0]? = some (a, ia E n f)) (i : Nat) {x : Int32} (hxi : x = nI i) (hi : i < n) (hn : n < 2 ^ 31) (hd : decode cc pc = .ok (.iastore, 1)) (kk : ∀ (H1 : Heap) (locs1 : List Loc), ZW E A s (w.set q0 (a, ia E n (upd f i v))) H1 locs1 → W p l e R s m args below meth c H1 locs1 cells slots Q (F0 m (pc + 1) ls rest)) : W p l e R s m args below meth c H locs cells slots Q (F0 m pc ls (.int (v) :: .int x :: .ref a :: rest)) := by
  obtain ⟨hx, hb, hml, hown, hts, hK, hN, hA, hlk⟩ := cx
  subst hxi
  refine va_iast hx hb hK hw.1 hw.2.1 hw.2.2 q0 0 he rfl (vp_in_nI hi hn) hd (fun H1 locs1 h1 h2 h3 => kk H1 locs1 ?_)
  rw [nI_clamp (Nat.lt_trans hi hn)] at h1 h2
  exact ⟨h1, h2, h3⟩
theorem z_astN (cx : Cx p s m args meth c cc nL own E A) (hw : ZW E A s w H locs) (q0 : Nat) {n : Nat} {F : Nat → Nat} {v : Nat} (he : w[q0]? = some (a, ia E n (nA F))) (i : Nat) {x : Int32} (hxi : x = nI i) (hi : i < n) (hn : n < 2 ^ 31) (hd : decode cc pc = .ok (.iastore, 1)) (kk : ∀ (H1 : Heap) (locs1 : List Loc), ZW E A s (w.set q0 (a, ia E n (nA (updN F i v)))) H1 locs1 → W p l e R s m args below meth c H1 locs1 cells slots Q (F0 m (pc + 1) ls rest)) : W p l e R s m args below meth c H locs cells slots Q (F0 m pc ls (.int (nI v) :: .int x :: .ref a :: rest)) := by
  obtain ⟨hx, hb, hml, hown, hts, hK, hN, hA, hlk⟩ := cx
  subst hxi
  refine va_iast hx hb hK hw.1 hw.2.1 hw.2.2 q0 0 he rfl (vp_in_nI hi hn) hd (fun H1 locs1 h1 h2 h3 => kk H1 locs1 ?_)
  rw [nI_clamp (Nat.lt_trans hi hn), nA_upd] at h1 h2
  exact ⟨h1, h2, h3⟩
theorem z_zast (cx : Cx p s m args meth c cc nL own E A) (hw : ZW E A s w H locs) (q0 : Nat) {n : Nat} {f : Nat → Int32} {b : Bool} (he : w[q0]? = some (a, ba E n f)) (i : Nat) {x : Int32} (hxi : x = nI i) (hi : i < n) (hn : n < 2 ^ 31) (hd : decode cc pc = .ok (.bastore, 1)) (kk : ∀ (H1 : Heap) (locs1 : List Loc), ZW E A s (w.set q0 (a, ba E n (upd f i (bI b)))) H1 locs1 → W p l e R s m args below meth c H1 locs1 cells slots Q (F0 m (pc + 1) ls rest)) : W p l e R s m args below meth c H locs cells slots Q (F0 m pc ls (.int (bI b) :: .int x :: .ref a :: rest)) := by
  obtain ⟨hx, hb, hml, hown, hts, hK, hN, hA, hlk⟩ := cx
  subst hxi
  refine va_zast hx hb hK hw.1 hw.2.1 hw.2.2 q0 1 he rfl (vp_in_nI hi hn) hd (fun H1 locs1 h1 h2 h3 => kk H1 locs1 ?_)
  rw [nI_clamp (Nat.lt_trans hi hn), z_narb] at h1 h2
  exact ⟨h1, h2, h3⟩
theorem z_alen (cx : Cx p s m args meth c cc nL own E A) (hw : ZW E A s w H locs) (q0 : Nat) {n : Nat} {f : Nat → Int32} (he : w[q0]? = some (a, ia E n f)) (hd : decode cc pc = .ok (.arraylength, 1)) (kk : W p l e R s m args below meth c H locs cells slots Q (F0 m (pc + 1) ls (.int (nI n) :: rest))) : W p l e R s m args below meth c H locs cells slots Q (F0 m pc ls (.ref a :: rest)) := by
  obtain ⟨hx, hb, hml, hown, hts, hK, hN, hA, hlk⟩ := cx
  exact va_alen hx hb hK hw.1 q0 0 he rfl rfl hd kk
theorem z_aald0 (cx : Cx p s m args meth c cc nL own E A) (hw : ZW E A s w H locs) (q0 : Nat) {a0 a1 : Nat} (he : w[q0]? = some (a, ra E a0 a1)) (hd : decode cc pc = .ok (.aaload, 1)) (kk : W p l e R s m args below meth c H locs cells slots Q (F0 m (pc + 1) ls (.ref a0 :: rest))) : W p l e R s m args below meth c H locs cells slots Q (F0 m pc ls (.int (nI 0) :: .ref a :: rest)) := by
  obtain ⟨hx, hb, hml, hown, hts, hK, hN, hA, hlk⟩ := cx
  exact W.aald (v := .ref a0) (ty := .array .int) hx hb (hw.1 q0 _ he) ((hK.2 2 _ rfl).1 2 (fun j => va_rf (two a0 a1 j))) rfl (fun q => by cases q) (by show ¬ (nI 0 < 0 ∨ (arrV _ _ _).slots.size ≤ _); rw [arrV_size]; exact (by decide : ¬ (nI 0 < 0 ∨ 2 ≤ (nI 0).toNatClampNeg))) (by show (arrV _ _ _).slots[_]? = _; rw [show (nI 0).toNatClampNeg = 0 from rfl, arrV_read _ _ (show 0 < 2 by decide)]; rfl) rfl rfl hd kk
theorem z_aald1 (cx : Cx p s m args meth c cc nL own E A) (hw : ZW E A s w H locs) (q0 : Nat) {a0 a1 : Nat} (he : w[q0]? = some (a, ra E a0 a1)) (hd : decode cc pc = .ok (.aaload, 1)) (kk : W p l e R s m args below meth c H locs cells slots Q (F0 m (pc + 1) ls (.ref a1 :: rest))) : W p l e R s m args below meth c H locs cells slots Q (F0 m pc ls (.int (nI 1) :: .ref a :: rest)) := by
  obtain ⟨hx, hb, hml, hown, hts, hK, hN, hA, hlk⟩ := cx
  exact W.aald (v := .ref a1) (ty := .array .int) hx hb (hw.1 q0 _ he) ((hK.2 2 _ rfl).1 2 (fun j => va_rf (two a0 a1 j))) rfl (fun q => by cases q) (by show ¬ (nI 1 < 0 ∨ (arrV _ _ _).slots.size ≤ _); rw [arrV_size]; exact (by decide : ¬ (nI 1 < 0 ∨ 2 ≤ (nI 1).toNatClampNeg))) (by show (arrV _ _ _).slots[_]? = _; rw [show (nI 1).toNatClampNeg = 1 from rfl, arrV_read _ _ (show 1 < 2 by decide)]; rfl) rfl rfl hd kk
end ZR
end
section
/-! ===== entries, calls ===== -/
theorem lv_argsE (av : List Value) {n : Nat} (h : (lg_sl av).length ≤ n) : ∃ ls : Array Slot, lv_has ls n (lv_args 0 av) ∧ ∀ m : MethodId, entryFrame m av.toArray n = F0 m 0 ls [] := ⟨_, lv_entry av h, fun m => lg_entry_eq m av n⟩
theorem z_mi {l : Launch} {y : MethodName} {b : ByteArray} {mL : Nat} {rm : Room} {E : ZE} {av : List Value} {w : va_W} {S : Type} {post : Int32 → S → Prop} {W1 : S → va_W} (hy : plainName y.cls = true) (hml : (lg_sl av).length ≤ mL)
    (body : ∀ (p : Program) (e : Env) (s : State) (m : MethodId) (args : Array Value) (below : List Frame) (meth : Method) (c : Code) (A : Nat → Prop) (Q : State → Prop) (ls : Array Slot), Cx p s m args meth c b mL y.cls E A → meth.name = y.name → ZW E A s w s.heap [] → lv_has ls mL (lv_args 0 av) →
      (∀ (v : Int32) (u : S) (pc : Nat) (ls : Array Slot) (H : Heap) (locs : List Loc), decode b pc = .ok (.ireturn, 1) → post v u → ZW E A s (W1 u) H locs → W p l e rm s m args below meth c H locs rm.cells rm.slots Q (F0 m pc ls [.int v])) →
      W p l e rm s m args below meth c s.heap [] 0 0 Q (F0 m 0 ls [])) : ZMi l y b mL (some .int) rm E av w post W1 := by
  intro sz
  refine Met.ofW (cc := b) (maxL := mL) (ret := some .int) hy rfl ?_
  intro p e s m args below meth c s₁ B hml' hv
  obtain ⟨rfl, hsz, hP, hK, hD0, hN⟩ := hv
  subst hsz
  have hts := atoms_spec (ws := Cond.code y b mL (some .int) :: wsL_law) B.pre
  have hlocks := B.notSynchronized
  obtain ⟨ls, hl, hE⟩ := lv_argsE av hml
  rw [hE m]
  exact body p e s m av.toArray below meth c (va_A w s.heap.size) _ ls ⟨B.exec, B.bytes, hml', findClass_of_methodNamed B.named, fun x hx => hts x (List.mem_cons_of_mem _ hx), hK, hN, fun q h => Or.inr h, hlocks⟩ (name_of_methodNamed B.named B.method).1 ⟨hP, hD0.self, va_S.rf⟩ hl
    (fun v u pc ls H locs hd hp hw => W.iret B.exec B.bytes B.returns (fun t ht hW => ⟨⟨_, u, rfl, hp, by rw [ht]; exact hw.1, va_K.moved hW.alike hK, hw.2.1⟩, hw.2.2.F ht⟩) hw.2.2.2.2 hd)
theorem z_mz {l : Launch} {y : MethodName} {b : ByteArray} {mL : Nat} {rm : Room} {E : ZE} {av : List Value} {w : va_W} {S : Type} {post : Int32 → S → Prop} {W1 : S → va_W} (hy : plainName y.cls = true) (hml : (lg_sl av).length ≤ mL)
    (body : ∀ (p : Program) (e : Env) (s : State) (m : MethodId) (args : Array Value) (below : List Frame) (meth : Method) (c : Code) (A : Nat → Prop) (Q : State → Prop) (ls : Array Slot), Cx p s m args meth c b mL y.cls E A → meth.name = y.name → ZW E A s w s.heap [] → lv_has ls mL (lv_args 0 av) →
      (∀ (v : Bool) (u : S) (pc : Nat) (ls : Array Slot) (H : Heap) (locs : List Loc), decode b pc = .ok (.ireturn, 1) → post (bI v) u → ZW E A s (W1 u) H locs → W p l e rm s m args below meth c H locs rm.cells rm.slots Q (F0 m pc ls [.int (bI v)])) →
      W p l e rm s m args below meth c s.heap [] 0 0 Q (F0 m 0 ls [])) : ZMi l y b mL (some .boolean) rm E av w post W1 := by
  intro sz
  refine Met.ofW (cc := b) (maxL := mL) (ret := some .boolean) hy rfl ?_
  intro p e s m args below meth c s₁ B hml' hv
  obtain ⟨rfl, hsz, hP, hK, hD0, hN⟩ := hv
  subst hsz
  have hts := atoms_spec (ws := Cond.code y b mL (some .boolean) :: wsL_law) B.pre
  have hlocks := B.notSynchronized
  obtain ⟨ls, hl, hE⟩ := lv_argsE av hml
  rw [hE m]
  exact body p e s m av.toArray below meth c (va_A w s.heap.size) _ ls ⟨B.exec, B.bytes, hml', findClass_of_methodNamed B.named, fun x hx => hts x (List.mem_cons_of_mem _ hx), hK, hN, fun q h => Or.inr h, hlocks⟩ (name_of_methodNamed B.named B.method).1 ⟨hP, hD0.self, va_S.rf⟩ hl
    (fun v u pc ls H locs hd hp hw => W.zret B.exec B.bytes B.returns (by cases v <;> rfl) (fun t ht hW => ⟨⟨_, u, rfl, hp, by rw [ht]; exact hw.1, va_K.moved hW.alike hK, hw.2.1⟩, hw.2.2.F ht⟩) hw.2.2.2.2 hd)
theorem z_mv {l : Launch} {y : MethodName} {b : ByteArray} {mL : Nat} {rm : Room} {E : ZE} {av : List Value} {w : va_W} {S : Type} {post : S → Prop} {W1 : S → va_W} (hy : plainName y.cls = true) (hml : (lg_sl av).length ≤ mL)
    (body : ∀ (p : Program) (e : Env) (s : State) (m : MethodId) (args : Array Value) (below : List Frame) (meth : Method) (c : Code) (A : Nat → Prop) (Q : State → Prop) (ls : Array Slot), Cx p s m args meth c b mL y.cls E A → meth.name = y.name → ZW E A s w s.heap [] → lv_has ls mL (lv_args 0 av) →
      (∀ (u : S) (pc : Nat) (ls : Array Slot) (H : Heap) (locs : List Loc), decode b pc = .ok (.return_, 1) → post u → ZW E A s (W1 u) H locs → W p l e rm s m args below meth c H locs rm.cells rm.slots Q (F0 m pc ls [])) →
      W p l e rm s m args below meth c s.heap [] 0 0 Q (F0 m 0 ls [])) : ZMv l y b mL rm E av w post W1 := by
  intro sz
  refine Met.ofW (cc := b) (maxL := mL) (ret := none) hy rfl ?_
  intro p e s m args below meth c s₁ B hml' hv
  obtain ⟨rfl, hsz, hP, hK, hD0, hN⟩ := hv
  subst hsz
  have hts := atoms_spec (ws := Cond.code y b mL (none) :: wsL_law) B.pre
  have hlocks := B.notSynchronized
  obtain ⟨ls, hl, hE⟩ := lv_argsE av hml
  rw [hE m]
  exact body p e s m av.toArray below meth c (va_A w s.heap.size) _ ls ⟨B.exec, B.bytes, hml', findClass_of_methodNamed B.named, fun x hx => hts x (List.mem_cons_of_mem _ hx), hK, hN, fun q h => Or.inr h, hlocks⟩ (name_of_methodNamed B.named B.method).1 ⟨hP, hD0.self, va_S.rf⟩ hl
    (fun u pc ls H locs hd hp hw => W.vret B.exec B.bytes B.returns (fun t ht hW => ⟨⟨u, rfl, hp, by rw [ht]; exact hw.1, va_K.moved hW.alike hK, hw.2.1⟩, hw.2.2.F ht⟩) hw.2.2.2.2 hd)
section ZC
variable {p : Program} {l : Launch} {e : Env} {R : Room} {s : State} {m : MethodId} {args : Array Value} {below : List Frame} {meth : Method} {c : Code} {H : Heap} {locs : List Loc} {cells slots : Nat} {Q : State → Prop}
variable {cc : ByteArray} {pc nL : Nat} {ls : Array Slot} {rest : List Value} {own : String} {E : ZE} {A : Nat → Prop} {w : va_W} {a : Nat}
variable {y : MethodName} {b : ByteArray} {mL index : Nat} {rt : Option FieldType} {rm : Room} {wc wr : va_W} {As st0 : List Value} {Qc : Array Value → State → Outcome → State → Prop} {free : Addr → Prop}
/-- what the tables say of a method that is called -/
def MFv (y : MethodName) (b : ByteArray) (mL : Nat) (rt : Option FieldType) (C : String) (n : Nat) : Prop := Cond.code y b mL rt ∈ wsL_law ∧ Cond.initialized y.cls ∈ wsL_law ∧ (y.cls ≠ "java/lang/invoke/MethodHandle" ∧ y.cls ≠ "java/lang/invoke/VarHandle" ∧ (parseMethodDescriptor y.desc).map (fun d => d.parameters.length) = some n) ∧ Cond.instanceMethod y ∈ wsL_law ∧ Cond.selects C y y ∈ wsL_law
def MFs (y : MethodName) (b : ByteArray) (mL : Nat) (rt : Option FieldType) (n : Nat) : Prop := Cond.code y b mL rt ∈ wsL_law ∧ Cond.initialized y.cls ∈ wsL_law ∧ (y.cls ≠ "java/lang/invoke/MethodHandle" ∧ y.cls ≠ "java/lang/invoke/VarHandle" ∧ (parseMethodDescriptor y.desc).map (fun d => d.parameters.length) = some n) ∧ Cond.static y ∈ wsL_law
def MFi (y : MethodName) (b : ByteArray) (mL : Nat) (n : Nat) : Prop := Cond.code y b mL none ∈ wsL_law ∧ Cond.initialized y.cls ∈ wsL_law ∧ (y.cls ≠ "java/lang/invoke/MethodHandle" ∧ y.cls ≠ "java/lang/invoke/VarHandle" ∧ (parseMethodDescriptor y.desc).map (fun d => d.parameters.length) = some n) ∧ Cond.instanceMethod y ∈ wsL_law ∧ y.name = "<init>"
theorem ZW.part {isC : List Nat} (hw : ZW E A s w H locs) (hC : isC.map (fun i => w[i]?) = wc.map some) : va_P E.1 vwCl wc H ∧ ∀ (k : Nat) (q : Nat × va_E), wc[k]? = some q → ∃ i, isC[k]? = some i ∧ w[i]? = some q := by
  have at' : ∀ (k : Nat) (q : Nat × va_E), wc[k]? = some q → ∃ i, isC[k]? = some i ∧ w[i]? = some q := by
    intro k q hq
    have h1 : (isC.map (fun i => w[i]?))[k]? = some (some q) := by rw [hC, List.getElem?_map, hq]; rfl
    rw [List.getElem?_map] at h1
    cases hi : isC[k]? with
    | none => rw [hi] at h1; cases h1
    | some i => rw [hi] at h1; exact ⟨i, rfl, Option.some.inj h1⟩
  refine ⟨fun k q hq => ?_, at'⟩
  obtain ⟨i, -, h2⟩ := at' k q hq
  exact hw.1 i q h2
theorem ZW.pre {isC : List Nat} {av : List Value} (cx : Cx p s m args meth c cc nL own E A) (hw : ZW E A s w H locs) (hC : isC.map (fun i => w[i]?) = wc.map some) (hnd : va_nd isC = true) : ∀ U : State, U.heap = H → s.WarmedH U.vm → ZP E av wc H.size av.toArray U := by
  obtain ⟨hx, hb, hml, hown, hts, hK, hN, hA, hlk⟩ := cx
  intro U hU hW
  exact ⟨rfl, by rw [hU], by rw [hU]; exact (hw.part hC).1, va_K.moved hW.alike hK, (hw.2.1.sub isC hnd hC).weaken (fun _ _ _ _ => trivial), hN.warm hW⟩
theorem z_runV {lv : List (Nat × Value)} (cx : Cx p s m args meth c cc nL own E A) (hw : ZW E A s w H locs) {C : String} {T : u_T} {N ci : Nat} {fs : List Value} (hrc : wc[0]? = some (a, .inr (ci, fs))) (hcl : vwCl[ci]? = some (C, T, N)) (isC : List Nat) (hC : isC.map (fun i => w[i]?) = wc.map some) (hnd : va_nd isC = true) (hM : Met l y (Cond.code y b mL rt :: wsL_law) rm (ZP E (.ref a :: As) wc H.size) Qc rm.cells rm.slots free) (mf : MFv y b mL rt C As.length) (hl : Cond.methodLink own index y ∈ wsL_law) (hR : rm.frames + 1 ≤ R.frames ∧ 8 + (mL + 11) + rm.locals ≤ R.locals) (hls : lv_has ls nL lv) (hst : (rest.map fun v => v.category).sum ≤ 8) (hd : decode cc pc = .ok (.invokevirtual index, 3)) (hf : cells + rm.cells ≤ R.cells ∧ slots + rm.slots ≤ R.slots) :
    va_Run p l e R s m args below meth c H locs cells slots rm.cells rm.slots (F0 m pc ls (As.reverse ++ .ref a :: rest)) rest (Qc (Value.ref a :: As).toArray) free := by
  have hpre := hw.pre (av := .ref a :: As) cx hC hnd
  obtain ⟨hx, hb, hml, hown, hts, hK, hN, hA, hlk⟩ := cx
  exact va_runV (As := As) (rest := rest) (Ts := wsL_law) ⟨hx, hb, hml, hown, hts⟩ hM ⟨callB_of As.length hts (gAll mf.1) rfl rfl rfl (hts _ mf.2.1) (hts _ hl) mf.2.2.1 hR, hts _ mf.2.2.2.1, hts _ mf.2.2.2.2⟩ ⟨ZP.blind, va_recv hK (hw.part hC).1 hcl hrc, hpre⟩ rfl rfl hls.1 rfl (lv_room hst) hd hf
theorem z_runVN {lv : List (Nat × Value)} (cx : Cx p s m args meth c cc nL own E A) (hw : ZW E A s w H locs) {host : String} {C : String} {T : u_T} {N ci : Nat} {fs : List Value} (hrc : wc[0]? = some (a, .inr (ci, fs))) (hcl : vwCl[ci]? = some (C, T, N)) (isC : List Nat) (hC : isC.map (fun i => w[i]?) = wc.map some) (hnd : va_nd isC = true) (hM : Met l y (Cond.code y b mL rt :: wsL_law) rm (ZP E (.ref a :: As) wc H.size) Qc rm.cells rm.slots free) (mf : MFv y b mL rt C As.length) (hl : va_Nw (.methodLinkNest own index y host) s) (hR : rm.frames + 1 ≤ R.frames ∧ 8 + (mL + 11) + rm.locals ≤ R.locals) (hls : lv_has ls nL lv) (hst : (rest.map fun v => v.category).sum ≤ 8) (hd : decode cc pc = .ok (.invokevirtual index, 3)) (hf : cells + rm.cells ≤ R.cells ∧ slots + rm.slots ≤ R.slots) :
    va_Run p l e R s m args below meth c H locs cells slots rm.cells rm.slots (F0 m pc ls (As.reverse ++ .ref a :: rest)) rest (Qc (Value.ref a :: As).toArray) free := by
  have hpre := hw.pre (av := .ref a :: As) cx hC hnd
  obtain ⟨hx, hb, hml, hown, hts, hK, hN, hA, hlk⟩ := cx
  exact va_runVN (As := As) (rest := rest) (Ts := wsL_law) ⟨hx, hb, hml, hown, hts⟩ hM ⟨va_cnB As.length hts (gAll mf.1) rfl rfl rfl hl (hts _ mf.2.1) mf.2.2.1 hR, hts _ mf.2.2.2.1, hts _ mf.2.2.2.2⟩ ⟨ZP.blind, va_recv hK (hw.part hC).1 hcl hrc, hpre⟩ rfl rfl hls.1 rfl (lv_room hst) hd hf
theorem z_runS {lv : List (Nat × Value)} (cx : Cx p s m args meth c cc nL own E A) (hw : ZW E A s w H locs) (isC : List Nat) (hC : isC.map (fun i => w[i]?) = wc.map some) (hnd : va_nd isC = true) (hM : Met l y (Cond.code y b mL rt :: wsL_law) rm (ZP E (As) wc H.size) Qc rm.cells rm.slots free) (mf : MFs y b mL rt As.length) (hl : Cond.methodLink own index y ∈ wsL_law) (hR : rm.frames + 1 ≤ R.frames ∧ 8 + (mL + 11) + rm.locals ≤ R.locals) (hls : lv_has ls nL lv) (hst : (rest.map fun v => v.category).sum ≤ 8) (hd : decode cc pc = .ok (.invokestatic index, 3)) (hf : cells + rm.cells ≤ R.cells ∧ slots + rm.slots ≤ R.slots) :
    va_Run p l e R s m args below meth c H locs cells slots rm.cells rm.slots (F0 m pc ls (As.reverse ++ rest)) rest (Qc (As).toArray) free := by
  have hpre := hw.pre (av := As) cx hC hnd
  obtain ⟨hx, hb, hml, hown, hts, hK, hN, hA, hlk⟩ := cx
  exact va_runS (As := As) (rest := rest) (Ts := wsL_law) ⟨hx, hb, hml, hown, hts⟩ hM ⟨callB_of As.length hts (gAll mf.1) rfl rfl rfl (hts _ mf.2.1) (hts _ hl) mf.2.2.1 hR, hts _ mf.2.2.2⟩ ⟨ZP.blind, hpre⟩ rfl rfl hls.1 rfl (lv_room hst) hd hf
theorem z_runI {lv : List (Nat × Value)} (cx : Cx p s m args meth c cc nL own E A) (hw : ZW E A s w H locs) (isC : List Nat) (hC : isC.map (fun i => w[i]?) = wc.map some) (hnd : va_nd isC = true) (hM : Met l y (Cond.code y b mL none :: wsL_law) rm (ZP E (.ref a :: As) wc H.size) Qc rm.cells rm.slots free) (mf : MFi y b mL As.length) (hl : Cond.methodLink own index y ∈ wsL_law) (hR : rm.frames + 1 ≤ R.frames ∧ 8 + (mL + 11) + rm.locals ≤ R.locals) (hls : lv_has ls nL lv) (hst : (rest.map fun v => v.category).sum ≤ 8) (hd : decode cc pc = .ok (.invokespecial index, 3)) (hf : cells + rm.cells ≤ R.cells ∧ slots + rm.slots ≤ R.slots) :
    va_Run p l e R s m args below meth c H locs cells slots rm.cells rm.slots (F0 m pc ls (As.reverse ++ .ref a :: rest)) rest (Qc (Value.ref a :: As).toArray) free := by
  have hpre := hw.pre (av := .ref a :: As) cx hC hnd
  obtain ⟨hx, hb, hml, hown, hts, hK, hN, hA, hlk⟩ := cx
  exact va_runI (As := As) (rest := rest) (Ts := wsL_law) ⟨hx, hb, hml, hown, hts⟩ hM ⟨callB_of As.length hts (gAll mf.1) rfl rfl rfl (hts _ mf.2.1) (hts _ hl) mf.2.2.1 hR, mf.2.2.2.2, hts _ mf.2.2.2.1⟩ ⟨ZP.blind, hpre⟩ rfl rfl hls.1 rfl (lv_room hst) hd hf
theorem z_runIN {lv : List (Nat × Value)} (cx : Cx p s m args meth c cc nL own E A) (hw : ZW E A s w H locs) {host : String} (isC : List Nat) (hC : isC.map (fun i => w[i]?) = wc.map some) (hnd : va_nd isC = true) (hM : Met l y (Cond.code y b mL none :: wsL_law) rm (ZP E (.ref a :: As) wc H.size) Qc rm.cells rm.slots free) (mf : MFi y b mL As.length) (hl : va_Nw (.methodLinkNest own index y host) s) (hR : rm.frames + 1 ≤ R.frames ∧ 8 + (mL + 11) + rm.locals ≤ R.locals) (hls : lv_has ls nL lv) (hst : (rest.map fun v => v.category).sum ≤ 8) (hd : decode cc pc = .ok (.invokespecial index, 3)) (hf : cells + rm.cells ≤ R.cells ∧ slots + rm.slots ≤ R.slots) :
    va_Run p l e R s m args below meth c H locs cells slots rm.cells rm.slots (F0 m pc ls (As.reverse ++ .ref a :: rest)) rest (Qc (Value.ref a :: As).toArray) free := by
  have hpre := hw.pre (av := .ref a :: As) cx hC hnd
  obtain ⟨hx, hb, hml, hown, hts, hK, hN, hA, hlk⟩ := cx
  exact va_runIN (As := As) (rest := rest) (Ts := wsL_law) ⟨hx, hb, hml, hown, hts⟩ hM ⟨va_cnB As.length hts (gAll mf.1) rfl rfl rfl hl (hts _ mf.2.1) mf.2.2.1 hR, mf.2.2.2.2, hts _ mf.2.2.2.1⟩ ⟨ZP.blind, hpre⟩ rfl rfl hls.1 rfl (lv_room hst) hd hf
theorem z_ri {S : Type} {post : Int32 → S → Prop} {W1 : S → va_W} {av : Array Value} {mc ms : Nat} (cx : Cx p s m args meth c cc nL own E A) (hw : ZW E A s w H locs) (isC isR : List Nat) (hC : isC.map (fun i => w[i]?) = wc.map some) (hRr : isR.map (fun i => w[i]?) = wr.map some) (hn : va_nd isR = true) (hdis : ∀ i ∈ isR, i ∉ isC)
    (hr : va_Run p l e R s m args below meth c H locs cells slots mc ms (F0 m pc ls st0) rest (va_Qi post (ZB E wc H.size W1) (va_A wc H.size) av) (va_A wc H.size))
    (kk : ∀ (r : Int32) (u : S) (H1 : Heap) (locs1 : List Loc), post r u → ZW E A s (wr ++ W1 u) H1 locs1 → W p l e R s m args below meth c H1 locs1 (cells + mc) (slots + ms) Q (F0 m (pc + 3) ls (.int r :: rest))) : W p l e R s m args below meth c H locs cells slots Q (F0 m pc ls st0) := by
  obtain ⟨hx, hb, hml, hown, hts, hK, hN, hA, hlk⟩ := cx
  have hF := va_free hw.2.1 hw.2.2 hA isC hC
  refine va_calli hr hw.2.2 (fun q _ h => hF q h) hF (fun r u t H1 locs1 ht hvm hp hB hz hk hS => kk r u H1 locs1 hp ?_)
  obtain ⟨hP1, hK1, hD1⟩ := hB
  rw [ht] at hP1
  obtain ⟨hP', hD'⟩ := va_join hw.1 hw.2.1 isC isR hC hRr hn hdis hk hF hP1 hD1
  exact ⟨hP', hD', hS⟩
theorem z_rv {S : Type} {post : S → Prop} {W1 : S → va_W} {av : Array Value} {mc ms : Nat} (cx : Cx p s m args meth c cc nL own E A) (hw : ZW E A s w H locs) (isC isR : List Nat) (hC : isC.map (fun i => w[i]?) = wc.map some) (hRr : isR.map (fun i => w[i]?) = wr.map some) (hn : va_nd isR = true) (hdis : ∀ i ∈ isR, i ∉ isC)
    (hr : va_Run p l e R s m args below meth c H locs cells slots mc ms (F0 m pc ls st0) rest (va_Qv post (ZB E wc H.size W1) (va_A wc H.size) av) (va_A wc H.size))
    (kk : ∀ (u : S) (H1 : Heap) (locs1 : List Loc), post u → ZW E A s (wr ++ W1 u) H1 locs1 → W p l e R s m args below meth c H1 locs1 (cells + mc) (slots + ms) Q (F0 m (pc + 3) ls rest)) : W p l e R s m args below meth c H locs cells slots Q (F0 m pc ls st0) := by
  obtain ⟨hx, hb, hml, hown, hts, hK, hN, hA, hlk⟩ := cx
  have hF := va_free hw.2.1 hw.2.2 hA isC hC
  refine va_callv hr hw.2.2 (fun q _ h => hF q h) hF (fun u t H1 locs1 ht hvm hp hB hz hk hS => kk u H1 locs1 hp ?_)
  obtain ⟨hP1, hK1, hD1⟩ := hB
  rw [ht] at hP1
  obtain ⟨hP', hD'⟩ := va_join hw.1 hw.2.1 isC isR hC hRr hn hdis hk hF hP1 hD1
  exact ⟨hP', hD', hS⟩
/-- a row's contents count below its length alone -/
theorem ZW.ext {n : Nat} {f g : Nat → Int32} (hw : ZW E A s w H locs) (q0 : Nat) {cA : ClassId} (he : w[q0]? = some (a, .inl (cA, n, .inl f))) (h : ∀ j, j < n → f j = g j) : ZW E A s (w.set q0 (a, .inl (cA, n, .inl g))) H locs := by
  refine ⟨hw.1.set hw.2.1 he ?_ (fun q _ => rfl), hw.2.1.set he, hw.2.2⟩
  have h1 : H[a]? = some (vp_cell cA (n, .inl f)) := hw.1 q0 _ he
  show H[a]? = some (vp_cell cA (n, .inl g))
  rw [h1, vp_cell_i, vp_cell_i]
  unfold arrV
  congr 3
  funext j
  show Value.int (f j.val) = Value.int (g j.val)
  rw [h j.val j.isLt]
theorem z_copy {lv : List (Nat × Value)} (cx : Cx p s m args meth c cc nL own E A) (hw : ZW E A s w H locs) (q0 q1 : Nat) {a0 n0 n1 : Nat} {F G : Nat → Nat} (ha0 : w[q0]? = some (a0, ia E n0 (nA F))) (ha1 : w[q1]? = some (a, ia E n1 (nA G))) (sp dp n : Nat) {xs xd xn : Int32} (e1 : xs = nI sp) (e2 : xd = nI dp) (e3 : xn = nI n) (h4 : sp + n ≤ n0) (h5 : dp + n ≤ n1) (hn0 : n0 < 2 ^ 31) (hn1 : n1 < 2 ^ 31)
    (hls : lv_has ls nL lv) (hl : Cond.methodLink own index arraycopyName ∈ wsL_law) (hframes : 1 ≤ R.frames) (hlocals : (rest.map fun v => v.category).sum + (nativeFrameWords "java/lang/System" "arraycopy" 5 + 11) ≤ R.locals) (hd : decode cc pc = .ok (.invokestatic index, 3))
    (kk : ∀ (H1 : Heap) (locs1 : List Loc), ZW E A s (w.set q1 (a, ia E n1 (nA (cpyN F G sp dp n)))) H1 locs1 → W p l e R s m args below meth c H1 locs1 cells slots Q (F0 m (pc + 3) ls rest)) : W p l e R s m args below meth c H locs cells slots Q (F0 m pc ls (.int xn :: .int xd :: .ref a :: .int xs :: .ref a0 :: rest)) := by
  obtain ⟨hx, hb, hml, hown, hts, hK, hN, hA, hlk⟩ := cx
  subst e1; subst e2; subst e3
  refine va_copyi hx hb (hml.trans hls.1.symm) hown (hts _ hl) (hts _ wd_95) (hts _ wd_96) (hts _ wd_97) hK hw.1 hw.2.1 hw.2.2 q0 q1 0 0 ha0 ha1 rfl rfl rfl (nI_pos (by omega)) (nI_pos (by omega)) (nI_pos (by omega)) (by rw [nI_clamp (by omega), nI_clamp (by omega)]; exact h4) (by rw [nI_clamp (by omega), nI_clamp (by omega)]; exact h5) (fun i _ => rfl) hframes hlocals hd (fun H1 locs1 h1 h2 h3 => kk H1 locs1 ?_)
  rw [nI_clamp (by omega), nI_clamp (by omega), nI_clamp (by omega), nA_cpy] at h1 h2
  exact ⟨h1, h2, h3⟩
theorem z_mmax {lv : List (Nat × Value)} (cx : Cx p s m args meth c cc nL own E A) (x y : Nat) (h1 : x < 2 ^ 31) (h2 : y < 2 ^ 31) (hls : lv_has ls nL lv) (hl : Cond.methodLink own index Lib.Math.max.name ∈ wsL_law) (hframes : 1 ≤ R.frames) (hlocals : (rest.map fun v => v.category).sum + 13 ≤ R.locals) (hc : cells ≤ R.cells) (hs : slots ≤ R.slots) (hd : decode cc pc = .ok (.invokestatic index, 3))
    (kk : W p l e R s m args below meth c H locs cells slots Q (F0 m (pc + 3) ls (.int (nI (max x y)) :: rest))) : W p l e R s m args below meth c H locs cells slots Q (F0 m pc ls (.int (nI y) :: .int (nI x) :: rest)) := by
  obtain ⟨hx, hb, hml, hown, hts, hK, hN, hA, hlk⟩ := cx
  refine va_mmax hx hb (hml.trans hls.1.symm) hown (hts _ hl) (hts _ wd_277) (hts _ wd_274) (hts _ wd_278) hframes hlocals hc hs hd ?_
  rw [show (if nI x < nI y then nI y else nI x) = nI (max x y) from ?_]
  · exact kk
  · by_cases h : x < y
    · rw [if_pos (nI_lt h (by omega))]; congr 1; omega
    · rw [if_neg (nI_nlt (by omega) (by omega))]; congr 1; omega
theorem z_mmin {lv : List (Nat × Value)} (cx : Cx p s m args meth c cc nL own E A) (x y : Nat) (h1 : x < 2 ^ 31) (h2 : y < 2 ^ 31) (hls : lv_has ls nL lv) (hl : Cond.methodLink own index Lib.Math.min.name ∈ wsL_law) (hframes : 1 ≤ R.frames) (hlocals : (rest.map fun v => v.category).sum + 13 ≤ R.locals) (hc : cells ≤ R.cells) (hs : slots ≤ R.slots) (hd : decode cc pc = .ok (.invokestatic index, 3))
    (kk : W p l e R s m args below meth c H locs cells slots Q (F0 m (pc + 3) ls (.int (nI (min x y)) :: rest))) : W p l e R s m args below meth c H locs cells slots Q (F0 m pc ls (.int (nI y) :: .int (nI x) :: rest)) := by
  obtain ⟨hx, hb, hml, hown, hts, hK, hN, hA, hlk⟩ := cx
  refine va_mmin hx hb (hml.trans hls.1.symm) hown (hts _ hl) (hts _ wd_273) (hts _ wd_274) (hts _ wd_275) hframes hlocals hc hs hd ?_
  rw [show (if nI y < nI x then nI y else nI x) = nI (min x y) from ?_]
  · exact kk
  · by_cases h : y < x
    · rw [if_pos (nI_lt h (by omega))]; congr 1; omega
    · rw [if_neg (nI_nlt (by omega) (by omega))]; congr 1; omega
theorem z_newa {atype : ArrayType} (cx : Cx p s m args meth c cc nL own E A) (hw : ZW E A s w H locs) (N : Nat) {x : Int32} (hxn : x = nI N) (hN : N < 2 ^ 20) {a0 : vp_A} {ty : FieldType} {k : Nat} {cA : ClassId} (hty : newarray.typeOf atype = ty) (hk : (ZT E)[k]? = some (cA, ty)) (hob : ∀ C, ty ≠ .object C) (ha : ∀ cA : ClassId, vp_cell cA a0 = arrV cA N (fun _ => defaultValue ty)) (hby : componentBytes ty ≤ 8) (harr : Cond.arrayClass ty ∈ wsL_law) (hcells : cells + 1 ≤ R.cells) (hslots : slots + N ≤ R.slots) (hd : decode cc pc = .ok (.newarray atype, 2))
    (kk : ∀ (q : Nat) (H1 : Heap), ZW E A s (w ++ [(q, .inl (cA, a0))]) H1 locs → W p l e R s m args below meth c H1 locs (cells + 1) (slots + N) Q (F0 m (pc + 2) ls (.ref q :: rest))) : W p l e R s m args below meth c H locs cells slots Q (F0 m pc ls (.int x :: rest)) := by
  obtain ⟨hx, hb, hml, hown, hts, hK, hN', hA, hlk⟩ := cx
  subst hxn; subst hty
  refine va_newa (atype := atype) hx hb (hts _ harr) rfl hK hw.1 hw.2.1 hw.2.2 hA ha (nI_pos (by omega)) (nI_clamp (by omega)) (Nat.le_trans (Nat.mul_le_mul (Nat.le_of_lt hN) hby) (by decide)) hcells hslots hd (fun q cB H1 k1 h1 h2 h3 => ?_)
  have e : cB = cA := by
    have g1 := (k1.2 (ZT E).length (cB, newarray.typeOf atype) (by rw [List.getElem?_append_right (Nat.le_refl _)]; simp)).2
    have g2 := (hK.2 k (cA, newarray.typeOf atype) hk).2
    have z1 : ∀ c : ClassId, va_RA s c (newarray.typeOf atype) → s.vm.findClass ("[" ++ (newarray.typeOf atype).toString) = some c := by
      intro c h
      cases hz : newarray.typeOf atype with
      | object C => exact absurd hz (hob C)
      | _ => rw [hz] at h; exact h
    exact Option.some.inj ((z1 _ g1).symm.trans (z1 _ g2))
  subst e
  exact kk q H1 ⟨h1, h2, h3⟩
theorem z_new (cx : Cx p s m args meth c cc nL own E A) (hw : ZW E A s w H locs) {C : String} {T : u_T} {N : Nat} (ci : Nat) (hc : vwCl[ci]? = some (C, T, N)) (hin : ∀ x ∈ u_ws C T N, x ∈ wsL_law) {ty0 : Nat → FieldType} (hty : ∀ k, k < N → parseFieldDescriptor (T k).2.2.1 = some (ty0 k)) (hcl : Cond.classLink own index C ∈ wsL_law) (hinst : Cond.instantiable C N ∈ wsL_law) (hini : Cond.initialized C ∈ wsL_law) (fs : List Value) (hfs : ∀ j, j < N → defaultValue (ty0 j) = vp_V fs j) (hcells : cells + 1 ≤ R.cells) (hslots : slots + N ≤ R.slots) (hd : decode cc pc = .ok (.new index, 3))
    (kk : ∀ (q : Nat) (H1 : Heap), ZW E A s (w ++ [(q, .inr (ci, fs))]) H1 locs → W p l e R s m args below meth c H1 locs (cells + 1) (slots + N) Q (F0 m (pc + 3) ls (.ref q :: rest))) : W p l e R s m args below meth c H locs cells slots Q (F0 m pc ls rest) := by
  obtain ⟨hx, hb, hml, hown, hts, hK, hN', hA, hlk⟩ := cx
  exact va_new hx hb hts hin ty0 hty hown (hts _ hcl) (hts _ hinst) (hts _ hini) hK hw.1 hw.2.1 hw.2.2 hA hc hfs hcells hslots hd (fun q H1 h1 h2 h3 => kk q H1 ⟨h1, h2, h3⟩)
theorem z_obj {lv : List (Nat × Value)} (cx : Cx p s m args meth c cc nL own E A) (hls : lv_has ls nL lv) (hl : Cond.methodLink own index Lib.objectInit ∈ wsL_law) (hframes : 1 ≤ R.frames) (hlocals : (rest.map fun v => v.category).sum + 12 ≤ R.locals) (hd : decode cc pc = .ok (.invokespecial index, 3)) (kk : W p l e R s m args below meth c H locs cells slots Q (F0 m (pc + 3) ls rest)) : W p l e R s m args below meth c H locs cells slots Q (F0 m pc ls (.ref a :: rest)) := by
  obtain ⟨hx, hb, hml, hown, hts, hK, hN', hA, hlk⟩ := cx
  refine W.objInit hx hb hown (hts _ hl) (hts _ wd_10) (hts _ wd_11) rfl (by rw [hml]; exact hls.1) rfl hd hframes (by show 2 * 0 + _ + 12 ≤ _; omega) ?_
  exact kk
end ZC
end
section
/-! ===== small rows for walks; what the tables say of each method ===== -/
theorem zN {a b : Nat} (h : a = b) : Value.int (nI a) = Value.int (nI b) := by rw [h]
theorem zB {a b : Bool} (h : a = b) : Value.int (bI a) = Value.int (bI b) := by rw [h]
theorem zI {a b : Int32} (h : a = b) : Value.int a = Value.int b := by rw [h]
theorem zNB1 {b : Bool} (h : b = true) : Value.int (nI 1) = Value.int (bI b) := by rw [h]; rfl
theorem zNB0 {b : Bool} (h : b = false) : Value.int (nI 0) = Value.int (bI b) := by rw [h]; rfl
theorem z_dec {a : Nat} (h : 0 < a) : nI a + Int32.ofInt (-1) = nI (a - 1) := by
  obtain ⟨b, rfl⟩ : ∃ b, a = b + 1 := ⟨a - 1, by omega⟩
  exact pk_m1 b
theorem lv_nil {ls : Array Slot} {nL : Nat} {l : List (Nat × Value)} (h : lv_has ls nL l) : lv_has ls nL [] := ⟨h.1, h.2.1, fun q hq => by cases hq⟩
theorem lv_add {ls : Array Slot} {nL : Nat} {l : List (Nat × Value)} (h : lv_has ls nL l) {i : Nat} {v : Value} (hi : ls[i]? = some (.val v)) : lv_has ls nL ((i, v) :: l) := ⟨h.1, h.2.1, fun q hq => by
  rcases List.mem_cons.mp hq with rfl | hq
  · exact hi
  · exact h.2.2 q hq⟩
theorem lv_eqv {ls : Array Slot} {i : Nat} {v v' : Value} (h : ls[i]? = some (.val v)) (e : v = v') : ls[i]? = some (.val v') := e ▸ h
theorem ZW.cast {E : ZE} {A : Nat → Prop} {s : State} {w w' : va_W} {H : Heap} {locs : List Loc} (h : ZW E A s w H locs) (e : w = w') : ZW E A s w' H locs := e ▸ h
theorem ZW.perm {E : ZE} {A : Nat → Prop} {s : State} {w w' : va_W} {H : Heap} {locs : List Loc} (h : ZW E A s w H locs) (is : List Nat) (hs : is.map (fun i => w[i]?) = w'.map some) (hn : va_nd is = true) : ZW E A s w' H locs := ⟨(h.part hs).1, h.2.1.sub is hn hs, h.2.2⟩
section ZD
variable {p : Program} {l : Launch} {e : Env} {R : Room} {s : State} {m : MethodId} {args : Array Value} {below : List Frame} {meth : Method} {c : Code} {H : Heap} {locs : List Loc} {cells slots : Nat} {Q : State → Prop}
variable {cc : ByteArray} {pc nL : Nat} {ls : Array Slot} {rest : List Value} {own : String} {E : ZE} {A : Nat → Prop} {w : va_W} {a : Nat}
variable {wc wr : va_W} {st0 : List Value}
theorem z_ri0 {S : Type} {post : Int32 → S → Prop} {W1 : S → va_W} {av : Array Value} {mc ms : Nat} (cx : Cx p s m args meth c cc nL own E A) (hw : ZW E A s w H locs) (isC isR : List Nat) (hC : isC.map (fun i => w[i]?) = wc.map some) (hRr : isR.map (fun i => w[i]?) = wr.map some) (hn : va_nd isR = true) (hdis : ∀ i ∈ isR, i ∉ isC) (h1 : mc = 0) (h2 : ms = 0)
    (hr : va_Run p l e R s m args below meth c H locs cells slots mc ms (F0 m pc ls st0) rest (va_Qi post (ZB E wc H.size W1) (va_A wc H.size) av) (va_A wc H.size))
    (kk : ∀ (r : Int32) (u : S) (H1 : Heap) (locs1 : List Loc), post r u → ZW E A s (wr ++ W1 u) H1 locs1 → W p l e R s m args below meth c H1 locs1 cells slots Q (F0 m (pc + 3) ls (.int r :: rest))) : W p l e R s m args below meth c H locs cells slots Q (F0 m pc ls st0) := by
  subst h1; subst h2
  exact z_ri cx hw isC isR hC hRr hn hdis hr kk
theorem z_rv0 {S : Type} {post : S → Prop} {W1 : S → va_W} {av : Array Value} {mc ms : Nat} (cx : Cx p s m args meth c cc nL own E A) (hw : ZW E A s w H locs) (isC isR : List Nat) (hC : isC.map (fun i => w[i]?) = wc.map some) (hRr : isR.map (fun i => w[i]?) = wr.map some) (hn : va_nd isR = true) (hdis : ∀ i ∈ isR, i ∉ isC) (h1 : mc = 0) (h2 : ms = 0)
    (hr : va_Run p l e R s m args below meth c H locs cells slots mc ms (F0 m pc ls st0) rest (va_Qv post (ZB E wc H.size W1) (va_A wc H.size) av) (va_A wc H.size))
    (kk : ∀ (u : S) (H1 : Heap) (locs1 : List Loc), post u → ZW E A s (wr ++ W1 u) H1 locs1 → W p l e R s m args below meth c H1 locs1 cells slots Q (F0 m (pc + 3) ls rest)) : W p l e R s m args below meth c H locs cells slots Q (F0 m pc ls st0) := by
  subst h1; subst h2
  exact z_rv cx hw isC isR hC hRr hn hdis hr kk
end ZD
theorem mf_X0_init : MFi yX0_init cX0_init 1 0 := ⟨wd_61, wd_30, (by decide +kernel), wd_60, rfl⟩
theorem mf_X0_arrange : MFv yX0_arrange cX0_arrange 4 (some .boolean) RX0 1 := ⟨wd_409, wd_30, (by decide +kernel), wd_407, wd_408⟩
theorem mf_X0_countEarlier : MFv yX0_countEarlier cX0_countEarlier 4 none RX0 1 := ⟨wd_413, wd_30, (by decide +kernel), wd_411, wd_412⟩
theorem mf_X0_lowestThatWaitsForNone : MFv yX0_lowestThatWaitsForNone cX0_lowestThatWaitsForNone 3 (some .int) RX0 1 := ⟨wd_418, wd_30, (by decide +kernel), wd_416, wd_417⟩
theorem mf_X0_releaseLater : MFv yX0_releaseLater cX0_releaseLater 4 none RX0 2 := ⟨wd_422, wd_30, (by decide +kernel), wd_420, wd_421⟩
theorem mf_X1_init : MFi yX1_init cX1_init 1 0 := ⟨wd_46, wd_22, (by decide +kernel), wd_45, rfl⟩
theorem mf_X1_has : MFv yX1_has cX1_has 2 (some .boolean) RX1 1 := ⟨wd_267, wd_22, (by decide +kernel), wd_265, wd_266⟩
theorem mf_X1_list : MFv yX1_list cX1_list 4 none RX1 1 := ⟨wd_244, wd_22, (by decide +kernel), wd_242, wd_243⟩
theorem mf_X1_pairOf : MFs yX1_pairOf cX1_pairOf 2 (some .int) 2 := ⟨wd_255, wd_22, (by decide +kernel), wd_254⟩
theorem mf_X1_markPairs : MFv yX1_markPairs cX1_markPairs 3 none RX1 1 := ⟨wd_248, wd_22, (by decide +kernel), wd_246, wd_247⟩
theorem mf_X1_numberPairs : MFv yX1_numberPairs cX1_numberPairs 2 none RX1 0 := ⟨wd_259, wd_22, (by decide +kernel), wd_257, wd_258⟩
theorem mf_X1_enter : MFv yX1_enter cX1_enter 4 none RX1 2 := ⟨wd_263, wd_22, (by decide +kernel), wd_261, wd_262⟩
theorem mf_X1_spanWear : MFv yX1_spanWear cX1_spanWear 4 none RX1 3 := ⟨wd_271, wd_22, (by decide +kernel), wd_269, wd_270⟩
theorem mf_X1_isEarlier : MFv yX1_isEarlier cX1_isEarlier 3 (some .boolean) RX1 2 := ⟨wd_386, wd_22, (by decide +kernel), wd_384, wd_385⟩
theorem mf_X1_isEarlierBy : MFv yX1_isEarlierBy cX1_isEarlierBy 4 (some .boolean) RX1 3 := ⟨wd_390, wd_22, (by decide +kernel), wd_388, wd_389⟩
theorem mf_X2_init : MFi yX2_init cX2_init 1 0 := ⟨wd_39, wd_18, (by decide +kernel), wd_38, rfl⟩
theorem mf_X2_save : MFv yX2_save cX2_save 2 none RX2 1 := ⟨wd_93, wd_18, (by decide +kernel), wd_91, wd_92⟩
theorem mf_X2_restore : MFv yX2_restore cX2_restore 2 none RX2 1 := ⟨wd_489, wd_18, (by decide +kernel), wd_487, wd_488⟩
theorem mf_X3_init : MFi yX3_init cX3_init 1 0 := ⟨wd_55, wd_26, (by decide +kernel), wd_54, rfl⟩
theorem mf_X3_vertexOf : MFs yX3_vertexOf cX3_vertexOf 2 (some .int) 2 := ⟨wd_321, wd_26, (by decide +kernel), wd_320⟩
theorem mf_X3_connect : MFv yX3_connect cX3_connect 4 none RX3 2 := ⟨wd_310, wd_26, (by decide +kernel), wd_308, wd_309⟩
theorem mf_X3_obverseOf : MFs yX3_obverseOf cX3_obverseOf 2 (some .int) 2 := ⟨wd_318, wd_26, (by decide +kernel), wd_317⟩
theorem mf_X3_reverseOf : MFs yX3_reverseOf cX3_reverseOf 2 (some .int) 2 := ⟨wd_328, wd_26, (by decide +kernel), wd_327⟩
theorem mf_X3_enterDies : MFv yX3_enterDies cX3_enterDies 3 none RX3 1 := ⟨wd_314, wd_26, (by decide +kernel), wd_312, wd_313⟩
theorem mf_X3_enterDie : MFv yX3_enterDie cX3_enterDie 2 none RX3 1 := ⟨wd_325, wd_26, (by decide +kernel), wd_323, wd_324⟩
theorem mf_X3_join : MFv yX3_join cX3_join 6 none RX3 2 := ⟨wd_332, wd_26, (by decide +kernel), wd_330, wd_331⟩
theorem mf_X3_fallsApartWithout : MFv yX3_fallsApartWithout cX3_fallsApartWithout 3 (some .boolean) RX3 2 := ⟨wd_366, wd_26, (by decide +kernel), wd_364, wd_365⟩
theorem mf_X3_diesAround : MFv yX3_diesAround cX3_diesAround 6 (some .int) RX3 2 := ⟨wd_347, wd_26, (by decide +kernel), wd_345, wd_346⟩
theorem mf_X4_init : MFi yX4_init cX4_init 1 0 := ⟨wd_33, wd_14, (by decide +kernel), wd_32, rfl⟩
theorem mf_X4_has : MFv yX4_has cX4_has 2 (some .boolean) RX4 1 := ⟨wd_122, wd_14, (by decide +kernel), wd_120, wd_121⟩
theorem mf_X4_die : MFv yX4_die cX4_die 3 (some .int) RX4 2 := ⟨wd_162, wd_14, (by decide +kernel), wd_160, wd_161⟩
theorem mf_X4_putDie : MFv yX4_putDie cX4_putDie 4 none RX4 3 := ⟨wd_100, wd_14, (by decide +kernel), wd_98, wd_99⟩
theorem mf_X4_wear : MFv yX4_wear cX4_wear 3 (some .int) RX4 2 := ⟨wd_144, wd_14, (by decide +kernel), wd_142, wd_143⟩
theorem mf_X4_putWear : MFv yX4_putWear cX4_putWear 4 none RX4 3 := ⟨wd_103, wd_14, (by decide +kernel), wd_101, wd_102⟩
theorem mf_X4_close : MFv yX4_close cX4_close 4 none RX4 1 := ⟨wd_125, wd_14, (by decide +kernel), wd_123, wd_124⟩
theorem mf_X4_replaceDie : MFv yX4_replaceDie cX4_replaceDie 6 (some .int) RX4 3 := ⟨wd_165, wd_14, (by decide +kernel), wd_163, wd_164⟩
theorem mf_X4_struckWith : MFv yX4_struckWith cX4_struckWith 5 (some .int) RX4 2 := ⟨wd_158, wd_14, (by decide +kernel), wd_156, wd_157⟩
theorem mf_X4_wearSum : MFv yX4_wearSum cX4_wearSum 5 (some .int) RX4 2 := ⟨wd_224, wd_14, (by decide +kernel), wd_222, wd_223⟩
theorem mf_X4_knownDies : MFv yX4_knownDies cX4_knownDies 4 (some .int) RX4 1 := ⟨wd_200, wd_14, (by decide +kernel), wd_198, wd_199⟩
theorem mf_X4_diesStruckOnce : MFv yX4_diesStruckOnce cX4_diesStruckOnce 4 (some .int) RX4 1 := ⟨wd_454, wd_14, (by decide +kernel), wd_452, wd_453⟩
theorem mf_X5_init : MFi yX5_init cX5_init 1 0 := ⟨wd_8, wd_2, (by decide +kernel), wd_7, rfl⟩
theorem mf_X5_addSpecimen : MFv yX5_addSpecimen cX5_addSpecimen 6 (some .int) RX5 4 := ⟨wd_84, wd_2, (by decide +kernel), wd_82, wd_83⟩
theorem mf_X5_removeSpecimen : MFv yX5_removeSpecimen cX5_removeSpecimen 2 (some .int) RX5 1 := ⟨wd_119, wd_2, (by decide +kernel), wd_117, wd_118⟩
theorem mf_X5_setWear : MFv yX5_setWear cX5_setWear 5 (some .int) RX5 3 := ⟨wd_138, wd_2, (by decide +kernel), wd_136, wd_137⟩
theorem mf_X5_mergeDies : MFv yX5_mergeDies cX5_mergeDies 4 (some .int) RX5 3 := ⟨wd_155, wd_2, (by decide +kernel), wd_153, wd_154⟩
theorem mf_X5_specimenCount : MFv yX5_specimenCount cX5_specimenCount 1 (some .int) RX5 0 := ⟨wd_181, wd_2, (by decide +kernel), wd_179, wd_180⟩
theorem mf_X5_dieOf : MFv yX5_dieOf cX5_dieOf 3 (some .int) RX5 2 := ⟨wd_189, wd_2, (by decide +kernel), wd_187, wd_188⟩
theorem mf_X5_dieCount : MFv yX5_dieCount cX5_dieCount 2 (some .int) RX5 1 := ⟨wd_197, wd_2, (by decide +kernel), wd_195, wd_196⟩
theorem mf_X5_frequency : MFv yX5_frequency cX5_frequency 3 (some .int) RX5 2 := ⟨wd_213, wd_2, (by decide +kernel), wd_211, wd_212⟩
theorem mf_X5_meanWearBits : MFv yX5_meanWearBits cX5_meanWearBits 4 (some .int) RX5 2 := ⟨wd_221, wd_2, (by decide +kernel), wd_219, wd_220⟩
theorem mf_X5_coupleCount : MFv yX5_coupleCount cX5_coupleCount 1 (some .int) RX5 0 := ⟨wd_241, wd_2, (by decide +kernel), wd_239, wd_240⟩
theorem mf_X5_coupleAt : MFv yX5_coupleAt cX5_coupleAt 3 (some .int) RX5 1 := ⟨wd_295, wd_2, (by decide +kernel), wd_293, wd_294⟩
theorem mf_X5_componentCount : MFv yX5_componentCount cX5_componentCount 1 (some .int) RX5 0 := ⟨wd_307, wd_2, (by decide +kernel), wd_305, wd_306⟩
theorem mf_X5_componentSize : MFv yX5_componentSize cX5_componentSize 4 (some .int) RX5 2 := ⟨wd_344, wd_2, (by decide +kernel), wd_342, wd_343⟩
theorem mf_X5_cycleRank : MFv yX5_cycleRank cX5_cycleRank 1 (some .int) RX5 0 := ⟨wd_355, wd_2, (by decide +kernel), wd_353, wd_354⟩
theorem mf_X5_bridgeCount : MFv yX5_bridgeCount cX5_bridgeCount 3 (some .int) RX5 0 := ⟨wd_363, wd_2, (by decide +kernel), wd_361, wd_362⟩
theorem mf_X5_isBridge : MFv yX5_isBridge cX5_isBridge 3 (some .int) RX5 1 := ⟨wd_375, wd_2, (by decide +kernel), wd_373, wd_374⟩
theorem mf_X5_compareCouples : MFv yX5_compareCouples cX5_compareCouples 3 (some .int) RX5 2 := ⟨wd_383, wd_2, (by decide +kernel), wd_381, wd_382⟩
theorem mf_X5_isConsistent : MFv yX5_isConsistent cX5_isConsistent 1 (some .int) RX5 0 := ⟨wd_406, wd_2, (by decide +kernel), wd_404, wd_405⟩
theorem mf_X5_coupleInOrder : MFv yX5_coupleInOrder cX5_coupleInOrder 3 (some .int) RX5 1 := ⟨wd_435, wd_2, (by decide +kernel), wd_433, wd_434⟩
theorem mf_X5_generation : MFv yX5_generation cX5_generation 3 (some .int) RX5 1 := ⟨wd_443, wd_2, (by decide +kernel), wd_441, wd_442⟩
theorem mf_X5_singletons : MFv yX5_singletons cX5_singletons 2 (some .int) RX5 1 := ⟨wd_451, wd_2, (by decide +kernel), wd_449, wd_450⟩
theorem mf_X5_coverageEstimate : MFv yX5_coverageEstimate cX5_coverageEstimate 4 (some .int) RX5 1 := ⟨wd_466, wd_2, (by decide +kernel), wd_464, wd_465⟩
theorem mf_X5_frequencyEstimate : MFv yX5_frequencyEstimate cX5_frequencyEstimate 5 (some .int) RX5 1 := ⟨wd_474, wd_2, (by decide +kernel), wd_472, wd_473⟩
theorem mf_X5_undo : MFv yX5_undo cX5_undo 1 (some .int) RX5 0 := ⟨wd_486, wd_2, (by decide +kernel), wd_484, wd_485⟩
theorem mf_X5_isSide : MFs yX5_isSide cX5_isSide 1 (some .boolean) 1 := ⟨wd_141, wd_2, (by decide +kernel), wd_140⟩
theorem mf_X5_isDie : MFs yX5_isDie cX5_isDie 1 (some .boolean) 1 := ⟨wd_87, wd_2, (by decide +kernel), wd_86⟩
theorem mf_X5_isWear : MFs yX5_isWear cX5_isWear 1 (some .boolean) 1 := ⟨wd_90, wd_2, (by decide +kernel), wd_89⟩
theorem mf_X5_errorOfPlace : MFv yX5_errorOfPlace cX5_errorOfPlace 2 (some .int) RX5 1 := ⟨wd_299, wd_2, (by decide +kernel), wd_297, wd_298⟩
theorem mf_X5_divisorOfFrequencyEstimate : MFs yX5_divisorOfFrequencyEstimate cX5_divisorOfFrequencyEstimate 2 (some .int) 2 := ⟨wd_477, wd_2, (by decide +kernel), wd_476⟩
theorem mf_X5_bitsOf : MFs yX5_bitsOf cX5_bitsOf 4 (some .int) 1 := ⟨wd_228, wd_2, (by decide +kernel), wd_227⟩
theorem mf_X6_init : MFi yX6_init cX6_init 1 0 := ⟨wd_68, wd_5, (by decide +kernel), wd_67, rfl⟩
theorem mf_X6_in : MFs yX6_in cX6_in 3 (some .boolean) 3 := ⟨wd_110, wd_5, (by decide +kernel), wd_109⟩
theorem mf_X6_edit : MFv yX6_edit cX6_edit 2 none RX6 0 := ⟨wd_114, wd_5, (by decide +kernel), wd_112, wd_113⟩
theorem mf_X6_undo : MFv yX6_undo cX6_undo 2 (some .int) RX6 0 := ⟨wd_493, wd_5, (by decide +kernel), wd_491, wd_492⟩
theorem mf_X6_addSpecimen : MFv yX6_addSpecimen cX6_addSpecimen 6 (some .int) RX6 4 := ⟨wd_107, wd_5, (by decide +kernel), wd_105, wd_106⟩
theorem mf_X6_isSpecimen : MFv yX6_isSpecimen cX6_isSpecimen 2 (some .boolean) RX6 1 := ⟨wd_134, wd_5, (by decide +kernel), wd_132, wd_133⟩
theorem mf_X6_removeSpecimen : MFv yX6_removeSpecimen cX6_removeSpecimen 3 (some .int) RX6 1 := ⟨wd_130, wd_5, (by decide +kernel), wd_128, wd_129⟩
theorem mf_X6_isSide : MFs yX6_isSide cX6_isSide 1 (some .boolean) 1 := ⟨wd_151, wd_5, (by decide +kernel), wd_150⟩
theorem mf_X6_setWear : MFv yX6_setWear cX6_setWear 5 (some .int) RX6 3 := ⟨wd_148, wd_5, (by decide +kernel), wd_146, wd_147⟩
theorem mf_X6_specimens : MFv yX6_specimens cX6_specimens 5 (some .int) RX6 2 := ⟨wd_177, wd_5, (by decide +kernel), wd_175, wd_176⟩
theorem mf_X6_isDie : MFs yX6_isDie cX6_isDie 2 (some .boolean) 2 := ⟨wd_173, wd_5, (by decide +kernel), wd_172⟩
theorem mf_X6_mergeDies : MFv yX6_mergeDies cX6_mergeDies 6 (some .int) RX6 3 := ⟨wd_170, wd_5, (by decide +kernel), wd_168, wd_169⟩
theorem mf_X6_specimenCount : MFv yX6_specimenCount cX6_specimenCount 1 (some .int) RX6 0 := ⟨wd_185, wd_5, (by decide +kernel), wd_183, wd_184⟩
theorem mf_X6_dieOf : MFv yX6_dieOf cX6_dieOf 3 (some .int) RX6 2 := ⟨wd_193, wd_5, (by decide +kernel), wd_191, wd_192⟩
theorem mf_X6_known : MFv yX6_known cX6_known 4 (some .int) RX6 1 := ⟨wd_209, wd_5, (by decide +kernel), wd_207, wd_208⟩
theorem mf_X6_dieCount : MFv yX6_dieCount cX6_dieCount 2 (some .int) RX6 1 := ⟨wd_205, wd_5, (by decide +kernel), wd_203, wd_204⟩
theorem mf_X6_frequency : MFv yX6_frequency cX6_frequency 3 (some .int) RX6 2 := ⟨wd_217, wd_5, (by decide +kernel), wd_215, wd_216⟩
theorem mf_X6_bits : MFs yX6_bits cX6_bits 9 (some .int) 2 := ⟨wd_236, wd_5, (by decide +kernel), wd_235⟩
theorem mf_X6_meanWearBits : MFv yX6_meanWearBits cX6_meanWearBits 6 (some .int) RX6 2 := ⟨wd_233, wd_5, (by decide +kernel), wd_231, wd_232⟩
theorem mf_X6_isCouple : MFv yX6_isCouple cX6_isCouple 4 (some .boolean) RX6 3 := ⟨wd_291, wd_5, (by decide +kernel), wd_289, wd_290⟩
theorem mf_X6_finds : MFv yX6_finds cX6_finds 7 none RX6 0 := ⟨wd_287, wd_5, (by decide +kernel), wd_285, wd_286⟩
theorem mf_X6_coupleCount : MFv yX6_coupleCount cX6_coupleCount 1 (some .int) RX6 0 := ⟨wd_282, wd_5, (by decide +kernel), wd_280, wd_281⟩
theorem mf_X6_coupleAt : MFv yX6_coupleAt cX6_coupleAt 2 (some .int) RX6 1 := ⟨wd_303, wd_5, (by decide +kernel), wd_301, wd_302⟩
theorem mf_X6_nets : MFv yX6_nets cX6_nets 6 (some .int) RX6 1 := ⟨wd_340, wd_5, (by decide +kernel), wd_338, wd_339⟩
theorem mf_X6_componentCount : MFv yX6_componentCount cX6_componentCount 1 (some .int) RX6 0 := ⟨wd_336, wd_5, (by decide +kernel), wd_334, wd_335⟩
theorem mf_X6_componentSize : MFv yX6_componentSize cX6_componentSize 5 (some .int) RX6 2 := ⟨wd_351, wd_5, (by decide +kernel), wd_349, wd_350⟩
theorem mf_X6_cycleRank : MFv yX6_cycleRank cX6_cycleRank 1 (some .int) RX6 0 := ⟨wd_359, wd_5, (by decide +kernel), wd_357, wd_358⟩
theorem mf_X6_bridgeCount : MFv yX6_bridgeCount cX6_bridgeCount 4 (some .int) RX6 0 := ⟨wd_371, wd_5, (by decide +kernel), wd_369, wd_370⟩
theorem mf_X6_isBridge : MFv yX6_isBridge cX6_isBridge 2 (some .int) RX6 1 := ⟨wd_379, wd_5, (by decide +kernel), wd_377, wd_378⟩
theorem mf_X6_isBy : MFv yX6_isBy cX6_isBy 4 (some .boolean) RX6 3 := ⟨wd_402, wd_5, (by decide +kernel), wd_400, wd_401⟩
theorem mf_X6_isEarlier : MFv yX6_isEarlier cX6_isEarlier 3 (some .boolean) RX6 2 := ⟨wd_398, wd_5, (by decide +kernel), wd_396, wd_397⟩
theorem mf_X6_compareCouples : MFv yX6_compareCouples cX6_compareCouples 3 (some .int) RX6 2 := ⟨wd_394, wd_5, (by decide +kernel), wd_392, wd_393⟩
theorem mf_X6_places : MFv yX6_places cX6_places 6 (some .boolean) RX6 0 := ⟨wd_431, wd_5, (by decide +kernel), wd_429, wd_430⟩
theorem mf_X6_isConsistent : MFv yX6_isConsistent cX6_isConsistent 1 (some .int) RX6 0 := ⟨wd_427, wd_5, (by decide +kernel), wd_425, wd_426⟩
theorem mf_X6_coupleInOrder : MFv yX6_coupleInOrder cX6_coupleInOrder 2 (some .int) RX6 1 := ⟨wd_439, wd_5, (by decide +kernel), wd_437, wd_438⟩
theorem mf_X6_generation : MFv yX6_generation cX6_generation 2 (some .int) RX6 1 := ⟨wd_447, wd_5, (by decide +kernel), wd_445, wd_446⟩
theorem mf_X6_single : MFv yX6_single cX6_single 4 (some .int) RX6 1 := ⟨wd_462, wd_5, (by decide +kernel), wd_460, wd_461⟩
theorem mf_X6_singletons : MFv yX6_singletons cX6_singletons 2 (some .int) RX6 1 := ⟨wd_458, wd_5, (by decide +kernel), wd_456, wd_457⟩
theorem mf_X6_coverageEstimate : MFv yX6_coverageEstimate cX6_coverageEstimate 4 (some .int) RX6 1 := ⟨wd_470, wd_5, (by decide +kernel), wd_468, wd_469⟩
theorem mf_X6_frequencyEstimate : MFv yX6_frequencyEstimate cX6_frequencyEstimate 5 (some .int) RX6 1 := ⟨wd_481, wd_5, (by decide +kernel), wd_479, wd_480⟩
theorem mf_J7_fill_53178 : MFs yJ7_fill_53178 cJ7_fill_53178 4 none 2 := ⟨wd_252, wd_251, (by decide +kernel), wd_250⟩
end
section
theorem zc {x y : Nat × va_E} {w w2 : va_W} (h : x = y) (t : w = w2) : x :: w = y :: w2 := by rw [h, t]
/-! ===== the numbers that the specimens give ===== -/
/-- specimens among the first k that were struck with die a of side sd -/
def cnt (F : Nat → Nat) (sd a : Nat) : Nat → Nat
  | 0 => 0
  | k + 1 => cnt F sd a k + (if F (4 * k + sd) = a then 1 else 0)
theorem cnt_le (F : Nat → Nat) (sd a k : Nat) : cnt F sd a k ≤ k := by
  induction k with
  | zero => simp [cnt]
  | succ k ih => simp only [cnt]; split <;> omega
def wsum (F : Nat → Nat) (sd a : Nat) : Nat → Nat
  | 0 => 0
  | k + 1 => wsum F sd a k + (if F (4 * k + sd) = a then F (4 * k + 2 + sd) else 0)
/-- known dies among the first k of side sd -/
def kn (F : Nat → Nat) (sd n : Nat) : Nat → Nat
  | 0 => 0
  | k + 1 => kn F sd n k + (if 0 < cnt F sd k n then 1 else 0)
theorem kn_le (F : Nat → Nat) (sd n k : Nat) : kn F sd n k ≤ k := by
  induction k with
  | zero => simp [kn]
  | succ k ih => simp only [kn]; split <;> omega
/-- dies among the first k of side sd with just one specimen -/
def sg (F : Nat → Nat) (sd n : Nat) : Nat → Nat
  | 0 => 0
  | k + 1 => sg F sd n k + (if cnt F sd k n = 1 then 1 else 0)
theorem sg_le (F : Nat → Nat) (sd n k : Nat) : sg F sd n k ≤ k := by
  induction k with
  | zero => simp [sg]
  | succ k ih => simp only [sg]; split <;> omega
/-- die a of side sd replaced by b among the first k specimens -/
def rep (F : Nat → Nat) (sd a b k : Nat) : Nat → Nat := fun j => if j < 4 * k ∧ j % 4 = sd ∧ F j = a then b else F j
theorem rep_zero (F : Nat → Nat) (sd a b : Nat) : rep F sd a b 0 = F := by
  funext j
  simp [rep]
theorem rep_at (F : Nat → Nat) (sd a b k : Nat) : rep F sd a b k (4 * k + sd) = F (4 * k + sd) := by
  simp only [rep]
  rw [if_neg (by omega)]
theorem rep_eq (F : Nat → Nat) {sd : Nat} (a b k : Nat) (hs : sd < 4) (h : F (4 * k + sd) = a) : updN (rep F sd a b k) (4 * k + sd) b = rep F sd a b (k + 1) := by
  funext j
  simp only [updN, rep]
  by_cases e : j = 4 * k + sd
  · subst e
    rw [if_pos rfl, if_pos ⟨by omega, by omega, h⟩]
  · rw [if_neg e]
    by_cases c : j < 4 * k ∧ j % 4 = sd ∧ F j = a
    · rw [if_pos c, if_pos ⟨by omega, c.2⟩]
    · rw [if_neg c, if_neg (fun q => c ⟨by omega, q.2⟩)]
theorem rep_ne (F : Nat → Nat) {sd : Nat} (a b k : Nat) (hs : sd < 4) (h : ¬ F (4 * k + sd) = a) : rep F sd a b k = rep F sd a b (k + 1) := by
  funext j
  simp only [rep]
  by_cases c : j < 4 * k ∧ j % 4 = sd ∧ F j = a
  · rw [if_pos c, if_pos ⟨by omega, c.2⟩]
  · rw [if_neg c, if_neg (fun q => c ⟨by
      rcases Nat.lt_or_ge j (4 * k) with g | g
      · exact g
      · have e : j = 4 * k + sd := by omega
        subst e
        exact absurd q.2.2 h, q.2⟩)]
/-- the cells when specimen s of n has gone -/
def rmv (F : Nat → Nat) (s n : Nat) : Nat → Nat := cpyN F F (4 * s + 4) (4 * s) (4 * n - (4 * s + 4))

def rmX4_init : Room := { frames := 1, cells := 1, slots := 96, locals := 24 }
set_option maxHeartbeats 4000000 in
set_option maxRecDepth 100000 in
theorem c_X4_init (l : Launch) (E : ZE) (h0 : Nat)  : ZMv l yX4_init cX4_init 1 rmX4_init E [.ref h0] [(h0, ob 4 [.null, .int (nI 0)])] (S := Nat) (fun u => True) (fun u => [(h0, ob 4 [.ref u, .int (nI 0)]), (u, ia E 96 (nA (fun _ => 0)))]) := by
  refine z_mv (by decide) (Nat.le_of_ble_eq_true rfl) ?_
  intro p e s m args below meth c A Q ls cx hin hw hl ret
  obtain ⟨hx, hb, hml, hown, hts, hK, hN, hA, hlk⟩ := id cx
  have hl : lv_has ls 1 [(0, .ref h0)] := hl
  refine lv_aload_n hx hb dX4_init_0 rfl (lv_at hl 0 rfl) ?_
  refine z_obj cx hl wd_34 (Nat.le_of_ble_eq_true rfl) (Nat.le_of_ble_eq_true rfl) dX4_init_1 ?_
  refine lv_aload_n hx hb dX4_init_4 rfl (lv_at hl 0 rfl) ?_
  refine lv_bipush (v := nI 96) hx hb dX4_init_5 (by decide) ?_
  refine z_newa (atype := .int) (a0 := (96, .inl (nA (fun _ => 0)))) (k := 0) cx hw 96 rfl (by decide) rfl rfl (fun _ h => by cases h) (fun _ => rfl) (by decide) wd_35 (Nat.le_of_ble_eq_true rfl) (Nat.le_of_ble_eq_true rfl) dX4_init_7 (fun q7 H hw => ?_)
  refine W.widen (k := 1) (n := 96) (Nat.le_of_ble_eq_true rfl) (Nat.le_of_ble_eq_true rfl) ?_
  have hw : ZW E A s [(h0, ob 4 [.null, .int (nI 0)]), (q7, ia E 96 (nA (fun _ => 0)))] H [] := hw
  refine z_putF cx hw 0 0 rfl rfl inlX4 tyX4_ok nmX4 (by decide) wd_36 rfl hin rfl rfl rfl (Nat.le_of_ble_eq_true rfl) dX4_init_9 (fun H locs hw => ?_)
  have hw : ZW E A s [(h0, ob 4 [.ref q7, .int (nI 0)]), (q7, ia E 96 (nA (fun _ => 0)))] H locs := hw
  refine lv_aload_n hx hb dX4_init_12 rfl (lv_at hl 0 rfl) ?_
  refine lv_iconst (v := nI 0) hx hb dX4_init_13 (by decide) ?_
  refine z_put cx hw 0 1 rfl rfl inlX4 tyX4_ok nmX4 (by decide) wd_37 rfl rfl rfl (Nat.le_of_ble_eq_true rfl) dX4_init_14 (fun H locs hw => ?_)
  have hw : ZW E A s [(h0, ob 4 [.ref q7, .int (nI 0)]), (q7, ia E 96 (nA (fun _ => 0)))] H locs := hw
  exact ret q7 17 ls H locs dX4_init_17 (trivial) (hw)

def rmX4_has : Room := { frames := 0, cells := 0, slots := 0, locals := 0 }
set_option maxHeartbeats 4000000 in
set_option maxRecDepth 100000 in
theorem c_X4_has (l : Launch) (E : ZE) (h0 q : Nat) (F : Nat → Nat) (n : Nat) (x : Int32) (hn : n ≤ 24) : ZMi l yX4_has cX4_has 2 (some .boolean) rmX4_has E [.ref h0, .int x] [(h0, ob 4 [.ref q, .int (nI n)]), (q, ia E 96 (nA F))] (S := Unit) (fun r _ => r = bI (inR x n)) (fun _ => [(h0, ob 4 [.ref q, .int (nI n)]), (q, ia E 96 (nA F))]) := by
  refine z_mz (by decide) (Nat.le_of_ble_eq_true rfl) ?_
  intro p e s m args below meth c A Q ls cx hin hw hl ret
  obtain ⟨hx, hb, hml, hown, hts, hK, hN, hA, hlk⟩ := id cx
  have hl : lv_has ls 2 [(0, .ref h0), (1, .int x)] := hl
  refine lv_iload_n hx hb dX4_has_0 rfl (lv_at hl 1 rfl) ?_
  refine lv_if_lt (tgt := 16) hx hb dX4_has_1 (by decide) (fun c_1 => ?_) (fun c_1 => ?_)
  · refine lv_iconst (v := nI 0) hx hb dX4_has_16 (by decide) ?_
    exact ret false () 17 ls s.heap [] dX4_has_17 (congrArg bI (by rw [inR_neg c_1])) (hw)
  · refine lv_iload_n hx hb dX4_has_4 rfl (lv_at hl 1 rfl) ?_
    refine lv_aload_n hx hb dX4_has_5 rfl (lv_at hl 0 rfl) ?_
    refine z_get cx hw 0 1 rfl rfl inlX4 (by decide) wd_37 rfl dX4_has_6 ?_
    refine lv_icmp_ge (tgt := 16) hx hb dX4_has_9 (by decide) (fun c_9 => ?_) (fun c_9 => ?_)
    · refine lv_iconst (v := nI 0) hx hb dX4_has_16 (by decide) ?_
      exact ret false () 17 ls s.heap [] dX4_has_17 (congrArg bI (by rw [inR_ge (by omega) c_9])) (hw)
    · refine lv_iconst (v := nI 1) hx hb dX4_has_12 (by decide) ?_
      refine lv_goto (tgt := 17) hx hb dX4_has_13 (by decide) ?_
      exact ret true () 17 ls s.heap [] dX4_has_17 (congrArg bI (by rw [inR_in (by omega) c_1 c_9])) (hw)

def rmX4_die : Room := { frames := 0, cells := 0, slots := 0, locals := 0 }
set_option maxHeartbeats 4000000 in
set_option maxRecDepth 100000 in
theorem c_X4_die (l : Launch) (E : ZE) (h0 q : Nat) (F : Nat → Nat) (n : Nat) (k sd : Nat) (hk : k < 24) (hs : sd < 2) : ZMi l yX4_die cX4_die 3 (some .int) rmX4_die E [.ref h0, .int (nI k), .int (nI sd)] [(h0, ob 4 [.ref q, .int (nI n)]), (q, ia E 96 (nA F))] (S := Unit) (fun r _ => r = nI (F (4 * k + sd))) (fun _ => [(h0, ob 4 [.ref q, .int (nI n)]), (q, ia E 96 (nA F))]) := by
  refine z_mi (by decide) (Nat.le_of_ble_eq_true rfl) ?_
  intro p e s m args below meth c A Q ls cx hin hw hl ret
  obtain ⟨hx, hb, hml, hown, hts, hK, hN, hA, hlk⟩ := id cx
  have hl : lv_has ls 3 [(0, .ref h0), (1, .int (nI k)), (2, .int (nI sd))] := hl
  refine lv_aload_n hx hb dX4_die_0 rfl (lv_at hl 0 rfl) ?_
  refine z_get cx hw 0 0 rfl rfl inlX4 (by decide) wd_36 rfl dX4_die_1 ?_
  refine lv_iload_n hx hb dX4_die_4 rfl (lv_at hl 1 rfl) ?_
  refine lv_iconst (v := nI 4) hx hb dX4_die_5 (by decide) ?_
  refine z_imul hx hb (k * 4) rfl dX4_die_6 ?_
  refine lv_iload_n hx hb dX4_die_7 rfl (lv_at hl 2 rfl) ?_
  refine z_iadd hx hb ((k * 4) + sd) rfl dX4_die_8 ?_
  refine z_aldN cx hw 1 rfl (4 * k + sd) (congrArg nI (by omega)) (by omega) (by decide) dX4_die_9 ?_
  exact ret (nI (F (4 * k + sd))) () 10 ls s.heap [] dX4_die_10 (rfl) (hw)

def rmX4_putDie : Room := { frames := 0, cells := 0, slots := 0, locals := 0 }
set_option maxHeartbeats 4000000 in
set_option maxRecDepth 100000 in
theorem c_X4_putDie (l : Launch) (E : ZE) (h0 q : Nat) (F : Nat → Nat) (n : Nat) (k sd v : Nat) (hk : k < 24) (hs : sd < 2) : ZMv l yX4_putDie cX4_putDie 4 rmX4_putDie E [.ref h0, .int (nI k), .int (nI sd), .int (nI v)] [(h0, ob 4 [.ref q, .int (nI n)]), (q, ia E 96 (nA F))] (S := Unit) (fun _ => True) (fun _ => [(h0, ob 4 [.ref q, .int (nI n)]), (q, ia E 96 (nA (updN F (4 * k + sd) v)))]) := by
  refine z_mv (by decide) (Nat.le_of_ble_eq_true rfl) ?_
  intro p e s m args below meth c A Q ls cx hin hw hl ret
  obtain ⟨hx, hb, hml, hown, hts, hK, hN, hA, hlk⟩ := id cx
  have hl : lv_has ls 4 [(0, .ref h0), (1, .int (nI k)), (2, .int (nI sd)), (3, .int (nI v))] := hl
  refine lv_aload_n hx hb dX4_putDie_0 rfl (lv_at hl 0 rfl) ?_
  refine z_get cx hw 0 0 rfl rfl inlX4 (by decide) wd_36 rfl dX4_putDie_1 ?_
  refine lv_iload_n hx hb dX4_putDie_4 rfl (lv_at hl 1 rfl) ?_
  refine lv_iconst (v := nI 4) hx hb dX4_putDie_5 (by decide) ?_
  refine z_imul hx hb (k * 4) rfl dX4_putDie_6 ?_
  refine lv_iload_n hx hb dX4_putDie_7 rfl (lv_at hl 2 rfl) ?_
  refine z_iadd hx hb ((k * 4) + sd) rfl dX4_putDie_8 ?_
  refine lv_iload_n hx hb dX4_putDie_9 rfl (lv_at hl 3 rfl) ?_
  refine z_astN cx hw 1 rfl (4 * k + sd) (congrArg nI (by omega)) (by omega) (by decide) dX4_putDie_10 (fun H locs hw => ?_)
  have hw : ZW E A s [(h0, ob 4 [.ref q, .int (nI n)]), (q, ia E 96 (nA (updN F (4 * k + sd) v)))] H locs := hw
  exact ret () 11 ls H locs dX4_putDie_11 (trivial) (hw)

def rmX4_wear : Room := { frames := 0, cells := 0, slots := 0, locals := 0 }
set_option maxHeartbeats 4000000 in
set_option maxRecDepth 100000 in
theorem c_X4_wear (l : Launch) (E : ZE) (h0 q : Nat) (F : Nat → Nat) (n : Nat) (k sd : Nat) (hk : k < 24) (hs : sd < 2) : ZMi l yX4_wear cX4_wear 3 (some .int) rmX4_wear E [.ref h0, .int (nI k), .int (nI sd)] [(h0, ob 4 [.ref q, .int (nI n)]), (q, ia E 96 (nA F))] (S := Unit) (fun r _ => r = nI (F (4 * k + 2 + sd))) (fun _ => [(h0, ob 4 [.ref q, .int (nI n)]), (q, ia E 96 (nA F))]) := by
  refine z_mi (by decide) (Nat.le_of_ble_eq_true rfl) ?_
  intro p e s m args below meth c A Q ls cx hin hw hl ret
  obtain ⟨hx, hb, hml, hown, hts, hK, hN, hA, hlk⟩ := id cx
  have hl : lv_has ls 3 [(0, .ref h0), (1, .int (nI k)), (2, .int (nI sd))] := hl
  refine lv_aload_n hx hb dX4_wear_0 rfl (lv_at hl 0 rfl) ?_
  refine z_get cx hw 0 0 rfl rfl inlX4 (by decide) wd_36 rfl dX4_wear_1 ?_
  refine lv_iload_n hx hb dX4_wear_4 rfl (lv_at hl 1 rfl) ?_
  refine lv_iconst (v := nI 4) hx hb dX4_wear_5 (by decide) ?_
  refine z_imul hx hb (k * 4) rfl dX4_wear_6 ?_
  refine lv_iconst (v := nI 2) hx hb dX4_wear_7 (by decide) ?_
  refine z_iadd hx hb ((k * 4) + 2) rfl dX4_wear_8 ?_
  refine lv_iload_n hx hb dX4_wear_9 rfl (lv_at hl 2 rfl) ?_
  refine z_iadd hx hb (((k * 4) + 2) + sd) rfl dX4_wear_10 ?_
  refine z_aldN cx hw 1 rfl (4 * k + 2 + sd) (congrArg nI (by omega)) (by omega) (by decide) dX4_wear_11 ?_
  exact ret (nI (F (4 * k + 2 + sd))) () 12 ls s.heap [] dX4_wear_12 (rfl) (hw)

def rmX4_putWear : Room := { frames := 0, cells := 0, slots := 0, locals := 0 }
set_option maxHeartbeats 4000000 in
set_option maxRecDepth 100000 in
theorem c_X4_putWear (l : Launch) (E : ZE) (h0 q : Nat) (F : Nat → Nat) (n : Nat) (k sd v : Nat) (hk : k < 24) (hs : sd < 2) : ZMv l yX4_putWear cX4_putWear 4 rmX4_putWear E [.ref h0, .int (nI k), .int (nI sd), .int (nI v)] [(h0, ob 4 [.ref q, .int (nI n)]), (q, ia E 96 (nA F))] (S := Unit) (fun _ => True) (fun _ => [(h0, ob 4 [.ref q, .int (nI n)]), (q, ia E 96 (nA (updN F (4 * k + 2 + sd) v)))]) := by
  refine z_mv (by decide) (Nat.le_of_ble_eq_true rfl) ?_
  intro p e s m args below meth c A Q ls cx hin hw hl ret
  obtain ⟨hx, hb, hml, hown, hts, hK, hN, hA, hlk⟩ := id cx
  have hl : lv_has ls 4 [(0, .ref h0), (1, .int (nI k)), (2, .int (nI sd)), (3, .int (nI v))] := hl
  refine lv_aload_n hx hb dX4_putWear_0 rfl (lv_at hl 0 rfl) ?_
  refine z_get cx hw 0 0 rfl rfl inlX4 (by decide) wd_36 rfl dX4_putWear_1 ?_
  refine lv_iload_n hx hb dX4_putWear_4 rfl (lv_at hl 1 rfl) ?_
  refine lv_iconst (v := nI 4) hx hb dX4_putWear_5 (by decide) ?_
  refine z_imul hx hb (k * 4) rfl dX4_putWear_6 ?_
  refine lv_iconst (v := nI 2) hx hb dX4_putWear_7 (by decide) ?_
  refine z_iadd hx hb ((k * 4) + 2) rfl dX4_putWear_8 ?_
  refine lv_iload_n hx hb dX4_putWear_9 rfl (lv_at hl 2 rfl) ?_
  refine z_iadd hx hb (((k * 4) + 2) + sd) rfl dX4_putWear_10 ?_
  refine lv_iload_n hx hb dX4_putWear_11 rfl (lv_at hl 3 rfl) ?_
  refine z_astN cx hw 1 rfl (4 * k + 2 + sd) (congrArg nI (by omega)) (by omega) (by decide) dX4_putWear_12 (fun H locs hw => ?_)
  have hw : ZW E A s [(h0, ob 4 [.ref q, .int (nI n)]), (q, ia E 96 (nA (updN F (4 * k + 2 + sd) v)))] H locs := hw
  exact ret () 13 ls H locs dX4_putWear_13 (trivial) (hw)

def rmX4_close : Room := { frames := 1, cells := 0, slots := 0, locals := 60 }
set_option maxHeartbeats 4000000 in
set_option maxRecDepth 100000 in
theorem c_X4_close (l : Launch) (E : ZE) (h0 q : Nat) (F : Nat → Nat) (n : Nat) (k : Nat) (hk : k < n) (hn : n ≤ 24) : ZMv l yX4_close cX4_close 4 rmX4_close E [.ref h0, .int (nI k)] [(h0, ob 4 [.ref q, .int (nI n)]), (q, ia E 96 (nA F))] (S := Unit) (fun _ => True) (fun _ => [(h0, ob 4 [.ref q, .int (nI (n - 1))]), (q, ia E 96 (nA (rmv F k n)))]) := by
  refine z_mv (by decide) (Nat.le_of_ble_eq_true rfl) ?_
  intro p e s m args below meth c A Q ls cx hin hw hl ret
  obtain ⟨hx, hb, hml, hown, hts, hK, hN, hA, hlk⟩ := id cx
  have hl : lv_has ls 4 [(0, .ref h0), (1, .int (nI k))] := hl
  refine lv_iload_n hx hb dX4_close_0 rfl (lv_at hl 1 rfl) ?_
  refine lv_iconst (v := nI 4) hx hb dX4_close_1 (by decide) ?_
  refine z_imul hx hb (4 * k) (by omega) dX4_close_2 ?_
  refine lv_istore_n (lv' := [(2, .int (nI (4 * k))), (0, .ref h0), (1, .int (nI k))]) hx hb dX4_close_3 rfl hl (by decide) rfl (fun ls hl => ?_)
  refine lv_iload_n hx hb dX4_close_4 rfl (lv_at hl 0 rfl) ?_
  refine lv_iconst (v := nI 4) hx hb dX4_close_5 (by decide) ?_
  refine z_iadd hx hb ((4 * k) + 4) rfl dX4_close_6 ?_
  refine lv_istore_n (lv' := [(3, .int (nI ((4 * k) + 4))), (2, .int (nI (4 * k))), (0, .ref h0), (1, .int (nI k))]) hx hb dX4_close_7 rfl hl (by decide) rfl (fun ls hl => ?_)
  refine lv_aload_n hx hb dX4_close_8 rfl (lv_at hl 2 rfl) ?_
  refine z_get cx hw 0 0 rfl rfl inlX4 (by decide) wd_36 rfl dX4_close_9 ?_
  refine lv_iload_n hx hb dX4_close_12 rfl (lv_at hl 0 rfl) ?_
  refine lv_aload_n hx hb dX4_close_13 rfl (lv_at hl 2 rfl) ?_
  refine z_get cx hw 0 0 rfl rfl inlX4 (by decide) wd_36 rfl dX4_close_14 ?_
  refine lv_iload_n hx hb dX4_close_17 rfl (lv_at hl 1 rfl) ?_
  refine lv_aload_n hx hb dX4_close_18 rfl (lv_at hl 2 rfl) ?_
  refine z_get cx hw 0 1 rfl rfl inlX4 (by decide) wd_37 rfl dX4_close_19 ?_
  refine lv_iconst (v := nI 4) hx hb dX4_close_22 (by decide) ?_
  refine z_imul hx hb (4 * n) (by omega) dX4_close_23 ?_
  refine lv_iload_n hx hb dX4_close_24 rfl (lv_at hl 0 rfl) ?_
  refine z_isub hx hb ((4 * n) - ((4 * k) + 4)) (by omega) rfl dX4_close_25 ?_
  refine z_copy cx hw 1 1 rfl rfl ((4 * k) + 4) (4 * k) ((4 * n) - ((4 * k) + 4)) rfl rfl rfl (by omega) (by omega) (by decide) (by decide) hl wd_126 (Nat.le_of_ble_eq_true rfl) (Nat.le_of_ble_eq_true rfl) dX4_close_26 (fun H locs hw => ?_)
  have hw : ZW E A s [(h0, ob 4 [.ref q, .int (nI n)]), (q, ia E 96 (nA (cpyN F F ((4 * k) + 4) (4 * k) ((4 * n) - ((4 * k) + 4)))))] H locs := hw
  refine lv_aload_n hx hb dX4_close_29 rfl (lv_at hl 2 rfl) ?_
  refine lv_dup hx hb dX4_close_30 rfl ?_
  refine z_get cx hw 0 1 rfl rfl inlX4 (by decide) wd_37 rfl dX4_close_31 ?_
  refine lv_iconst (v := nI 1) hx hb dX4_close_34 (by decide) ?_
  refine z_isub hx hb (n - 1) (by omega) rfl dX4_close_35 ?_
  refine z_put cx hw 0 1 rfl rfl inlX4 tyX4_ok nmX4 (by decide) wd_37 rfl rfl rfl (Nat.le_of_ble_eq_true rfl) dX4_close_36 (fun H locs hw => ?_)
  have hw : ZW E A s [(h0, ob 4 [.ref q, .int (nI (n - 1))]), (q, ia E 96 (nA (cpyN F F ((4 * k) + 4) (4 * k) ((4 * n) - ((4 * k) + 4)))))] H locs := hw
  have e_r39_0 : (cpyN F F ((4 * k) + 4) (4 * k) ((4 * n) - ((4 * k) + 4))) = (rmv F k n) := by rfl
  exact ret () 39 ls H locs dX4_close_39 (trivial) ((hw).cast (zc rfl (zc (congrArg (fun z => ((q, ia E 96 (nA z)) : Nat × va_E)) e_r39_0) rfl)))

def rmX4_struckWith : Room := { frames := 1, cells := 0, slots := 0, locals := 22 }
set_option maxHeartbeats 4000000 in
set_option maxRecDepth 100000 in
theorem c_X4_struckWith (l : Launch) (E : ZE) (h0 q : Nat) (F : Nat → Nat) (n : Nat) (sd a : Nat) (hn : n ≤ 24) (hF : ∀ j, F j < 10) (hs : sd < 2) (ha : a < 10) : ZMi l yX4_struckWith cX4_struckWith 5 (some .int) rmX4_struckWith E [.ref h0, .int (nI sd), .int (nI a)] [(h0, ob 4 [.ref q, .int (nI n)]), (q, ia E 96 (nA F))] (S := Unit) (fun r _ => r = nI (cnt F sd a n)) (fun _ => [(h0, ob 4 [.ref q, .int (nI n)]), (q, ia E 96 (nA F))]) := by
  refine z_mi (by decide) (Nat.le_of_ble_eq_true rfl) ?_
  intro p e s m args below meth c A Q ls cx hin hw hl ret
  obtain ⟨hx, hb, hml, hown, hts, hK, hN, hA, hlk⟩ := id cx
  have hl : lv_has ls 5 [(0, .ref h0), (1, .int (nI sd)), (2, .int (nI a))] := hl
  refine lv_iconst (v := nI 0) hx hb dX4_struckWith_0 (by decide) ?_
  refine lv_istore_n (lv' := [(3, .int (nI 0)), (0, .ref h0), (1, .int (nI sd)), (2, .int (nI a))]) hx hb dX4_struckWith_1 rfl hl (by decide) rfl (fun ls hl => ?_)
  refine lv_iconst (v := nI 0) hx hb dX4_struckWith_2 (by decide) ?_
  refine lv_istore (lv' := [(4, .int (nI 0)), (3, .int (nI 0)), (0, .ref h0), (1, .int (nI sd)), (2, .int (nI a))]) hx hb dX4_struckWith_3 hl (by decide) rfl (fun ls hl => ?_)
  have loop_5 : ∀ (fuel : Nat) (k : Nat) (hk : k ≤ n) (hm : n - k < fuel) (H : Heap) (locs : List Loc) (ls : Array Slot), ZW E A s [(h0, ob 4 [.ref q, .int (nI n)]), (q, ia E 96 (nA F))] H locs → lv_has ls 5 [(0, .ref h0), (1, .int (nI sd)), (2, .int (nI a)), (3, .int (nI (cnt F sd a k))), (4, .int (nI k))] → W p l e rmX4_struckWith s m args below meth c H locs 0 0 Q (F0 m 5 ls []) := by
    intro fuel
    induction fuel with
    | zero => intro k hk hm; exact absurd hm (Nat.not_lt_zero _)
    | succ fuel ih_5 =>
      intro k hk hm H locs ls hw hl
      refine lv_iload hx hb dX4_struckWith_5 (lv_at hl 4 rfl) ?_
      refine lv_aload_n hx hb dX4_struckWith_7 rfl (lv_at hl 0 rfl) ?_
      refine z_get cx hw 0 1 rfl rfl inlX4 (by decide) wd_37 rfl dX4_struckWith_8 ?_
      refine z_icmp_ge hx hb (by omega) (by omega) 34 dX4_struckWith_11 (by decide) (fun c_11 => ?_) (fun c_11 => ?_)
      · refine lv_iload_n hx hb dX4_struckWith_34 rfl (lv_at hl 3 rfl) ?_
        have e_ : k = n := by omega
        exact ret (nI (cnt F sd a k)) () 35 ls H locs dX4_struckWith_35 (congrArg nI (by rw [e_])) (hw)
      · refine lv_aload_n hx hb dX4_struckWith_14 rfl (lv_at hl 0 rfl) ?_
        refine lv_iload hx hb dX4_struckWith_15 (lv_at hl 4 rfl) ?_
        refine lv_iload_n hx hb dX4_struckWith_17 rfl (lv_at hl 1 rfl) ?_
        refine z_ri0 (wr := []) cx hw [0, 1] [] rfl rfl (by decide) (by decide) rfl rfl (z_runV (As := [.int (nI k), .int (nI sd)]) (rest := []) cx hw rfl rfl [0, 1] rfl rfl (c_X4_die l E h0 q F n k sd (by omega) (by omega) H.size) mf_X4_die wd_159 ⟨Nat.le_of_ble_eq_true rfl, Nat.le_of_ble_eq_true rfl⟩ hl (Nat.le_of_ble_eq_true rfl) dX4_struckWith_18 ⟨Nat.le_of_ble_eq_true rfl, Nat.le_of_ble_eq_true rfl⟩) (fun r _ H locs hp hw => ?_)
        have hr_18 := hp
        have hr_18 : r = nI (F (4 * k + sd)) := hr_18
        subst hr_18
        have hw : ZW E A s [(h0, ob 4 [.ref q, .int (nI n)]), (q, ia E 96 (nA F))] H locs := hw
        have h_ := hF (4 * k + sd)
        refine lv_iload_n hx hb dX4_struckWith_21 rfl (lv_at hl 2 rfl) ?_
        refine z_icmp_ne hx hb (by omega) (by omega) 28 dX4_struckWith_22 (by decide) (fun c_22 => ?_) (fun c_22 => ?_)
        · refine lv_iinc (v := nI (k + 1)) (lv' := [(4, .int (nI (k + 1))), (0, .ref h0), (1, .int (nI sd)), (2, .int (nI a)), (3, .int (nI (cnt F sd a k)))]) hx hb dX4_struckWith_28 hl (k := 4) rfl (nI_1 _) (by decide) rfl (fun ls hl => ?_)
          refine lv_goto (tgt := 5) hx hb dX4_struckWith_31 (by decide) ?_
          exact ih_5 (k + 1) (by omega) (by omega) _ _ ls (hw) (lv_add (lv_add (lv_add (lv_add (lv_add (lv_nil hl) (lv_at hl 0 rfl)) (lv_eqv (lv_at hl 4 rfl) (zN (by simp [cnt, c_22])))) (lv_at hl 3 rfl)) (lv_at hl 2 rfl)) (lv_at hl 1 rfl))
        · refine lv_iinc (v := nI (cnt F sd a k + 1)) (lv' := [(3, .int (nI (cnt F sd a k + 1))), (0, .ref h0), (1, .int (nI sd)), (2, .int (nI a)), (4, .int (nI k))]) hx hb dX4_struckWith_25 hl (k := 3) rfl (nI_1 _) (by decide) rfl (fun ls hl => ?_)
          refine lv_iinc (v := nI (k + 1)) (lv' := [(4, .int (nI (k + 1))), (3, .int (nI (cnt F sd a k + 1))), (0, .ref h0), (1, .int (nI sd)), (2, .int (nI a))]) hx hb dX4_struckWith_28 hl (k := 4) rfl (nI_1 _) (by decide) rfl (fun ls hl => ?_)
          refine lv_goto (tgt := 5) hx hb dX4_struckWith_31 (by decide) ?_
          exact ih_5 (k + 1) (by omega) (by omega) _ _ ls (hw) (lv_add (lv_add (lv_add (lv_add (lv_add (lv_nil hl) (lv_at hl 0 rfl)) (lv_eqv (lv_at hl 1 rfl) (zN (by simp [cnt, c_22])))) (lv_at hl 4 rfl)) (lv_at hl 3 rfl)) (lv_at hl 2 rfl))
  exact loop_5 _ 0 (by omega) (Nat.lt_succ_self _) _ _ ls (hw) (lv_add (lv_add (lv_add (lv_add (lv_add (lv_nil hl) (lv_at hl 0 rfl)) (lv_eqv (lv_at hl 1 rfl) (zN (by rfl)))) (lv_at hl 4 rfl)) (lv_at hl 3 rfl)) (lv_at hl 2 rfl))

def rmX4_wearSum : Room := { frames := 1, cells := 0, slots := 0, locals := 22 }
set_option maxHeartbeats 4000000 in
set_option maxRecDepth 100000 in
theorem c_X4_wearSum (l : Launch) (E : ZE) (h0 q : Nat) (F : Nat → Nat) (n : Nat) (sd a : Nat) (hn : n ≤ 24) (hF : ∀ j, F j < 10) (hs : sd < 2) (ha : a < 10) : ZMi l yX4_wearSum cX4_wearSum 5 (some .int) rmX4_wearSum E [.ref h0, .int (nI sd), .int (nI a)] [(h0, ob 4 [.ref q, .int (nI n)]), (q, ia E 96 (nA F))] (S := Unit) (fun r _ => r = nI (wsum F sd a n)) (fun _ => [(h0, ob 4 [.ref q, .int (nI n)]), (q, ia E 96 (nA F))]) := by
  refine z_mi (by decide) (Nat.le_of_ble_eq_true rfl) ?_
  intro p e s m args below meth c A Q ls cx hin hw hl ret
  obtain ⟨hx, hb, hml, hown, hts, hK, hN, hA, hlk⟩ := id cx
  have hl : lv_has ls 5 [(0, .ref h0), (1, .int (nI sd)), (2, .int (nI a))] := hl
  refine lv_iconst (v := nI 0) hx hb dX4_wearSum_0 (by decide) ?_
  refine lv_istore_n (lv' := [(3, .int (nI 0)), (0, .ref h0), (1, .int (nI sd)), (2, .int (nI a))]) hx hb dX4_wearSum_1 rfl hl (by decide) rfl (fun ls hl => ?_)
  refine lv_iconst (v := nI 0) hx hb dX4_wearSum_2 (by decide) ?_
  refine lv_istore (lv' := [(4, .int (nI 0)), (3, .int (nI 0)), (0, .ref h0), (1, .int (nI sd)), (2, .int (nI a))]) hx hb dX4_wearSum_3 hl (by decide) rfl (fun ls hl => ?_)
  have loop_5 : ∀ (fuel : Nat) (k : Nat) (hk : k ≤ n) (hm : n - k < fuel) (H : Heap) (locs : List Loc) (ls : Array Slot), ZW E A s [(h0, ob 4 [.ref q, .int (nI n)]), (q, ia E 96 (nA F))] H locs → lv_has ls 5 [(0, .ref h0), (1, .int (nI sd)), (2, .int (nI a)), (3, .int (nI (wsum F sd a k))), (4, .int (nI k))] → W p l e rmX4_wearSum s m args below meth c H locs 0 0 Q (F0 m 5 ls []) := by
    intro fuel
    induction fuel with
    | zero => intro k hk hm; exact absurd hm (Nat.not_lt_zero _)
    | succ fuel ih_5 =>
      intro k hk hm H locs ls hw hl
      refine lv_iload hx hb dX4_wearSum_5 (lv_at hl 4 rfl) ?_
      refine lv_aload_n hx hb dX4_wearSum_7 rfl (lv_at hl 0 rfl) ?_
      refine z_get cx hw 0 1 rfl rfl inlX4 (by decide) wd_37 rfl dX4_wearSum_8 ?_
      refine z_icmp_ge hx hb (by omega) (by omega) 41 dX4_wearSum_11 (by decide) (fun c_11 => ?_) (fun c_11 => ?_)
      · refine lv_iload_n hx hb dX4_wearSum_41 rfl (lv_at hl 3 rfl) ?_
        have e_ : k = n := by omega
        exact ret (nI (wsum F sd a k)) () 42 ls H locs dX4_wearSum_42 (congrArg nI (by rw [e_])) (hw)
      · refine lv_aload_n hx hb dX4_wearSum_14 rfl (lv_at hl 0 rfl) ?_
        refine lv_iload hx hb dX4_wearSum_15 (lv_at hl 4 rfl) ?_
        refine lv_iload_n hx hb dX4_wearSum_17 rfl (lv_at hl 1 rfl) ?_
        refine z_ri0 (wr := []) cx hw [0, 1] [] rfl rfl (by decide) (by decide) rfl rfl (z_runV (As := [.int (nI k), .int (nI sd)]) (rest := []) cx hw rfl rfl [0, 1] rfl rfl (c_X4_die l E h0 q F n k sd (by omega) (by omega) H.size) mf_X4_die wd_159 ⟨Nat.le_of_ble_eq_true rfl, Nat.le_of_ble_eq_true rfl⟩ hl (Nat.le_of_ble_eq_true rfl) dX4_wearSum_18 ⟨Nat.le_of_ble_eq_true rfl, Nat.le_of_ble_eq_true rfl⟩) (fun r _ H locs hp hw => ?_)
        have hr_18 := hp
        have hr_18 : r = nI (F (4 * k + sd)) := hr_18
        subst hr_18
        have hw : ZW E A s [(h0, ob 4 [.ref q, .int (nI n)]), (q, ia E 96 (nA F))] H locs := hw
        have h_ := hF (4 * k + sd)
        refine lv_iload_n hx hb dX4_wearSum_21 rfl (lv_at hl 2 rfl) ?_
        refine z_icmp_ne hx hb (by omega) (by omega) 35 dX4_wearSum_22 (by decide) (fun c_22 => ?_) (fun c_22 => ?_)
        · refine lv_iinc (v := nI (k + 1)) (lv' := [(4, .int (nI (k + 1))), (0, .ref h0), (1, .int (nI sd)), (2, .int (nI a)), (3, .int (nI (wsum F sd a k)))]) hx hb dX4_wearSum_35 hl (k := 4) rfl (nI_1 _) (by decide) rfl (fun ls hl => ?_)
          refine lv_goto (tgt := 5) hx hb dX4_wearSum_38 (by decide) ?_
          exact ih_5 (k + 1) (by omega) (by omega) _ _ ls (hw) (lv_add (lv_add (lv_add (lv_add (lv_add (lv_nil hl) (lv_at hl 0 rfl)) (lv_eqv (lv_at hl 4 rfl) (zN (by simp [wsum, c_22])))) (lv_at hl 3 rfl)) (lv_at hl 2 rfl)) (lv_at hl 1 rfl))
        · refine lv_iload_n hx hb dX4_wearSum_25 rfl (lv_at hl 3 rfl) ?_
          refine lv_aload_n hx hb dX4_wearSum_26 rfl (lv_at hl 0 rfl) ?_
          refine lv_iload hx hb dX4_wearSum_27 (lv_at hl 4 rfl) ?_
          refine lv_iload_n hx hb dX4_wearSum_29 rfl (lv_at hl 1 rfl) ?_
          refine z_ri0 (wr := []) cx hw [0, 1] [] rfl rfl (by decide) (by decide) rfl rfl (z_runV (As := [.int (nI k), .int (nI sd)]) (rest := [.int (nI (wsum F sd a k))]) cx hw rfl rfl [0, 1] rfl rfl (c_X4_wear l E h0 q F n k sd (by omega) (by omega) H.size) mf_X4_wear wd_225 ⟨Nat.le_of_ble_eq_true rfl, Nat.le_of_ble_eq_true rfl⟩ hl (Nat.le_of_ble_eq_true rfl) dX4_wearSum_30 ⟨Nat.le_of_ble_eq_true rfl, Nat.le_of_ble_eq_true rfl⟩) (fun r _ H locs hp hw => ?_)
          have hr_30 := hp
          have hr_30 : r = nI (F (4 * k + 2 + sd)) := hr_30
          subst hr_30
          have hw : ZW E A s [(h0, ob 4 [.ref q, .int (nI n)]), (q, ia E 96 (nA F))] H locs := hw
          refine z_iadd hx hb ((wsum F sd a k) + (F (4 * k + 2 + sd))) rfl dX4_wearSum_33 ?_
          refine lv_istore_n (lv' := [(3, .int (nI ((wsum F sd a k) + (F (4 * k + 2 + sd))))), (0, .ref h0), (1, .int (nI sd)), (2, .int (nI a)), (4, .int (nI k))]) hx hb dX4_wearSum_34 rfl hl (by decide) rfl (fun ls hl => ?_)
          refine lv_iinc (v := nI (k + 1)) (lv' := [(4, .int (nI (k + 1))), (3, .int (nI ((wsum F sd a k) + (F (4 * k + 2 + sd))))), (0, .ref h0), (1, .int (nI sd)), (2, .int (nI a))]) hx hb dX4_wearSum_35 hl (k := 4) rfl (nI_1 _) (by decide) rfl (fun ls hl => ?_)
          refine lv_goto (tgt := 5) hx hb dX4_wearSum_38 (by decide) ?_
          exact ih_5 (k + 1) (by omega) (by omega) _ _ ls (hw) (lv_add (lv_add (lv_add (lv_add (lv_add (lv_nil hl) (lv_at hl 0 rfl)) (lv_eqv (lv_at hl 1 rfl) (zN (by simp [wsum, c_22])))) (lv_at hl 4 rfl)) (lv_at hl 3 rfl)) (lv_at hl 2 rfl))
  exact loop_5 _ 0 (by omega) (Nat.lt_succ_self _) _ _ ls (hw) (lv_add (lv_add (lv_add (lv_add (lv_add (lv_nil hl) (lv_at hl 0 rfl)) (lv_eqv (lv_at hl 1 rfl) (zN (by rfl)))) (lv_at hl 4 rfl)) (lv_at hl 3 rfl)) (lv_at hl 2 rfl))

def rmX4_knownDies : Room := { frames := 2, cells := 0, slots := 0, locals := 46 }
set_option maxHeartbeats 4000000 in
set_option maxRecDepth 100000 in
theorem c_X4_knownDies (l : Launch) (E : ZE) (h0 q : Nat) (F : Nat → Nat) (n : Nat) (sd : Nat) (hn : n ≤ 24) (hF : ∀ j, F j < 10) (hs : sd < 2) : ZMi l yX4_knownDies cX4_knownDies 4 (some .int) rmX4_knownDies E [.ref h0, .int (nI sd)] [(h0, ob 4 [.ref q, .int (nI n)]), (q, ia E 96 (nA F))] (S := Unit) (fun r _ => r = nI (kn F sd n 10)) (fun _ => [(h0, ob 4 [.ref q, .int (nI n)]), (q, ia E 96 (nA F))]) := by
  refine z_mi (by decide) (Nat.le_of_ble_eq_true rfl) ?_
  intro p e s m args below meth c A Q ls cx hin hw hl ret
  obtain ⟨hx, hb, hml, hown, hts, hK, hN, hA, hlk⟩ := id cx
  have hl : lv_has ls 4 [(0, .ref h0), (1, .int (nI sd))] := hl
  refine lv_iconst (v := nI 0) hx hb dX4_knownDies_0 (by decide) ?_
  refine lv_istore_n (lv' := [(2, .int (nI 0)), (0, .ref h0), (1, .int (nI sd))]) hx hb dX4_knownDies_1 rfl hl (by decide) rfl (fun ls hl => ?_)
  refine lv_iconst (v := nI 0) hx hb dX4_knownDies_2 (by decide) ?_
  refine lv_istore_n (lv' := [(3, .int (nI 0)), (2, .int (nI 0)), (0, .ref h0), (1, .int (nI sd))]) hx hb dX4_knownDies_3 rfl hl (by decide) rfl (fun ls hl => ?_)
  have loop_4 : ∀ (fuel : Nat) (k : Nat) (hk : k ≤ 10) (hm : 10 - k < fuel) (H : Heap) (locs : List Loc) (ls : Array Slot), ZW E A s [(h0, ob 4 [.ref q, .int (nI n)]), (q, ia E 96 (nA F))] H locs → lv_has ls 4 [(0, .ref h0), (1, .int (nI sd)), (2, .int (nI (kn F sd n k))), (3, .int (nI k))] → W p l e rmX4_knownDies s m args below meth c H locs 0 0 Q (F0 m 4 ls []) := by
    intro fuel
    induction fuel with
    | zero => intro k hk hm; exact absurd hm (Nat.not_lt_zero _)
    | succ fuel ih_4 =>
      intro k hk hm H locs ls hw hl
      refine lv_iload_n hx hb dX4_knownDies_4 rfl (lv_at hl 3 rfl) ?_
      refine lv_bipush (v := nI 10) hx hb dX4_knownDies_5 (by decide) ?_
      refine z_icmp_ge hx hb (by omega) (by decide) 28 dX4_knownDies_7 (by decide) (fun c_7 => ?_) (fun c_7 => ?_)
      · refine lv_iload_n hx hb dX4_knownDies_28 rfl (lv_at hl 2 rfl) ?_
        have e_ : k = 10 := by omega
        exact ret (nI (kn F sd n k)) () 29 ls H locs dX4_knownDies_29 (congrArg nI (by rw [e_])) (hw)
      · refine lv_aload_n hx hb dX4_knownDies_10 rfl (lv_at hl 0 rfl) ?_
        refine lv_iload_n hx hb dX4_knownDies_11 rfl (lv_at hl 1 rfl) ?_
        refine lv_iload_n hx hb dX4_knownDies_12 rfl (lv_at hl 3 rfl) ?_
        refine z_ri0 (wr := []) cx hw [0, 1] [] rfl rfl (by decide) (by decide) rfl rfl (z_runV (As := [.int (nI sd), .int (nI k)]) (rest := []) cx hw rfl rfl [0, 1] rfl rfl (c_X4_struckWith l E h0 q F n sd k (by omega) (hF) (by omega) (by omega) H.size) mf_X4_struckWith wd_201 ⟨Nat.le_of_ble_eq_true rfl, Nat.le_of_ble_eq_true rfl⟩ hl (Nat.le_of_ble_eq_true rfl) dX4_knownDies_13 ⟨Nat.le_of_ble_eq_true rfl, Nat.le_of_ble_eq_true rfl⟩) (fun r _ H locs hp hw => ?_)
        have hr_13 := hp
        have hr_13 : r = nI (cnt F sd k n) := hr_13
        subst hr_13
        have hw : ZW E A s [(h0, ob 4 [.ref q, .int (nI n)]), (q, ia E 96 (nA F))] H locs := hw
        have h_ := cnt_le F sd k n
        refine z_if_le hx hb (by omega) 22 dX4_knownDies_16 (by decide) (fun c_16 => ?_) (fun c_16 => ?_)
        · refine lv_iinc (v := nI (k + 1)) (lv' := [(3, .int (nI (k + 1))), (0, .ref h0), (1, .int (nI sd)), (2, .int (nI (kn F sd n k)))]) hx hb dX4_knownDies_22 hl (k := 3) rfl (nI_1 _) (by decide) rfl (fun ls hl => ?_)
          refine lv_goto (tgt := 4) hx hb dX4_knownDies_25 (by decide) ?_
          exact ih_4 (k + 1) (by omega) (by omega) _ _ ls (hw) (lv_add (lv_add (lv_add (lv_add (lv_nil hl) (lv_at hl 0 rfl)) (lv_eqv (lv_at hl 3 rfl) (zN (by simp [kn, c_16])))) (lv_at hl 2 rfl)) (lv_at hl 1 rfl))
        · refine lv_iinc (v := nI (kn F sd n k + 1)) (lv' := [(2, .int (nI (kn F sd n k + 1))), (0, .ref h0), (1, .int (nI sd)), (3, .int (nI k))]) hx hb dX4_knownDies_19 hl (k := 2) rfl (nI_1 _) (by decide) rfl (fun ls hl => ?_)
          refine lv_iinc (v := nI (k + 1)) (lv' := [(3, .int (nI (k + 1))), (2, .int (nI (kn F sd n k + 1))), (0, .ref h0), (1, .int (nI sd))]) hx hb dX4_knownDies_22 hl (k := 3) rfl (nI_1 _) (by decide) rfl (fun ls hl => ?_)
          refine lv_goto (tgt := 4) hx hb dX4_knownDies_25 (by decide) ?_
          exact ih_4 (k + 1) (by omega) (by omega) _ _ ls (hw) (lv_add (lv_add (lv_add (lv_add (lv_nil hl) (lv_at hl 0 rfl)) (lv_eqv (lv_at hl 1 rfl) (zN (by simp [kn, c_16])))) (lv_at hl 3 rfl)) (lv_at hl 2 rfl))
  exact loop_4 _ 0 (by omega) (Nat.lt_succ_self _) _ _ ls (hw) (lv_add (lv_add (lv_add (lv_add (lv_nil hl) (lv_at hl 0 rfl)) (lv_eqv (lv_at hl 1 rfl) (zN (by rfl)))) (lv_at hl 3 rfl)) (lv_at hl 2 rfl))

def rmX4_diesStruckOnce : Room := { frames := 2, cells := 0, slots := 0, locals := 46 }
set_option maxHeartbeats 4000000 in
set_option maxRecDepth 100000 in
theorem c_X4_diesStruckOnce (l : Launch) (E : ZE) (h0 q : Nat) (F : Nat → Nat) (n : Nat) (sd : Nat) (hn : n ≤ 24) (hF : ∀ j, F j < 10) (hs : sd < 2) : ZMi l yX4_diesStruckOnce cX4_diesStruckOnce 4 (some .int) rmX4_diesStruckOnce E [.ref h0, .int (nI sd)] [(h0, ob 4 [.ref q, .int (nI n)]), (q, ia E 96 (nA F))] (S := Unit) (fun r _ => r = nI (sg F sd n 10)) (fun _ => [(h0, ob 4 [.ref q, .int (nI n)]), (q, ia E 96 (nA F))]) := by
  refine z_mi (by decide) (Nat.le_of_ble_eq_true rfl) ?_
  intro p e s m args below meth c A Q ls cx hin hw hl ret
  obtain ⟨hx, hb, hml, hown, hts, hK, hN, hA, hlk⟩ := id cx
  have hl : lv_has ls 4 [(0, .ref h0), (1, .int (nI sd))] := hl
  refine lv_iconst (v := nI 0) hx hb dX4_diesStruckOnce_0 (by decide) ?_
  refine lv_istore_n (lv' := [(2, .int (nI 0)), (0, .ref h0), (1, .int (nI sd))]) hx hb dX4_diesStruckOnce_1 rfl hl (by decide) rfl (fun ls hl => ?_)
  refine lv_iconst (v := nI 0) hx hb dX4_diesStruckOnce_2 (by decide) ?_
  refine lv_istore_n (lv' := [(3, .int (nI 0)), (2, .int (nI 0)), (0, .ref h0), (1, .int (nI sd))]) hx hb dX4_diesStruckOnce_3 rfl hl (by decide) rfl (fun ls hl => ?_)
  have loop_4 : ∀ (fuel : Nat) (k : Nat) (hk : k ≤ 10) (hm : 10 - k < fuel) (H : Heap) (locs : List Loc) (ls : Array Slot), ZW E A s [(h0, ob 4 [.ref q, .int (nI n)]), (q, ia E 96 (nA F))] H locs → lv_has ls 4 [(0, .ref h0), (1, .int (nI sd)), (2, .int (nI (sg F sd n k))), (3, .int (nI k))] → W p l e rmX4_diesStruckOnce s m args below meth c H locs 0 0 Q (F0 m 4 ls []) := by
    intro fuel
    induction fuel with
    | zero => intro k hk hm; exact absurd hm (Nat.not_lt_zero _)
    | succ fuel ih_4 =>
      intro k hk hm H locs ls hw hl
      refine lv_iload_n hx hb dX4_diesStruckOnce_4 rfl (lv_at hl 3 rfl) ?_
      refine lv_bipush (v := nI 10) hx hb dX4_diesStruckOnce_5 (by decide) ?_
      refine z_icmp_ge hx hb (by omega) (by decide) 29 dX4_diesStruckOnce_7 (by decide) (fun c_7 => ?_) (fun c_7 => ?_)
      · refine lv_iload_n hx hb dX4_diesStruckOnce_29 rfl (lv_at hl 2 rfl) ?_
        have e_ : k = 10 := by omega
        exact ret (nI (sg F sd n k)) () 30 ls H locs dX4_diesStruckOnce_30 (congrArg nI (by rw [e_])) (hw)
      · refine lv_aload_n hx hb dX4_diesStruckOnce_10 rfl (lv_at hl 0 rfl) ?_
        refine lv_iload_n hx hb dX4_diesStruckOnce_11 rfl (lv_at hl 1 rfl) ?_
        refine lv_iload_n hx hb dX4_diesStruckOnce_12 rfl (lv_at hl 3 rfl) ?_
        refine z_ri0 (wr := []) cx hw [0, 1] [] rfl rfl (by decide) (by decide) rfl rfl (z_runV (As := [.int (nI sd), .int (nI k)]) (rest := []) cx hw rfl rfl [0, 1] rfl rfl (c_X4_struckWith l E h0 q F n sd k (by omega) (hF) (by omega) (by omega) H.size) mf_X4_struckWith wd_201 ⟨Nat.le_of_ble_eq_true rfl, Nat.le_of_ble_eq_true rfl⟩ hl (Nat.le_of_ble_eq_true rfl) dX4_diesStruckOnce_13 ⟨Nat.le_of_ble_eq_true rfl, Nat.le_of_ble_eq_true rfl⟩) (fun r _ H locs hp hw => ?_)
        have hr_13 := hp
        have hr_13 : r = nI (cnt F sd k n) := hr_13
        subst hr_13
        have hw : ZW E A s [(h0, ob 4 [.ref q, .int (nI n)]), (q, ia E 96 (nA F))] H locs := hw
        have h_ := cnt_le F sd k n
        refine lv_iconst (v := nI 1) hx hb dX4_diesStruckOnce_16 (by decide) ?_
        refine z_icmp_ne hx hb (by omega) (by decide) 23 dX4_diesStruckOnce_17 (by decide) (fun c_17 => ?_) (fun c_17 => ?_)
        · refine lv_iinc (v := nI (k + 1)) (lv' := [(3, .int (nI (k + 1))), (0, .ref h0), (1, .int (nI sd)), (2, .int (nI (sg F sd n k)))]) hx hb dX4_diesStruckOnce_23 hl (k := 3) rfl (nI_1 _) (by decide) rfl (fun ls hl => ?_)
          refine lv_goto (tgt := 4) hx hb dX4_diesStruckOnce_26 (by decide) ?_
          exact ih_4 (k + 1) (by omega) (by omega) _ _ ls (hw) (lv_add (lv_add (lv_add (lv_add (lv_nil hl) (lv_at hl 0 rfl)) (lv_eqv (lv_at hl 3 rfl) (zN (by simp [sg, c_17])))) (lv_at hl 2 rfl)) (lv_at hl 1 rfl))
        · refine lv_iinc (v := nI (sg F sd n k + 1)) (lv' := [(2, .int (nI (sg F sd n k + 1))), (0, .ref h0), (1, .int (nI sd)), (3, .int (nI k))]) hx hb dX4_diesStruckOnce_20 hl (k := 2) rfl (nI_1 _) (by decide) rfl (fun ls hl => ?_)
          refine lv_iinc (v := nI (k + 1)) (lv' := [(3, .int (nI (k + 1))), (2, .int (nI (sg F sd n k + 1))), (0, .ref h0), (1, .int (nI sd))]) hx hb dX4_diesStruckOnce_23 hl (k := 3) rfl (nI_1 _) (by decide) rfl (fun ls hl => ?_)
          refine lv_goto (tgt := 4) hx hb dX4_diesStruckOnce_26 (by decide) ?_
          exact ih_4 (k + 1) (by omega) (by omega) _ _ ls (hw) (lv_add (lv_add (lv_add (lv_add (lv_nil hl) (lv_at hl 0 rfl)) (lv_eqv (lv_at hl 1 rfl) (zN (by simp [sg, c_17])))) (lv_at hl 3 rfl)) (lv_at hl 2 rfl))
  exact loop_4 _ 0 (by omega) (Nat.lt_succ_self _) _ _ ls (hw) (lv_add (lv_add (lv_add (lv_add (lv_nil hl) (lv_at hl 0 rfl)) (lv_eqv (lv_at hl 1 rfl) (zN (by rfl)))) (lv_at hl 3 rfl)) (lv_at hl 2 rfl))

def rmX4_replaceDie : Room := { frames := 1, cells := 0, slots := 0, locals := 23 }
set_option maxHeartbeats 4000000 in
set_option maxRecDepth 100000 in
theorem c_X4_replaceDie (l : Launch) (E : ZE) (h0 q : Nat) (F : Nat → Nat) (n : Nat) (sd a b : Nat) (hn : n ≤ 24) (hF : ∀ j, F j < 10) (hs : sd < 2) (ha : a < 10) : ZMi l yX4_replaceDie cX4_replaceDie 6 (some .int) rmX4_replaceDie E [.ref h0, .int (nI sd), .int (nI a), .int (nI b)] [(h0, ob 4 [.ref q, .int (nI n)]), (q, ia E 96 (nA F))] (S := Unit) (fun r _ => r = nI (cnt F sd a n)) (fun _ => [(h0, ob 4 [.ref q, .int (nI n)]), (q, ia E 96 (nA (rep F sd a b n)))]) := by
  refine z_mi (by decide) (Nat.le_of_ble_eq_true rfl) ?_
  intro p e s m args below meth c A Q ls cx hin hw hl ret
  obtain ⟨hx, hb, hml, hown, hts, hK, hN, hA, hlk⟩ := id cx
  have hl : lv_has ls 6 [(0, .ref h0), (1, .int (nI sd)), (2, .int (nI a)), (3, .int (nI b))] := hl
  refine lv_iconst (v := nI 0) hx hb dX4_replaceDie_0 (by decide) ?_
  refine lv_istore (lv' := [(4, .int (nI 0)), (0, .ref h0), (1, .int (nI sd)), (2, .int (nI a)), (3, .int (nI b))]) hx hb dX4_replaceDie_1 hl (by decide) rfl (fun ls hl => ?_)
  refine lv_iconst (v := nI 0) hx hb dX4_replaceDie_3 (by decide) ?_
  refine lv_istore (lv' := [(5, .int (nI 0)), (4, .int (nI 0)), (0, .ref h0), (1, .int (nI sd)), (2, .int (nI a)), (3, .int (nI b))]) hx hb dX4_replaceDie_4 hl (by decide) rfl (fun ls hl => ?_)
  have loop_6 : ∀ (fuel : Nat) (k : Nat) (hk : k ≤ n) (hm : n - k < fuel) (H : Heap) (locs : List Loc) (ls : Array Slot), ZW E A s [(h0, ob 4 [.ref q, .int (nI n)]), (q, ia E 96 (nA (rep F sd a b k)))] H locs → lv_has ls 6 [(0, .ref h0), (1, .int (nI sd)), (2, .int (nI a)), (3, .int (nI b)), (4, .int (nI (cnt F sd a k))), (5, .int (nI k))] → W p l e rmX4_replaceDie s m args below meth c H locs 0 0 Q (F0 m 6 ls []) := by
    intro fuel
    induction fuel with
    | zero => intro k hk hm; exact absurd hm (Nat.not_lt_zero _)
    | succ fuel ih_6 =>
      intro k hk hm H locs ls hw hl
      refine lv_iload hx hb dX4_replaceDie_6 (lv_at hl 5 rfl) ?_
      refine lv_aload_n hx hb dX4_replaceDie_8 rfl (lv_at hl 0 rfl) ?_
      refine z_get cx hw 0 1 rfl rfl inlX4 (by decide) wd_37 rfl dX4_replaceDie_9 ?_
      refine z_icmp_ge hx hb (by omega) (by omega) 43 dX4_replaceDie_12 (by decide) (fun c_12 => ?_) (fun c_12 => ?_)
      · refine lv_iload hx hb dX4_replaceDie_43 (lv_at hl 4 rfl) ?_
        have e_ : k = n := by omega
        have e_r45_0 : (rep F sd a b k) = (rep F sd a b n) := by rw [e_]
        exact ret (nI (cnt F sd a k)) () 45 ls H locs dX4_replaceDie_45 (congrArg nI (by rw [e_])) ((hw).cast (zc rfl (zc (congrArg (fun z => ((q, ia E 96 (nA z)) : Nat × va_E)) e_r45_0) rfl)))
      · refine lv_aload_n hx hb dX4_replaceDie_15 rfl (lv_at hl 0 rfl) ?_
        refine lv_iload hx hb dX4_replaceDie_16 (lv_at hl 5 rfl) ?_
        refine lv_iload_n hx hb dX4_replaceDie_18 rfl (lv_at hl 1 rfl) ?_
        refine z_ri0 (wr := []) cx hw [0, 1] [] rfl rfl (by decide) (by decide) rfl rfl (z_runV (As := [.int (nI k), .int (nI sd)]) (rest := []) cx hw rfl rfl [0, 1] rfl rfl (c_X4_die l E h0 q (rep F sd a b k) n k sd (by omega) (by omega) H.size) mf_X4_die wd_159 ⟨Nat.le_of_ble_eq_true rfl, Nat.le_of_ble_eq_true rfl⟩ hl (Nat.le_of_ble_eq_true rfl) dX4_replaceDie_19 ⟨Nat.le_of_ble_eq_true rfl, Nat.le_of_ble_eq_true rfl⟩) (fun r _ H locs hp hw => ?_)
        have hr_19 := hp
        have hr_19 : r = nI ((rep F sd a b k) (4 * k + sd)) := hr_19
        subst hr_19
        have hw : ZW E A s [(h0, ob 4 [.ref q, .int (nI n)]), (q, ia E 96 (nA (rep F sd a b k)))] H locs := hw
        rw [rep_at F sd a b k]
        have h_ := hF (4 * k + sd)
        refine lv_iload_n hx hb dX4_replaceDie_22 rfl (lv_at hl 2 rfl) ?_
        refine z_icmp_ne hx hb (by omega) (by omega) 37 dX4_replaceDie_23 (by decide) (fun c_23 => ?_) (fun c_23 => ?_)
        · refine lv_iinc (v := nI (k + 1)) (lv' := [(5, .int (nI (k + 1))), (0, .ref h0), (1, .int (nI sd)), (2, .int (nI a)), (3, .int (nI b)), (4, .int (nI (cnt F sd a k)))]) hx hb dX4_replaceDie_37 hl (k := 5) rfl (nI_1 _) (by decide) rfl (fun ls hl => ?_)
          refine lv_goto (tgt := 6) hx hb dX4_replaceDie_40 (by decide) ?_
          have e_b6_0 : (rep F sd a b k) = (rep F sd a b (k + 1)) := by rw [rep_ne F a b k (by omega) c_23]
          exact ih_6 (k + 1) (by omega) (by omega) _ _ ls ((hw).cast (zc rfl (zc (congrArg (fun z => ((q, ia E 96 (nA z)) : Nat × va_E)) e_b6_0) rfl))) (lv_add (lv_add (lv_add (lv_add (lv_add (lv_add (lv_nil hl) (lv_at hl 0 rfl)) (lv_eqv (lv_at hl 5 rfl) (zN (by simp [cnt, c_23])))) (lv_at hl 4 rfl)) (lv_at hl 3 rfl)) (lv_at hl 2 rfl)) (lv_at hl 1 rfl))
        · refine lv_aload_n hx hb dX4_replaceDie_26 rfl (lv_at hl 0 rfl) ?_
          refine lv_iload hx hb dX4_replaceDie_27 (lv_at hl 5 rfl) ?_
          refine lv_iload_n hx hb dX4_replaceDie_29 rfl (lv_at hl 1 rfl) ?_
          refine lv_iload_n hx hb dX4_replaceDie_30 rfl (lv_at hl 3 rfl) ?_
          refine z_rv0 (wr := []) cx hw [0, 1] [] rfl rfl (by decide) (by decide) rfl rfl (z_runV (As := [.int (nI k), .int (nI sd), .int (nI b)]) (rest := []) cx hw rfl rfl [0, 1] rfl rfl (c_X4_putDie l E h0 q (rep F sd a b k) n k sd b (by omega) (by omega) H.size) mf_X4_putDie wd_166 ⟨Nat.le_of_ble_eq_true rfl, Nat.le_of_ble_eq_true rfl⟩ hl (Nat.le_of_ble_eq_true rfl) dX4_replaceDie_31 ⟨Nat.le_of_ble_eq_true rfl, Nat.le_of_ble_eq_true rfl⟩) (fun _ H locs hp hw => ?_)
          have hw : ZW E A s [(h0, ob 4 [.ref q, .int (nI n)]), (q, ia E 96 (nA (updN (rep F sd a b k) (4 * k + sd) b)))] H locs := hw
          refine lv_iinc (v := nI (cnt F sd a k + 1)) (lv' := [(4, .int (nI (cnt F sd a k + 1))), (0, .ref h0), (1, .int (nI sd)), (2, .int (nI a)), (3, .int (nI b)), (5, .int (nI k))]) hx hb dX4_replaceDie_34 hl (k := 4) rfl (nI_1 _) (by decide) rfl (fun ls hl => ?_)
          refine lv_iinc (v := nI (k + 1)) (lv' := [(5, .int (nI (k + 1))), (4, .int (nI (cnt F sd a k + 1))), (0, .ref h0), (1, .int (nI sd)), (2, .int (nI a)), (3, .int (nI b))]) hx hb dX4_replaceDie_37 hl (k := 5) rfl (nI_1 _) (by decide) rfl (fun ls hl => ?_)
          refine lv_goto (tgt := 6) hx hb dX4_replaceDie_40 (by decide) ?_
          have e_b6_0 : (updN (rep F sd a b k) (4 * k + sd) b) = (rep F sd a b (k + 1)) := by rw [rep_eq F a b k (by omega) c_23]
          exact ih_6 (k + 1) (by omega) (by omega) _ _ ls ((hw).cast (zc rfl (zc (congrArg (fun z => ((q, ia E 96 (nA z)) : Nat × va_E)) e_b6_0) rfl))) (lv_add (lv_add (lv_add (lv_add (lv_add (lv_add (lv_nil hl) (lv_at hl 0 rfl)) (lv_eqv (lv_at hl 1 rfl) (zN (by simp [cnt, c_23])))) (lv_at hl 5 rfl)) (lv_at hl 4 rfl)) (lv_at hl 3 rfl)) (lv_at hl 2 rfl))
  have e_i6_0 : F = (rep F sd a b 0) := by rw [rep_zero]
  exact loop_6 _ 0 (by omega) (Nat.lt_succ_self _) _ _ ls ((hw).cast (zc rfl (zc (congrArg (fun z => ((q, ia E 96 (nA z)) : Nat × va_E)) e_i6_0) rfl))) (lv_add (lv_add (lv_add (lv_add (lv_add (lv_add (lv_nil hl) (lv_at hl 0 rfl)) (lv_eqv (lv_at hl 1 rfl) (zN (by rfl)))) (lv_at hl 5 rfl)) (lv_at hl 4 rfl)) (lv_at hl 3 rfl)) (lv_at hl 2 rfl))
end
section
/-! ===== rings, rows filled, pairs ===== -/
def nxtN (x : Nat) : Nat := if x + 1 < 5 then x + 1 else 0
def prvN (x : Nat) : Nat := if 0 < x then x - 1 else 4
def incN (x : Nat) : Nat := if x < 5 then x + 1 else x
theorem prvN_lt {x : Nat} (h : x < 5) : prvN x < 5 := by simp only [prvN]; split <;> omega
def fil (f : Nat → Int32) (v : Int32) (k : Nat) : Nat → Int32 := fun j => if j < k then v else f j
theorem fil_0 (f : Nat → Int32) (v : Int32) : fil f v 0 = f := by funext j; simp [fil]
theorem fil_s (f : Nat → Int32) (v : Int32) (k : Nat) : upd (fil f v k) k v = fil f v (k + 1) := by
  funext j
  simp only [upd, fil]
  by_cases h : j = k
  · subst h; rw [if_pos rfl, if_pos (by omega)]
  · rw [if_neg h]
    by_cases g : j < k
    · rw [if_pos g, if_pos (by omega)]
    · rw [if_neg g, if_neg (by omega)]
/-- a specimen's pair of dies -/
def pr (F : Nat → Nat) (k : Nat) : Nat := 10 * F (4 * k + 0) + F (4 * k + 1)
theorem pr_lt {F : Nat → Nat} (h : ∀ j, F j < 10) (k : Nat) : pr F k < 100 := by
  have h1 := h (4 * k + 0)
  have h2 := h (4 * k + 1)
  unfold pr
  omega
def hasP (F : Nat → Nat) : Nat → Nat → Bool
  | 0, _ => false
  | k + 1, j => hasP F k j || decide (pr F k = j)
theorem hasP_iff (F : Nat → Nat) (k j : Nat) : hasP F k j = true ↔ ∃ i, i < k ∧ pr F i = j := by
  induction k with
  | zero => simp [hasP]
  | succ k ih =>
    simp only [hasP, Bool.or_eq_true, ih, decide_eq_true_eq]
    constructor
    · rintro (⟨i, h1, h2⟩ | h)
      · exact ⟨i, by omega, h2⟩
      · exact ⟨k, by omega, h⟩
    · rintro ⟨i, h1, h2⟩
      by_cases e : i = k
      · subst e; exact Or.inr h2
      · exact Or.inl ⟨i, by omega, h2⟩
def mkb (b : Nat → Bool) : Nat → Int32 := fun j => if b j = true then nI 0 else (-1)
theorem mkb_0 (F : Nat → Nat) : (fun _ => (-1) : Nat → Int32) = mkb (hasP F 0) := by funext j; simp [mkb, hasP]
theorem mkb_s (F : Nat → Nat) (k : Nat) : upd (mkb (hasP F k)) (pr F k) (nI 0) = mkb (hasP F (k + 1)) := by
  funext j
  simp only [upd, mkb, hasP]
  by_cases h : j = pr F k
  · subst h; simp
  · rw [if_neg h]
    simp [Ne.symm h]
/-- how many of the first k are such -/
def rk (b : Nat → Bool) : Nat → Nat
  | 0 => 0
  | k + 1 => rk b k + (if b k = true then 1 else 0)
theorem rk_le (b : Nat → Bool) (k : Nat) : rk b k ≤ k := by
  induction k with
  | zero => simp [rk]
  | succ k ih => simp only [rk]; split <;> omega
theorem rk_mono (b : Nat → Bool) {i j : Nat} (h : i ≤ j) : rk b i ≤ rk b j := by
  induction j with
  | zero => have : i = 0 := by omega
            subst this; exact Nat.le_refl _
  | succ j ih =>
    by_cases e : i = j + 1
    · subst e; exact Nat.le_refl _
    · have := ih (by omega)
      simp only [rk]
      split <;> omega
theorem rk_lt (b : Nat → Bool) {i j : Nat} (h : i < j) (hb : b i = true) : rk b i < rk b j := by
  have h1 : rk b (i + 1) ≤ rk b j := rk_mono b h
  simp only [rk, hb, if_pos] at h1
  omega
theorem rk_inj (b : Nat → Bool) {i j : Nat} (hi : b i = true) (hj : b j = true) (h : rk b i = rk b j) : i = j := by
  rcases Nat.lt_trichotomy i j with g | g | g
  · have := rk_lt b g hi; omega
  · exact g
  · have := rk_lt b g hj; omega
theorem rk_surj (b : Nat → Bool) {n c : Nat} (h : c < rk b n) : ∃ j, j < n ∧ b j = true ∧ rk b j = c := by
  induction n with
  | zero => simp [rk] at h
  | succ n ih =>
    simp only [rk] at h
    by_cases hb : b n = true
    · rw [if_pos hb] at h
      by_cases e : c = rk b n
      · exact ⟨n, by omega, hb, e.symm⟩
      · obtain ⟨j, h1, h2, h3⟩ := ih (by omega)
        exact ⟨j, by omega, h2, h3⟩
    · rw [if_neg hb] at h
      obtain ⟨j, h1, h2, h3⟩ := ih (by omega)
      exact ⟨j, by omega, h2, h3⟩
theorem rk_stop (b : Nat → Bool) {k n : Nat} (hk : k ≤ n) (h : rk b n ≤ rk b k) : ∀ j, k ≤ j → j < n → b j = false := by
  intro j h1 h2
  cases hb : b j with
  | false => rfl
  | true =>
    have g1 := rk_mono b h1
    have g2 := rk_lt b h2 hb
    omega
theorem rk_ext {b c : Nat → Bool} {n : Nat} (h : ∀ j, j < n → b j = c j) : rk b n = rk c n := by
  induction n with
  | zero => rfl
  | succ n ih => simp only [rk]; rw [ih (fun j hj => h j (by omega)), h n (by omega)]
/-- one more among the pairs: at most one more counted -/
theorem rk_or (b : Nat → Bool) (x n : Nat) : rk (fun j => b j || decide (x = j)) n ≤ rk b n + 1 := by
  induction n with
  | zero => simp [rk]
  | succ n ih =>
    simp only [rk]
    by_cases e : x = n
    · subst e
      have e2 : rk (fun j => b j || decide (x = j)) x = rk b x := rk_ext (fun j hj => by simp [show ¬ x = j by omega])
      rw [e2]
      simp only [decide_true, Bool.or_true, if_true]
      split <;> omega
    · simp only [e, decide_false, Bool.or_false]
      split <;> omega
theorem rk_hasP (F : Nat → Nat) (k n : Nat) : rk (hasP F k) n ≤ k := by
  induction k with
  | zero =>
    have : ∀ n, rk (hasP F 0) n = 0 := by
      intro n
      induction n with
      | zero => rfl
      | succ n ih => simp only [rk, ih]; rfl
    rw [this]; exact Nat.le_refl _
  | succ k ih =>
    have h : hasP F (k + 1) = fun j => hasP F k j || decide (pr F k = j) := by funext j; rfl
    rw [h]
    have := rk_or (hasP F k) (pr F k) n
    omega
/-- the pairs' numbers as far as k -/
def numb (b : Nat → Bool) (k : Nat) : Nat → Int32 := fun j => if b j = true then (if j < k then nI (rk b j) else nI 0) else (-1)
theorem numb_0 (b : Nat → Bool) : mkb b = numb b 0 := by funext j; simp [mkb, numb]
theorem m1_ne {k : Nat} (h : k < 2 ^ 31) : ¬ nI k = -1 := by
  intro q
  have h1 := nI_toInt h
  rw [q] at h1
  have h2 : (-1 : Int32).toInt = -1 := by decide
  omega
theorem numb_t {b : Nat → Bool} {k : Nat} (h : ¬ numb b k k = -1) : b k = true := by
  cases hb : b k with
  | true => rfl
  | false => exact absurd (by simp [numb, hb]) h
theorem numb_f {b : Nat → Bool} {k : Nat} (h : numb b k k = -1) : b k = false := by
  cases hb : b k with
  | false => rfl
  | true =>
    simp only [numb, hb, if_pos, Nat.lt_irrefl, if_false] at h
    exact absurd h (m1_ne (by decide))
theorem numb_st {b : Nat → Bool} {k : Nat} (h : b k = true) : upd (numb b k) k (nI (rk b k)) = numb b (k + 1) := by
  funext j
  simp only [upd, numb]
  by_cases e : j = k
  · subst e; rw [if_pos rfl, if_pos h, if_pos (by omega)]
  · rw [if_neg e]
    have q : (j < k) ↔ (j < k + 1) := by omega
    simp only [q]
theorem numb_sf {b : Nat → Bool} {k : Nat} (h : b k = false) : numb b k = numb b (k + 1) := by
  funext j
  simp only [numb]
  by_cases e : j = k
  · subst e; simp [h]
  · have q : (j < k) ↔ (j < k + 1) := by omega
    simp only [q]
theorem numb_stop {b : Nat → Bool} {k n : Nat} (hk : k ≤ n) (h : ∀ j, k ≤ j → j < n → b j = false) : numb b k = numb b n := by
  funext j
  simp only [numb]
  cases hb : b j with
  | false => rfl
  | true =>
    rw [if_pos rfl, if_pos rfl]
    by_cases g : j < k
    · rw [if_pos g, if_pos (by omega)]
    · rw [if_neg g, if_neg (fun q => by rw [h j (by omega) q] at hb; cases hb)]
/-- the least and the greatest wear of side sd among the first k specimens of pair j -/
def lw (F : Nat → Nat) (sd j : Nat) : Nat → Nat
  | 0 => 5
  | k + 1 => if pr F k = j then min (lw F sd j k) (F (4 * k + 2 + sd)) else lw F sd j k
def gw (F : Nat → Nat) (sd j : Nat) : Nat → Nat
  | 0 => 0
  | k + 1 => if pr F k = j then max (gw F sd j k) (F (4 * k + 2 + sd)) else gw F sd j k
/-- rows of numbers below ten -/
def Bd (f : Nat → Nat) : Prop := ∀ x, f x < 10
theorem Bd.upd {f : Nat → Nat} (h : Bd f) {k v : Nat} (hv : v < 10) : Bd (updN f k v) := fun x => by
  simp only [updN]
  split
  · exact hv
  · exact h x
def Bd6 (a b c d e f : Nat → Nat) : Prop := Bd a ∧ Bd b ∧ Bd c ∧ Bd d ∧ Bd e ∧ Bd f
/-- rows that hold the pairs' dies and their wear's first values -/
def CplD (b : Nat → Bool) (k : Nat) (D0 D1 L0 L1 G0 G1 : Nat → Nat) : Prop := ∀ j, j < k → b j = true → D0 (rk b j) = j / 10 ∧ D1 (rk b j) = j % 10 ∧ L0 (rk b j) = 5 ∧ L1 (rk b j) = 5 ∧ G0 (rk b j) = 0 ∧ G1 (rk b j) = 0
theorem CplD.push {b : Nat → Bool} {k : Nat} {D0 D1 L0 L1 G0 G1 : Nat → Nat} (h : CplD b k D0 D1 L0 L1 G0 G1) (hb : b k = true) : CplD b (k + 1) (updN D0 (rk b k) (k / 10)) (updN D1 (rk b k) (k % 10)) (updN L0 (rk b k) 5) (updN L1 (rk b k) 5) (updN G0 (rk b k) 0) (updN G1 (rk b k) 0) := by
  intro j hj hbj
  by_cases e : j = k
  · subst e
    simp only [updN_eq, and_self]
  · have hlt : j < k := by omega
    have hne : rk b j ≠ rk b k := fun q => e (rk_inj b hbj hb q)
    simp only [updN_ne _ _ hne]
    exact h j hlt hbj
theorem CplD.skip {b : Nat → Bool} {k : Nat} {D0 D1 L0 L1 G0 G1 : Nat → Nat} (h : CplD b k D0 D1 L0 L1 G0 G1) (hb : b k = false) : CplD b (k + 1) D0 D1 L0 L1 G0 G1 := by
  intro j hj hbj
  by_cases e : j = k
  · subst e; rw [hb] at hbj; cases hbj
  · exact h j (by omega) hbj
theorem CplD.stop {b : Nat → Bool} {k n : Nat} {D0 D1 L0 L1 G0 G1 : Nat → Nat} (h : CplD b k D0 D1 L0 L1 G0 G1) (hs : ∀ j, k ≤ j → j < n → b j = false) : CplD b n D0 D1 L0 L1 G0 G1 := by
  intro j hj hbj
  by_cases e : j < k
  · exact h j e hbj
  · rw [hs j (by omega) hj] at hbj; cases hbj
/-- the couples as the document has them -/
def Cpl (F : Nat → Nat) (n k : Nat) (D0 D1 L0 L1 G0 G1 : Nat → Nat) : Prop := ∀ j, j < 100 → hasP F n j = true → D0 (rk (hasP F n) j) = j / 10 ∧ D1 (rk (hasP F n) j) = j % 10 ∧ L0 (rk (hasP F n) j) = lw F 0 j k ∧ L1 (rk (hasP F n) j) = lw F 1 j k ∧ G0 (rk (hasP F n) j) = gw F 0 j k ∧ G1 (rk (hasP F n) j) = gw F 1 j k
theorem Cpl.step {F : Nat → Nat} {n k : Nat} {D0 D1 L0 L1 G0 G1 : Nat → Nat} (h : Cpl F n k D0 D1 L0 L1 G0 G1) (hF : ∀ j, F j < 10) (hk : k < n) : Cpl F n (k + 1) D0 D1 (updN L0 (rk (hasP F n) (pr F k)) (min (L0 (rk (hasP F n) (pr F k))) (F (4 * k + 2 + 0)))) (updN L1 (rk (hasP F n) (pr F k)) (min (L1 (rk (hasP F n) (pr F k))) (F (4 * k + 2 + 1)))) (updN G0 (rk (hasP F n) (pr F k)) (max (G0 (rk (hasP F n) (pr F k))) (F (4 * k + 2 + 0)))) (updN G1 (rk (hasP F n) (pr F k)) (max (G1 (rk (hasP F n) (pr F k))) (F (4 * k + 2 + 1)))) := by
  intro j hj hbj
  obtain ⟨h1, h2, h3, h4, h5, h6⟩ := h j hj hbj
  by_cases e : pr F k = j
  · subst e
    simp only [updN_eq, lw, gw, if_pos]
    rw [h3, h4, h5, h6]
    exact ⟨h1, h2, rfl, rfl, rfl, rfl⟩
  · have hb0 : hasP F n (pr F k) = true := (hasP_iff F n _).mpr ⟨k, hk, rfl⟩
    have hne : rk (hasP F n) j ≠ rk (hasP F n) (pr F k) := fun q => e (rk_inj _ hbj hb0 q).symm
    simp only [updN_ne _ _ hne, lw, gw, if_neg e]
    exact ⟨h1, h2, h3, h4, h5, h6⟩
def erb (D L G : Nat → Nat) (a b : Nat) : Bool := decide (D a = D b ∧ G a ≤ L b ∧ L a < G b)
def erl (D0 D1 L0 L1 G0 G1 : Nat → Nat) (a b : Nat) : Bool := erb D0 L0 G0 a b || erb D1 L1 G1 a b

def rmX2_init : Room := { frames := 1, cells := 2, slots := 485, locals := 24 }
set_option maxHeartbeats 4000000 in
set_option maxRecDepth 100000 in
theorem c_X2_init (l : Launch) (E : ZE) (h0 : Nat)  : ZMv l yX2_init cX2_init 1 rmX2_init E [.ref h0] [(h0, ob 2 [.null, .null, .int (nI 0), .int (nI 0)])] (S := Nat × Nat) (fun u => True) (fun u => [(h0, ob 2 [.ref u.1, .ref u.2, .int (nI 0), .int (nI 0)]), (u.1, ia E 480 (nA (fun _ => 0))), (u.2, ia E 5 (nA (fun _ => 0)))]) := by
  refine z_mv (by decide) (Nat.le_of_ble_eq_true rfl) ?_
  intro p e s m args below meth c A Q ls cx hin hw hl ret
  obtain ⟨hx, hb, hml, hown, hts, hK, hN, hA, hlk⟩ := id cx
  have hl : lv_has ls 1 [(0, .ref h0)] := hl
  refine lv_aload_n hx hb dX2_init_0 rfl (lv_at hl 0 rfl) ?_
  refine z_obj cx hl wd_40 (Nat.le_of_ble_eq_true rfl) (Nat.le_of_ble_eq_true rfl) dX2_init_1 ?_
  refine lv_aload_n hx hb dX2_init_4 rfl (lv_at hl 0 rfl) ?_
  refine lv_sipush (v := nI 480) hx hb dX2_init_5 (by decide) ?_
  refine z_newa (atype := .int) (a0 := (480, .inl (nA (fun _ => 0)))) (k := 0) cx hw 480 rfl (by decide) rfl rfl (fun _ h => by cases h) (fun _ => rfl) (by decide) wd_35 (Nat.le_of_ble_eq_true rfl) (Nat.le_of_ble_eq_true rfl) dX2_init_8 (fun q8 H hw => ?_)
  refine W.widen (k := 1) (n := 480) (Nat.le_of_ble_eq_true rfl) (Nat.le_of_ble_eq_true rfl) ?_
  have hw : ZW E A s [(h0, ob 2 [.null, .null, .int (nI 0), .int (nI 0)]), (q8, ia E 480 (nA (fun _ => 0)))] H [] := hw
  refine z_putF cx hw 0 0 rfl rfl inlX2 tyX2_ok nmX2 (by decide) wd_41 rfl hin rfl rfl rfl (Nat.le_of_ble_eq_true rfl) dX2_init_10 (fun H locs hw => ?_)
  have hw : ZW E A s [(h0, ob 2 [.ref q8, .null, .int (nI 0), .int (nI 0)]), (q8, ia E 480 (nA (fun _ => 0)))] H locs := hw
  refine lv_aload_n hx hb dX2_init_13 rfl (lv_at hl 0 rfl) ?_
  refine lv_iconst (v := nI 5) hx hb dX2_init_14 (by decide) ?_
  refine z_newa (atype := .int) (a0 := (5, .inl (nA (fun _ => 0)))) (k := 0) cx hw 5 rfl (by decide) rfl rfl (fun _ h => by cases h) (fun _ => rfl) (by decide) wd_35 (Nat.le_of_ble_eq_true rfl) (Nat.le_of_ble_eq_true rfl) dX2_init_15 (fun q15 H hw => ?_)
  refine W.widen (k := 2) (n := 485) (Nat.le_of_ble_eq_true rfl) (Nat.le_of_ble_eq_true rfl) ?_
  have hw : ZW E A s [(h0, ob 2 [.ref q8, .null, .int (nI 0), .int (nI 0)]), (q8, ia E 480 (nA (fun _ => 0))), (q15, ia E 5 (nA (fun _ => 0)))] H locs := hw
  refine z_putF cx hw 0 1 rfl rfl inlX2 tyX2_ok nmX2 (by decide) wd_42 rfl hin rfl rfl rfl (Nat.le_of_ble_eq_true rfl) dX2_init_17 (fun H locs hw => ?_)
  have hw : ZW E A s [(h0, ob 2 [.ref q8, .ref q15, .int (nI 0), .int (nI 0)]), (q8, ia E 480 (nA (fun _ => 0))), (q15, ia E 5 (nA (fun _ => 0)))] H locs := hw
  refine lv_aload_n hx hb dX2_init_20 rfl (lv_at hl 0 rfl) ?_
  refine lv_iconst (v := nI 0) hx hb dX2_init_21 (by decide) ?_
  refine z_put cx hw 0 2 rfl rfl inlX2 tyX2_ok nmX2 (by decide) wd_43 rfl rfl rfl (Nat.le_of_ble_eq_true rfl) dX2_init_22 (fun H locs hw => ?_)
  have hw : ZW E A s [(h0, ob 2 [.ref q8, .ref q15, .int (nI 0), .int (nI 0)]), (q8, ia E 480 (nA (fun _ => 0))), (q15, ia E 5 (nA (fun _ => 0)))] H locs := hw
  refine lv_aload_n hx hb dX2_init_25 rfl (lv_at hl 0 rfl) ?_
  refine lv_iconst (v := nI 0) hx hb dX2_init_26 (by decide) ?_
  refine z_put cx hw 0 3 rfl rfl inlX2 tyX2_ok nmX2 (by decide) wd_44 rfl rfl rfl (Nat.le_of_ble_eq_true rfl) dX2_init_27 (fun H locs hw => ?_)
  have hw : ZW E A s [(h0, ob 2 [.ref q8, .ref q15, .int (nI 0), .int (nI 0)]), (q8, ia E 480 (nA (fun _ => 0))), (q15, ia E 5 (nA (fun _ => 0)))] H locs := hw
  exact ret (q8, q15) 30 ls H locs dX2_init_30 (trivial) (hw)

def rmX2_save : Room := { frames := 1, cells := 0, slots := 0, locals := 60 }
set_option maxHeartbeats 4000000 in
set_option maxRecDepth 100000 in
theorem c_X2_save (l : Launch) (E : ZE) (h0 qc qn : Nat) (G C : Nat → Nat) (sv nx : Nat) (hS q : Nat) (F : Nat → Nat) (n : Nat) (hnx : nx < 5) (hsv : sv ≤ 5) : ZMv l yX2_save cX2_save 2 rmX2_save E [.ref h0, .ref hS] [(h0, ob 2 [.ref qc, .ref qn, .int (nI sv), .int (nI nx)]), (qc, ia E 480 (nA G)), (qn, ia E 5 (nA C)), (hS, ob 4 [.ref q, .int (nI n)]), (q, ia E 96 (nA F))] (S := Unit) (fun _ => True) (fun _ => [(h0, ob 2 [.ref qc, .ref qn, .int (nI (incN sv)), .int (nI (nxtN nx))]), (qc, ia E 480 (nA (cpyN F G 0 (96 * nx) 96))), (qn, ia E 5 (nA (updN C nx n))), (hS, ob 4 [.ref q, .int (nI n)]), (q, ia E 96 (nA F))]) := by
  refine z_mv (by decide) (Nat.le_of_ble_eq_true rfl) ?_
  intro p e s m args below meth c A Q ls cx hin hw hl ret
  obtain ⟨hx, hb, hml, hown, hts, hK, hN, hA, hlk⟩ := id cx
  have hl : lv_has ls 2 [(0, .ref h0), (1, .ref hS)] := hl
  refine lv_aload_n hx hb dX2_save_0 rfl (lv_at hl 1 rfl) ?_
  refine z_getN cx hw 3 0 rfl rfl inlX4 (by decide) (nf_X2_27 hN) rfl dX2_save_1 ?_
  refine lv_iconst (v := nI 0) hx hb dX2_save_4 (by decide) ?_
  refine lv_aload_n hx hb dX2_save_5 rfl (lv_at hl 0 rfl) ?_
  refine z_get cx hw 0 0 rfl rfl inlX2 (by decide) wd_41 rfl dX2_save_6 ?_
  refine lv_aload_n hx hb dX2_save_9 rfl (lv_at hl 0 rfl) ?_
  refine z_get cx hw 0 3 rfl rfl inlX2 (by decide) wd_44 rfl dX2_save_10 ?_
  refine lv_bipush (v := nI 96) hx hb dX2_save_13 (by decide) ?_
  refine z_imul hx hb (96 * nx) (by omega) dX2_save_15 ?_
  refine lv_bipush (v := nI 96) hx hb dX2_save_16 (by decide) ?_
  refine z_copy cx hw 4 1 rfl rfl 0 (96 * nx) 96 rfl rfl rfl (by omega) (by omega) (by decide) (by decide) hl wd_94 (Nat.le_of_ble_eq_true rfl) (Nat.le_of_ble_eq_true rfl) dX2_save_18 (fun H locs hw => ?_)
  have hw : ZW E A s [(h0, ob 2 [.ref qc, .ref qn, .int (nI sv), .int (nI nx)]), (qc, ia E 480 (nA (cpyN F G 0 (96 * nx) 96))), (qn, ia E 5 (nA C)), (hS, ob 4 [.ref q, .int (nI n)]), (q, ia E 96 (nA F))] H locs := hw
  refine lv_aload_n hx hb dX2_save_21 rfl (lv_at hl 0 rfl) ?_
  refine z_get cx hw 0 1 rfl rfl inlX2 (by decide) wd_42 rfl dX2_save_22 ?_
  refine lv_aload_n hx hb dX2_save_25 rfl (lv_at hl 0 rfl) ?_
  refine z_get cx hw 0 3 rfl rfl inlX2 (by decide) wd_44 rfl dX2_save_26 ?_
  refine lv_aload_n hx hb dX2_save_29 rfl (lv_at hl 1 rfl) ?_
  refine z_getN cx hw 3 1 rfl rfl inlX4 (by decide) (nf_X2_34 hN) rfl dX2_save_30 ?_
  refine z_astN cx hw 2 rfl (nx) rfl (by omega) (by decide) dX2_save_33 (fun H locs hw => ?_)
  have hw : ZW E A s [(h0, ob 2 [.ref qc, .ref qn, .int (nI sv), .int (nI nx)]), (qc, ia E 480 (nA (cpyN F G 0 (96 * nx) 96))), (qn, ia E 5 (nA (updN C nx n))), (hS, ob 4 [.ref q, .int (nI n)]), (q, ia E 96 (nA F))] H locs := hw
  refine lv_aload_n hx hb dX2_save_34 rfl (lv_at hl 0 rfl) ?_
  refine lv_aload_n hx hb dX2_save_35 rfl (lv_at hl 0 rfl) ?_
  refine z_get cx hw 0 3 rfl rfl inlX2 (by decide) wd_44 rfl dX2_save_36 ?_
  refine lv_iconst (v := nI 1) hx hb dX2_save_39 (by decide) ?_
  refine z_iadd hx hb (nx + 1) rfl dX2_save_40 ?_
  refine lv_iconst (v := nI 5) hx hb dX2_save_41 (by decide) ?_
  refine z_icmp_ge hx hb (by omega) (by decide) 54 dX2_save_42 (by decide) (fun c_42 => ?_) (fun c_42 => ?_)
  · refine lv_iconst (v := nI 0) hx hb dX2_save_54 (by decide) ?_
    refine z_put cx hw 0 3 rfl rfl inlX2 tyX2_ok nmX2 (by decide) wd_44 rfl rfl rfl (Nat.le_of_ble_eq_true rfl) dX2_save_55 (fun H locs hw => ?_)
    have hw : ZW E A s [(h0, ob 2 [.ref qc, .ref qn, .int (nI sv), .int (nI 0)]), (qc, ia E 480 (nA (cpyN F G 0 (96 * nx) 96))), (qn, ia E 5 (nA (updN C nx n))), (hS, ob 4 [.ref q, .int (nI n)]), (q, ia E 96 (nA F))] H locs := hw
    refine lv_aload_n hx hb dX2_save_58 rfl (lv_at hl 0 rfl) ?_
    refine z_get cx hw 0 2 rfl rfl inlX2 (by decide) wd_43 rfl dX2_save_59 ?_
    refine lv_iconst (v := nI 5) hx hb dX2_save_62 (by decide) ?_
    refine z_icmp_ge hx hb (by omega) (by decide) 76 dX2_save_63 (by decide) (fun c_63 => ?_) (fun c_63 => ?_)
    · have e_r76_0 : sv = (incN sv) := by (simp only [incN]; split <;> omega)
      have e_r76_1 : 0 = (nxtN nx) := by (simp only [nxtN]; split <;> omega)
      exact ret () 76 ls H locs dX2_save_76 (trivial) ((hw).cast (zc ((congrArg (fun z => ((h0, ob 2 [.ref qc, .ref qn, .int (nI z), .int (nI 0)]) : Nat × va_E)) e_r76_0).trans (congrArg (fun z => ((h0, ob 2 [.ref qc, .ref qn, .int (nI (incN sv)), .int (nI z)]) : Nat × va_E)) e_r76_1)) rfl))
    · refine lv_aload_n hx hb dX2_save_66 rfl (lv_at hl 0 rfl) ?_
      refine lv_dup hx hb dX2_save_67 rfl ?_
      refine z_get cx hw 0 2 rfl rfl inlX2 (by decide) wd_43 rfl dX2_save_68 ?_
      refine lv_iconst (v := nI 1) hx hb dX2_save_71 (by decide) ?_
      refine z_iadd hx hb (sv + 1) rfl dX2_save_72 ?_
      refine z_put cx hw 0 2 rfl rfl inlX2 tyX2_ok nmX2 (by decide) wd_43 rfl rfl rfl (Nat.le_of_ble_eq_true rfl) dX2_save_73 (fun H locs hw => ?_)
      have hw : ZW E A s [(h0, ob 2 [.ref qc, .ref qn, .int (nI (sv + 1)), .int (nI 0)]), (qc, ia E 480 (nA (cpyN F G 0 (96 * nx) 96))), (qn, ia E 5 (nA (updN C nx n))), (hS, ob 4 [.ref q, .int (nI n)]), (q, ia E 96 (nA F))] H locs := hw
      have e_r76_0 : (sv + 1) = (incN sv) := by (simp only [incN]; split <;> omega)
      have e_r76_1 : 0 = (nxtN nx) := by (simp only [nxtN]; split <;> omega)
      exact ret () 76 ls H locs dX2_save_76 (trivial) ((hw).cast (zc ((congrArg (fun z => ((h0, ob 2 [.ref qc, .ref qn, .int (nI z), .int (nI 0)]) : Nat × va_E)) e_r76_0).trans (congrArg (fun z => ((h0, ob 2 [.ref qc, .ref qn, .int (nI (incN sv)), .int (nI z)]) : Nat × va_E)) e_r76_1)) rfl))
  · refine lv_aload_n hx hb dX2_save_45 rfl (lv_at hl 0 rfl) ?_
    refine z_get cx hw 0 3 rfl rfl inlX2 (by decide) wd_44 rfl dX2_save_46 ?_
    refine lv_iconst (v := nI 1) hx hb dX2_save_49 (by decide) ?_
    refine z_iadd hx hb (nx + 1) rfl dX2_save_50 ?_
    refine lv_goto (tgt := 55) hx hb dX2_save_51 (by decide) ?_
    refine z_put cx hw 0 3 rfl rfl inlX2 tyX2_ok nmX2 (by decide) wd_44 rfl rfl rfl (Nat.le_of_ble_eq_true rfl) dX2_save_55 (fun H locs hw => ?_)
    have hw : ZW E A s [(h0, ob 2 [.ref qc, .ref qn, .int (nI sv), .int (nI (nx + 1))]), (qc, ia E 480 (nA (cpyN F G 0 (96 * nx) 96))), (qn, ia E 5 (nA (updN C nx n))), (hS, ob 4 [.ref q, .int (nI n)]), (q, ia E 96 (nA F))] H locs := hw
    refine lv_aload_n hx hb dX2_save_58 rfl (lv_at hl 0 rfl) ?_
    refine z_get cx hw 0 2 rfl rfl inlX2 (by decide) wd_43 rfl dX2_save_59 ?_
    refine lv_iconst (v := nI 5) hx hb dX2_save_62 (by decide) ?_
    refine z_icmp_ge hx hb (by omega) (by decide) 76 dX2_save_63 (by decide) (fun c_63 => ?_) (fun c_63 => ?_)
    · have e_r76_0 : sv = (incN sv) := by (simp only [incN]; split <;> omega)
      have e_r76_1 : (nx + 1) = (nxtN nx) := by (simp only [nxtN]; split <;> omega)
      exact ret () 76 ls H locs dX2_save_76 (trivial) ((hw).cast (zc ((congrArg (fun z => ((h0, ob 2 [.ref qc, .ref qn, .int (nI z), .int (nI (nx + 1))]) : Nat × va_E)) e_r76_0).trans (congrArg (fun z => ((h0, ob 2 [.ref qc, .ref qn, .int (nI (incN sv)), .int (nI z)]) : Nat × va_E)) e_r76_1)) rfl))
    · refine lv_aload_n hx hb dX2_save_66 rfl (lv_at hl 0 rfl) ?_
      refine lv_dup hx hb dX2_save_67 rfl ?_
      refine z_get cx hw 0 2 rfl rfl inlX2 (by decide) wd_43 rfl dX2_save_68 ?_
      refine lv_iconst (v := nI 1) hx hb dX2_save_71 (by decide) ?_
      refine z_iadd hx hb (sv + 1) rfl dX2_save_72 ?_
      refine z_put cx hw 0 2 rfl rfl inlX2 tyX2_ok nmX2 (by decide) wd_43 rfl rfl rfl (Nat.le_of_ble_eq_true rfl) dX2_save_73 (fun H locs hw => ?_)
      have hw : ZW E A s [(h0, ob 2 [.ref qc, .ref qn, .int (nI (sv + 1)), .int (nI (nx + 1))]), (qc, ia E 480 (nA (cpyN F G 0 (96 * nx) 96))), (qn, ia E 5 (nA (updN C nx n))), (hS, ob 4 [.ref q, .int (nI n)]), (q, ia E 96 (nA F))] H locs := hw
      have e_r76_0 : (sv + 1) = (incN sv) := by (simp only [incN]; split <;> omega)
      have e_r76_1 : (nx + 1) = (nxtN nx) := by (simp only [nxtN]; split <;> omega)
      exact ret () 76 ls H locs dX2_save_76 (trivial) ((hw).cast (zc ((congrArg (fun z => ((h0, ob 2 [.ref qc, .ref qn, .int (nI z), .int (nI (nx + 1))]) : Nat × va_E)) e_r76_0).trans (congrArg (fun z => ((h0, ob 2 [.ref qc, .ref qn, .int (nI (incN sv)), .int (nI z)]) : Nat × va_E)) e_r76_1)) rfl))

def rmX2_restore : Room := { frames := 1, cells := 0, slots := 0, locals := 60 }
set_option maxHeartbeats 4000000 in
set_option maxRecDepth 100000 in
theorem c_X2_restore (l : Launch) (E : ZE) (h0 qc qn : Nat) (G C : Nat → Nat) (sv nx : Nat) (hS q : Nat) (F : Nat → Nat) (n : Nat) (hnx : nx < 5) (hsv : 0 < sv) : ZMv l yX2_restore cX2_restore 2 rmX2_restore E [.ref h0, .ref hS] [(h0, ob 2 [.ref qc, .ref qn, .int (nI sv), .int (nI nx)]), (qc, ia E 480 (nA G)), (qn, ia E 5 (nA C)), (hS, ob 4 [.ref q, .int (nI n)]), (q, ia E 96 (nA F))] (S := Unit) (fun _ => True) (fun _ => [(h0, ob 2 [.ref qc, .ref qn, .int (nI (sv - 1)), .int (nI (prvN nx))]), (qc, ia E 480 (nA G)), (qn, ia E 5 (nA C)), (hS, ob 4 [.ref q, .int (nI (C (prvN nx)))]), (q, ia E 96 (nA (fun j => G (96 * prvN nx + j))))]) := by
  refine z_mv (by decide) (Nat.le_of_ble_eq_true rfl) ?_
  intro p e s m args below meth c A Q ls cx hin hw hl ret
  obtain ⟨hx, hb, hml, hown, hts, hK, hN, hA, hlk⟩ := id cx
  have hl : lv_has ls 2 [(0, .ref h0), (1, .ref hS)] := hl
  refine lv_aload_n hx hb dX2_restore_0 rfl (lv_at hl 0 rfl) ?_
  refine lv_aload_n hx hb dX2_restore_1 rfl (lv_at hl 0 rfl) ?_
  refine z_get cx hw 0 3 rfl rfl inlX2 (by decide) wd_44 rfl dX2_restore_2 ?_
  refine z_if_le hx hb (by omega) 17 dX2_restore_5 (by decide) (fun c_5 => ?_) (fun c_5 => ?_)
  · refine lv_iconst (v := nI 4) hx hb dX2_restore_17 (by decide) ?_
    refine z_put cx hw 0 3 rfl rfl inlX2 tyX2_ok nmX2 (by decide) wd_44 rfl rfl rfl (Nat.le_of_ble_eq_true rfl) dX2_restore_18 (fun H locs hw => ?_)
    have hw : ZW E A s [(h0, ob 2 [.ref qc, .ref qn, .int (nI sv), .int (nI 4)]), (qc, ia E 480 (nA G)), (qn, ia E 5 (nA C)), (hS, ob 4 [.ref q, .int (nI n)]), (q, ia E 96 (nA F))] H locs := hw
    refine lv_aload_n hx hb dX2_restore_21 rfl (lv_at hl 0 rfl) ?_
    refine z_get cx hw 0 0 rfl rfl inlX2 (by decide) wd_41 rfl dX2_restore_22 ?_
    refine lv_aload_n hx hb dX2_restore_25 rfl (lv_at hl 0 rfl) ?_
    refine z_get cx hw 0 3 rfl rfl inlX2 (by decide) wd_44 rfl dX2_restore_26 ?_
    refine lv_bipush (v := nI 96) hx hb dX2_restore_29 (by decide) ?_
    refine z_imul hx hb (384) (by omega) dX2_restore_31 ?_
    refine lv_aload_n hx hb dX2_restore_32 rfl (lv_at hl 1 rfl) ?_
    refine z_getN cx hw 3 0 rfl rfl inlX4 (by decide) (nf_X2_27 hN) rfl dX2_restore_33 ?_
    refine lv_iconst (v := nI 0) hx hb dX2_restore_36 (by decide) ?_
    refine lv_bipush (v := nI 96) hx hb dX2_restore_37 (by decide) ?_
    refine z_copy cx hw 1 4 rfl rfl 384 0 96 rfl rfl rfl (by omega) (by omega) (by decide) (by decide) hl wd_94 (Nat.le_of_ble_eq_true rfl) (Nat.le_of_ble_eq_true rfl) dX2_restore_39 (fun H locs hw => ?_)
    have hw : ZW E A s [(h0, ob 2 [.ref qc, .ref qn, .int (nI sv), .int (nI 4)]), (qc, ia E 480 (nA G)), (qn, ia E 5 (nA C)), (hS, ob 4 [.ref q, .int (nI n)]), (q, ia E 96 (nA (cpyN G F 384 0 96)))] H locs := hw
    refine lv_aload_n hx hb dX2_restore_42 rfl (lv_at hl 1 rfl) ?_
    refine lv_aload_n hx hb dX2_restore_43 rfl (lv_at hl 0 rfl) ?_
    refine z_get cx hw 0 1 rfl rfl inlX2 (by decide) wd_42 rfl dX2_restore_44 ?_
    refine lv_aload_n hx hb dX2_restore_47 rfl (lv_at hl 0 rfl) ?_
    refine z_get cx hw 0 3 rfl rfl inlX2 (by decide) wd_44 rfl dX2_restore_48 ?_
    refine z_aldN cx hw 2 rfl (4) rfl (by omega) (by decide) dX2_restore_51 ?_
    refine z_putN cx hw 3 1 rfl rfl inlX4 tyX4_ok nmX4 (by decide) (nf_X2_34 hN) rfl rfl rfl (Nat.le_of_ble_eq_true rfl) dX2_restore_52 (fun H locs hw => ?_)
    have hw : ZW E A s [(h0, ob 2 [.ref qc, .ref qn, .int (nI sv), .int (nI 4)]), (qc, ia E 480 (nA G)), (qn, ia E 5 (nA C)), (hS, ob 4 [.ref q, .int (nI (C 4))]), (q, ia E 96 (nA (cpyN G F 384 0 96)))] H locs := hw
    refine lv_aload_n hx hb dX2_restore_55 rfl (lv_at hl 0 rfl) ?_
    refine lv_dup hx hb dX2_restore_56 rfl ?_
    refine z_get cx hw 0 2 rfl rfl inlX2 (by decide) wd_43 rfl dX2_restore_57 ?_
    refine lv_iconst (v := nI 1) hx hb dX2_restore_60 (by decide) ?_
    refine z_isub hx hb (sv - 1) (by omega) rfl dX2_restore_61 ?_
    refine z_put cx hw 0 2 rfl rfl inlX2 tyX2_ok nmX2 (by decide) wd_43 rfl rfl rfl (Nat.le_of_ble_eq_true rfl) dX2_restore_62 (fun H locs hw => ?_)
    have hw : ZW E A s [(h0, ob 2 [.ref qc, .ref qn, .int (nI (sv - 1)), .int (nI 4)]), (qc, ia E 480 (nA G)), (qn, ia E 5 (nA C)), (hS, ob 4 [.ref q, .int (nI (C 4))]), (q, ia E 96 (nA (cpyN G F 384 0 96)))] H locs := hw
    have e_ : 4 = prvN nx := by (simp only [prvN]; split <;> omega)
    have hw := hw.ext (g := nA (fun j => G (96 * prvN nx + j))) 4 rfl (fun j hj => by simp only [nA, cpyN]; rw [if_pos (by omega), ← e_]; rfl)
    have hw : ZW E A s [(h0, ob 2 [.ref qc, .ref qn, .int (nI (sv - 1)), .int (nI 4)]), (qc, ia E 480 (nA G)), (qn, ia E 5 (nA C)), (hS, ob 4 [.ref q, .int (nI (C 4))]), (q, ia E 96 (nA (fun j => G (96 * prvN nx + j))))] H locs := hw
    have e_r65_0 : 4 = (prvN nx) := by exact e_
    have e_r65_1 : (C 4) = (C (prvN nx)) := by rw [e_]
    exact ret () 65 ls H locs dX2_restore_65 (trivial) ((hw).cast (zc (congrArg (fun z => ((h0, ob 2 [.ref qc, .ref qn, .int (nI (sv - 1)), .int (nI z)]) : Nat × va_E)) e_r65_0) (zc rfl (zc rfl (zc (congrArg (fun z => ((hS, ob 4 [.ref q, .int (nI z)]) : Nat × va_E)) e_r65_1) rfl)))))
  · refine lv_aload_n hx hb dX2_restore_8 rfl (lv_at hl 0 rfl) ?_
    refine z_get cx hw 0 3 rfl rfl inlX2 (by decide) wd_44 rfl dX2_restore_9 ?_
    refine lv_iconst (v := nI 1) hx hb dX2_restore_12 (by decide) ?_
    refine z_isub hx hb (nx - 1) (by omega) rfl dX2_restore_13 ?_
    refine lv_goto (tgt := 18) hx hb dX2_restore_14 (by decide) ?_
    refine z_put cx hw 0 3 rfl rfl inlX2 tyX2_ok nmX2 (by decide) wd_44 rfl rfl rfl (Nat.le_of_ble_eq_true rfl) dX2_restore_18 (fun H locs hw => ?_)
    have hw : ZW E A s [(h0, ob 2 [.ref qc, .ref qn, .int (nI sv), .int (nI (nx - 1))]), (qc, ia E 480 (nA G)), (qn, ia E 5 (nA C)), (hS, ob 4 [.ref q, .int (nI n)]), (q, ia E 96 (nA F))] H locs := hw
    refine lv_aload_n hx hb dX2_restore_21 rfl (lv_at hl 0 rfl) ?_
    refine z_get cx hw 0 0 rfl rfl inlX2 (by decide) wd_41 rfl dX2_restore_22 ?_
    refine lv_aload_n hx hb dX2_restore_25 rfl (lv_at hl 0 rfl) ?_
    refine z_get cx hw 0 3 rfl rfl inlX2 (by decide) wd_44 rfl dX2_restore_26 ?_
    refine lv_bipush (v := nI 96) hx hb dX2_restore_29 (by decide) ?_
    refine z_imul hx hb (96 * (nx - 1)) (by omega) dX2_restore_31 ?_
    refine lv_aload_n hx hb dX2_restore_32 rfl (lv_at hl 1 rfl) ?_
    refine z_getN cx hw 3 0 rfl rfl inlX4 (by decide) (nf_X2_27 hN) rfl dX2_restore_33 ?_
    refine lv_iconst (v := nI 0) hx hb dX2_restore_36 (by decide) ?_
    refine lv_bipush (v := nI 96) hx hb dX2_restore_37 (by decide) ?_
    refine z_copy cx hw 1 4 rfl rfl (96 * (nx - 1)) 0 96 rfl rfl rfl (by omega) (by omega) (by decide) (by decide) hl wd_94 (Nat.le_of_ble_eq_true rfl) (Nat.le_of_ble_eq_true rfl) dX2_restore_39 (fun H locs hw => ?_)
    have hw : ZW E A s [(h0, ob 2 [.ref qc, .ref qn, .int (nI sv), .int (nI (nx - 1))]), (qc, ia E 480 (nA G)), (qn, ia E 5 (nA C)), (hS, ob 4 [.ref q, .int (nI n)]), (q, ia E 96 (nA (cpyN G F (96 * (nx - 1)) 0 96)))] H locs := hw
    refine lv_aload_n hx hb dX2_restore_42 rfl (lv_at hl 1 rfl) ?_
    refine lv_aload_n hx hb dX2_restore_43 rfl (lv_at hl 0 rfl) ?_
    refine z_get cx hw 0 1 rfl rfl inlX2 (by decide) wd_42 rfl dX2_restore_44 ?_
    refine lv_aload_n hx hb dX2_restore_47 rfl (lv_at hl 0 rfl) ?_
    refine z_get cx hw 0 3 rfl rfl inlX2 (by decide) wd_44 rfl dX2_restore_48 ?_
    refine z_aldN cx hw 2 rfl (nx - 1) rfl (by omega) (by decide) dX2_restore_51 ?_
    refine z_putN cx hw 3 1 rfl rfl inlX4 tyX4_ok nmX4 (by decide) (nf_X2_34 hN) rfl rfl rfl (Nat.le_of_ble_eq_true rfl) dX2_restore_52 (fun H locs hw => ?_)
    have hw : ZW E A s [(h0, ob 2 [.ref qc, .ref qn, .int (nI sv), .int (nI (nx - 1))]), (qc, ia E 480 (nA G)), (qn, ia E 5 (nA C)), (hS, ob 4 [.ref q, .int (nI (C (nx - 1)))]), (q, ia E 96 (nA (cpyN G F (96 * (nx - 1)) 0 96)))] H locs := hw
    refine lv_aload_n hx hb dX2_restore_55 rfl (lv_at hl 0 rfl) ?_
    refine lv_dup hx hb dX2_restore_56 rfl ?_
    refine z_get cx hw 0 2 rfl rfl inlX2 (by decide) wd_43 rfl dX2_restore_57 ?_
    refine lv_iconst (v := nI 1) hx hb dX2_restore_60 (by decide) ?_
    refine z_isub hx hb (sv - 1) (by omega) rfl dX2_restore_61 ?_
    refine z_put cx hw 0 2 rfl rfl inlX2 tyX2_ok nmX2 (by decide) wd_43 rfl rfl rfl (Nat.le_of_ble_eq_true rfl) dX2_restore_62 (fun H locs hw => ?_)
    have hw : ZW E A s [(h0, ob 2 [.ref qc, .ref qn, .int (nI (sv - 1)), .int (nI (nx - 1))]), (qc, ia E 480 (nA G)), (qn, ia E 5 (nA C)), (hS, ob 4 [.ref q, .int (nI (C (nx - 1)))]), (q, ia E 96 (nA (cpyN G F (96 * (nx - 1)) 0 96)))] H locs := hw
    have e_ : (nx - 1) = prvN nx := by (simp only [prvN]; split <;> omega)
    have hw := hw.ext (g := nA (fun j => G (96 * prvN nx + j))) 4 rfl (fun j hj => by simp only [nA, cpyN]; rw [if_pos (by omega), ← e_]; rfl)
    have hw : ZW E A s [(h0, ob 2 [.ref qc, .ref qn, .int (nI (sv - 1)), .int (nI (nx - 1))]), (qc, ia E 480 (nA G)), (qn, ia E 5 (nA C)), (hS, ob 4 [.ref q, .int (nI (C (nx - 1)))]), (q, ia E 96 (nA (fun j => G (96 * prvN nx + j))))] H locs := hw
    have e_r65_0 : (nx - 1) = (prvN nx) := by rw [e_]
    have e_r65_1 : (C (nx - 1)) = (C (prvN nx)) := by rw [e_]
    exact ret () 65 ls H locs dX2_restore_65 (trivial) ((hw).cast (zc (congrArg (fun z => ((h0, ob 2 [.ref qc, .ref qn, .int (nI (sv - 1)), .int (nI z)]) : Nat × va_E)) e_r65_0) (zc rfl (zc rfl (zc (congrArg (fun z => ((hS, ob 4 [.ref q, .int (nI z)]) : Nat × va_E)) e_r65_1) rfl)))))

def rmJ7_fill_53178100 : Room := { frames := 0, cells := 0, slots := 0, locals := 0 }
set_option maxHeartbeats 4000000 in
set_option maxRecDepth 100000 in
theorem c_J7_fill_53178100 (l : Launch) (E : ZE) (q : Nat) (f : Nat → Int32) (v : Int32)  : ZMv l yJ7_fill_53178 cJ7_fill_53178 4 rmJ7_fill_53178100 E [.ref q, .int v] [(q, ia E 100 f)] (S := Unit) (fun _ => True) (fun _ => [(q, ia E 100 (fun _ => v))]) := by
  refine z_mv (by decide) (Nat.le_of_ble_eq_true rfl) ?_
  intro p e s m args below meth c A Q ls cx hin hw hl ret
  obtain ⟨hx, hb, hml, hown, hts, hK, hN, hA, hlk⟩ := id cx
  have hl : lv_has ls 4 [(0, .ref q), (1, .int v)] := hl
  refine lv_iconst (v := nI 0) hx hb dJ7_fill_53178_0 (by decide) ?_
  refine lv_istore_n (lv' := [(2, .int (nI 0)), (0, .ref q), (1, .int v)]) hx hb dJ7_fill_53178_1 rfl hl (by decide) rfl (fun ls hl => ?_)
  refine lv_aload_n hx hb dJ7_fill_53178_2 rfl (lv_at hl 1 rfl) ?_
  refine z_alen cx hw 0 rfl dJ7_fill_53178_3 ?_
  refine lv_istore_n (lv' := [(3, .int (nI 100)), (2, .int (nI 0)), (0, .ref q), (1, .int v)]) hx hb dJ7_fill_53178_4 rfl hl (by decide) rfl (fun ls hl => ?_)
  have loop_5 : ∀ (fuel : Nat) (k : Nat) (hk : k ≤ 100) (hm : 100 - k < fuel) (H : Heap) (locs : List Loc) (ls : Array Slot), ZW E A s [(q, ia E 100 (fil f v k))] H locs → lv_has ls 4 [(0, .ref q), (1, .int v), (2, .int (nI k)), (3, .int (nI 100))] → W p l e rmJ7_fill_53178100 s m args below meth c H locs 0 0 Q (F0 m 5 ls []) := by
    intro fuel
    induction fuel with
    | zero => intro k hk hm; exact absurd hm (Nat.not_lt_zero _)
    | succ fuel ih_5 =>
      intro k hk hm H locs ls hw hl
      refine lv_iload_n hx hb dJ7_fill_53178_5 rfl (lv_at hl 2 rfl) ?_
      refine lv_iload_n hx hb dJ7_fill_53178_6 rfl (lv_at hl 3 rfl) ?_
      refine z_icmp_ge hx hb (by omega) (by decide) 20 dJ7_fill_53178_7 (by decide) (fun c_7 => ?_) (fun c_7 => ?_)
      · have hw := hw.ext (g := fun _ => v) 0 rfl (fun j hj => by simp only [fil]; rw [if_pos (by omega)])
        have hw : ZW E A s [(q, ia E 100 (fun _ => v))] H locs := hw
        exact ret () 20 ls H locs dJ7_fill_53178_20 (trivial) (hw)
      · refine lv_aload_n hx hb dJ7_fill_53178_10 rfl (lv_at hl 0 rfl) ?_
        refine lv_iload_n hx hb dJ7_fill_53178_11 rfl (lv_at hl 2 rfl) ?_
        refine lv_iload_n hx hb dJ7_fill_53178_12 rfl (lv_at hl 1 rfl) ?_
        refine z_ast cx hw 0 rfl (k) rfl (by omega) (by decide) dJ7_fill_53178_13 (fun H locs hw => ?_)
        have hw : ZW E A s [(q, ia E 100 (upd (fil f v k) k v))] H locs := hw
        refine lv_iinc (v := nI (k + 1)) (lv' := [(2, .int (nI (k + 1))), (0, .ref q), (1, .int v), (3, .int (nI 100))]) hx hb dJ7_fill_53178_14 hl (k := 2) rfl (nI_1 _) (by decide) rfl (fun ls hl => ?_)
        refine lv_goto (tgt := 5) hx hb dJ7_fill_53178_17 (by decide) ?_
        have e_b5_0 : (upd (fil f v k) k v) = (fil f v (k + 1)) := by rw [fil_s]
        exact ih_5 (k + 1) (by omega) (by omega) _ _ ls ((hw).cast (zc (congrArg (fun z => ((q, ia E 100 z) : Nat × va_E)) e_b5_0) rfl)) (lv_add (lv_add (lv_add (lv_add (lv_nil hl) (lv_at hl 3 rfl)) (lv_at hl 0 rfl)) (lv_at hl 2 rfl)) (lv_at hl 1 rfl))
  have e_i5_0 : f = (fil f v 0) := by rw [fil_0]
  exact loop_5 _ 0 (by omega) (Nat.lt_succ_self _) _ _ ls ((hw).cast (zc (congrArg (fun z => ((q, ia E 100 z) : Nat × va_E)) e_i5_0) rfl)) (lv_add (lv_add (lv_add (lv_add (lv_nil hl) (lv_at hl 0 rfl)) (lv_at hl 1 rfl)) (lv_at hl 3 rfl)) (lv_at hl 2 rfl))

def rmJ7_fill_5317820 : Room := { frames := 0, cells := 0, slots := 0, locals := 0 }
set_option maxHeartbeats 4000000 in
set_option maxRecDepth 100000 in
theorem c_J7_fill_5317820 (l : Launch) (E : ZE) (q : Nat) (f : Nat → Int32) (v : Int32)  : ZMv l yJ7_fill_53178 cJ7_fill_53178 4 rmJ7_fill_5317820 E [.ref q, .int v] [(q, ia E 20 f)] (S := Unit) (fun _ => True) (fun _ => [(q, ia E 20 (fun _ => v))]) := by
  refine z_mv (by decide) (Nat.le_of_ble_eq_true rfl) ?_
  intro p e s m args below meth c A Q ls cx hin hw hl ret
  obtain ⟨hx, hb, hml, hown, hts, hK, hN, hA, hlk⟩ := id cx
  have hl : lv_has ls 4 [(0, .ref q), (1, .int v)] := hl
  refine lv_iconst (v := nI 0) hx hb dJ7_fill_53178_0 (by decide) ?_
  refine lv_istore_n (lv' := [(2, .int (nI 0)), (0, .ref q), (1, .int v)]) hx hb dJ7_fill_53178_1 rfl hl (by decide) rfl (fun ls hl => ?_)
  refine lv_aload_n hx hb dJ7_fill_53178_2 rfl (lv_at hl 1 rfl) ?_
  refine z_alen cx hw 0 rfl dJ7_fill_53178_3 ?_
  refine lv_istore_n (lv' := [(3, .int (nI 20)), (2, .int (nI 0)), (0, .ref q), (1, .int v)]) hx hb dJ7_fill_53178_4 rfl hl (by decide) rfl (fun ls hl => ?_)
  have loop_5 : ∀ (fuel : Nat) (k : Nat) (hk : k ≤ 20) (hm : 20 - k < fuel) (H : Heap) (locs : List Loc) (ls : Array Slot), ZW E A s [(q, ia E 20 (fil f v k))] H locs → lv_has ls 4 [(0, .ref q), (1, .int v), (2, .int (nI k)), (3, .int (nI 20))] → W p l e rmJ7_fill_5317820 s m args below meth c H locs 0 0 Q (F0 m 5 ls []) := by
    intro fuel
    induction fuel with
    | zero => intro k hk hm; exact absurd hm (Nat.not_lt_zero _)
    | succ fuel ih_5 =>
      intro k hk hm H locs ls hw hl
      refine lv_iload_n hx hb dJ7_fill_53178_5 rfl (lv_at hl 2 rfl) ?_
      refine lv_iload_n hx hb dJ7_fill_53178_6 rfl (lv_at hl 3 rfl) ?_
      refine z_icmp_ge hx hb (by omega) (by decide) 20 dJ7_fill_53178_7 (by decide) (fun c_7 => ?_) (fun c_7 => ?_)
      · have hw := hw.ext (g := fun _ => v) 0 rfl (fun j hj => by simp only [fil]; rw [if_pos (by omega)])
        have hw : ZW E A s [(q, ia E 20 (fun _ => v))] H locs := hw
        exact ret () 20 ls H locs dJ7_fill_53178_20 (trivial) (hw)
      · refine lv_aload_n hx hb dJ7_fill_53178_10 rfl (lv_at hl 0 rfl) ?_
        refine lv_iload_n hx hb dJ7_fill_53178_11 rfl (lv_at hl 2 rfl) ?_
        refine lv_iload_n hx hb dJ7_fill_53178_12 rfl (lv_at hl 1 rfl) ?_
        refine z_ast cx hw 0 rfl (k) rfl (by omega) (by decide) dJ7_fill_53178_13 (fun H locs hw => ?_)
        have hw : ZW E A s [(q, ia E 20 (upd (fil f v k) k v))] H locs := hw
        refine lv_iinc (v := nI (k + 1)) (lv' := [(2, .int (nI (k + 1))), (0, .ref q), (1, .int v), (3, .int (nI 20))]) hx hb dJ7_fill_53178_14 hl (k := 2) rfl (nI_1 _) (by decide) rfl (fun ls hl => ?_)
        refine lv_goto (tgt := 5) hx hb dJ7_fill_53178_17 (by decide) ?_
        have e_b5_0 : (upd (fil f v k) k v) = (fil f v (k + 1)) := by rw [fil_s]
        exact ih_5 (k + 1) (by omega) (by omega) _ _ ls ((hw).cast (zc (congrArg (fun z => ((q, ia E 20 z) : Nat × va_E)) e_b5_0) rfl)) (lv_add (lv_add (lv_add (lv_add (lv_nil hl) (lv_at hl 3 rfl)) (lv_at hl 0 rfl)) (lv_at hl 2 rfl)) (lv_at hl 1 rfl))
  have e_i5_0 : f = (fil f v 0) := by rw [fil_0]
  exact loop_5 _ 0 (by omega) (Nat.lt_succ_self _) _ _ ls ((hw).cast (zc (congrArg (fun z => ((q, ia E 20 z) : Nat × va_E)) e_i5_0) rfl)) (lv_add (lv_add (lv_add (lv_add (lv_nil hl) (lv_at hl 0 rfl)) (lv_at hl 1 rfl)) (lv_at hl 3 rfl)) (lv_at hl 2 rfl))

def rmJ7_fill_5317824 : Room := { frames := 0, cells := 0, slots := 0, locals := 0 }
set_option maxHeartbeats 4000000 in
set_option maxRecDepth 100000 in
theorem c_J7_fill_5317824 (l : Launch) (E : ZE) (q : Nat) (f : Nat → Int32) (v : Int32)  : ZMv l yJ7_fill_53178 cJ7_fill_53178 4 rmJ7_fill_5317824 E [.ref q, .int v] [(q, ia E 24 f)] (S := Unit) (fun _ => True) (fun _ => [(q, ia E 24 (fun _ => v))]) := by
  refine z_mv (by decide) (Nat.le_of_ble_eq_true rfl) ?_
  intro p e s m args below meth c A Q ls cx hin hw hl ret
  obtain ⟨hx, hb, hml, hown, hts, hK, hN, hA, hlk⟩ := id cx
  have hl : lv_has ls 4 [(0, .ref q), (1, .int v)] := hl
  refine lv_iconst (v := nI 0) hx hb dJ7_fill_53178_0 (by decide) ?_
  refine lv_istore_n (lv' := [(2, .int (nI 0)), (0, .ref q), (1, .int v)]) hx hb dJ7_fill_53178_1 rfl hl (by decide) rfl (fun ls hl => ?_)
  refine lv_aload_n hx hb dJ7_fill_53178_2 rfl (lv_at hl 1 rfl) ?_
  refine z_alen cx hw 0 rfl dJ7_fill_53178_3 ?_
  refine lv_istore_n (lv' := [(3, .int (nI 24)), (2, .int (nI 0)), (0, .ref q), (1, .int v)]) hx hb dJ7_fill_53178_4 rfl hl (by decide) rfl (fun ls hl => ?_)
  have loop_5 : ∀ (fuel : Nat) (k : Nat) (hk : k ≤ 24) (hm : 24 - k < fuel) (H : Heap) (locs : List Loc) (ls : Array Slot), ZW E A s [(q, ia E 24 (fil f v k))] H locs → lv_has ls 4 [(0, .ref q), (1, .int v), (2, .int (nI k)), (3, .int (nI 24))] → W p l e rmJ7_fill_5317824 s m args below meth c H locs 0 0 Q (F0 m 5 ls []) := by
    intro fuel
    induction fuel with
    | zero => intro k hk hm; exact absurd hm (Nat.not_lt_zero _)
    | succ fuel ih_5 =>
      intro k hk hm H locs ls hw hl
      refine lv_iload_n hx hb dJ7_fill_53178_5 rfl (lv_at hl 2 rfl) ?_
      refine lv_iload_n hx hb dJ7_fill_53178_6 rfl (lv_at hl 3 rfl) ?_
      refine z_icmp_ge hx hb (by omega) (by decide) 20 dJ7_fill_53178_7 (by decide) (fun c_7 => ?_) (fun c_7 => ?_)
      · have hw := hw.ext (g := fun _ => v) 0 rfl (fun j hj => by simp only [fil]; rw [if_pos (by omega)])
        have hw : ZW E A s [(q, ia E 24 (fun _ => v))] H locs := hw
        exact ret () 20 ls H locs dJ7_fill_53178_20 (trivial) (hw)
      · refine lv_aload_n hx hb dJ7_fill_53178_10 rfl (lv_at hl 0 rfl) ?_
        refine lv_iload_n hx hb dJ7_fill_53178_11 rfl (lv_at hl 2 rfl) ?_
        refine lv_iload_n hx hb dJ7_fill_53178_12 rfl (lv_at hl 1 rfl) ?_
        refine z_ast cx hw 0 rfl (k) rfl (by omega) (by decide) dJ7_fill_53178_13 (fun H locs hw => ?_)
        have hw : ZW E A s [(q, ia E 24 (upd (fil f v k) k v))] H locs := hw
        refine lv_iinc (v := nI (k + 1)) (lv' := [(2, .int (nI (k + 1))), (0, .ref q), (1, .int v), (3, .int (nI 24))]) hx hb dJ7_fill_53178_14 hl (k := 2) rfl (nI_1 _) (by decide) rfl (fun ls hl => ?_)
        refine lv_goto (tgt := 5) hx hb dJ7_fill_53178_17 (by decide) ?_
        have e_b5_0 : (upd (fil f v k) k v) = (fil f v (k + 1)) := by rw [fil_s]
        exact ih_5 (k + 1) (by omega) (by omega) _ _ ls ((hw).cast (zc (congrArg (fun z => ((q, ia E 24 z) : Nat × va_E)) e_b5_0) rfl)) (lv_add (lv_add (lv_add (lv_add (lv_nil hl) (lv_at hl 3 rfl)) (lv_at hl 0 rfl)) (lv_at hl 2 rfl)) (lv_at hl 1 rfl))
  have e_i5_0 : f = (fil f v 0) := by rw [fil_0]
  exact loop_5 _ 0 (by omega) (Nat.lt_succ_self _) _ _ ls ((hw).cast (zc (congrArg (fun z => ((q, ia E 24 z) : Nat × va_E)) e_i5_0) rfl)) (lv_add (lv_add (lv_add (lv_add (lv_nil hl) (lv_at hl 0 rfl)) (lv_at hl 1 rfl)) (lv_at hl 3 rfl)) (lv_at hl 2 rfl))

def rmX1_has : Room := { frames := 0, cells := 0, slots := 0, locals := 0 }
set_option maxHeartbeats 4000000 in
set_option maxRecDepth 100000 in
theorem c_X1_has (l : Launch) (E : ZE) (h0 qp qd d0 d1 ql l0 l1 qg g0 g1 : Nat) (P : Nat → Int32) (D0 D1 L0 L1 G0 G1 : Nat → Nat) (mm : Nat) (x : Int32) (hmm : mm ≤ 24) : ZMi l yX1_has cX1_has 2 (some .boolean) rmX1_has E [.ref h0, .int x] [(h0, ob 1 [.ref qp, .ref qd, .ref ql, .ref qg, .int (nI mm)]), (qp, ia E 100 P), (qd, ra E d0 d1), (d0, ia E 24 (nA D0)), (d1, ia E 24 (nA D1)), (ql, ra E l0 l1), (l0, ia E 24 (nA L0)), (l1, ia E 24 (nA L1)), (qg, ra E g0 g1), (g0, ia E 24 (nA G0)), (g1, ia E 24 (nA G1))] (S := Unit) (fun r _ => r = bI (inR x mm)) (fun _ => [(h0, ob 1 [.ref qp, .ref qd, .ref ql, .ref qg, .int (nI mm)]), (qp, ia E 100 P), (qd, ra E d0 d1), (d0, ia E 24 (nA D0)), (d1, ia E 24 (nA D1)), (ql, ra E l0 l1), (l0, ia E 24 (nA L0)), (l1, ia E 24 (nA L1)), (qg, ra E g0 g1), (g0, ia E 24 (nA G0)), (g1, ia E 24 (nA G1))]) := by
  refine z_mz (by decide) (Nat.le_of_ble_eq_true rfl) ?_
  intro p e s m args below meth c A Q ls cx hin hw hl ret
  obtain ⟨hx, hb, hml, hown, hts, hK, hN, hA, hlk⟩ := id cx
  have hl : lv_has ls 2 [(0, .ref h0), (1, .int x)] := hl
  refine lv_iload_n hx hb dX1_has_0 rfl (lv_at hl 1 rfl) ?_
  refine lv_if_lt (tgt := 16) hx hb dX1_has_1 (by decide) (fun c_1 => ?_) (fun c_1 => ?_)
  · refine lv_iconst (v := nI 0) hx hb dX1_has_16 (by decide) ?_
    exact ret false () 17 ls s.heap [] dX1_has_17 (congrArg bI (by rw [inR_neg c_1])) (hw)
  · refine lv_iload_n hx hb dX1_has_4 rfl (lv_at hl 1 rfl) ?_
    refine lv_aload_n hx hb dX1_has_5 rfl (lv_at hl 0 rfl) ?_
    refine z_get cx hw 0 4 rfl rfl inlX1 (by decide) wd_53 rfl dX1_has_6 ?_
    refine lv_icmp_ge (tgt := 16) hx hb dX1_has_9 (by decide) (fun c_9 => ?_) (fun c_9 => ?_)
    · refine lv_iconst (v := nI 0) hx hb dX1_has_16 (by decide) ?_
      exact ret false () 17 ls s.heap [] dX1_has_17 (congrArg bI (by rw [inR_ge (by omega) c_9])) (hw)
    · refine lv_iconst (v := nI 1) hx hb dX1_has_12 (by decide) ?_
      refine lv_goto (tgt := 17) hx hb dX1_has_13 (by decide) ?_
      exact ret true () 17 ls s.heap [] dX1_has_17 (congrArg bI (by rw [inR_in (by omega) c_1 c_9])) (hw)

def rmX1_pairOf : Room := { frames := 1, cells := 0, slots := 0, locals := 22 }
set_option maxHeartbeats 4000000 in
set_option maxRecDepth 100000 in
theorem c_X1_pairOf (l : Launch) (E : ZE) (h0 q : Nat) (F : Nat → Nat) (n k : Nat) (hk : k < 24) : ZMi l yX1_pairOf cX1_pairOf 2 (some .int) rmX1_pairOf E [.ref h0, .int (nI k)] [(h0, ob 4 [.ref q, .int (nI n)]), (q, ia E 96 (nA F))] (S := Unit) (fun r _ => r = nI (pr F k)) (fun _ => [(h0, ob 4 [.ref q, .int (nI n)]), (q, ia E 96 (nA F))]) := by
  refine z_mi (by decide) (Nat.le_of_ble_eq_true rfl) ?_
  intro p e s m args below meth c A Q ls cx hin hw hl ret
  obtain ⟨hx, hb, hml, hown, hts, hK, hN, hA, hlk⟩ := id cx
  have hl : lv_has ls 2 [(0, .ref h0), (1, .int (nI k))] := hl
  refine lv_bipush (v := nI 10) hx hb dX1_pairOf_0 (by decide) ?_
  refine lv_aload_n hx hb dX1_pairOf_2 rfl (lv_at hl 0 rfl) ?_
  refine lv_iload_n hx hb dX1_pairOf_3 rfl (lv_at hl 1 rfl) ?_
  refine lv_iconst (v := nI 0) hx hb dX1_pairOf_4 (by decide) ?_
  refine z_ri0 (wr := []) cx hw [0, 1] [] rfl rfl (by decide) (by decide) rfl rfl (z_runVN (As := [.int (nI k), .int (nI 0)]) (rest := [.int (nI 10)]) cx hw rfl rfl [0, 1] rfl rfl (c_X4_die l E h0 q F n k 0 (by omega) (by omega) s.heap.size) mf_X4_die (nm_X1_56 hN) ⟨Nat.le_of_ble_eq_true rfl, Nat.le_of_ble_eq_true rfl⟩ hl (Nat.le_of_ble_eq_true rfl) dX1_pairOf_5 ⟨Nat.le_of_ble_eq_true rfl, Nat.le_of_ble_eq_true rfl⟩) (fun r _ H locs hp hw => ?_)
  have hr_5 := hp
  have hr_5 : r = nI (F (4 * k + 0)) := hr_5
  subst hr_5
  have hw : ZW E A s [(h0, ob 4 [.ref q, .int (nI n)]), (q, ia E 96 (nA F))] H locs := hw
  refine z_imul hx hb (10 * (F (4 * k + 0))) rfl dX1_pairOf_8 ?_
  refine lv_aload_n hx hb dX1_pairOf_9 rfl (lv_at hl 0 rfl) ?_
  refine lv_iload_n hx hb dX1_pairOf_10 rfl (lv_at hl 1 rfl) ?_
  refine lv_iconst (v := nI 1) hx hb dX1_pairOf_11 (by decide) ?_
  refine z_ri0 (wr := []) cx hw [0, 1] [] rfl rfl (by decide) (by decide) rfl rfl (z_runVN (As := [.int (nI k), .int (nI 1)]) (rest := [.int (nI (10 * (F (4 * k + 0))))]) cx hw rfl rfl [0, 1] rfl rfl (c_X4_die l E h0 q F n k 1 (by omega) (by omega) H.size) mf_X4_die (nm_X1_56 hN) ⟨Nat.le_of_ble_eq_true rfl, Nat.le_of_ble_eq_true rfl⟩ hl (Nat.le_of_ble_eq_true rfl) dX1_pairOf_12 ⟨Nat.le_of_ble_eq_true rfl, Nat.le_of_ble_eq_true rfl⟩) (fun r _ H locs hp hw => ?_)
  have hr_12 := hp
  have hr_12 : r = nI (F (4 * k + 1)) := hr_12
  subst hr_12
  have hw : ZW E A s [(h0, ob 4 [.ref q, .int (nI n)]), (q, ia E 96 (nA F))] H locs := hw
  refine z_iadd hx hb ((10 * (F (4 * k + 0))) + (F (4 * k + 1))) rfl dX1_pairOf_15 ?_
  exact ret (nI ((10 * (F (4 * k + 0))) + (F (4 * k + 1)))) () 16 ls H locs dX1_pairOf_16 (congrArg nI (by rfl)) (hw)

def rmX1_markPairs : Room := { frames := 2, cells := 0, slots := 0, locals := 43 }
set_option maxHeartbeats 4000000 in
set_option maxRecDepth 100000 in
theorem c_X1_markPairs (l : Launch) (E : ZE) (h0 qp qd d0 d1 ql l0 l1 qg g0 g1 : Nat) (P : Nat → Int32) (D0 D1 L0 L1 G0 G1 : Nat → Nat) (mm : Nat) (hS q : Nat) (F : Nat → Nat) (n : Nat) (hn : n ≤ 24) (hF : ∀ j, F j < 10) : ZMv l yX1_markPairs cX1_markPairs 3 rmX1_markPairs E [.ref h0, .ref hS] [(h0, ob 1 [.ref qp, .ref qd, .ref ql, .ref qg, .int (nI mm)]), (qp, ia E 100 P), (qd, ra E d0 d1), (d0, ia E 24 (nA D0)), (d1, ia E 24 (nA D1)), (ql, ra E l0 l1), (l0, ia E 24 (nA L0)), (l1, ia E 24 (nA L1)), (qg, ra E g0 g1), (g0, ia E 24 (nA G0)), (g1, ia E 24 (nA G1)), (hS, ob 4 [.ref q, .int (nI n)]), (q, ia E 96 (nA F))] (S := Unit) (fun _ => True) (fun _ => [(h0, ob 1 [.ref qp, .ref qd, .ref ql, .ref qg, .int (nI mm)]), (qp, ia E 100 (mkb (hasP F n))), (qd, ra E d0 d1), (d0, ia E 24 (nA D0)), (d1, ia E 24 (nA D1)), (ql, ra E l0 l1), (l0, ia E 24 (nA L0)), (l1, ia E 24 (nA L1)), (qg, ra E g0 g1), (g0, ia E 24 (nA G0)), (g1, ia E 24 (nA G1)), (hS, ob 4 [.ref q, .int (nI n)]), (q, ia E 96 (nA F))]) := by
  refine z_mv (by decide) (Nat.le_of_ble_eq_true rfl) ?_
  intro p e s m args below meth c A Q ls cx hin hw hl ret
  obtain ⟨hx, hb, hml, hown, hts, hK, hN, hA, hlk⟩ := id cx
  have hl : lv_has ls 3 [(0, .ref h0), (1, .ref hS)] := hl
  refine lv_aload_n hx hb dX1_markPairs_0 rfl (lv_at hl 0 rfl) ?_
  refine z_get cx hw 0 0 rfl rfl inlX1 (by decide) wd_48 rfl dX1_markPairs_1 ?_
  refine lv_iconst (v := (-1)) hx hb dX1_markPairs_4 (by decide) ?_
  refine z_rv0 (wr := [(h0, ob 1 [.ref qp, .ref qd, .ref ql, .ref qg, .int (nI mm)]), (qd, ra E d0 d1), (d0, ia E 24 (nA D0)), (d1, ia E 24 (nA D1)), (ql, ra E l0 l1), (l0, ia E 24 (nA L0)), (l1, ia E 24 (nA L1)), (qg, ra E g0 g1), (g0, ia E 24 (nA G0)), (g1, ia E 24 (nA G1)), (hS, ob 4 [.ref q, .int (nI n)]), (q, ia E 96 (nA F))]) cx hw [1] [0, 2, 3, 4, 5, 6, 7, 8, 9, 10, 11, 12] rfl rfl (by decide) (by decide) rfl rfl (z_runS (As := [.ref qp, .int ((-1))]) (rest := []) cx hw [1] rfl rfl (c_J7_fill_53178100 l E qp P (-1)  s.heap.size) mf_J7_fill_53178 wd_249 ⟨Nat.le_of_ble_eq_true rfl, Nat.le_of_ble_eq_true rfl⟩ hl (Nat.le_of_ble_eq_true rfl) dX1_markPairs_5 ⟨Nat.le_of_ble_eq_true rfl, Nat.le_of_ble_eq_true rfl⟩) (fun _ H locs hp hw => ?_)
  have hw : ZW E A s [(h0, ob 1 [.ref qp, .ref qd, .ref ql, .ref qg, .int (nI mm)]), (qd, ra E d0 d1), (d0, ia E 24 (nA D0)), (d1, ia E 24 (nA D1)), (ql, ra E l0 l1), (l0, ia E 24 (nA L0)), (l1, ia E 24 (nA L1)), (qg, ra E g0 g1), (g0, ia E 24 (nA G0)), (g1, ia E 24 (nA G1)), (hS, ob 4 [.ref q, .int (nI n)]), (q, ia E 96 (nA F)), (qp, ia E 100 (fun _ => (-1)))] H locs := hw
  refine lv_iconst (v := nI 0) hx hb dX1_markPairs_8 (by decide) ?_
  refine lv_istore_n (lv' := [(2, .int (nI 0)), (0, .ref h0), (1, .ref hS)]) hx hb dX1_markPairs_9 rfl hl (by decide) rfl (fun ls hl => ?_)
  have loop_10 : ∀ (fuel : Nat) (k : Nat) (hk : k ≤ n) (hm : n - k < fuel) (H : Heap) (locs : List Loc) (ls : Array Slot), ZW E A s [(h0, ob 1 [.ref qp, .ref qd, .ref ql, .ref qg, .int (nI mm)]), (qd, ra E d0 d1), (d0, ia E 24 (nA D0)), (d1, ia E 24 (nA D1)), (ql, ra E l0 l1), (l0, ia E 24 (nA L0)), (l1, ia E 24 (nA L1)), (qg, ra E g0 g1), (g0, ia E 24 (nA G0)), (g1, ia E 24 (nA G1)), (hS, ob 4 [.ref q, .int (nI n)]), (q, ia E 96 (nA F)), (qp, ia E 100 (mkb (hasP F k)))] H locs → lv_has ls 3 [(0, .ref h0), (1, .ref hS), (2, .int (nI k))] → W p l e rmX1_markPairs s m args below meth c H locs 0 0 Q (F0 m 10 ls []) := by
    intro fuel
    induction fuel with
    | zero => intro k hk hm; exact absurd hm (Nat.not_lt_zero _)
    | succ fuel ih_10 =>
      intro k hk hm H locs ls hw hl
      refine lv_iload_n hx hb dX1_markPairs_10 rfl (lv_at hl 2 rfl) ?_
      refine lv_aload_n hx hb dX1_markPairs_11 rfl (lv_at hl 1 rfl) ?_
      refine z_getN cx hw 10 1 rfl rfl inlX4 (by decide) (nf_X1_37 hN) rfl dX1_markPairs_12 ?_
      refine z_icmp_ge hx hb (by omega) (by omega) 35 dX1_markPairs_15 (by decide) (fun c_15 => ?_) (fun c_15 => ?_)
      · have e_ : k = n := by omega
        have e_r35_0 : (mkb (hasP F k)) = (mkb (hasP F n)) := by rw [e_]
        exact ret () 35 ls H locs dX1_markPairs_35 (trivial) ((hw.perm [0, 12, 1, 2, 3, 4, 5, 6, 7, 8, 9, 10, 11] rfl (by decide)).cast (zc rfl (zc (congrArg (fun z => ((qp, ia E 100 z) : Nat × va_E)) e_r35_0) rfl)))
      · refine lv_aload_n hx hb dX1_markPairs_18 rfl (lv_at hl 0 rfl) ?_
        refine z_get cx hw 0 0 rfl rfl inlX1 (by decide) wd_48 rfl dX1_markPairs_19 ?_
        refine lv_aload_n hx hb dX1_markPairs_22 rfl (lv_at hl 1 rfl) ?_
        refine lv_iload_n hx hb dX1_markPairs_23 rfl (lv_at hl 2 rfl) ?_
        refine z_ri0 (wr := [(h0, ob 1 [.ref qp, .ref qd, .ref ql, .ref qg, .int (nI mm)]), (qd, ra E d0 d1), (d0, ia E 24 (nA D0)), (d1, ia E 24 (nA D1)), (ql, ra E l0 l1), (l0, ia E 24 (nA L0)), (l1, ia E 24 (nA L1)), (qg, ra E g0 g1), (g0, ia E 24 (nA G0)), (g1, ia E 24 (nA G1)), (qp, ia E 100 (mkb (hasP F k)))]) cx hw [10, 11] [0, 1, 2, 3, 4, 5, 6, 7, 8, 9, 12] rfl rfl (by decide) (by decide) rfl rfl (z_runS (As := [.ref hS, .int (nI k)]) (rest := [.ref qp]) cx hw [10, 11] rfl rfl (c_X1_pairOf l E hS q F n k (by omega) H.size) mf_X1_pairOf wd_253 ⟨Nat.le_of_ble_eq_true rfl, Nat.le_of_ble_eq_true rfl⟩ hl (Nat.le_of_ble_eq_true rfl) dX1_markPairs_24 ⟨Nat.le_of_ble_eq_true rfl, Nat.le_of_ble_eq_true rfl⟩) (fun r _ H locs hp hw => ?_)
        have hr_24 := hp
        have hr_24 : r = nI (pr F k) := hr_24
        subst hr_24
        have hw : ZW E A s [(h0, ob 1 [.ref qp, .ref qd, .ref ql, .ref qg, .int (nI mm)]), (qd, ra E d0 d1), (d0, ia E 24 (nA D0)), (d1, ia E 24 (nA D1)), (ql, ra E l0 l1), (l0, ia E 24 (nA L0)), (l1, ia E 24 (nA L1)), (qg, ra E g0 g1), (g0, ia E 24 (nA G0)), (g1, ia E 24 (nA G1)), (qp, ia E 100 (mkb (hasP F k))), (hS, ob 4 [.ref q, .int (nI n)]), (q, ia E 96 (nA F))] H locs := hw
        refine lv_iconst (v := nI 0) hx hb dX1_markPairs_27 (by decide) ?_
        have h_ := pr_lt hF k
        refine z_ast cx hw 10 rfl (pr F k) rfl (by omega) (by decide) dX1_markPairs_28 (fun H locs hw => ?_)
        have hw : ZW E A s [(h0, ob 1 [.ref qp, .ref qd, .ref ql, .ref qg, .int (nI mm)]), (qd, ra E d0 d1), (d0, ia E 24 (nA D0)), (d1, ia E 24 (nA D1)), (ql, ra E l0 l1), (l0, ia E 24 (nA L0)), (l1, ia E 24 (nA L1)), (qg, ra E g0 g1), (g0, ia E 24 (nA G0)), (g1, ia E 24 (nA G1)), (qp, ia E 100 (upd (mkb (hasP F k)) (pr F k) (nI 0))), (hS, ob 4 [.ref q, .int (nI n)]), (q, ia E 96 (nA F))] H locs := hw
        refine lv_iinc (v := nI (k + 1)) (lv' := [(2, .int (nI (k + 1))), (0, .ref h0), (1, .ref hS)]) hx hb dX1_markPairs_29 hl (k := 2) rfl (nI_1 _) (by decide) rfl (fun ls hl => ?_)
        refine lv_goto (tgt := 10) hx hb dX1_markPairs_32 (by decide) ?_
        have e_b10_0 : (upd (mkb (hasP F k)) (pr F k) (nI 0)) = (mkb (hasP F (k + 1))) := by rw [mkb_s]
        exact ih_10 (k + 1) (by omega) (by omega) _ _ ls ((hw.perm [0, 1, 2, 3, 4, 5, 6, 7, 8, 9, 11, 12, 10] rfl (by decide)).cast (zc rfl (zc rfl (zc rfl (zc rfl (zc rfl (zc rfl (zc rfl (zc rfl (zc rfl (zc rfl (zc rfl (zc rfl (zc (congrArg (fun z => ((qp, ia E 100 z) : Nat × va_E)) e_b10_0) rfl)))))))))))))) (lv_add (lv_add (lv_add (lv_nil hl) (lv_at hl 0 rfl)) (lv_at hl 2 rfl)) (lv_at hl 1 rfl))
  have e_i10_0 : (fun _ => (-1)) = (mkb (hasP F 0)) := by rw [mkb_0 F]
  exact loop_10 _ 0 (by omega) (Nat.lt_succ_self _) _ _ ls ((hw).cast (zc rfl (zc rfl (zc rfl (zc rfl (zc rfl (zc rfl (zc rfl (zc rfl (zc rfl (zc rfl (zc rfl (zc rfl (zc (congrArg (fun z => ((qp, ia E 100 z) : Nat × va_E)) e_i10_0) rfl)))))))))))))) (lv_add (lv_add (lv_add (lv_nil hl) (lv_at hl 0 rfl)) (lv_at hl 2 rfl)) (lv_at hl 1 rfl))

def rmX1_enter : Room := { frames := 0, cells := 0, slots := 0, locals := 0 }
set_option maxHeartbeats 4000000 in
set_option maxRecDepth 100000 in
theorem c_X1_enter (l : Launch) (E : ZE) (h0 qp qd d0 d1 ql l0 l1 qg g0 g1 : Nat) (P : Nat → Int32) (D0 D1 L0 L1 G0 G1 : Nat → Nat) (mm : Nat) (o v : Nat) (hmm : mm < 24) : ZMv l yX1_enter cX1_enter 4 rmX1_enter E [.ref h0, .int (nI o), .int (nI v)] [(h0, ob 1 [.ref qp, .ref qd, .ref ql, .ref qg, .int (nI mm)]), (qp, ia E 100 P), (qd, ra E d0 d1), (d0, ia E 24 (nA D0)), (d1, ia E 24 (nA D1)), (ql, ra E l0 l1), (l0, ia E 24 (nA L0)), (l1, ia E 24 (nA L1)), (qg, ra E g0 g1), (g0, ia E 24 (nA G0)), (g1, ia E 24 (nA G1))] (S := Unit) (fun _ => True) (fun _ => [(h0, ob 1 [.ref qp, .ref qd, .ref ql, .ref qg, .int (nI (mm + 1))]), (qp, ia E 100 P), (qd, ra E d0 d1), (d0, ia E 24 (nA (updN D0 mm o))), (d1, ia E 24 (nA (updN D1 mm v))), (ql, ra E l0 l1), (l0, ia E 24 (nA (updN L0 mm 5))), (l1, ia E 24 (nA (updN L1 mm 5))), (qg, ra E g0 g1), (g0, ia E 24 (nA (updN G0 mm 0))), (g1, ia E 24 (nA (updN G1 mm 0)))]) := by
  refine z_mv (by decide) (Nat.le_of_ble_eq_true rfl) ?_
  intro p e s m args below meth c A Q ls cx hin hw hl ret
  obtain ⟨hx, hb, hml, hown, hts, hK, hN, hA, hlk⟩ := id cx
  have hl : lv_has ls 4 [(0, .ref h0), (1, .int (nI o)), (2, .int (nI v))] := hl
  refine lv_aload_n hx hb dX1_enter_0 rfl (lv_at hl 0 rfl) ?_
  refine z_get cx hw 0 1 rfl rfl inlX1 (by decide) wd_50 rfl dX1_enter_1 ?_
  refine lv_iconst (v := nI 0) hx hb dX1_enter_4 (by decide) ?_
  refine z_aald0 cx hw 2 rfl dX1_enter_5 ?_
  refine lv_aload_n hx hb dX1_enter_6 rfl (lv_at hl 0 rfl) ?_
  refine z_get cx hw 0 4 rfl rfl inlX1 (by decide) wd_53 rfl dX1_enter_7 ?_
  refine lv_iload_n hx hb dX1_enter_10 rfl (lv_at hl 1 rfl) ?_
  refine z_astN cx hw 3 rfl (mm) rfl (by omega) (by decide) dX1_enter_11 (fun H locs hw => ?_)
  have hw : ZW E A s [(h0, ob 1 [.ref qp, .ref qd, .ref ql, .ref qg, .int (nI mm)]), (qp, ia E 100 P), (qd, ra E d0 d1), (d0, ia E 24 (nA (updN D0 mm o))), (d1, ia E 24 (nA D1)), (ql, ra E l0 l1), (l0, ia E 24 (nA L0)), (l1, ia E 24 (nA L1)), (qg, ra E g0 g1), (g0, ia E 24 (nA G0)), (g1, ia E 24 (nA G1))] H locs := hw
  refine lv_aload_n hx hb dX1_enter_12 rfl (lv_at hl 0 rfl) ?_
  refine z_get cx hw 0 1 rfl rfl inlX1 (by decide) wd_50 rfl dX1_enter_13 ?_
  refine lv_iconst (v := nI 1) hx hb dX1_enter_16 (by decide) ?_
  refine z_aald1 cx hw 2 rfl dX1_enter_17 ?_
  refine lv_aload_n hx hb dX1_enter_18 rfl (lv_at hl 0 rfl) ?_
  refine z_get cx hw 0 4 rfl rfl inlX1 (by decide) wd_53 rfl dX1_enter_19 ?_
  refine lv_iload_n hx hb dX1_enter_22 rfl (lv_at hl 2 rfl) ?_
  refine z_astN cx hw 4 rfl (mm) rfl (by omega) (by decide) dX1_enter_23 (fun H locs hw => ?_)
  have hw : ZW E A s [(h0, ob 1 [.ref qp, .ref qd, .ref ql, .ref qg, .int (nI mm)]), (qp, ia E 100 P), (qd, ra E d0 d1), (d0, ia E 24 (nA (updN D0 mm o))), (d1, ia E 24 (nA (updN D1 mm v))), (ql, ra E l0 l1), (l0, ia E 24 (nA L0)), (l1, ia E 24 (nA L1)), (qg, ra E g0 g1), (g0, ia E 24 (nA G0)), (g1, ia E 24 (nA G1))] H locs := hw
  refine lv_iconst (v := nI 0) hx hb dX1_enter_24 (by decide) ?_
  refine lv_istore_n (lv' := [(3, .int (nI 0)), (0, .ref h0), (1, .int (nI o)), (2, .int (nI v))]) hx hb dX1_enter_25 rfl hl (by decide) rfl (fun ls hl => ?_)
  refine lv_iload_n hx hb dX1_enter_26 rfl (lv_at hl 0 rfl) ?_
  refine lv_iconst (v := nI 2) hx hb dX1_enter_27 (by decide) ?_
  refine z_icmp_ge hx hb (by decide) (by decide) 61 dX1_enter_28 (by decide) (fun c => absurd c (by decide)) (fun _ => ?_)
  refine lv_aload_n hx hb dX1_enter_31 rfl (lv_at hl 1 rfl) ?_
  refine z_get cx hw 0 2 rfl rfl inlX1 (by decide) wd_51 rfl dX1_enter_32 ?_
  refine lv_iload_n hx hb dX1_enter_35 rfl (lv_at hl 0 rfl) ?_
  refine z_aald0 cx hw 5 rfl dX1_enter_36 ?_
  refine lv_aload_n hx hb dX1_enter_37 rfl (lv_at hl 1 rfl) ?_
  refine z_get cx hw 0 4 rfl rfl inlX1 (by decide) wd_53 rfl dX1_enter_38 ?_
  refine lv_iconst (v := nI 5) hx hb dX1_enter_41 (by decide) ?_
  refine z_astN cx hw 6 rfl (mm) rfl (by omega) (by decide) dX1_enter_42 (fun H locs hw => ?_)
  have hw : ZW E A s [(h0, ob 1 [.ref qp, .ref qd, .ref ql, .ref qg, .int (nI mm)]), (qp, ia E 100 P), (qd, ra E d0 d1), (d0, ia E 24 (nA (updN D0 mm o))), (d1, ia E 24 (nA (updN D1 mm v))), (ql, ra E l0 l1), (l0, ia E 24 (nA (updN L0 mm 5))), (l1, ia E 24 (nA L1)), (qg, ra E g0 g1), (g0, ia E 24 (nA G0)), (g1, ia E 24 (nA G1))] H locs := hw
  refine lv_aload_n hx hb dX1_enter_43 rfl (lv_at hl 1 rfl) ?_
  refine z_get cx hw 0 3 rfl rfl inlX1 (by decide) wd_52 rfl dX1_enter_44 ?_
  refine lv_iload_n hx hb dX1_enter_47 rfl (lv_at hl 0 rfl) ?_
  refine z_aald0 cx hw 8 rfl dX1_enter_48 ?_
  refine lv_aload_n hx hb dX1_enter_49 rfl (lv_at hl 1 rfl) ?_
  refine z_get cx hw 0 4 rfl rfl inlX1 (by decide) wd_53 rfl dX1_enter_50 ?_
  refine lv_iconst (v := nI 0) hx hb dX1_enter_53 (by decide) ?_
  refine z_astN cx hw 9 rfl (mm) rfl (by omega) (by decide) dX1_enter_54 (fun H locs hw => ?_)
  have hw : ZW E A s [(h0, ob 1 [.ref qp, .ref qd, .ref ql, .ref qg, .int (nI mm)]), (qp, ia E 100 P), (qd, ra E d0 d1), (d0, ia E 24 (nA (updN D0 mm o))), (d1, ia E 24 (nA (updN D1 mm v))), (ql, ra E l0 l1), (l0, ia E 24 (nA (updN L0 mm 5))), (l1, ia E 24 (nA L1)), (qg, ra E g0 g1), (g0, ia E 24 (nA (updN G0 mm 0))), (g1, ia E 24 (nA G1))] H locs := hw
  refine lv_iinc (v := nI 1) (lv' := [(3, .int (nI 1)), (0, .ref h0), (1, .int (nI o)), (2, .int (nI v))]) hx hb dX1_enter_55 hl (k := 0) rfl (nI_1 _) (by decide) rfl (fun ls hl => ?_)
  refine lv_goto (tgt := 26) hx hb dX1_enter_58 (by decide) ?_
  refine lv_iload_n hx hb dX1_enter_26 rfl (lv_at hl 0 rfl) ?_
  refine lv_iconst (v := nI 2) hx hb dX1_enter_27 (by decide) ?_
  refine z_icmp_ge hx hb (by decide) (by decide) 61 dX1_enter_28 (by decide) (fun c => absurd c (by decide)) (fun _ => ?_)
  refine lv_aload_n hx hb dX1_enter_31 rfl (lv_at hl 1 rfl) ?_
  refine z_get cx hw 0 2 rfl rfl inlX1 (by decide) wd_51 rfl dX1_enter_32 ?_
  refine lv_iload_n hx hb dX1_enter_35 rfl (lv_at hl 0 rfl) ?_
  refine z_aald1 cx hw 5 rfl dX1_enter_36 ?_
  refine lv_aload_n hx hb dX1_enter_37 rfl (lv_at hl 1 rfl) ?_
  refine z_get cx hw 0 4 rfl rfl inlX1 (by decide) wd_53 rfl dX1_enter_38 ?_
  refine lv_iconst (v := nI 5) hx hb dX1_enter_41 (by decide) ?_
  refine z_astN cx hw 7 rfl (mm) rfl (by omega) (by decide) dX1_enter_42 (fun H locs hw => ?_)
  have hw : ZW E A s [(h0, ob 1 [.ref qp, .ref qd, .ref ql, .ref qg, .int (nI mm)]), (qp, ia E 100 P), (qd, ra E d0 d1), (d0, ia E 24 (nA (updN D0 mm o))), (d1, ia E 24 (nA (updN D1 mm v))), (ql, ra E l0 l1), (l0, ia E 24 (nA (updN L0 mm 5))), (l1, ia E 24 (nA (updN L1 mm 5))), (qg, ra E g0 g1), (g0, ia E 24 (nA (updN G0 mm 0))), (g1, ia E 24 (nA G1))] H locs := hw
  refine lv_aload_n hx hb dX1_enter_43 rfl (lv_at hl 1 rfl) ?_
  refine z_get cx hw 0 3 rfl rfl inlX1 (by decide) wd_52 rfl dX1_enter_44 ?_
  refine lv_iload_n hx hb dX1_enter_47 rfl (lv_at hl 0 rfl) ?_
  refine z_aald1 cx hw 8 rfl dX1_enter_48 ?_
  refine lv_aload_n hx hb dX1_enter_49 rfl (lv_at hl 1 rfl) ?_
  refine z_get cx hw 0 4 rfl rfl inlX1 (by decide) wd_53 rfl dX1_enter_50 ?_
  refine lv_iconst (v := nI 0) hx hb dX1_enter_53 (by decide) ?_
  refine z_astN cx hw 10 rfl (mm) rfl (by omega) (by decide) dX1_enter_54 (fun H locs hw => ?_)
  have hw : ZW E A s [(h0, ob 1 [.ref qp, .ref qd, .ref ql, .ref qg, .int (nI mm)]), (qp, ia E 100 P), (qd, ra E d0 d1), (d0, ia E 24 (nA (updN D0 mm o))), (d1, ia E 24 (nA (updN D1 mm v))), (ql, ra E l0 l1), (l0, ia E 24 (nA (updN L0 mm 5))), (l1, ia E 24 (nA (updN L1 mm 5))), (qg, ra E g0 g1), (g0, ia E 24 (nA (updN G0 mm 0))), (g1, ia E 24 (nA (updN G1 mm 0)))] H locs := hw
  refine lv_iinc (v := nI 2) (lv' := [(3, .int (nI 2)), (0, .ref h0), (1, .int (nI o)), (2, .int (nI v))]) hx hb dX1_enter_55 hl (k := 0) rfl (nI_1 _) (by decide) rfl (fun ls hl => ?_)
  refine lv_goto (tgt := 26) hx hb dX1_enter_58 (by decide) ?_
  refine lv_iload_n hx hb dX1_enter_26 rfl (lv_at hl 0 rfl) ?_
  refine lv_iconst (v := nI 2) hx hb dX1_enter_27 (by decide) ?_
  refine z_icmp_ge hx hb (by decide) (by decide) 61 dX1_enter_28 (by decide) (fun _ => ?_) (fun c => absurd c (by decide))
  refine lv_aload_n hx hb dX1_enter_61 rfl (lv_at hl 1 rfl) ?_
  refine lv_dup hx hb dX1_enter_62 rfl ?_
  refine z_get cx hw 0 4 rfl rfl inlX1 (by decide) wd_53 rfl dX1_enter_63 ?_
  refine lv_iconst (v := nI 1) hx hb dX1_enter_66 (by decide) ?_
  refine z_iadd hx hb (mm + 1) rfl dX1_enter_67 ?_
  refine z_put cx hw 0 4 rfl rfl inlX1 tyX1_ok nmX1 (by decide) wd_53 rfl rfl rfl (Nat.le_of_ble_eq_true rfl) dX1_enter_68 (fun H locs hw => ?_)
  have hw : ZW E A s [(h0, ob 1 [.ref qp, .ref qd, .ref ql, .ref qg, .int (nI (mm + 1))]), (qp, ia E 100 P), (qd, ra E d0 d1), (d0, ia E 24 (nA (updN D0 mm o))), (d1, ia E 24 (nA (updN D1 mm v))), (ql, ra E l0 l1), (l0, ia E 24 (nA (updN L0 mm 5))), (l1, ia E 24 (nA (updN L1 mm 5))), (qg, ra E g0 g1), (g0, ia E 24 (nA (updN G0 mm 0))), (g1, ia E 24 (nA (updN G1 mm 0)))] H locs := hw
  exact ret () 71 ls H locs dX1_enter_71 (trivial) (hw)

def rmX1_spanWear0 : Room := { frames := 1, cells := 0, slots := 0, locals := 24 }
set_option maxHeartbeats 4000000 in
set_option maxRecDepth 100000 in
theorem c_X1_spanWear0 (l : Launch) (E : ZE) (h0 qp qd d0 d1 ql l0 l1 qg g0 g1 : Nat) (P : Nat → Int32) (D0 D1 L0 L1 G0 G1 : Nat → Nat) (mm : Nat) (k x : Nat) (hk : k < 24) (hB : Bd6 D0 D1 L0 L1 G0 G1) (hx1 : x < 10) : ZMv l yX1_spanWear cX1_spanWear 4 rmX1_spanWear0 E [.ref h0, .int (nI k), .int (nI 0), .int (nI x)] [(h0, ob 1 [.ref qp, .ref qd, .ref ql, .ref qg, .int (nI mm)]), (qp, ia E 100 P), (qd, ra E d0 d1), (d0, ia E 24 (nA D0)), (d1, ia E 24 (nA D1)), (ql, ra E l0 l1), (l0, ia E 24 (nA L0)), (l1, ia E 24 (nA L1)), (qg, ra E g0 g1), (g0, ia E 24 (nA G0)), (g1, ia E 24 (nA G1))] (S := Unit) (fun _ => True) (fun _ => [(h0, ob 1 [.ref qp, .ref qd, .ref ql, .ref qg, .int (nI mm)]), (qp, ia E 100 P), (qd, ra E d0 d1), (d0, ia E 24 (nA D0)), (d1, ia E 24 (nA D1)), (ql, ra E l0 l1), (l0, ia E 24 (nA (updN L0 k (min (L0 k) x)))), (l1, ia E 24 (nA L1)), (qg, ra E g0 g1), (g0, ia E 24 (nA (updN G0 k (max (G0 k) x)))), (g1, ia E 24 (nA G1))]) := by
  refine z_mv (by decide) (Nat.le_of_ble_eq_true rfl) ?_
  intro p e s m args below meth c A Q ls cx hin hw hl ret
  obtain ⟨hx, hb, hml, hown, hts, hK, hN, hA, hlk⟩ := id cx
  have hl : lv_has ls 4 [(0, .ref h0), (1, .int (nI k)), (2, .int (nI 0)), (3, .int (nI x))] := hl
  refine lv_aload_n hx hb dX1_spanWear_0 rfl (lv_at hl 0 rfl) ?_
  refine z_get cx hw 0 2 rfl rfl inlX1 (by decide) wd_51 rfl dX1_spanWear_1 ?_
  refine lv_iload_n hx hb dX1_spanWear_4 rfl (lv_at hl 2 rfl) ?_
  refine z_aald0 cx hw 5 rfl dX1_spanWear_5 ?_
  refine lv_iload_n hx hb dX1_spanWear_6 rfl (lv_at hl 1 rfl) ?_
  refine lv_aload_n hx hb dX1_spanWear_7 rfl (lv_at hl 0 rfl) ?_
  refine z_get cx hw 0 2 rfl rfl inlX1 (by decide) wd_51 rfl dX1_spanWear_8 ?_
  refine lv_iload_n hx hb dX1_spanWear_11 rfl (lv_at hl 2 rfl) ?_
  refine z_aald0 cx hw 5 rfl dX1_spanWear_12 ?_
  refine lv_iload_n hx hb dX1_spanWear_13 rfl (lv_at hl 1 rfl) ?_
  refine z_aldN cx hw 6 rfl (k) rfl (by omega) (by decide) dX1_spanWear_14 ?_
  refine lv_iload_n hx hb dX1_spanWear_15 rfl (lv_at hl 3 rfl) ?_
  have h_ := hB.2.2.1 k
  refine z_mmin cx (L0 k) x (by omega) (by omega) hl wd_272 (Nat.le_of_ble_eq_true rfl) (Nat.le_of_ble_eq_true rfl) (Nat.le_of_ble_eq_true rfl) (Nat.le_of_ble_eq_true rfl) dX1_spanWear_16 ?_
  refine z_astN cx hw 6 rfl (k) rfl (by omega) (by decide) dX1_spanWear_19 (fun H locs hw => ?_)
  have hw : ZW E A s [(h0, ob 1 [.ref qp, .ref qd, .ref ql, .ref qg, .int (nI mm)]), (qp, ia E 100 P), (qd, ra E d0 d1), (d0, ia E 24 (nA D0)), (d1, ia E 24 (nA D1)), (ql, ra E l0 l1), (l0, ia E 24 (nA (updN L0 k (min (L0 k) x)))), (l1, ia E 24 (nA L1)), (qg, ra E g0 g1), (g0, ia E 24 (nA G0)), (g1, ia E 24 (nA G1))] H locs := hw
  refine lv_aload_n hx hb dX1_spanWear_20 rfl (lv_at hl 0 rfl) ?_
  refine z_get cx hw 0 3 rfl rfl inlX1 (by decide) wd_52 rfl dX1_spanWear_21 ?_
  refine lv_iload_n hx hb dX1_spanWear_24 rfl (lv_at hl 2 rfl) ?_
  refine z_aald0 cx hw 8 rfl dX1_spanWear_25 ?_
  refine lv_iload_n hx hb dX1_spanWear_26 rfl (lv_at hl 1 rfl) ?_
  refine lv_aload_n hx hb dX1_spanWear_27 rfl (lv_at hl 0 rfl) ?_
  refine z_get cx hw 0 3 rfl rfl inlX1 (by decide) wd_52 rfl dX1_spanWear_28 ?_
  refine lv_iload_n hx hb dX1_spanWear_31 rfl (lv_at hl 2 rfl) ?_
  refine z_aald0 cx hw 8 rfl dX1_spanWear_32 ?_
  refine lv_iload_n hx hb dX1_spanWear_33 rfl (lv_at hl 1 rfl) ?_
  refine z_aldN cx hw 9 rfl (k) rfl (by omega) (by decide) dX1_spanWear_34 ?_
  refine lv_iload_n hx hb dX1_spanWear_35 rfl (lv_at hl 3 rfl) ?_
  have h2_ := hB.2.2.2.2.1 k
  refine z_mmax cx (G0 k) x (by omega) (by omega) hl wd_276 (Nat.le_of_ble_eq_true rfl) (Nat.le_of_ble_eq_true rfl) (Nat.le_of_ble_eq_true rfl) (Nat.le_of_ble_eq_true rfl) dX1_spanWear_36 ?_
  refine z_astN cx hw 9 rfl (k) rfl (by omega) (by decide) dX1_spanWear_39 (fun H locs hw => ?_)
  have hw : ZW E A s [(h0, ob 1 [.ref qp, .ref qd, .ref ql, .ref qg, .int (nI mm)]), (qp, ia E 100 P), (qd, ra E d0 d1), (d0, ia E 24 (nA D0)), (d1, ia E 24 (nA D1)), (ql, ra E l0 l1), (l0, ia E 24 (nA (updN L0 k (min (L0 k) x)))), (l1, ia E 24 (nA L1)), (qg, ra E g0 g1), (g0, ia E 24 (nA (updN G0 k (max (G0 k) x)))), (g1, ia E 24 (nA G1))] H locs := hw
  exact ret () 40 ls H locs dX1_spanWear_40 (trivial) (hw)

def rmX1_spanWear1 : Room := { frames := 1, cells := 0, slots := 0, locals := 24 }
set_option maxHeartbeats 4000000 in
set_option maxRecDepth 100000 in
theorem c_X1_spanWear1 (l : Launch) (E : ZE) (h0 qp qd d0 d1 ql l0 l1 qg g0 g1 : Nat) (P : Nat → Int32) (D0 D1 L0 L1 G0 G1 : Nat → Nat) (mm : Nat) (k x : Nat) (hk : k < 24) (hB : Bd6 D0 D1 L0 L1 G0 G1) (hx1 : x < 10) : ZMv l yX1_spanWear cX1_spanWear 4 rmX1_spanWear1 E [.ref h0, .int (nI k), .int (nI 1), .int (nI x)] [(h0, ob 1 [.ref qp, .ref qd, .ref ql, .ref qg, .int (nI mm)]), (qp, ia E 100 P), (qd, ra E d0 d1), (d0, ia E 24 (nA D0)), (d1, ia E 24 (nA D1)), (ql, ra E l0 l1), (l0, ia E 24 (nA L0)), (l1, ia E 24 (nA L1)), (qg, ra E g0 g1), (g0, ia E 24 (nA G0)), (g1, ia E 24 (nA G1))] (S := Unit) (fun _ => True) (fun _ => [(h0, ob 1 [.ref qp, .ref qd, .ref ql, .ref qg, .int (nI mm)]), (qp, ia E 100 P), (qd, ra E d0 d1), (d0, ia E 24 (nA D0)), (d1, ia E 24 (nA D1)), (ql, ra E l0 l1), (l0, ia E 24 (nA L0)), (l1, ia E 24 (nA (updN L1 k (min (L1 k) x)))), (qg, ra E g0 g1), (g0, ia E 24 (nA G0)), (g1, ia E 24 (nA (updN G1 k (max (G1 k) x))))]) := by
  refine z_mv (by decide) (Nat.le_of_ble_eq_true rfl) ?_
  intro p e s m args below meth c A Q ls cx hin hw hl ret
  obtain ⟨hx, hb, hml, hown, hts, hK, hN, hA, hlk⟩ := id cx
  have hl : lv_has ls 4 [(0, .ref h0), (1, .int (nI k)), (2, .int (nI 1)), (3, .int (nI x))] := hl
  refine lv_aload_n hx hb dX1_spanWear_0 rfl (lv_at hl 0 rfl) ?_
  refine z_get cx hw 0 2 rfl rfl inlX1 (by decide) wd_51 rfl dX1_spanWear_1 ?_
  refine lv_iload_n hx hb dX1_spanWear_4 rfl (lv_at hl 2 rfl) ?_
  refine z_aald1 cx hw 5 rfl dX1_spanWear_5 ?_
  refine lv_iload_n hx hb dX1_spanWear_6 rfl (lv_at hl 1 rfl) ?_
  refine lv_aload_n hx hb dX1_spanWear_7 rfl (lv_at hl 0 rfl) ?_
  refine z_get cx hw 0 2 rfl rfl inlX1 (by decide) wd_51 rfl dX1_spanWear_8 ?_
  refine lv_iload_n hx hb dX1_spanWear_11 rfl (lv_at hl 2 rfl) ?_
  refine z_aald1 cx hw 5 rfl dX1_spanWear_12 ?_
  refine lv_iload_n hx hb dX1_spanWear_13 rfl (lv_at hl 1 rfl) ?_
  refine z_aldN cx hw 7 rfl (k) rfl (by omega) (by decide) dX1_spanWear_14 ?_
  refine lv_iload_n hx hb dX1_spanWear_15 rfl (lv_at hl 3 rfl) ?_
  have h_ := hB.2.2.2.1 k
  refine z_mmin cx (L1 k) x (by omega) (by omega) hl wd_272 (Nat.le_of_ble_eq_true rfl) (Nat.le_of_ble_eq_true rfl) (Nat.le_of_ble_eq_true rfl) (Nat.le_of_ble_eq_true rfl) dX1_spanWear_16 ?_
  refine z_astN cx hw 7 rfl (k) rfl (by omega) (by decide) dX1_spanWear_19 (fun H locs hw => ?_)
  have hw : ZW E A s [(h0, ob 1 [.ref qp, .ref qd, .ref ql, .ref qg, .int (nI mm)]), (qp, ia E 100 P), (qd, ra E d0 d1), (d0, ia E 24 (nA D0)), (d1, ia E 24 (nA D1)), (ql, ra E l0 l1), (l0, ia E 24 (nA L0)), (l1, ia E 24 (nA (updN L1 k (min (L1 k) x)))), (qg, ra E g0 g1), (g0, ia E 24 (nA G0)), (g1, ia E 24 (nA G1))] H locs := hw
  refine lv_aload_n hx hb dX1_spanWear_20 rfl (lv_at hl 0 rfl) ?_
  refine z_get cx hw 0 3 rfl rfl inlX1 (by decide) wd_52 rfl dX1_spanWear_21 ?_
  refine lv_iload_n hx hb dX1_spanWear_24 rfl (lv_at hl 2 rfl) ?_
  refine z_aald1 cx hw 8 rfl dX1_spanWear_25 ?_
  refine lv_iload_n hx hb dX1_spanWear_26 rfl (lv_at hl 1 rfl) ?_
  refine lv_aload_n hx hb dX1_spanWear_27 rfl (lv_at hl 0 rfl) ?_
  refine z_get cx hw 0 3 rfl rfl inlX1 (by decide) wd_52 rfl dX1_spanWear_28 ?_
  refine lv_iload_n hx hb dX1_spanWear_31 rfl (lv_at hl 2 rfl) ?_
  refine z_aald1 cx hw 8 rfl dX1_spanWear_32 ?_
  refine lv_iload_n hx hb dX1_spanWear_33 rfl (lv_at hl 1 rfl) ?_
  refine z_aldN cx hw 10 rfl (k) rfl (by omega) (by decide) dX1_spanWear_34 ?_
  refine lv_iload_n hx hb dX1_spanWear_35 rfl (lv_at hl 3 rfl) ?_
  have h2_ := hB.2.2.2.2.2 k
  refine z_mmax cx (G1 k) x (by omega) (by omega) hl wd_276 (Nat.le_of_ble_eq_true rfl) (Nat.le_of_ble_eq_true rfl) (Nat.le_of_ble_eq_true rfl) (Nat.le_of_ble_eq_true rfl) dX1_spanWear_36 ?_
  refine z_astN cx hw 10 rfl (k) rfl (by omega) (by decide) dX1_spanWear_39 (fun H locs hw => ?_)
  have hw : ZW E A s [(h0, ob 1 [.ref qp, .ref qd, .ref ql, .ref qg, .int (nI mm)]), (qp, ia E 100 P), (qd, ra E d0 d1), (d0, ia E 24 (nA D0)), (d1, ia E 24 (nA D1)), (ql, ra E l0 l1), (l0, ia E 24 (nA L0)), (l1, ia E 24 (nA (updN L1 k (min (L1 k) x)))), (qg, ra E g0 g1), (g0, ia E 24 (nA G0)), (g1, ia E 24 (nA (updN G1 k (max (G1 k) x))))] H locs := hw
  exact ret () 40 ls H locs dX1_spanWear_40 (trivial) (hw)

def rmX1_isEarlierBy0 : Room := { frames := 0, cells := 0, slots := 0, locals := 0 }
set_option maxHeartbeats 4000000 in
set_option maxRecDepth 100000 in
theorem c_X1_isEarlierBy0 (l : Launch) (E : ZE) (h0 qp qd d0 d1 ql l0 l1 qg g0 g1 : Nat) (P : Nat → Int32) (D0 D1 L0 L1 G0 G1 : Nat → Nat) (mm : Nat) (a b : Nat) (ha : a < 24) (hb2 : b < 24) (hB : Bd6 D0 D1 L0 L1 G0 G1) : ZMi l yX1_isEarlierBy cX1_isEarlierBy 4 (some .boolean) rmX1_isEarlierBy0 E [.ref h0, .int (nI 0), .int (nI a), .int (nI b)] [(h0, ob 1 [.ref qp, .ref qd, .ref ql, .ref qg, .int (nI mm)]), (qp, ia E 100 P), (qd, ra E d0 d1), (d0, ia E 24 (nA D0)), (d1, ia E 24 (nA D1)), (ql, ra E l0 l1), (l0, ia E 24 (nA L0)), (l1, ia E 24 (nA L1)), (qg, ra E g0 g1), (g0, ia E 24 (nA G0)), (g1, ia E 24 (nA G1))] (S := Unit) (fun r _ => r = bI (erb D0 L0 G0 a b)) (fun _ => [(h0, ob 1 [.ref qp, .ref qd, .ref ql, .ref qg, .int (nI mm)]), (qp, ia E 100 P), (qd, ra E d0 d1), (d0, ia E 24 (nA D0)), (d1, ia E 24 (nA D1)), (ql, ra E l0 l1), (l0, ia E 24 (nA L0)), (l1, ia E 24 (nA L1)), (qg, ra E g0 g1), (g0, ia E 24 (nA G0)), (g1, ia E 24 (nA G1))]) := by
  refine z_mz (by decide) (Nat.le_of_ble_eq_true rfl) ?_
  intro p e s m args below meth c A Q ls cx hin hw hl ret
  obtain ⟨hx, hb, hml, hown, hts, hK, hN, hA, hlk⟩ := id cx
  have hl : lv_has ls 4 [(0, .ref h0), (1, .int (nI 0)), (2, .int (nI a)), (3, .int (nI b))] := hl
  have b0_ := hB.1 a
  have b1_ := hB.1 b
  have b2_ := hB.2.2.1 a
  have b3_ := hB.2.2.1 b
  have b4_ := hB.2.2.2.2.1 a
  have b5_ := hB.2.2.2.2.1 b
  refine lv_aload_n hx hb dX1_isEarlierBy_0 rfl (lv_at hl 0 rfl) ?_
  refine z_get cx hw 0 1 rfl rfl inlX1 (by decide) wd_50 rfl dX1_isEarlierBy_1 ?_
  refine lv_iload_n hx hb dX1_isEarlierBy_4 rfl (lv_at hl 1 rfl) ?_
  refine z_aald0 cx hw 2 rfl dX1_isEarlierBy_5 ?_
  refine lv_iload_n hx hb dX1_isEarlierBy_6 rfl (lv_at hl 2 rfl) ?_
  refine z_aldN cx hw 3 rfl (a) rfl (by omega) (by decide) dX1_isEarlierBy_7 ?_
  refine lv_aload_n hx hb dX1_isEarlierBy_8 rfl (lv_at hl 0 rfl) ?_
  refine z_get cx hw 0 1 rfl rfl inlX1 (by decide) wd_50 rfl dX1_isEarlierBy_9 ?_
  refine lv_iload_n hx hb dX1_isEarlierBy_12 rfl (lv_at hl 1 rfl) ?_
  refine z_aald0 cx hw 2 rfl dX1_isEarlierBy_13 ?_
  refine lv_iload_n hx hb dX1_isEarlierBy_14 rfl (lv_at hl 3 rfl) ?_
  refine z_aldN cx hw 3 rfl (b) rfl (by omega) (by decide) dX1_isEarlierBy_15 ?_
  refine z_icmp_ne hx hb (by omega) (by omega) 61 dX1_isEarlierBy_16 (by decide) (fun c_16 => ?_) (fun c_16 => ?_)
  · refine lv_iconst (v := nI 0) hx hb dX1_isEarlierBy_61 (by decide) ?_
    exact ret false () 62 ls s.heap [] dX1_isEarlierBy_62 (congrArg bI (by exact (decide_eq_false (fun q => c_16 q.1)).symm)) (hw)
  · refine lv_aload_n hx hb dX1_isEarlierBy_19 rfl (lv_at hl 0 rfl) ?_
    refine z_get cx hw 0 3 rfl rfl inlX1 (by decide) wd_52 rfl dX1_isEarlierBy_20 ?_
    refine lv_iload_n hx hb dX1_isEarlierBy_23 rfl (lv_at hl 1 rfl) ?_
    refine z_aald0 cx hw 8 rfl dX1_isEarlierBy_24 ?_
    refine lv_iload_n hx hb dX1_isEarlierBy_25 rfl (lv_at hl 2 rfl) ?_
    refine z_aldN cx hw 9 rfl (a) rfl (by omega) (by decide) dX1_isEarlierBy_26 ?_
    refine lv_aload_n hx hb dX1_isEarlierBy_27 rfl (lv_at hl 0 rfl) ?_
    refine z_get cx hw 0 2 rfl rfl inlX1 (by decide) wd_51 rfl dX1_isEarlierBy_28 ?_
    refine lv_iload_n hx hb dX1_isEarlierBy_31 rfl (lv_at hl 1 rfl) ?_
    refine z_aald0 cx hw 5 rfl dX1_isEarlierBy_32 ?_
    refine lv_iload_n hx hb dX1_isEarlierBy_33 rfl (lv_at hl 3 rfl) ?_
    refine z_aldN cx hw 6 rfl (b) rfl (by omega) (by decide) dX1_isEarlierBy_34 ?_
    refine z_icmp_gt hx hb (by omega) (by omega) 61 dX1_isEarlierBy_35 (by decide) (fun c_35 => ?_) (fun c_35 => ?_)
    · refine lv_iconst (v := nI 0) hx hb dX1_isEarlierBy_61 (by decide) ?_
      exact ret false () 62 ls s.heap [] dX1_isEarlierBy_62 (congrArg bI (by exact (decide_eq_false (fun q => absurd q.2.1 (Nat.not_le.mpr c_35))).symm)) (hw)
    · refine lv_aload_n hx hb dX1_isEarlierBy_38 rfl (lv_at hl 0 rfl) ?_
      refine z_get cx hw 0 2 rfl rfl inlX1 (by decide) wd_51 rfl dX1_isEarlierBy_39 ?_
      refine lv_iload_n hx hb dX1_isEarlierBy_42 rfl (lv_at hl 1 rfl) ?_
      refine z_aald0 cx hw 5 rfl dX1_isEarlierBy_43 ?_
      refine lv_iload_n hx hb dX1_isEarlierBy_44 rfl (lv_at hl 2 rfl) ?_
      refine z_aldN cx hw 6 rfl (a) rfl (by omega) (by decide) dX1_isEarlierBy_45 ?_
      refine lv_aload_n hx hb dX1_isEarlierBy_46 rfl (lv_at hl 0 rfl) ?_
      refine z_get cx hw 0 3 rfl rfl inlX1 (by decide) wd_52 rfl dX1_isEarlierBy_47 ?_
      refine lv_iload_n hx hb dX1_isEarlierBy_50 rfl (lv_at hl 1 rfl) ?_
      refine z_aald0 cx hw 8 rfl dX1_isEarlierBy_51 ?_
      refine lv_iload_n hx hb dX1_isEarlierBy_52 rfl (lv_at hl 3 rfl) ?_
      refine z_aldN cx hw 9 rfl (b) rfl (by omega) (by decide) dX1_isEarlierBy_53 ?_
      refine z_icmp_ge hx hb (by omega) (by omega) 61 dX1_isEarlierBy_54 (by decide) (fun c_54 => ?_) (fun c_54 => ?_)
      · refine lv_iconst (v := nI 0) hx hb dX1_isEarlierBy_61 (by decide) ?_
        exact ret false () 62 ls s.heap [] dX1_isEarlierBy_62 (congrArg bI (by exact (decide_eq_false (fun q => absurd q.2.2 (Nat.not_lt.mpr c_54))).symm)) (hw)
      · refine lv_iconst (v := nI 1) hx hb dX1_isEarlierBy_57 (by decide) ?_
        refine lv_goto (tgt := 62) hx hb dX1_isEarlierBy_58 (by decide) ?_
        exact ret true () 62 ls s.heap [] dX1_isEarlierBy_62 (congrArg bI (by exact (decide_eq_true ⟨c_16, c_35, c_54⟩).symm)) (hw)

def rmX1_isEarlierBy1 : Room := { frames := 0, cells := 0, slots := 0, locals := 0 }
set_option maxHeartbeats 4000000 in
set_option maxRecDepth 100000 in
theorem c_X1_isEarlierBy1 (l : Launch) (E : ZE) (h0 qp qd d0 d1 ql l0 l1 qg g0 g1 : Nat) (P : Nat → Int32) (D0 D1 L0 L1 G0 G1 : Nat → Nat) (mm : Nat) (a b : Nat) (ha : a < 24) (hb2 : b < 24) (hB : Bd6 D0 D1 L0 L1 G0 G1) : ZMi l yX1_isEarlierBy cX1_isEarlierBy 4 (some .boolean) rmX1_isEarlierBy1 E [.ref h0, .int (nI 1), .int (nI a), .int (nI b)] [(h0, ob 1 [.ref qp, .ref qd, .ref ql, .ref qg, .int (nI mm)]), (qp, ia E 100 P), (qd, ra E d0 d1), (d0, ia E 24 (nA D0)), (d1, ia E 24 (nA D1)), (ql, ra E l0 l1), (l0, ia E 24 (nA L0)), (l1, ia E 24 (nA L1)), (qg, ra E g0 g1), (g0, ia E 24 (nA G0)), (g1, ia E 24 (nA G1))] (S := Unit) (fun r _ => r = bI (erb D1 L1 G1 a b)) (fun _ => [(h0, ob 1 [.ref qp, .ref qd, .ref ql, .ref qg, .int (nI mm)]), (qp, ia E 100 P), (qd, ra E d0 d1), (d0, ia E 24 (nA D0)), (d1, ia E 24 (nA D1)), (ql, ra E l0 l1), (l0, ia E 24 (nA L0)), (l1, ia E 24 (nA L1)), (qg, ra E g0 g1), (g0, ia E 24 (nA G0)), (g1, ia E 24 (nA G1))]) := by
  refine z_mz (by decide) (Nat.le_of_ble_eq_true rfl) ?_
  intro p e s m args below meth c A Q ls cx hin hw hl ret
  obtain ⟨hx, hb, hml, hown, hts, hK, hN, hA, hlk⟩ := id cx
  have hl : lv_has ls 4 [(0, .ref h0), (1, .int (nI 1)), (2, .int (nI a)), (3, .int (nI b))] := hl
  have b0_ := hB.2.1 a
  have b1_ := hB.2.1 b
  have b2_ := hB.2.2.2.1 a
  have b3_ := hB.2.2.2.1 b
  have b4_ := hB.2.2.2.2.2 a
  have b5_ := hB.2.2.2.2.2 b
  refine lv_aload_n hx hb dX1_isEarlierBy_0 rfl (lv_at hl 0 rfl) ?_
  refine z_get cx hw 0 1 rfl rfl inlX1 (by decide) wd_50 rfl dX1_isEarlierBy_1 ?_
  refine lv_iload_n hx hb dX1_isEarlierBy_4 rfl (lv_at hl 1 rfl) ?_
  refine z_aald1 cx hw 2 rfl dX1_isEarlierBy_5 ?_
  refine lv_iload_n hx hb dX1_isEarlierBy_6 rfl (lv_at hl 2 rfl) ?_
  refine z_aldN cx hw 4 rfl (a) rfl (by omega) (by decide) dX1_isEarlierBy_7 ?_
  refine lv_aload_n hx hb dX1_isEarlierBy_8 rfl (lv_at hl 0 rfl) ?_
  refine z_get cx hw 0 1 rfl rfl inlX1 (by decide) wd_50 rfl dX1_isEarlierBy_9 ?_
  refine lv_iload_n hx hb dX1_isEarlierBy_12 rfl (lv_at hl 1 rfl) ?_
  refine z_aald1 cx hw 2 rfl dX1_isEarlierBy_13 ?_
  refine lv_iload_n hx hb dX1_isEarlierBy_14 rfl (lv_at hl 3 rfl) ?_
  refine z_aldN cx hw 4 rfl (b) rfl (by omega) (by decide) dX1_isEarlierBy_15 ?_
  refine z_icmp_ne hx hb (by omega) (by omega) 61 dX1_isEarlierBy_16 (by decide) (fun c_16 => ?_) (fun c_16 => ?_)
  · refine lv_iconst (v := nI 0) hx hb dX1_isEarlierBy_61 (by decide) ?_
    exact ret false () 62 ls s.heap [] dX1_isEarlierBy_62 (congrArg bI (by exact (decide_eq_false (fun q => c_16 q.1)).symm)) (hw)
  · refine lv_aload_n hx hb dX1_isEarlierBy_19 rfl (lv_at hl 0 rfl) ?_
    refine z_get cx hw 0 3 rfl rfl inlX1 (by decide) wd_52 rfl dX1_isEarlierBy_20 ?_
    refine lv_iload_n hx hb dX1_isEarlierBy_23 rfl (lv_at hl 1 rfl) ?_
    refine z_aald1 cx hw 8 rfl dX1_isEarlierBy_24 ?_
    refine lv_iload_n hx hb dX1_isEarlierBy_25 rfl (lv_at hl 2 rfl) ?_
    refine z_aldN cx hw 10 rfl (a) rfl (by omega) (by decide) dX1_isEarlierBy_26 ?_
    refine lv_aload_n hx hb dX1_isEarlierBy_27 rfl (lv_at hl 0 rfl) ?_
    refine z_get cx hw 0 2 rfl rfl inlX1 (by decide) wd_51 rfl dX1_isEarlierBy_28 ?_
    refine lv_iload_n hx hb dX1_isEarlierBy_31 rfl (lv_at hl 1 rfl) ?_
    refine z_aald1 cx hw 5 rfl dX1_isEarlierBy_32 ?_
    refine lv_iload_n hx hb dX1_isEarlierBy_33 rfl (lv_at hl 3 rfl) ?_
    refine z_aldN cx hw 7 rfl (b) rfl (by omega) (by decide) dX1_isEarlierBy_34 ?_
    refine z_icmp_gt hx hb (by omega) (by omega) 61 dX1_isEarlierBy_35 (by decide) (fun c_35 => ?_) (fun c_35 => ?_)
    · refine lv_iconst (v := nI 0) hx hb dX1_isEarlierBy_61 (by decide) ?_
      exact ret false () 62 ls s.heap [] dX1_isEarlierBy_62 (congrArg bI (by exact (decide_eq_false (fun q => absurd q.2.1 (Nat.not_le.mpr c_35))).symm)) (hw)
    · refine lv_aload_n hx hb dX1_isEarlierBy_38 rfl (lv_at hl 0 rfl) ?_
      refine z_get cx hw 0 2 rfl rfl inlX1 (by decide) wd_51 rfl dX1_isEarlierBy_39 ?_
      refine lv_iload_n hx hb dX1_isEarlierBy_42 rfl (lv_at hl 1 rfl) ?_
      refine z_aald1 cx hw 5 rfl dX1_isEarlierBy_43 ?_
      refine lv_iload_n hx hb dX1_isEarlierBy_44 rfl (lv_at hl 2 rfl) ?_
      refine z_aldN cx hw 7 rfl (a) rfl (by omega) (by decide) dX1_isEarlierBy_45 ?_
      refine lv_aload_n hx hb dX1_isEarlierBy_46 rfl (lv_at hl 0 rfl) ?_
      refine z_get cx hw 0 3 rfl rfl inlX1 (by decide) wd_52 rfl dX1_isEarlierBy_47 ?_
      refine lv_iload_n hx hb dX1_isEarlierBy_50 rfl (lv_at hl 1 rfl) ?_
      refine z_aald1 cx hw 8 rfl dX1_isEarlierBy_51 ?_
      refine lv_iload_n hx hb dX1_isEarlierBy_52 rfl (lv_at hl 3 rfl) ?_
      refine z_aldN cx hw 10 rfl (b) rfl (by omega) (by decide) dX1_isEarlierBy_53 ?_
      refine z_icmp_ge hx hb (by omega) (by omega) 61 dX1_isEarlierBy_54 (by decide) (fun c_54 => ?_) (fun c_54 => ?_)
      · refine lv_iconst (v := nI 0) hx hb dX1_isEarlierBy_61 (by decide) ?_
        exact ret false () 62 ls s.heap [] dX1_isEarlierBy_62 (congrArg bI (by exact (decide_eq_false (fun q => absurd q.2.2 (Nat.not_lt.mpr c_54))).symm)) (hw)
      · refine lv_iconst (v := nI 1) hx hb dX1_isEarlierBy_57 (by decide) ?_
        refine lv_goto (tgt := 62) hx hb dX1_isEarlierBy_58 (by decide) ?_
        exact ret true () 62 ls s.heap [] dX1_isEarlierBy_62 (congrArg bI (by exact (decide_eq_true ⟨c_16, c_35, c_54⟩).symm)) (hw)

def rmX1_isEarlier : Room := { frames := 1, cells := 0, slots := 0, locals := 23 }
set_option maxHeartbeats 4000000 in
set_option maxRecDepth 100000 in
theorem c_X1_isEarlier (l : Launch) (E : ZE) (h0 qp qd d0 d1 ql l0 l1 qg g0 g1 : Nat) (P : Nat → Int32) (D0 D1 L0 L1 G0 G1 : Nat → Nat) (mm : Nat) (a b : Nat) (ha : a < 24) (hb2 : b < 24) (hB : Bd6 D0 D1 L0 L1 G0 G1) : ZMi l yX1_isEarlier cX1_isEarlier 3 (some .boolean) rmX1_isEarlier E [.ref h0, .int (nI a), .int (nI b)] [(h0, ob 1 [.ref qp, .ref qd, .ref ql, .ref qg, .int (nI mm)]), (qp, ia E 100 P), (qd, ra E d0 d1), (d0, ia E 24 (nA D0)), (d1, ia E 24 (nA D1)), (ql, ra E l0 l1), (l0, ia E 24 (nA L0)), (l1, ia E 24 (nA L1)), (qg, ra E g0 g1), (g0, ia E 24 (nA G0)), (g1, ia E 24 (nA G1))] (S := Unit) (fun r _ => r = bI (erl D0 D1 L0 L1 G0 G1 a b)) (fun _ => [(h0, ob 1 [.ref qp, .ref qd, .ref ql, .ref qg, .int (nI mm)]), (qp, ia E 100 P), (qd, ra E d0 d1), (d0, ia E 24 (nA D0)), (d1, ia E 24 (nA D1)), (ql, ra E l0 l1), (l0, ia E 24 (nA L0)), (l1, ia E 24 (nA L1)), (qg, ra E g0 g1), (g0, ia E 24 (nA G0)), (g1, ia E 24 (nA G1))]) := by
  refine z_mz (by decide) (Nat.le_of_ble_eq_true rfl) ?_
  intro p e s m args below meth c A Q ls cx hin hw hl ret
  obtain ⟨hx, hb, hml, hown, hts, hK, hN, hA, hlk⟩ := id cx
  have hl : lv_has ls 3 [(0, .ref h0), (1, .int (nI a)), (2, .int (nI b))] := hl
  refine lv_aload_n hx hb dX1_isEarlier_0 rfl (lv_at hl 0 rfl) ?_
  refine lv_iconst (v := nI 0) hx hb dX1_isEarlier_1 (by decide) ?_
  refine lv_iload_n hx hb dX1_isEarlier_2 rfl (lv_at hl 1 rfl) ?_
  refine lv_iload_n hx hb dX1_isEarlier_3 rfl (lv_at hl 2 rfl) ?_
  refine z_ri0 (wr := []) cx hw [0, 1, 2, 3, 4, 5, 6, 7, 8, 9, 10] [] rfl rfl (by decide) (by decide) rfl rfl (z_runV (As := [.int (nI 0), .int (nI a), .int (nI b)]) (rest := []) cx hw rfl rfl [0, 1, 2, 3, 4, 5, 6, 7, 8, 9, 10] rfl rfl (c_X1_isEarlierBy0 l E h0 qp qd d0 d1 ql l0 l1 qg g0 g1 P D0 D1 L0 L1 G0 G1 mm a b (by omega) (by omega) (hB) s.heap.size) mf_X1_isEarlierBy wd_387 ⟨Nat.le_of_ble_eq_true rfl, Nat.le_of_ble_eq_true rfl⟩ hl (Nat.le_of_ble_eq_true rfl) dX1_isEarlier_4 ⟨Nat.le_of_ble_eq_true rfl, Nat.le_of_ble_eq_true rfl⟩) (fun r _ H locs hp hw => ?_)
  have hr_4 := hp
  have hr_4 : r = bI (erb D0 L0 G0 a b) := hr_4
  subst hr_4
  have hw : ZW E A s [(h0, ob 1 [.ref qp, .ref qd, .ref ql, .ref qg, .int (nI mm)]), (qp, ia E 100 P), (qd, ra E d0 d1), (d0, ia E 24 (nA D0)), (d1, ia E 24 (nA D1)), (ql, ra E l0 l1), (l0, ia E 24 (nA L0)), (l1, ia E 24 (nA L1)), (qg, ra E g0 g1), (g0, ia E 24 (nA G0)), (g1, ia E 24 (nA G1))] H locs := hw
  refine z_ifb_ne hx hb 20 dX1_isEarlier_7 (by decide) (fun c_7 => ?_) (fun c_7 => ?_)
  · refine lv_iconst (v := nI 1) hx hb dX1_isEarlier_20 (by decide) ?_
    refine lv_goto (tgt := 25) hx hb dX1_isEarlier_21 (by decide) ?_
    exact ret true () 25 ls H locs dX1_isEarlier_25 (congrArg bI (by simp [erl, c_7])) (hw)
  · refine lv_aload_n hx hb dX1_isEarlier_10 rfl (lv_at hl 0 rfl) ?_
    refine lv_iconst (v := nI 1) hx hb dX1_isEarlier_11 (by decide) ?_
    refine lv_iload_n hx hb dX1_isEarlier_12 rfl (lv_at hl 1 rfl) ?_
    refine lv_iload_n hx hb dX1_isEarlier_13 rfl (lv_at hl 2 rfl) ?_
    refine z_ri0 (wr := []) cx hw [0, 1, 2, 3, 4, 5, 6, 7, 8, 9, 10] [] rfl rfl (by decide) (by decide) rfl rfl (z_runV (As := [.int (nI 1), .int (nI a), .int (nI b)]) (rest := []) cx hw rfl rfl [0, 1, 2, 3, 4, 5, 6, 7, 8, 9, 10] rfl rfl (c_X1_isEarlierBy1 l E h0 qp qd d0 d1 ql l0 l1 qg g0 g1 P D0 D1 L0 L1 G0 G1 mm a b (by omega) (by omega) (hB) H.size) mf_X1_isEarlierBy wd_387 ⟨Nat.le_of_ble_eq_true rfl, Nat.le_of_ble_eq_true rfl⟩ hl (Nat.le_of_ble_eq_true rfl) dX1_isEarlier_14 ⟨Nat.le_of_ble_eq_true rfl, Nat.le_of_ble_eq_true rfl⟩) (fun r _ H locs hp hw => ?_)
    have hr_14 := hp
    have hr_14 : r = bI (erb D1 L1 G1 a b) := hr_14
    subst hr_14
    have hw : ZW E A s [(h0, ob 1 [.ref qp, .ref qd, .ref ql, .ref qg, .int (nI mm)]), (qp, ia E 100 P), (qd, ra E d0 d1), (d0, ia E 24 (nA D0)), (d1, ia E 24 (nA D1)), (ql, ra E l0 l1), (l0, ia E 24 (nA L0)), (l1, ia E 24 (nA L1)), (qg, ra E g0 g1), (g0, ia E 24 (nA G0)), (g1, ia E 24 (nA G1))] H locs := hw
    refine z_ifb_eq hx hb 24 dX1_isEarlier_17 (by decide) (fun c_17 => ?_) (fun c_17 => ?_)
    · refine lv_iconst (v := nI 0) hx hb dX1_isEarlier_24 (by decide) ?_
      exact ret false () 25 ls H locs dX1_isEarlier_25 (congrArg bI (by simp [erl, c_7, c_17])) (hw)
    · refine lv_iconst (v := nI 1) hx hb dX1_isEarlier_20 (by decide) ?_
      refine lv_goto (tgt := 25) hx hb dX1_isEarlier_21 (by decide) ?_
      exact ret true () 25 ls H locs dX1_isEarlier_25 (congrArg bI (by simp [erl, c_7, c_17])) (hw)

def rmX1_numberPairs : Room := { frames := 1, cells := 0, slots := 0, locals := 23 }
set_option maxHeartbeats 4000000 in
set_option maxRecDepth 100000 in
theorem c_X1_numberPairs (l : Launch) (E : ZE) (h0 qp qd d0 d1 ql l0 l1 qg g0 g1 : Nat) (D0 D1 L0 L1 G0 G1 : Nat → Nat) (mm : Nat) (b : Nat → Bool) (hr : rk b 100 ≤ 24) (hB : Bd6 D0 D1 L0 L1 G0 G1) : ZMv l yX1_numberPairs cX1_numberPairs 2 rmX1_numberPairs E [.ref h0] [(h0, ob 1 [.ref qp, .ref qd, .ref ql, .ref qg, .int (nI mm)]), (qp, ia E 100 (mkb b)), (qd, ra E d0 d1), (d0, ia E 24 (nA D0)), (d1, ia E 24 (nA D1)), (ql, ra E l0 l1), (l0, ia E 24 (nA L0)), (l1, ia E 24 (nA L1)), (qg, ra E g0 g1), (g0, ia E 24 (nA G0)), (g1, ia E 24 (nA G1))] (S := (Nat → Nat) × (Nat → Nat) × (Nat → Nat) × (Nat → Nat) × (Nat → Nat) × (Nat → Nat)) (fun u => CplD b 100 u.1 u.2.1 u.2.2.1 u.2.2.2.1 u.2.2.2.2.1 u.2.2.2.2.2 ∧ Bd6 u.1 u.2.1 u.2.2.1 u.2.2.2.1 u.2.2.2.2.1 u.2.2.2.2.2) (fun u => [(h0, ob 1 [.ref qp, .ref qd, .ref ql, .ref qg, .int (nI (rk b 100))]), (qp, ia E 100 (numb b 100)), (qd, ra E d0 d1), (d0, ia E 24 (nA u.1)), (d1, ia E 24 (nA u.2.1)), (ql, ra E l0 l1), (l0, ia E 24 (nA u.2.2.1)), (l1, ia E 24 (nA u.2.2.2.1)), (qg, ra E g0 g1), (g0, ia E 24 (nA u.2.2.2.2.1)), (g1, ia E 24 (nA u.2.2.2.2.2))]) := by
  refine z_mv (by decide) (Nat.le_of_ble_eq_true rfl) ?_
  intro p e s m args below meth c A Q ls cx hin hw hl ret
  obtain ⟨hx, hb, hml, hown, hts, hK, hN, hA, hlk⟩ := id cx
  have hl : lv_has ls 2 [(0, .ref h0)] := hl
  refine lv_aload_n hx hb dX1_numberPairs_0 rfl (lv_at hl 0 rfl) ?_
  refine lv_iconst (v := nI 0) hx hb dX1_numberPairs_1 (by decide) ?_
  refine z_put cx hw 0 4 rfl rfl inlX1 tyX1_ok nmX1 (by decide) wd_53 rfl rfl rfl (Nat.le_of_ble_eq_true rfl) dX1_numberPairs_2 (fun H locs hw => ?_)
  have hw : ZW E A s [(h0, ob 1 [.ref qp, .ref qd, .ref ql, .ref qg, .int (nI 0)]), (qp, ia E 100 (mkb b)), (qd, ra E d0 d1), (d0, ia E 24 (nA D0)), (d1, ia E 24 (nA D1)), (ql, ra E l0 l1), (l0, ia E 24 (nA L0)), (l1, ia E 24 (nA L1)), (qg, ra E g0 g1), (g0, ia E 24 (nA G0)), (g1, ia E 24 (nA G1))] H locs := hw
  refine lv_iconst (v := nI 0) hx hb dX1_numberPairs_5 (by decide) ?_
  refine lv_istore_n (lv' := [(1, .int (nI 0)), (0, .ref h0)]) hx hb dX1_numberPairs_6 rfl hl (by decide) rfl (fun ls hl => ?_)
  have loop_7 : ∀ (fuel : Nat) (k : Nat) (D0 : Nat → Nat) (D1 : Nat → Nat) (L0 : Nat → Nat) (L1 : Nat → Nat) (G0 : Nat → Nat) (G1 : Nat → Nat) (hk : k ≤ 100) (hI : CplD b k D0 D1 L0 L1 G0 G1) (hB : Bd6 D0 D1 L0 L1 G0 G1) (hm : 100 - k < fuel) (H : Heap) (locs : List Loc) (ls : Array Slot), ZW E A s [(h0, ob 1 [.ref qp, .ref qd, .ref ql, .ref qg, .int (nI (rk b k))]), (qp, ia E 100 (numb b k)), (qd, ra E d0 d1), (d0, ia E 24 (nA D0)), (d1, ia E 24 (nA D1)), (ql, ra E l0 l1), (l0, ia E 24 (nA L0)), (l1, ia E 24 (nA L1)), (qg, ra E g0 g1), (g0, ia E 24 (nA G0)), (g1, ia E 24 (nA G1))] H locs → lv_has ls 2 [(0, .ref h0), (1, .int (nI k))] → W p l e rmX1_numberPairs s m args below meth c H locs 0 0 Q (F0 m 7 ls []) := by
    intro fuel
    induction fuel with
    | zero => intro k D0 D1 L0 L1 G0 G1 hk hI hB hm; exact absurd hm (Nat.not_lt_zero _)
    | succ fuel ih_7 =>
      intro k D0 D1 L0 L1 G0 G1 hk hI hB hm H locs ls hw hl
      refine lv_iload_n hx hb dX1_numberPairs_7 rfl (lv_at hl 1 rfl) ?_
      refine lv_bipush (v := nI 100) hx hb dX1_numberPairs_8 (by decide) ?_
      refine z_icmp_ge hx hb (by omega) (by decide) 60 dX1_numberPairs_10 (by decide) (fun c_10 => ?_) (fun c_10 => ?_)
      · have e_ : k = 100 := by omega
        have hs_ : ∀ j, k ≤ j → j < 100 → b j = false := fun j h1 h2 => by omega
        have hm1_ := rk_mono b hk
        have hm2_ : rk b 100 ≤ rk b k := by
          rw [e_]; exact Nat.le_refl _
        have e_r60_0 : (rk b k) = (rk b 100) := by omega
        have e_r60_1 : (numb b k) = (numb b 100) := by rw [numb_stop hk hs_]
        exact ret (D0, D1, L0, L1, G0, G1) 60 ls H locs dX1_numberPairs_60 (⟨hI.stop hs_, hB⟩) ((hw).cast (zc (congrArg (fun z => ((h0, ob 1 [.ref qp, .ref qd, .ref ql, .ref qg, .int (nI z)]) : Nat × va_E)) e_r60_0) (zc (congrArg (fun z => ((qp, ia E 100 z) : Nat × va_E)) e_r60_1) rfl)))
      · have hrm_ := rk_mono b hk
        refine lv_aload_n hx hb dX1_numberPairs_13 rfl (lv_at hl 0 rfl) ?_
        refine z_get cx hw 0 4 rfl rfl inlX1 (by decide) wd_53 rfl dX1_numberPairs_14 ?_
        refine lv_bipush (v := nI 24) hx hb dX1_numberPairs_17 (by decide) ?_
        refine z_icmp_ge hx hb (by omega) (by decide) 60 dX1_numberPairs_19 (by decide) (fun c_19 => ?_) (fun c_19 => ?_)
        · have hs_ := rk_stop b (k := k) (n := 100) hk (by omega)
          have hm1_ := rk_mono b hk
          have hm2_ : rk b 100 ≤ rk b k := by
            omega
          have e_r60_0 : (rk b k) = (rk b 100) := by omega
          have e_r60_1 : (numb b k) = (numb b 100) := by rw [numb_stop hk hs_]
          exact ret (D0, D1, L0, L1, G0, G1) 60 ls H locs dX1_numberPairs_60 (⟨hI.stop hs_, hB⟩) ((hw).cast (zc (congrArg (fun z => ((h0, ob 1 [.ref qp, .ref qd, .ref ql, .ref qg, .int (nI z)]) : Nat × va_E)) e_r60_0) (zc (congrArg (fun z => ((qp, ia E 100 z) : Nat × va_E)) e_r60_1) rfl)))
        · refine lv_aload_n hx hb dX1_numberPairs_22 rfl (lv_at hl 0 rfl) ?_
          refine z_get cx hw 0 0 rfl rfl inlX1 (by decide) wd_48 rfl dX1_numberPairs_23 ?_
          refine lv_iload_n hx hb dX1_numberPairs_26 rfl (lv_at hl 1 rfl) ?_
          refine z_ald cx hw 1 rfl (k) rfl (by omega) (by decide) dX1_numberPairs_27 ?_
          refine lv_iconst (v := (-1)) hx hb dX1_numberPairs_28 (by decide) ?_
          refine lv_icmp_eq (tgt := 54) hx hb dX1_numberPairs_29 (by decide) (fun c_29 => ?_) (fun c_29 => ?_)
          · refine lv_iinc (v := nI (k + 1)) (lv' := [(1, .int (nI (k + 1))), (0, .ref h0)]) hx hb dX1_numberPairs_54 hl (k := 1) rfl (nI_1 _) (by decide) rfl (fun ls hl => ?_)
            refine lv_goto (tgt := 7) hx hb dX1_numberPairs_57 (by decide) ?_
            have e_b7_0 : (rk b k) = (rk b (k + 1)) := by simp [rk, numb_f c_29]
            have e_b7_1 : (numb b k) = (numb b (k + 1)) := by rw [numb_sf (numb_f c_29)]
            exact ih_7 (k + 1) D0 D1 L0 L1 G0 G1 (by omega) (hI.skip (numb_f c_29)) (hB) (by omega) _ _ ls ((hw).cast (zc (congrArg (fun z => ((h0, ob 1 [.ref qp, .ref qd, .ref ql, .ref qg, .int (nI z)]) : Nat × va_E)) e_b7_0) (zc (congrArg (fun z => ((qp, ia E 100 z) : Nat × va_E)) e_b7_1) rfl))) (lv_add (lv_add (lv_nil hl) (lv_at hl 0 rfl)) (lv_at hl 1 rfl))
          · have hbk := numb_t c_29
            refine lv_aload_n hx hb dX1_numberPairs_32 rfl (lv_at hl 0 rfl) ?_
            refine z_get cx hw 0 0 rfl rfl inlX1 (by decide) wd_48 rfl dX1_numberPairs_33 ?_
            refine lv_iload_n hx hb dX1_numberPairs_36 rfl (lv_at hl 1 rfl) ?_
            refine lv_aload_n hx hb dX1_numberPairs_37 rfl (lv_at hl 0 rfl) ?_
            refine z_get cx hw 0 4 rfl rfl inlX1 (by decide) wd_53 rfl dX1_numberPairs_38 ?_
            refine z_ast cx hw 1 rfl (k) rfl (by omega) (by decide) dX1_numberPairs_41 (fun H locs hw => ?_)
            have hw : ZW E A s [(h0, ob 1 [.ref qp, .ref qd, .ref ql, .ref qg, .int (nI (rk b k))]), (qp, ia E 100 (upd (numb b k) k (nI (rk b k)))), (qd, ra E d0 d1), (d0, ia E 24 (nA D0)), (d1, ia E 24 (nA D1)), (ql, ra E l0 l1), (l0, ia E 24 (nA L0)), (l1, ia E 24 (nA L1)), (qg, ra E g0 g1), (g0, ia E 24 (nA G0)), (g1, ia E 24 (nA G1))] H locs := hw
            refine lv_aload_n hx hb dX1_numberPairs_42 rfl (lv_at hl 0 rfl) ?_
            refine lv_iload_n hx hb dX1_numberPairs_43 rfl (lv_at hl 1 rfl) ?_
            refine lv_bipush (v := nI 10) hx hb dX1_numberPairs_44 (by decide) ?_
            refine z_idiv hx hb (k / 10) (by omega) (by omega) (by omega) rfl dX1_numberPairs_46 ?_
            refine lv_iload_n hx hb dX1_numberPairs_47 rfl (lv_at hl 1 rfl) ?_
            refine lv_bipush (v := nI 10) hx hb dX1_numberPairs_48 (by decide) ?_
            refine z_irem hx hb (k % 10) (by omega) (by omega) (by omega) rfl dX1_numberPairs_50 ?_
            refine z_rv0 (wr := []) cx hw [0, 1, 2, 3, 4, 5, 6, 7, 8, 9, 10] [] rfl rfl (by decide) (by decide) rfl rfl (z_runV (As := [.int (nI (k / 10)), .int (nI (k % 10))]) (rest := []) cx hw rfl rfl [0, 1, 2, 3, 4, 5, 6, 7, 8, 9, 10] rfl rfl (c_X1_enter l E h0 qp qd d0 d1 ql l0 l1 qg g0 g1 (upd (numb b k) k (nI (rk b k))) D0 D1 L0 L1 G0 G1 (rk b k) (k / 10) (k % 10) (by omega) H.size) mf_X1_enter wd_260 ⟨Nat.le_of_ble_eq_true rfl, Nat.le_of_ble_eq_true rfl⟩ hl (Nat.le_of_ble_eq_true rfl) dX1_numberPairs_51 ⟨Nat.le_of_ble_eq_true rfl, Nat.le_of_ble_eq_true rfl⟩) (fun _ H locs hp hw => ?_)
            have hw : ZW E A s [(h0, ob 1 [.ref qp, .ref qd, .ref ql, .ref qg, .int (nI ((rk b k) + 1))]), (qp, ia E 100 (upd (numb b k) k (nI (rk b k)))), (qd, ra E d0 d1), (d0, ia E 24 (nA (updN D0 (rk b k) (k / 10)))), (d1, ia E 24 (nA (updN D1 (rk b k) (k % 10)))), (ql, ra E l0 l1), (l0, ia E 24 (nA (updN L0 (rk b k) 5))), (l1, ia E 24 (nA (updN L1 (rk b k) 5))), (qg, ra E g0 g1), (g0, ia E 24 (nA (updN G0 (rk b k) 0))), (g1, ia E 24 (nA (updN G1 (rk b k) 0)))] H locs := hw
            refine lv_iinc (v := nI (k + 1)) (lv' := [(1, .int (nI (k + 1))), (0, .ref h0)]) hx hb dX1_numberPairs_54 hl (k := 1) rfl (nI_1 _) (by decide) rfl (fun ls hl => ?_)
            refine lv_goto (tgt := 7) hx hb dX1_numberPairs_57 (by decide) ?_
            have e_b7_0 : ((rk b k) + 1) = (rk b (k + 1)) := by simp [rk, hbk]
            have e_b7_1 : (upd (numb b k) k (nI (rk b k))) = (numb b (k + 1)) := by rw [numb_st hbk]
            exact ih_7 (k + 1) (updN D0 (rk b k) (k / 10)) (updN D1 (rk b k) (k % 10)) (updN L0 (rk b k) 5) (updN L1 (rk b k) 5) (updN G0 (rk b k) 0) (updN G1 (rk b k) 0) (by omega) (hI.push hbk) (⟨hB.1.upd (by omega), hB.2.1.upd (by omega), hB.2.2.1.upd (by omega), hB.2.2.2.1.upd (by omega), hB.2.2.2.2.1.upd (by omega), hB.2.2.2.2.2.upd (by omega)⟩) (by omega) _ _ ls ((hw).cast (zc (congrArg (fun z => ((h0, ob 1 [.ref qp, .ref qd, .ref ql, .ref qg, .int (nI z)]) : Nat × va_E)) e_b7_0) (zc (congrArg (fun z => ((qp, ia E 100 z) : Nat × va_E)) e_b7_1) rfl))) (lv_add (lv_add (lv_nil hl) (lv_at hl 0 rfl)) (lv_at hl 1 rfl))
  have e_i7_0 : 0 = (rk b 0) := by rfl
  have e_i7_1 : (mkb b) = (numb b 0) := by rw [numb_0]
  exact loop_7 _ 0 D0 D1 L0 L1 G0 G1 (by omega) (fun j hj => absurd hj (Nat.not_lt_zero _)) (hB) (Nat.lt_succ_self _) _ _ ls ((hw).cast (zc (congrArg (fun z => ((h0, ob 1 [.ref qp, .ref qd, .ref ql, .ref qg, .int (nI z)]) : Nat × va_E)) e_i7_0) (zc (congrArg (fun z => ((qp, ia E 100 z) : Nat × va_E)) e_i7_1) rfl))) (lv_add (lv_add (lv_nil hl) (lv_at hl 0 rfl)) (lv_at hl 1 rfl))

def rmX1_list : Room := { frames := 3, cells := 0, slots := 0, locals := 65 }
set_option maxHeartbeats 4000000 in
set_option maxRecDepth 100000 in
theorem c_X1_list (l : Launch) (E : ZE) (h0 qp qd d0 d1 ql l0 l1 qg g0 g1 : Nat) (P : Nat → Int32) (D0 D1 L0 L1 G0 G1 : Nat → Nat) (mm : Nat) (hS q : Nat) (F : Nat → Nat) (n : Nat) (hn : n ≤ 24) (hF : ∀ j, F j < 10) (hB : Bd6 D0 D1 L0 L1 G0 G1) : ZMv l yX1_list cX1_list 4 rmX1_list E [.ref h0, .ref hS] [(h0, ob 1 [.ref qp, .ref qd, .ref ql, .ref qg, .int (nI mm)]), (qp, ia E 100 P), (qd, ra E d0 d1), (d0, ia E 24 (nA D0)), (d1, ia E 24 (nA D1)), (ql, ra E l0 l1), (l0, ia E 24 (nA L0)), (l1, ia E 24 (nA L1)), (qg, ra E g0 g1), (g0, ia E 24 (nA G0)), (g1, ia E 24 (nA G1)), (hS, ob 4 [.ref q, .int (nI n)]), (q, ia E 96 (nA F))] (S := (Nat → Nat) × (Nat → Nat) × (Nat → Nat) × (Nat → Nat) × (Nat → Nat) × (Nat → Nat)) (fun u => Cpl F n n u.1 u.2.1 u.2.2.1 u.2.2.2.1 u.2.2.2.2.1 u.2.2.2.2.2 ∧ Bd6 u.1 u.2.1 u.2.2.1 u.2.2.2.1 u.2.2.2.2.1 u.2.2.2.2.2) (fun u => [(h0, ob 1 [.ref qp, .ref qd, .ref ql, .ref qg, .int (nI (rk (hasP F n) 100))]), (qp, ia E 100 (numb (hasP F n) 100)), (qd, ra E d0 d1), (d0, ia E 24 (nA u.1)), (d1, ia E 24 (nA u.2.1)), (ql, ra E l0 l1), (l0, ia E 24 (nA u.2.2.1)), (l1, ia E 24 (nA u.2.2.2.1)), (qg, ra E g0 g1), (g0, ia E 24 (nA u.2.2.2.2.1)), (g1, ia E 24 (nA u.2.2.2.2.2)), (hS, ob 4 [.ref q, .int (nI n)]), (q, ia E 96 (nA F))]) := by
  refine z_mv (by decide) (Nat.le_of_ble_eq_true rfl) ?_
  intro p e s m args below meth c A Q ls cx hin hw hl ret
  obtain ⟨hx, hb, hml, hown, hts, hK, hN, hA, hlk⟩ := id cx
  have hl : lv_has ls 4 [(0, .ref h0), (1, .ref hS)] := hl
  refine lv_aload_n hx hb dX1_list_0 rfl (lv_at hl 0 rfl) ?_
  refine lv_aload_n hx hb dX1_list_1 rfl (lv_at hl 1 rfl) ?_
  refine z_rv0 (wr := []) cx hw [0, 1, 2, 3, 4, 5, 6, 7, 8, 9, 10, 11, 12] [] rfl rfl (by decide) (by decide) rfl rfl (z_runV (As := [.ref hS]) (rest := []) cx hw rfl rfl [0, 1, 2, 3, 4, 5, 6, 7, 8, 9, 10, 11, 12] rfl rfl (c_X1_markPairs l E h0 qp qd d0 d1 ql l0 l1 qg g0 g1 P D0 D1 L0 L1 G0 G1 mm hS q F n (by omega) (hF) s.heap.size) mf_X1_markPairs wd_245 ⟨Nat.le_of_ble_eq_true rfl, Nat.le_of_ble_eq_true rfl⟩ hl (Nat.le_of_ble_eq_true rfl) dX1_list_2 ⟨Nat.le_of_ble_eq_true rfl, Nat.le_of_ble_eq_true rfl⟩) (fun _ H locs hp hw => ?_)
  have hw : ZW E A s [(h0, ob 1 [.ref qp, .ref qd, .ref ql, .ref qg, .int (nI mm)]), (qp, ia E 100 (mkb (hasP F n))), (qd, ra E d0 d1), (d0, ia E 24 (nA D0)), (d1, ia E 24 (nA D1)), (ql, ra E l0 l1), (l0, ia E 24 (nA L0)), (l1, ia E 24 (nA L1)), (qg, ra E g0 g1), (g0, ia E 24 (nA G0)), (g1, ia E 24 (nA G1)), (hS, ob 4 [.ref q, .int (nI n)]), (q, ia E 96 (nA F))] H locs := hw
  refine lv_aload_n hx hb dX1_list_5 rfl (lv_at hl 0 rfl) ?_
  refine z_rv0 (wr := [(hS, ob 4 [.ref q, .int (nI n)]), (q, ia E 96 (nA F))]) cx hw [0, 1, 2, 3, 4, 5, 6, 7, 8, 9, 10] [11, 12] rfl rfl (by decide) (by decide) rfl rfl (z_runV (As := []) (rest := []) cx hw rfl rfl [0, 1, 2, 3, 4, 5, 6, 7, 8, 9, 10] rfl rfl (c_X1_numberPairs l E h0 qp qd d0 d1 ql l0 l1 qg g0 g1 D0 D1 L0 L1 G0 G1 mm (hasP F n) (Nat.le_trans (rk_hasP F n 100) hn) (hB) H.size) mf_X1_numberPairs wd_256 ⟨Nat.le_of_ble_eq_true rfl, Nat.le_of_ble_eq_true rfl⟩ hl (Nat.le_of_ble_eq_true rfl) dX1_list_6 ⟨Nat.le_of_ble_eq_true rfl, Nat.le_of_ble_eq_true rfl⟩) (fun u H locs hp hw => ?_)
  obtain ⟨D0, D1, L0, L1, G0, G1⟩ := u
  have hp_6 : CplD (hasP F n) 100 D0 D1 L0 L1 G0 G1 ∧ Bd6 D0 D1 L0 L1 G0 G1 := hp
  have hw : ZW E A s [(hS, ob 4 [.ref q, .int (nI n)]), (q, ia E 96 (nA F)), (h0, ob 1 [.ref qp, .ref qd, .ref ql, .ref qg, .int (nI (rk (hasP F n) 100))]), (qp, ia E 100 (numb (hasP F n) 100)), (qd, ra E d0 d1), (d0, ia E 24 (nA D0)), (d1, ia E 24 (nA D1)), (ql, ra E l0 l1), (l0, ia E 24 (nA L0)), (l1, ia E 24 (nA L1)), (qg, ra E g0 g1), (g0, ia E 24 (nA G0)), (g1, ia E 24 (nA G1))] H locs := hw
  refine lv_iconst (v := nI 0) hx hb dX1_list_9 (by decide) ?_
  refine lv_istore_n (lv' := [(2, .int (nI 0)), (0, .ref h0), (1, .ref hS)]) hx hb dX1_list_10 rfl hl (by decide) rfl (fun ls hl => ?_)
  have loop_11 : ∀ (fuel : Nat) (k : Nat) (L0 : Nat → Nat) (L1 : Nat → Nat) (G0 : Nat → Nat) (G1 : Nat → Nat) (hk : k ≤ n) (hI : Cpl F n k D0 D1 L0 L1 G0 G1) (hB : Bd6 D0 D1 L0 L1 G0 G1) (hm : n - k < fuel) (H : Heap) (locs : List Loc) (ls : Array Slot), ZW E A s [(hS, ob 4 [.ref q, .int (nI n)]), (q, ia E 96 (nA F)), (h0, ob 1 [.ref qp, .ref qd, .ref ql, .ref qg, .int (nI (rk (hasP F n) 100))]), (qp, ia E 100 (numb (hasP F n) 100)), (qd, ra E d0 d1), (d0, ia E 24 (nA D0)), (d1, ia E 24 (nA D1)), (ql, ra E l0 l1), (l0, ia E 24 (nA L0)), (l1, ia E 24 (nA L1)), (qg, ra E g0 g1), (g0, ia E 24 (nA G0)), (g1, ia E 24 (nA G1))] H locs → lv_has ls 4 [(0, .ref h0), (1, .ref hS), (2, .int (nI k))] → W p l e rmX1_list s m args below meth c H locs 0 0 Q (F0 m 11 ls []) := by
    intro fuel
    induction fuel with
    | zero => intro k L0 L1 G0 G1 hk hI hB hm; exact absurd hm (Nat.not_lt_zero _)
    | succ fuel ih_11 =>
      intro k L0 L1 G0 G1 hk hI hB hm H locs ls hw hl
      refine lv_iload_n hx hb dX1_list_11 rfl (lv_at hl 2 rfl) ?_
      refine lv_aload_n hx hb dX1_list_12 rfl (lv_at hl 1 rfl) ?_
      refine z_getN cx hw 0 1 rfl rfl inlX4 (by decide) (nf_X1_37 hN) rfl dX1_list_13 ?_
      refine z_icmp_ge hx hb (by omega) (by omega) 68 dX1_list_16 (by decide) (fun c_16 => ?_) (fun c_16 => ?_)
      · have e_ : k = n := by omega
        exact ret (D0, D1, L0, L1, G0, G1) 68 ls H locs dX1_list_68 (⟨by rw [e_] at hI; exact hI, hB⟩) (hw.perm [2, 3, 4, 5, 6, 7, 8, 9, 10, 11, 12, 0, 1] rfl (by decide))
      · refine lv_aload_n hx hb dX1_list_19 rfl (lv_at hl 0 rfl) ?_
        refine z_get cx hw 2 0 rfl rfl inlX1 (by decide) wd_48 rfl dX1_list_20 ?_
        refine lv_aload_n hx hb dX1_list_23 rfl (lv_at hl 1 rfl) ?_
        refine lv_iload_n hx hb dX1_list_24 rfl (lv_at hl 2 rfl) ?_
        refine z_ri0 (wr := [(h0, ob 1 [.ref qp, .ref qd, .ref ql, .ref qg, .int (nI (rk (hasP F n) 100))]), (qp, ia E 100 (numb (hasP F n) 100)), (qd, ra E d0 d1), (d0, ia E 24 (nA D0)), (d1, ia E 24 (nA D1)), (ql, ra E l0 l1), (l0, ia E 24 (nA L0)), (l1, ia E 24 (nA L1)), (qg, ra E g0 g1), (g0, ia E 24 (nA G0)), (g1, ia E 24 (nA G1))]) cx hw [0, 1] [2, 3, 4, 5, 6, 7, 8, 9, 10, 11, 12] rfl rfl (by decide) (by decide) rfl rfl (z_runS (As := [.ref hS, .int (nI k)]) (rest := [.ref qp]) cx hw [0, 1] rfl rfl (c_X1_pairOf l E hS q F n k (by omega) H.size) mf_X1_pairOf wd_253 ⟨Nat.le_of_ble_eq_true rfl, Nat.le_of_ble_eq_true rfl⟩ hl (Nat.le_of_ble_eq_true rfl) dX1_list_25 ⟨Nat.le_of_ble_eq_true rfl, Nat.le_of_ble_eq_true rfl⟩) (fun r _ H locs hp hw => ?_)
        have hr_25 := hp
        have hr_25 : r = nI (pr F k) := hr_25
        subst hr_25
        have hw : ZW E A s [(h0, ob 1 [.ref qp, .ref qd, .ref ql, .ref qg, .int (nI (rk (hasP F n) 100))]), (qp, ia E 100 (numb (hasP F n) 100)), (qd, ra E d0 d1), (d0, ia E 24 (nA D0)), (d1, ia E 24 (nA D1)), (ql, ra E l0 l1), (l0, ia E 24 (nA L0)), (l1, ia E 24 (nA L1)), (qg, ra E g0 g1), (g0, ia E 24 (nA G0)), (g1, ia E 24 (nA G1)), (hS, ob 4 [.ref q, .int (nI n)]), (q, ia E 96 (nA F))] H locs := hw
        have hp0_ := pr_lt hF k
        refine z_ald cx hw 1 rfl (pr F k) rfl (by omega) (by decide) dX1_list_28 ?_
        have hp0_ := pr_lt hF k
        have hb0_ : hasP F n (pr F k) = true := (hasP_iff F n _).mpr ⟨k, c_16, rfl⟩
        have hlt_ := rk_lt (hasP F n) hp0_ hb0_
        have hle_ := rk_hasP F n 100
        rw [show numb (hasP F n) 100 (pr F k) = nI (rk (hasP F n) (pr F k)) from by simp only [numb]; rw [if_pos hb0_, if_pos hp0_]]
        refine lv_istore_n (lv' := [(3, .int (nI (rk (hasP F n) (pr F k)))), (0, .ref h0), (1, .ref hS), (2, .int (nI k))]) hx hb dX1_list_29 rfl hl (by decide) rfl (fun ls hl => ?_)
        refine lv_aload_n hx hb dX1_list_30 rfl (lv_at hl 1 rfl) ?_
        refine lv_iload_n hx hb dX1_list_31 rfl (lv_at hl 0 rfl) ?_
        refine z_ri0 (wr := [(hS, ob 4 [.ref q, .int (nI n)]), (q, ia E 96 (nA F))]) cx hw [0, 1, 2, 3, 4, 5, 6, 7, 8, 9, 10] [11, 12] rfl rfl (by decide) (by decide) rfl rfl (z_runV (As := [.int (nI (rk (hasP F n) (pr F k)))]) (rest := []) cx hw rfl rfl [0, 1, 2, 3, 4, 5, 6, 7, 8, 9, 10] rfl rfl (c_X1_has l E h0 qp qd d0 d1 ql l0 l1 qg g0 g1 (numb (hasP F n) 100) D0 D1 L0 L1 G0 G1 (rk (hasP F n) 100) (nI (rk (hasP F n) (pr F k))) (by have := rk_hasP F n 100; omega) H.size) mf_X1_has wd_264 ⟨Nat.le_of_ble_eq_true rfl, Nat.le_of_ble_eq_true rfl⟩ hl (Nat.le_of_ble_eq_true rfl) dX1_list_32 ⟨Nat.le_of_ble_eq_true rfl, Nat.le_of_ble_eq_true rfl⟩) (fun r _ H locs hp hw => ?_)
        have hr_32 := hp
        have hr_32 : r = bI (inR (nI (rk (hasP F n) (pr F k))) (rk (hasP F n) 100)) := hr_32
        subst hr_32
        have hw : ZW E A s [(hS, ob 4 [.ref q, .int (nI n)]), (q, ia E 96 (nA F)), (h0, ob 1 [.ref qp, .ref qd, .ref ql, .ref qg, .int (nI (rk (hasP F n) 100))]), (qp, ia E 100 (numb (hasP F n) 100)), (qd, ra E d0 d1), (d0, ia E 24 (nA D0)), (d1, ia E 24 (nA D1)), (ql, ra E l0 l1), (l0, ia E 24 (nA L0)), (l1, ia E 24 (nA L1)), (qg, ra E g0 g1), (g0, ia E 24 (nA G0)), (g1, ia E 24 (nA G1))] H locs := hw
        refine z_ifb_eq hx hb 62 dX1_list_35 (by decide) (fun c_35 => False.elim (by rw [inR_nI (by omega)] at c_35; exact absurd c_35 (by simp [hlt_]))) (fun c_35 => ?_)
        refine lv_aload_n hx hb dX1_list_38 rfl (lv_at hl 1 rfl) ?_
        refine lv_iload_n hx hb dX1_list_39 rfl (lv_at hl 0 rfl) ?_
        refine lv_iconst (v := nI 0) hx hb dX1_list_40 (by decide) ?_
        refine lv_aload_n hx hb dX1_list_41 rfl (lv_at hl 2 rfl) ?_
        refine lv_iload_n hx hb dX1_list_42 rfl (lv_at hl 3 rfl) ?_
        refine lv_iconst (v := nI 0) hx hb dX1_list_43 (by decide) ?_
        refine z_ri0 (wr := [(h0, ob 1 [.ref qp, .ref qd, .ref ql, .ref qg, .int (nI (rk (hasP F n) 100))]), (qp, ia E 100 (numb (hasP F n) 100)), (qd, ra E d0 d1), (d0, ia E 24 (nA D0)), (d1, ia E 24 (nA D1)), (ql, ra E l0 l1), (l0, ia E 24 (nA L0)), (l1, ia E 24 (nA L1)), (qg, ra E g0 g1), (g0, ia E 24 (nA G0)), (g1, ia E 24 (nA G1))]) cx hw [0, 1] [2, 3, 4, 5, 6, 7, 8, 9, 10, 11, 12] rfl rfl (by decide) (by decide) rfl rfl (z_runVN (As := [.int (nI k), .int (nI 0)]) (rest := [.int (nI 0), .int (nI (rk (hasP F n) (pr F k))), .ref h0]) cx hw rfl rfl [0, 1] rfl rfl (c_X4_wear l E hS q F n k 0 (by omega) (by omega) H.size) mf_X4_wear (nm_X1_48 hN) ⟨Nat.le_of_ble_eq_true rfl, Nat.le_of_ble_eq_true rfl⟩ hl (Nat.le_of_ble_eq_true rfl) dX1_list_44 ⟨Nat.le_of_ble_eq_true rfl, Nat.le_of_ble_eq_true rfl⟩) (fun r _ H locs hp hw => ?_)
        have hr_44 := hp
        have hr_44 : r = nI (F (4 * k + 2 + 0)) := hr_44
        subst hr_44
        have hw : ZW E A s [(h0, ob 1 [.ref qp, .ref qd, .ref ql, .ref qg, .int (nI (rk (hasP F n) 100))]), (qp, ia E 100 (numb (hasP F n) 100)), (qd, ra E d0 d1), (d0, ia E 24 (nA D0)), (d1, ia E 24 (nA D1)), (ql, ra E l0 l1), (l0, ia E 24 (nA L0)), (l1, ia E 24 (nA L1)), (qg, ra E g0 g1), (g0, ia E 24 (nA G0)), (g1, ia E 24 (nA G1)), (hS, ob 4 [.ref q, .int (nI n)]), (q, ia E 96 (nA F))] H locs := hw
        refine z_rv0 (wr := [(hS, ob 4 [.ref q, .int (nI n)]), (q, ia E 96 (nA F))]) cx hw [0, 1, 2, 3, 4, 5, 6, 7, 8, 9, 10] [11, 12] rfl rfl (by decide) (by decide) rfl rfl (z_runV (As := [.int (nI (rk (hasP F n) (pr F k))), .int (nI 0), .int (nI (F (4 * k + 2 + 0)))]) (rest := []) cx hw rfl rfl [0, 1, 2, 3, 4, 5, 6, 7, 8, 9, 10] rfl rfl (c_X1_spanWear0 l E h0 qp qd d0 d1 ql l0 l1 qg g0 g1 (numb (hasP F n) 100) D0 D1 L0 L1 G0 G1 (rk (hasP F n) 100) (rk (hasP F n) (pr F k)) (F (4 * k + 2 + 0)) (by omega) (hB) (hF _) H.size) mf_X1_spanWear wd_268 ⟨Nat.le_of_ble_eq_true rfl, Nat.le_of_ble_eq_true rfl⟩ hl (Nat.le_of_ble_eq_true rfl) dX1_list_47 ⟨Nat.le_of_ble_eq_true rfl, Nat.le_of_ble_eq_true rfl⟩) (fun _ H locs hp hw => ?_)
        have hw : ZW E A s [(hS, ob 4 [.ref q, .int (nI n)]), (q, ia E 96 (nA F)), (h0, ob 1 [.ref qp, .ref qd, .ref ql, .ref qg, .int (nI (rk (hasP F n) 100))]), (qp, ia E 100 (numb (hasP F n) 100)), (qd, ra E d0 d1), (d0, ia E 24 (nA D0)), (d1, ia E 24 (nA D1)), (ql, ra E l0 l1), (l0, ia E 24 (nA (updN L0 (rk (hasP F n) (pr F k)) (min (L0 (rk (hasP F n) (pr F k))) (F (4 * k + 2 + 0)))))), (l1, ia E 24 (nA L1)), (qg, ra E g0 g1), (g0, ia E 24 (nA (updN G0 (rk (hasP F n) (pr F k)) (max (G0 (rk (hasP F n) (pr F k))) (F (4 * k + 2 + 0)))))), (g1, ia E 24 (nA G1))] H locs := hw
        refine lv_aload_n hx hb dX1_list_50 rfl (lv_at hl 1 rfl) ?_
        refine lv_iload_n hx hb dX1_list_51 rfl (lv_at hl 0 rfl) ?_
        refine lv_iconst (v := nI 1) hx hb dX1_list_52 (by decide) ?_
        refine lv_aload_n hx hb dX1_list_53 rfl (lv_at hl 2 rfl) ?_
        refine lv_iload_n hx hb dX1_list_54 rfl (lv_at hl 3 rfl) ?_
        refine lv_iconst (v := nI 1) hx hb dX1_list_55 (by decide) ?_
        refine z_ri0 (wr := [(h0, ob 1 [.ref qp, .ref qd, .ref ql, .ref qg, .int (nI (rk (hasP F n) 100))]), (qp, ia E 100 (numb (hasP F n) 100)), (qd, ra E d0 d1), (d0, ia E 24 (nA D0)), (d1, ia E 24 (nA D1)), (ql, ra E l0 l1), (l0, ia E 24 (nA (updN L0 (rk (hasP F n) (pr F k)) (min (L0 (rk (hasP F n) (pr F k))) (F (4 * k + 2 + 0)))))), (l1, ia E 24 (nA L1)), (qg, ra E g0 g1), (g0, ia E 24 (nA (updN G0 (rk (hasP F n) (pr F k)) (max (G0 (rk (hasP F n) (pr F k))) (F (4 * k + 2 + 0)))))), (g1, ia E 24 (nA G1))]) cx hw [0, 1] [2, 3, 4, 5, 6, 7, 8, 9, 10, 11, 12] rfl rfl (by decide) (by decide) rfl rfl (z_runVN (As := [.int (nI k), .int (nI 1)]) (rest := [.int (nI 1), .int (nI (rk (hasP F n) (pr F k))), .ref h0]) cx hw rfl rfl [0, 1] rfl rfl (c_X4_wear l E hS q F n k 1 (by omega) (by omega) H.size) mf_X4_wear (nm_X1_48 hN) ⟨Nat.le_of_ble_eq_true rfl, Nat.le_of_ble_eq_true rfl⟩ hl (Nat.le_of_ble_eq_true rfl) dX1_list_56 ⟨Nat.le_of_ble_eq_true rfl, Nat.le_of_ble_eq_true rfl⟩) (fun r _ H locs hp hw => ?_)
        have hr_56 := hp
        have hr_56 : r = nI (F (4 * k + 2 + 1)) := hr_56
        subst hr_56
        have hw : ZW E A s [(h0, ob 1 [.ref qp, .ref qd, .ref ql, .ref qg, .int (nI (rk (hasP F n) 100))]), (qp, ia E 100 (numb (hasP F n) 100)), (qd, ra E d0 d1), (d0, ia E 24 (nA D0)), (d1, ia E 24 (nA D1)), (ql, ra E l0 l1), (l0, ia E 24 (nA (updN L0 (rk (hasP F n) (pr F k)) (min (L0 (rk (hasP F n) (pr F k))) (F (4 * k + 2 + 0)))))), (l1, ia E 24 (nA L1)), (qg, ra E g0 g1), (g0, ia E 24 (nA (updN G0 (rk (hasP F n) (pr F k)) (max (G0 (rk (hasP F n) (pr F k))) (F (4 * k + 2 + 0)))))), (g1, ia E 24 (nA G1)), (hS, ob 4 [.ref q, .int (nI n)]), (q, ia E 96 (nA F))] H locs := hw
        refine z_rv0 (wr := [(hS, ob 4 [.ref q, .int (nI n)]), (q, ia E 96 (nA F))]) cx hw [0, 1, 2, 3, 4, 5, 6, 7, 8, 9, 10] [11, 12] rfl rfl (by decide) (by decide) rfl rfl (z_runV (As := [.int (nI (rk (hasP F n) (pr F k))), .int (nI 1), .int (nI (F (4 * k + 2 + 1)))]) (rest := []) cx hw rfl rfl [0, 1, 2, 3, 4, 5, 6, 7, 8, 9, 10] rfl rfl (c_X1_spanWear1 l E h0 qp qd d0 d1 ql l0 l1 qg g0 g1 (numb (hasP F n) 100) D0 D1 (updN L0 (rk (hasP F n) (pr F k)) (min (L0 (rk (hasP F n) (pr F k))) (F (4 * k + 2 + 0)))) L1 (updN G0 (rk (hasP F n) (pr F k)) (max (G0 (rk (hasP F n) (pr F k))) (F (4 * k + 2 + 0)))) G1 (rk (hasP F n) 100) (rk (hasP F n) (pr F k)) (F (4 * k + 2 + 1)) (by omega) (⟨hB.1, hB.2.1, hB.2.2.1.upd (by have := hF (4 * k + 2 + 0); omega), hB.2.2.2.1, hB.2.2.2.2.1.upd (by have h1 := hB.2.2.2.2.1 (rk (hasP F n) (pr F k)); have h2 := hF (4 * k + 2 + 0); omega), hB.2.2.2.2.2⟩) (hF _) H.size) mf_X1_spanWear wd_268 ⟨Nat.le_of_ble_eq_true rfl, Nat.le_of_ble_eq_true rfl⟩ hl (Nat.le_of_ble_eq_true rfl) dX1_list_59 ⟨Nat.le_of_ble_eq_true rfl, Nat.le_of_ble_eq_true rfl⟩) (fun _ H locs hp hw => ?_)
        have hw : ZW E A s [(hS, ob 4 [.ref q, .int (nI n)]), (q, ia E 96 (nA F)), (h0, ob 1 [.ref qp, .ref qd, .ref ql, .ref qg, .int (nI (rk (hasP F n) 100))]), (qp, ia E 100 (numb (hasP F n) 100)), (qd, ra E d0 d1), (d0, ia E 24 (nA D0)), (d1, ia E 24 (nA D1)), (ql, ra E l0 l1), (l0, ia E 24 (nA (updN L0 (rk (hasP F n) (pr F k)) (min (L0 (rk (hasP F n) (pr F k))) (F (4 * k + 2 + 0)))))), (l1, ia E 24 (nA (updN L1 (rk (hasP F n) (pr F k)) (min (L1 (rk (hasP F n) (pr F k))) (F (4 * k + 2 + 1)))))), (qg, ra E g0 g1), (g0, ia E 24 (nA (updN G0 (rk (hasP F n) (pr F k)) (max (G0 (rk (hasP F n) (pr F k))) (F (4 * k + 2 + 0)))))), (g1, ia E 24 (nA (updN G1 (rk (hasP F n) (pr F k)) (max (G1 (rk (hasP F n) (pr F k))) (F (4 * k + 2 + 1))))))] H locs := hw
        refine lv_iinc (v := nI (k + 1)) (lv' := [(2, .int (nI (k + 1))), (3, .int (nI (rk (hasP F n) (pr F k)))), (0, .ref h0), (1, .ref hS)]) hx hb dX1_list_62 hl (k := 3) rfl (nI_1 _) (by decide) rfl (fun ls hl => ?_)
        refine lv_goto (tgt := 11) hx hb dX1_list_65 (by decide) ?_
        exact ih_11 (k + 1) (updN L0 (rk (hasP F n) (pr F k)) (min (L0 (rk (hasP F n) (pr F k))) (F (4 * k + 2 + 0)))) (updN L1 (rk (hasP F n) (pr F k)) (min (L1 (rk (hasP F n) (pr F k))) (F (4 * k + 2 + 1)))) (updN G0 (rk (hasP F n) (pr F k)) (max (G0 (rk (hasP F n) (pr F k))) (F (4 * k + 2 + 0)))) (updN G1 (rk (hasP F n) (pr F k)) (max (G1 (rk (hasP F n) (pr F k))) (F (4 * k + 2 + 1)))) (by omega) (hI.step hF c_16) (⟨hB.1, hB.2.1, hB.2.2.1.upd (by have := hF (4 * k + 2 + 0); omega), hB.2.2.2.1.upd (by have := hF (4 * k + 2 + 1); omega), hB.2.2.2.2.1.upd (by have h1 := hB.2.2.2.2.1 (rk (hasP F n) (pr F k)); have h2 := hF (4 * k + 2 + 0); omega), hB.2.2.2.2.2.upd (by have h1 := hB.2.2.2.2.2 (rk (hasP F n) (pr F k)); have h2 := hF (4 * k + 2 + 1); omega)⟩) (by omega) _ _ ls (hw) (lv_add (lv_add (lv_add (lv_nil hl) (lv_at hl 0 rfl)) (lv_at hl 3 rfl)) (lv_at hl 2 rfl))
  exact loop_11 _ 0 L0 L1 G0 G1 (by omega) (fun j hj hb => hp_6.1 j hj hb) (hp_6.2) (Nat.lt_succ_self _) _ _ ls (hw) (lv_add (lv_add (lv_add (lv_nil hl) (lv_at hl 0 rfl)) (lv_at hl 2 rfl)) (lv_at hl 1 rfl))
end
section
/-! ===== the link graph, as the class walks it ===== -/
def ins (b : Nat → Bool) (v : Nat) : Nat → Bool := fun x => b x || decide (v = x)
theorem ins_t {b : Nat → Bool} {v : Nat} (h : b v = true) : b = ins b v := by
  funext x
  simp only [ins]
  by_cases e : v = x
  · subst e; simp [h]
  · simp [e]
theorem rk_ins {b : Nat → Bool} {v n : Nat} (h : b v = false) (hv : v < n) : rk b n + 1 = rk (ins b v) n := by
  induction n with
  | zero => omega
  | succ n ih =>
    simp only [rk]
    by_cases e : v = n
    · subst e
      have e2 : rk (ins b v) v = rk b v := rk_ext (fun j hj => by simp [ins, show ¬ v = j by omega])
      rw [e2]
      simp [ins, h]
    · have := ih (by omega)
      simp only [ins, e, decide_false, Bool.or_false]
      split <;> omega
def cmp0 (b : Nat → Bool) : Nat → Int32 := fun x => if b x = true then nI x else (-1)
theorem cmp0_t {b : Nat → Bool} {v : Nat} (h : ¬ cmp0 b v = -1) : b v = true := by
  cases hb : b v with
  | true => rfl
  | false => exact absurd (by simp [cmp0, hb]) h
theorem cmp0_f {b : Nat → Bool} {v : Nat} (hv : v < 20) (h : cmp0 b v = -1) : b v = false := by
  cases hb : b v with
  | false => rfl
  | true =>
    simp only [cmp0, hb, if_pos] at h
    exact absurd h (m1_ne (by omega))
theorem cmp0_ins {b : Nat → Bool} {v : Nat} : upd (cmp0 b) v (nI v) = cmp0 (ins b v) := by
  funext x
  simp only [upd, cmp0, ins]
  by_cases e : x = v
  · subst e; simp
  · rw [if_neg e]; simp [Ne.symm e]
/-- the dies of the first k couples -/
def kv (D0 D1 : Nat → Nat) : Nat → Nat → Bool
  | 0 => fun _ => false
  | k + 1 => ins (ins (kv D0 D1 k) (D0 k)) (10 + D1 k)
theorem cmp0_0 (D0 D1 : Nat → Nat) : (fun _ => (-1) : Nat → Int32) = cmp0 (kv D0 D1 0) := by funext x; simp [cmp0, kv]
def jn (f : Nat → Int32) (v w : Nat) : Nat → Int32 := fun x => if f x = f w then f v else f x
def jc (f : Nat → Int32) (g : Int32) (v w : Nat) : Int32 := if f v = f w then g else g - nI 1
theorem jn_eq {f : Nat → Int32} {v w : Nat} (h : f v = f w) : f = jn f v w := by
  funext x
  simp only [jn]
  split
  · next q => rw [q, h]
  · rfl
def jnk (f : Nat → Int32) (v w k : Nat) : Nat → Int32 := fun x => if x < k ∧ f x = f w then f v else f x
theorem jnk_0 (f : Nat → Int32) (v w : Nat) : f = jnk f v w 0 := by funext x; simp [jnk]
theorem jnk_at (f : Nat → Int32) (v w k : Nat) : jnk f v w k k = f k := by simp [jnk]
theorem jnk_t {f : Nat → Int32} {v w k : Nat} (h : f k = f w) : upd (jnk f v w k) k (f v) = jnk f v w (k + 1) := by
  funext x
  simp only [upd, jnk]
  by_cases e : x = k
  · subst e; rw [if_pos rfl, if_pos ⟨by omega, h⟩]
  · rw [if_neg e]
    have q : (x < k) ↔ (x < k + 1) := by omega
    simp only [q]
theorem jnk_f {f : Nat → Int32} {v w k : Nat} (h : ¬ f k = f w) : jnk f v w k = jnk f v w (k + 1) := by
  funext x
  simp only [jnk]
  by_cases e : x = k
  · subst e; rw [if_neg (fun q => h q.2), if_neg (fun q => h q.2)]
  · have q : (x < k) ↔ (x < k + 1) := by omega
    simp only [q]
def cn (D0 D1 : Nat → Nat) (wo : Int32) (mm : Nat) : Nat → Nat → Int32
  | 0 => cmp0 (kv D0 D1 mm)
  | k + 1 => if nI k = wo then cn D0 D1 wo mm k else jn (cn D0 D1 wo mm k) (D0 k) (10 + D1 k)
def ck (D0 D1 : Nat → Nat) (wo : Int32) (mm : Nat) : Nat → Int32
  | 0 => nI (rk (kv D0 D1 mm) 20)
  | k + 1 => if nI k = wo then ck D0 D1 wo mm k else jc (cn D0 D1 wo mm k) (ck D0 D1 wo mm k) (D0 k) (10 + D1 k)
def fa (D0 D1 : Nat → Nat) (mm k : Nat) : Bool := decide (¬ cn D0 D1 (nI k) mm mm (D0 k) = cn D0 D1 (nI k) mm mm (10 + D1 k))
def cq (f : Nat → Int32) (x : Int32) : Nat → Nat
  | 0 => 0
  | k + 1 => cq f x k + (if f k = x then 1 else 0)
theorem cq_le (f : Nat → Int32) (x : Int32) (k : Nat) : cq f x k ≤ k := by
  induction k with
  | zero => simp [cq]
  | succ k ih => simp only [cq]; split <;> omega
def dar (f : Nat → Int32) (v : Nat) : Nat := if f v = -1 then 0 else cq f (f v) 20
/-! ===== the chronology, as the class walks it ===== -/
def ce (er : Nat → Nat → Bool) (x : Nat) : Nat → Nat
  | 0 => 0
  | k + 1 => ce er x k + (if ¬ k = x ∧ er k x = true then 1 else 0)
theorem ce_le (er : Nat → Nat → Bool) (x k : Nat) : ce er x k ≤ k := by
  induction k with
  | zero => simp [ce]
  | succ k ih => simp only [ce]; split <;> omega
def wcE (er : Nat → Nat → Bool) (mm k : Nat) : Nat → Nat := fun x => if x < k then ce er x mm else 0
def wci (er : Nat → Nat → Bool) (mm k i : Nat) : Nat → Nat := fun x => if x < k then ce er x mm else if x = k then ce er k i else 0
theorem wcE_0 (er : Nat → Nat → Bool) (mm : Nat) : (fun _ => nI 0) = nA (wcE er mm 0) := by funext x; simp [nA, wcE]
theorem wci_0 (er : Nat → Nat → Bool) (mm k : Nat) : wcE er mm k = wci er mm k 0 := by
  funext x
  simp only [wcE, wci, ce]
  split
  · rfl
  · split <;> rfl
theorem wci_at (er : Nat → Nat → Bool) (mm k i : Nat) : wci er mm k i k = ce er k i := by simp [wci]
theorem wci_t {er : Nat → Nat → Bool} {mm k i : Nat} (h1 : ¬ i = k) (h2 : er i k = true) : updN (wci er mm k i) k (ce er k i + 1) = wci er mm k (i + 1) := by
  funext x
  simp only [updN, wci]
  by_cases e : x = k
  · subst e; rw [if_pos rfl, if_neg (Nat.lt_irrefl _), if_pos rfl, ce, if_pos ⟨h1, h2⟩]
  · rw [if_neg e]; simp only [if_neg e]
theorem wci_f {er : Nat → Nat → Bool} {mm k i : Nat} (h : ¬ (¬ i = k ∧ er i k = true)) : wci er mm k i = wci er mm k (i + 1) := by
  funext x
  simp only [wci]
  by_cases e : x = k
  · subst e; rw [if_pos rfl, if_pos rfl, ce, if_neg h]; rfl
  · simp only [if_neg e]
theorem wci_e (er : Nat → Nat → Bool) (mm k : Nat) : wci er mm k mm = wcE er mm (k + 1) := by
  funext x
  simp only [wci, wcE]
  by_cases e : x = k
  · subst e; rw [if_neg (Nat.lt_irrefl _), if_pos rfl, if_pos (by omega)]
  · have q : (x < k) ↔ (x < k + 1) := by omega
    simp only [q, if_neg e]
def optI : Option Nat → Int32
  | none => -1
  | some k => nI k
def lowZ (f : Nat → Int32) : Nat → Option Nat
  | 0 => none
  | k + 1 => (lowZ f k).or (if f k = 0 then some k else none)
theorem lowZ_none {f : Nat → Int32} {n : Nat} : lowZ f n = none ↔ ∀ j, j < n → ¬ f j = 0 := by
  induction n with
  | zero => simp [lowZ]
  | succ n ih =>
    simp only [lowZ, Option.or_eq_none_iff, ih]
    constructor
    · rintro ⟨h1, h2⟩ j hj
      by_cases e : j = n
      · subst e; intro q; simp [q] at h2
      · exact h1 j (by omega)
    · intro h
      refine ⟨fun j hj => h j (by omega), ?_⟩
      rw [if_neg (h n (by omega))]
theorem lowZ_some {f : Nat → Int32} {n c : Nat} : lowZ f n = some c ↔ c < n ∧ f c = 0 ∧ ∀ j, j < c → ¬ f j = 0 := by
  induction n with
  | zero => simp [lowZ]
  | succ n ih =>
    simp only [lowZ, Option.or_eq_some_iff, ih, lowZ_none]
    constructor
    · rintro (⟨h1, h2, h3⟩ | ⟨h1, h2⟩)
      · exact ⟨by omega, h2, h3⟩
      · by_cases e : f n = 0
        · rw [if_pos e] at h2
          cases h2
          exact ⟨by omega, e, h1⟩
        · rw [if_neg e] at h2; cases h2
    · rintro ⟨h1, h2, h3⟩
      by_cases e : c = n
      · subst e
        exact Or.inr ⟨h3, by rw [if_pos h2]⟩
      · exact Or.inl ⟨by omega, h2, h3⟩
theorem optI_ne {o : Option Nat} (h : ¬ optI o = -1) : ∃ k, o = some k := by
  cases o with
  | none => exact absurd rfl h
  | some k => exact ⟨k, rfl⟩
def relW (er : Nat → Nat → Bool) (WF : Nat → Int32) (q k : Nat) : Nat → Int32 := fun x => if x < k ∧ ¬ WF x = -1 ∧ er q x = true then WF x - nI 1 else WF x
def relD (er : Nat → Nat → Bool) (WF : Nat → Int32) (DP : Nat → Nat) (q k : Nat) : Nat → Nat := fun x => if x < k ∧ ¬ WF x = -1 ∧ er q x = true then max (DP x) (DP q + 1) else DP x
theorem relW_0 (er : Nat → Nat → Bool) (WF : Nat → Int32) (q : Nat) : WF = relW er WF q 0 := by funext x; simp [relW]
theorem relD_0 (er : Nat → Nat → Bool) (WF : Nat → Int32) (DP : Nat → Nat) (q : Nat) : DP = relD er WF DP q 0 := by funext x; simp [relD]
theorem relW_at (er : Nat → Nat → Bool) (WF : Nat → Int32) (q k : Nat) : relW er WF q k k = WF k := by simp [relW]
theorem relD_at (er : Nat → Nat → Bool) (WF : Nat → Int32) (DP : Nat → Nat) (q k : Nat) : relD er WF DP q k k = DP k := by simp [relD]
theorem relD_q {er : Nat → Nat → Bool} {WF : Nat → Int32} {DP : Nat → Nat} {q k : Nat} (h : WF q = -1) : relD er WF DP q k q = DP q := by simp [relD, h]
theorem relW_t {er : Nat → Nat → Bool} {WF : Nat → Int32} {q k : Nat} (h1 : ¬ WF k = -1) (h2 : er q k = true) : upd (relW er WF q k) k (WF k - nI 1) = relW er WF q (k + 1) := by
  funext x
  simp only [upd, relW]
  by_cases e : x = k
  · subst e; rw [if_pos rfl, if_pos ⟨by omega, h1, h2⟩]
  · rw [if_neg e]
    have z : (x < k) ↔ (x < k + 1) := by omega
    simp only [z]
theorem relW_f {er : Nat → Nat → Bool} {WF : Nat → Int32} {q k : Nat} (h : ¬ (¬ WF k = -1 ∧ er q k = true)) : relW er WF q k = relW er WF q (k + 1) := by
  funext x
  simp only [relW]
  by_cases e : x = k
  · subst e; rw [if_neg (fun z => h z.2), if_neg (fun z => h z.2)]
  · have z : (x < k) ↔ (x < k + 1) := by omega
    simp only [z]
theorem relD_t {er : Nat → Nat → Bool} {WF : Nat → Int32} {DP : Nat → Nat} {q k : Nat} (h1 : ¬ WF k = -1) (h2 : er q k = true) : updN (relD er WF DP q k) k (max (DP k) (DP q + 1)) = relD er WF DP q (k + 1) := by
  funext x
  simp only [updN, relD]
  by_cases e : x = k
  · subst e; rw [if_pos rfl, if_pos ⟨by omega, h1, h2⟩]
  · rw [if_neg e]
    have z : (x < k) ↔ (x < k + 1) := by omega
    simp only [z]
theorem relD_f {er : Nat → Nat → Bool} {WF : Nat → Int32} {DP : Nat → Nat} {q k : Nat} (h : ¬ (¬ WF k = -1 ∧ er q k = true)) : relD er WF DP q k = relD er WF DP q (k + 1) := by
  funext x
  simp only [relD]
  by_cases e : x = k
  · subst e; rw [if_neg (fun z => h z.2), if_neg (fun z => h z.2)]
  · have z : (x < k) ↔ (x < k + 1) := by omega
    simp only [z]
theorem relD_le {er : Nat → Nat → Bool} {WF : Nat → Int32} {DP : Nat → Nat} {q k b : Nat} (h : ∀ x, DP x ≤ b) : ∀ x, relD er WF DP q k x ≤ b + 1 := by
  intro x
  have h1 := h x
  have h2 := h q
  simp only [relD]
  split <;> omega
def arS (er : Nat → Nat → Bool) (mm : Nat) (O0 : Nat → Nat) : Nat → Option ((Nat → Int32) × (Nat → Nat) × (Nat → Nat))
  | 0 => some (nA (wcE er mm mm), O0, fun _ => 0)
  | k + 1 => (arS er mm O0 k).bind fun t => (lowZ t.1 mm).bind fun x => some (relW er (upd t.1 x (-1)) x mm, updN t.2.1 k x, relD er (upd t.1 x (-1)) t.2.2 x mm)
theorem arS_none {er : Nat → Nat → Bool} {mm : Nat} {O0 : Nat → Nat} {i j : Nat} (h : arS er mm O0 i = none) (hij : i ≤ j) : arS er mm O0 j = none := by
  induction j with
  | zero => have : i = 0 := by omega
            subst this; exact h
  | succ j ih =>
    by_cases e : i = j + 1
    · subst e; exact h
    · simp [arS, ih (by omega)]

def rmX3_init : Room := { frames := 1, cells := 1, slots := 20, locals := 24 }
set_option maxHeartbeats 4000000 in
set_option maxRecDepth 100000 in
theorem c_X3_init (l : Launch) (E : ZE) (h0 : Nat)  : ZMv l yX3_init cX3_init 1 rmX3_init E [.ref h0] [(h0, ob 3 [.null, .int (nI 0), .int (nI 0)])] (S := Nat) (fun u => True) (fun u => [(h0, ob 3 [.ref u, .int (nI 0), .int (nI 0)]), (u, ia E 20 (nA (fun _ => 0)))]) := by
  refine z_mv (by decide) (Nat.le_of_ble_eq_true rfl) ?_
  intro p e s m args below meth c A Q ls cx hin hw hl ret
  obtain ⟨hx, hb, hml, hown, hts, hK, hN, hA, hlk⟩ := id cx
  have hl : lv_has ls 1 [(0, .ref h0)] := hl
  refine lv_aload_n hx hb dX3_init_0 rfl (lv_at hl 0 rfl) ?_
  refine z_obj cx hl wd_56 (Nat.le_of_ble_eq_true rfl) (Nat.le_of_ble_eq_true rfl) dX3_init_1 ?_
  refine lv_aload_n hx hb dX3_init_4 rfl (lv_at hl 0 rfl) ?_
  refine lv_bipush (v := nI 20) hx hb dX3_init_5 (by decide) ?_
  refine z_newa (atype := .int) (a0 := (20, .inl (nA (fun _ => 0)))) (k := 0) cx hw 20 rfl (by decide) rfl rfl (fun _ h => by cases h) (fun _ => rfl) (by decide) wd_35 (Nat.le_of_ble_eq_true rfl) (Nat.le_of_ble_eq_true rfl) dX3_init_7 (fun q7 H hw => ?_)
  refine W.widen (k := 1) (n := 20) (Nat.le_of_ble_eq_true rfl) (Nat.le_of_ble_eq_true rfl) ?_
  have hw : ZW E A s [(h0, ob 3 [.null, .int (nI 0), .int (nI 0)]), (q7, ia E 20 (nA (fun _ => 0)))] H [] := hw
  refine z_putF cx hw 0 0 rfl rfl inlX3 tyX3_ok nmX3 (by decide) wd_57 rfl hin rfl rfl rfl (Nat.le_of_ble_eq_true rfl) dX3_init_9 (fun H locs hw => ?_)
  have hw : ZW E A s [(h0, ob 3 [.ref q7, .int (nI 0), .int (nI 0)]), (q7, ia E 20 (nA (fun _ => 0)))] H locs := hw
  refine lv_aload_n hx hb dX3_init_12 rfl (lv_at hl 0 rfl) ?_
  refine lv_iconst (v := nI 0) hx hb dX3_init_13 (by decide) ?_
  refine z_put cx hw 0 1 rfl rfl inlX3 tyX3_ok nmX3 (by decide) wd_58 rfl rfl rfl (Nat.le_of_ble_eq_true rfl) dX3_init_14 (fun H locs hw => ?_)
  have hw : ZW E A s [(h0, ob 3 [.ref q7, .int (nI 0), .int (nI 0)]), (q7, ia E 20 (nA (fun _ => 0)))] H locs := hw
  refine lv_aload_n hx hb dX3_init_17 rfl (lv_at hl 0 rfl) ?_
  refine lv_iconst (v := nI 0) hx hb dX3_init_18 (by decide) ?_
  refine z_put cx hw 0 2 rfl rfl inlX3 tyX3_ok nmX3 (by decide) wd_59 rfl rfl rfl (Nat.le_of_ble_eq_true rfl) dX3_init_19 (fun H locs hw => ?_)
  have hw : ZW E A s [(h0, ob 3 [.ref q7, .int (nI 0), .int (nI 0)]), (q7, ia E 20 (nA (fun _ => 0)))] H locs := hw
  exact ret q7 22 ls H locs dX3_init_22 (trivial) (hw)

def rmX3_vertexOf : Room := { frames := 0, cells := 0, slots := 0, locals := 0 }
set_option maxHeartbeats 4000000 in
set_option maxRecDepth 100000 in
theorem c_X3_vertexOf (l : Launch) (E : ZE) (sd d : Nat)  : ZMi l yX3_vertexOf cX3_vertexOf 2 (some .int) rmX3_vertexOf E [.int (nI sd), .int (nI d)] [] (S := Unit) (fun r _ => r = nI (sd * 10 + d)) (fun _ => []) := by
  refine z_mi (by decide) (Nat.le_of_ble_eq_true rfl) ?_
  intro p e s m args below meth c A Q ls cx hin hw hl ret
  obtain ⟨hx, hb, hml, hown, hts, hK, hN, hA, hlk⟩ := id cx
  have hl : lv_has ls 2 [(0, .int (nI sd)), (1, .int (nI d))] := hl
  refine lv_iload_n hx hb dX3_vertexOf_0 rfl (lv_at hl 0 rfl) ?_
  refine lv_bipush (v := nI 10) hx hb dX3_vertexOf_1 (by decide) ?_
  refine z_imul hx hb (sd * 10) rfl dX3_vertexOf_3 ?_
  refine lv_iload_n hx hb dX3_vertexOf_4 rfl (lv_at hl 1 rfl) ?_
  refine z_iadd hx hb ((sd * 10) + d) rfl dX3_vertexOf_5 ?_
  exact ret (nI ((sd * 10) + d)) () 6 ls s.heap [] dX3_vertexOf_6 (congrArg nI (by omega)) (hw)

def rmX3_obverseOf : Room := { frames := 1, cells := 0, slots := 0, locals := 21 }
set_option maxHeartbeats 4000000 in
set_option maxRecDepth 100000 in
theorem c_X3_obverseOf (l : Launch) (E : ZE) (hC qp qd d0 d1 ql qg : Nat) (D0 D1 : Nat → Nat) (mm : Nat) (k : Nat) (hk : k < 24) : ZMi l yX3_obverseOf cX3_obverseOf 2 (some .int) rmX3_obverseOf E [.ref hC, .int (nI k)] [(hC, ob 1 [.ref qp, .ref qd, .ref ql, .ref qg, .int (nI mm)]), (qd, ra E d0 d1), (d0, ia E 24 (nA D0)), (d1, ia E 24 (nA D1))] (S := Unit) (fun r _ => r = nI (D0 k)) (fun _ => [(hC, ob 1 [.ref qp, .ref qd, .ref ql, .ref qg, .int (nI mm)]), (qd, ra E d0 d1), (d0, ia E 24 (nA D0)), (d1, ia E 24 (nA D1))]) := by
  refine z_mi (by decide) (Nat.le_of_ble_eq_true rfl) ?_
  intro p e s m args below meth c A Q ls cx hin hw hl ret
  obtain ⟨hx, hb, hml, hown, hts, hK, hN, hA, hlk⟩ := id cx
  have hl : lv_has ls 2 [(0, .ref hC), (1, .int (nI k))] := hl
  refine lv_iconst (v := nI 0) hx hb dX3_obverseOf_0 (by decide) ?_
  refine lv_aload_n hx hb dX3_obverseOf_1 rfl (lv_at hl 0 rfl) ?_
  refine z_getN cx hw 0 1 rfl rfl inlX1 (by decide) (nf_X3_42 hN) rfl dX3_obverseOf_2 ?_
  refine lv_iconst (v := nI 0) hx hb dX3_obverseOf_5 (by decide) ?_
  refine z_aald0 cx hw 1 rfl dX3_obverseOf_6 ?_
  refine lv_iload_n hx hb dX3_obverseOf_7 rfl (lv_at hl 1 rfl) ?_
  refine z_aldN cx hw 2 rfl (k) rfl (by omega) (by decide) dX3_obverseOf_8 ?_
  refine z_ri0 (wr := [(hC, ob 1 [.ref qp, .ref qd, .ref ql, .ref qg, .int (nI mm)]), (qd, ra E d0 d1), (d0, ia E 24 (nA D0)), (d1, ia E 24 (nA D1))]) cx hw [] [0, 1, 2, 3] rfl rfl (by decide) (by decide) rfl rfl (z_runS (As := [.int (nI 0), .int (nI (D0 k))]) (rest := []) cx hw [] rfl rfl (c_X3_vertexOf l E 0 (D0 k)  s.heap.size) mf_X3_vertexOf wd_319 ⟨Nat.le_of_ble_eq_true rfl, Nat.le_of_ble_eq_true rfl⟩ hl (Nat.le_of_ble_eq_true rfl) dX3_obverseOf_9 ⟨Nat.le_of_ble_eq_true rfl, Nat.le_of_ble_eq_true rfl⟩) (fun r _ H locs hp hw => ?_)
  have hr_9 := hp
  have hr_9 : r = nI (0 * 10 + (D0 k)) := hr_9
  subst hr_9
  have hw : ZW E A s [(hC, ob 1 [.ref qp, .ref qd, .ref ql, .ref qg, .int (nI mm)]), (qd, ra E d0 d1), (d0, ia E 24 (nA D0)), (d1, ia E 24 (nA D1))] H locs := hw
  exact ret (nI (0 * 10 + (D0 k))) () 12 ls H locs dX3_obverseOf_12 (congrArg nI (by omega)) (hw)

def rmX3_reverseOf : Room := { frames := 1, cells := 0, slots := 0, locals := 21 }
set_option maxHeartbeats 4000000 in
set_option maxRecDepth 100000 in
theorem c_X3_reverseOf (l : Launch) (E : ZE) (hC qp qd d0 d1 ql qg : Nat) (D0 D1 : Nat → Nat) (mm : Nat) (k : Nat) (hk : k < 24) : ZMi l yX3_reverseOf cX3_reverseOf 2 (some .int) rmX3_reverseOf E [.ref hC, .int (nI k)] [(hC, ob 1 [.ref qp, .ref qd, .ref ql, .ref qg, .int (nI mm)]), (qd, ra E d0 d1), (d0, ia E 24 (nA D0)), (d1, ia E 24 (nA D1))] (S := Unit) (fun r _ => r = nI (10 + D1 k)) (fun _ => [(hC, ob 1 [.ref qp, .ref qd, .ref ql, .ref qg, .int (nI mm)]), (qd, ra E d0 d1), (d0, ia E 24 (nA D0)), (d1, ia E 24 (nA D1))]) := by
  refine z_mi (by decide) (Nat.le_of_ble_eq_true rfl) ?_
  intro p e s m args below meth c A Q ls cx hin hw hl ret
  obtain ⟨hx, hb, hml, hown, hts, hK, hN, hA, hlk⟩ := id cx
  have hl : lv_has ls 2 [(0, .ref hC), (1, .int (nI k))] := hl
  refine lv_iconst (v := nI 1) hx hb dX3_reverseOf_0 (by decide) ?_
  refine lv_aload_n hx hb dX3_reverseOf_1 rfl (lv_at hl 0 rfl) ?_
  refine z_getN cx hw 0 1 rfl rfl inlX1 (by decide) (nf_X3_42 hN) rfl dX3_reverseOf_2 ?_
  refine lv_iconst (v := nI 1) hx hb dX3_reverseOf_5 (by decide) ?_
  refine z_aald1 cx hw 1 rfl dX3_reverseOf_6 ?_
  refine lv_iload_n hx hb dX3_reverseOf_7 rfl (lv_at hl 1 rfl) ?_
  refine z_aldN cx hw 3 rfl (k) rfl (by omega) (by decide) dX3_reverseOf_8 ?_
  refine z_ri0 (wr := [(hC, ob 1 [.ref qp, .ref qd, .ref ql, .ref qg, .int (nI mm)]), (qd, ra E d0 d1), (d0, ia E 24 (nA D0)), (d1, ia E 24 (nA D1))]) cx hw [] [0, 1, 2, 3] rfl rfl (by decide) (by decide) rfl rfl (z_runS (As := [.int (nI 1), .int (nI (D1 k))]) (rest := []) cx hw [] rfl rfl (c_X3_vertexOf l E 1 (D1 k)  s.heap.size) mf_X3_vertexOf wd_319 ⟨Nat.le_of_ble_eq_true rfl, Nat.le_of_ble_eq_true rfl⟩ hl (Nat.le_of_ble_eq_true rfl) dX3_reverseOf_9 ⟨Nat.le_of_ble_eq_true rfl, Nat.le_of_ble_eq_true rfl⟩) (fun r _ H locs hp hw => ?_)
  have hr_9 := hp
  have hr_9 : r = nI (1 * 10 + (D1 k)) := hr_9
  subst hr_9
  have hw : ZW E A s [(hC, ob 1 [.ref qp, .ref qd, .ref ql, .ref qg, .int (nI mm)]), (qd, ra E d0 d1), (d0, ia E 24 (nA D0)), (d1, ia E 24 (nA D1))] H locs := hw
  exact ret (nI (1 * 10 + (D1 k))) () 12 ls H locs dX3_reverseOf_12 (congrArg nI (by omega)) (hw)

def rmX3_enterDie : Room := { frames := 0, cells := 0, slots := 0, locals := 0 }
set_option maxHeartbeats 4000000 in
set_option maxRecDepth 100000 in
theorem c_X3_enterDie (l : Launch) (E : ZE) (h0 qC : Nat) (gc : Int32) (b : Nat → Bool) (v : Nat) (hv : v < 20) : ZMv l yX3_enterDie cX3_enterDie 2 rmX3_enterDie E [.ref h0, .int (nI v)] [(h0, ob 3 [.ref qC, .int (nI (rk b 20)), .int gc]), (qC, ia E 20 (cmp0 b))] (S := Unit) (fun _ => True) (fun _ => [(h0, ob 3 [.ref qC, .int (nI (rk (ins b v) 20)), .int gc]), (qC, ia E 20 (cmp0 (ins b v)))]) := by
  refine z_mv (by decide) (Nat.le_of_ble_eq_true rfl) ?_
  intro p e s m args below meth c A Q ls cx hin hw hl ret
  obtain ⟨hx, hb, hml, hown, hts, hK, hN, hA, hlk⟩ := id cx
  have hl : lv_has ls 2 [(0, .ref h0), (1, .int (nI v))] := hl
  refine lv_aload_n hx hb dX3_enterDie_0 rfl (lv_at hl 0 rfl) ?_
  refine z_get cx hw 0 0 rfl rfl inlX3 (by decide) wd_57 rfl dX3_enterDie_1 ?_
  refine lv_iload_n hx hb dX3_enterDie_4 rfl (lv_at hl 1 rfl) ?_
  refine z_ald cx hw 1 rfl (v) rfl (by omega) (by decide) dX3_enterDie_5 ?_
  refine lv_iconst (v := (-1)) hx hb dX3_enterDie_6 (by decide) ?_
  refine lv_icmp_ne (tgt := 27) hx hb dX3_enterDie_7 (by decide) (fun c_7 => ?_) (fun c_7 => ?_)
  · have e_r27_0 : (rk b 20) = (rk (ins b v) 20) := by rw [← ins_t (cmp0_t c_7)]
    have e_r27_1 : (cmp0 b) = (cmp0 (ins b v)) := by rw [← ins_t (cmp0_t c_7)]
    exact ret () 27 ls s.heap [] dX3_enterDie_27 (trivial) ((hw).cast (zc (congrArg (fun z => ((h0, ob 3 [.ref qC, .int (nI z), .int gc]) : Nat × va_E)) e_r27_0) (zc (congrArg (fun z => ((qC, ia E 20 z) : Nat × va_E)) e_r27_1) rfl)))
  · refine lv_aload_n hx hb dX3_enterDie_10 rfl (lv_at hl 0 rfl) ?_
    refine z_get cx hw 0 0 rfl rfl inlX3 (by decide) wd_57 rfl dX3_enterDie_11 ?_
    refine lv_iload_n hx hb dX3_enterDie_14 rfl (lv_at hl 1 rfl) ?_
    refine lv_iload_n hx hb dX3_enterDie_15 rfl (lv_at hl 1 rfl) ?_
    refine z_ast cx hw 1 rfl (v) rfl (by omega) (by decide) dX3_enterDie_16 (fun H locs hw => ?_)
    have hw : ZW E A s [(h0, ob 3 [.ref qC, .int (nI (rk b 20)), .int gc]), (qC, ia E 20 (upd (cmp0 b) v (nI v)))] H locs := hw
    refine lv_aload_n hx hb dX3_enterDie_17 rfl (lv_at hl 0 rfl) ?_
    refine lv_dup hx hb dX3_enterDie_18 rfl ?_
    refine z_get cx hw 0 1 rfl rfl inlX3 (by decide) wd_58 rfl dX3_enterDie_19 ?_
    refine lv_iconst (v := nI 1) hx hb dX3_enterDie_22 (by decide) ?_
    refine z_iadd hx hb ((rk b 20) + 1) rfl dX3_enterDie_23 ?_
    refine z_put cx hw 0 1 rfl rfl inlX3 tyX3_ok nmX3 (by decide) wd_58 rfl rfl rfl (Nat.le_of_ble_eq_true rfl) dX3_enterDie_24 (fun H locs hw => ?_)
    have hw : ZW E A s [(h0, ob 3 [.ref qC, .int (nI ((rk b 20) + 1)), .int gc]), (qC, ia E 20 (upd (cmp0 b) v (nI v)))] H locs := hw
    have e_r27_0 : ((rk b 20) + 1) = (rk (ins b v) 20) := by rw [rk_ins (cmp0_f hv c_7) hv]
    have e_r27_1 : (upd (cmp0 b) v (nI v)) = (cmp0 (ins b v)) := by rw [cmp0_ins]
    exact ret () 27 ls H locs dX3_enterDie_27 (trivial) ((hw).cast (zc (congrArg (fun z => ((h0, ob 3 [.ref qC, .int (nI z), .int gc]) : Nat × va_E)) e_r27_0) (zc (congrArg (fun z => ((qC, ia E 20 z) : Nat × va_E)) e_r27_1) rfl)))

def rmX3_enterDies : Room := { frames := 2, cells := 0, slots := 0, locals := 42 }
set_option maxHeartbeats 4000000 in
set_option maxRecDepth 100000 in
theorem c_X3_enterDies (l : Launch) (E : ZE) (h0 qC : Nat) (Cm : Nat → Int32) (gd : Nat) (gc : Int32) (hC qp qd d0 d1 ql qg : Nat) (D0 D1 : Nat → Nat) (mm : Nat) (hmm : mm ≤ 24) (hD0 : Bd D0) (hD1 : Bd D1) : ZMv l yX3_enterDies cX3_enterDies 3 rmX3_enterDies E [.ref h0, .ref hC] [(h0, ob 3 [.ref qC, .int (nI gd), .int gc]), (qC, ia E 20 Cm), (hC, ob 1 [.ref qp, .ref qd, .ref ql, .ref qg, .int (nI mm)]), (qd, ra E d0 d1), (d0, ia E 24 (nA D0)), (d1, ia E 24 (nA D1))] (S := Unit) (fun _ => True) (fun _ => [(h0, ob 3 [.ref qC, .int (nI (rk (kv D0 D1 mm) 20)), .int gc]), (qC, ia E 20 (cmp0 (kv D0 D1 mm))), (hC, ob 1 [.ref qp, .ref qd, .ref ql, .ref qg, .int (nI mm)]), (qd, ra E d0 d1), (d0, ia E 24 (nA D0)), (d1, ia E 24 (nA D1))]) := by
  refine z_mv (by decide) (Nat.le_of_ble_eq_true rfl) ?_
  intro p e s m args below meth c A Q ls cx hin hw hl ret
  obtain ⟨hx, hb, hml, hown, hts, hK, hN, hA, hlk⟩ := id cx
  have hl : lv_has ls 3 [(0, .ref h0), (1, .ref hC)] := hl
  refine lv_aload_n hx hb dX3_enterDies_0 rfl (lv_at hl 0 rfl) ?_
  refine z_get cx hw 0 0 rfl rfl inlX3 (by decide) wd_57 rfl dX3_enterDies_1 ?_
  refine lv_iconst (v := (-1)) hx hb dX3_enterDies_4 (by decide) ?_
  refine z_rv0 (wr := [(h0, ob 3 [.ref qC, .int (nI gd), .int gc]), (hC, ob 1 [.ref qp, .ref qd, .ref ql, .ref qg, .int (nI mm)]), (qd, ra E d0 d1), (d0, ia E 24 (nA D0)), (d1, ia E 24 (nA D1))]) cx hw [1] [0, 2, 3, 4, 5] rfl rfl (by decide) (by decide) rfl rfl (z_runS (As := [.ref qC, .int ((-1))]) (rest := []) cx hw [1] rfl rfl (c_J7_fill_5317820 l E qC Cm (-1)  s.heap.size) mf_J7_fill_53178 wd_315 ⟨Nat.le_of_ble_eq_true rfl, Nat.le_of_ble_eq_true rfl⟩ hl (Nat.le_of_ble_eq_true rfl) dX3_enterDies_5 ⟨Nat.le_of_ble_eq_true rfl, Nat.le_of_ble_eq_true rfl⟩) (fun _ H locs hp hw => ?_)
  have hw : ZW E A s [(h0, ob 3 [.ref qC, .int (nI gd), .int gc]), (hC, ob 1 [.ref qp, .ref qd, .ref ql, .ref qg, .int (nI mm)]), (qd, ra E d0 d1), (d0, ia E 24 (nA D0)), (d1, ia E 24 (nA D1)), (qC, ia E 20 (fun _ => (-1)))] H locs := hw
  refine lv_aload_n hx hb dX3_enterDies_8 rfl (lv_at hl 0 rfl) ?_
  refine lv_iconst (v := nI 0) hx hb dX3_enterDies_9 (by decide) ?_
  refine z_put cx hw 0 1 rfl rfl inlX3 tyX3_ok nmX3 (by decide) wd_58 rfl rfl rfl (Nat.le_of_ble_eq_true rfl) dX3_enterDies_10 (fun H locs hw => ?_)
  have hw : ZW E A s [(h0, ob 3 [.ref qC, .int (nI 0), .int gc]), (hC, ob 1 [.ref qp, .ref qd, .ref ql, .ref qg, .int (nI mm)]), (qd, ra E d0 d1), (d0, ia E 24 (nA D0)), (d1, ia E 24 (nA D1)), (qC, ia E 20 (fun _ => (-1)))] H locs := hw
  refine lv_iconst (v := nI 0) hx hb dX3_enterDies_13 (by decide) ?_
  refine lv_istore_n (lv' := [(2, .int (nI 0)), (0, .ref h0), (1, .ref hC)]) hx hb dX3_enterDies_14 rfl hl (by decide) rfl (fun ls hl => ?_)
  have loop_15 : ∀ (fuel : Nat) (k : Nat) (hk : k ≤ mm) (hm : mm - k < fuel) (H : Heap) (locs : List Loc) (ls : Array Slot), ZW E A s [(h0, ob 3 [.ref qC, .int (nI (rk (kv D0 D1 k) 20)), .int gc]), (hC, ob 1 [.ref qp, .ref qd, .ref ql, .ref qg, .int (nI mm)]), (qd, ra E d0 d1), (d0, ia E 24 (nA D0)), (d1, ia E 24 (nA D1)), (qC, ia E 20 (cmp0 (kv D0 D1 k)))] H locs → lv_has ls 3 [(0, .ref h0), (1, .ref hC), (2, .int (nI k))] → W p l e rmX3_enterDies s m args below meth c H locs 0 0 Q (F0 m 15 ls []) := by
    intro fuel
    induction fuel with
    | zero => intro k hk hm; exact absurd hm (Nat.not_lt_zero _)
    | succ fuel ih_15 =>
      intro k hk hm H locs ls hw hl
      refine lv_iload_n hx hb dX3_enterDies_15 rfl (lv_at hl 2 rfl) ?_
      refine lv_aload_n hx hb dX3_enterDies_16 rfl (lv_at hl 1 rfl) ?_
      refine z_getN cx hw 1 4 rfl rfl inlX1 (by decide) (nf_X3_26 hN) rfl dX3_enterDies_17 ?_
      refine z_icmp_ge hx hb (by omega) (by omega) 47 dX3_enterDies_20 (by decide) (fun c_20 => ?_) (fun c_20 => ?_)
      · have e_ : k = mm := by omega
        have e_r47_0 : (rk (kv D0 D1 k) 20) = (rk (kv D0 D1 mm) 20) := by rw [e_]
        have e_r47_1 : (cmp0 (kv D0 D1 k)) = (cmp0 (kv D0 D1 mm)) := by rw [e_]
        exact ret () 47 ls H locs dX3_enterDies_47 (trivial) ((hw.perm [0, 5, 1, 2, 3, 4] rfl (by decide)).cast (zc (congrArg (fun z => ((h0, ob 3 [.ref qC, .int (nI z), .int gc]) : Nat × va_E)) e_r47_0) (zc (congrArg (fun z => ((qC, ia E 20 z) : Nat × va_E)) e_r47_1) rfl)))
      · refine lv_aload_n hx hb dX3_enterDies_23 rfl (lv_at hl 0 rfl) ?_
        refine lv_aload_n hx hb dX3_enterDies_24 rfl (lv_at hl 1 rfl) ?_
        refine lv_iload_n hx hb dX3_enterDies_25 rfl (lv_at hl 2 rfl) ?_
        refine z_ri0 (wr := [(h0, ob 3 [.ref qC, .int (nI (rk (kv D0 D1 k) 20)), .int gc]), (qC, ia E 20 (cmp0 (kv D0 D1 k)))]) cx hw [1, 2, 3, 4] [0, 5] rfl rfl (by decide) (by decide) rfl rfl (z_runS (As := [.ref hC, .int (nI k)]) (rest := [.ref h0]) cx hw [1, 2, 3, 4] rfl rfl (c_X3_obverseOf l E hC qp qd d0 d1 ql qg D0 D1 mm k (by omega) H.size) mf_X3_obverseOf wd_316 ⟨Nat.le_of_ble_eq_true rfl, Nat.le_of_ble_eq_true rfl⟩ hl (Nat.le_of_ble_eq_true rfl) dX3_enterDies_26 ⟨Nat.le_of_ble_eq_true rfl, Nat.le_of_ble_eq_true rfl⟩) (fun r _ H locs hp hw => ?_)
        have hr_26 := hp
        have hr_26 : r = nI (D0 k) := hr_26
        subst hr_26
        have hw : ZW E A s [(h0, ob 3 [.ref qC, .int (nI (rk (kv D0 D1 k) 20)), .int gc]), (qC, ia E 20 (cmp0 (kv D0 D1 k))), (hC, ob 1 [.ref qp, .ref qd, .ref ql, .ref qg, .int (nI mm)]), (qd, ra E d0 d1), (d0, ia E 24 (nA D0)), (d1, ia E 24 (nA D1))] H locs := hw
        refine z_rv0 (wr := [(hC, ob 1 [.ref qp, .ref qd, .ref ql, .ref qg, .int (nI mm)]), (qd, ra E d0 d1), (d0, ia E 24 (nA D0)), (d1, ia E 24 (nA D1))]) cx hw [0, 1] [2, 3, 4, 5] rfl rfl (by decide) (by decide) rfl rfl (z_runV (As := [.int (nI (D0 k))]) (rest := []) cx hw rfl rfl [0, 1] rfl rfl (c_X3_enterDie l E h0 qC gc (kv D0 D1 k) (D0 k) (by have := hD0 k; omega) H.size) mf_X3_enterDie wd_322 ⟨Nat.le_of_ble_eq_true rfl, Nat.le_of_ble_eq_true rfl⟩ hl (Nat.le_of_ble_eq_true rfl) dX3_enterDies_29 ⟨Nat.le_of_ble_eq_true rfl, Nat.le_of_ble_eq_true rfl⟩) (fun _ H locs hp hw => ?_)
        have hw : ZW E A s [(hC, ob 1 [.ref qp, .ref qd, .ref ql, .ref qg, .int (nI mm)]), (qd, ra E d0 d1), (d0, ia E 24 (nA D0)), (d1, ia E 24 (nA D1)), (h0, ob 3 [.ref qC, .int (nI (rk (ins (kv D0 D1 k) (D0 k)) 20)), .int gc]), (qC, ia E 20 (cmp0 (ins (kv D0 D1 k) (D0 k))))] H locs := hw
        refine lv_aload_n hx hb dX3_enterDies_32 rfl (lv_at hl 0 rfl) ?_
        refine lv_aload_n hx hb dX3_enterDies_33 rfl (lv_at hl 1 rfl) ?_
        refine lv_iload_n hx hb dX3_enterDies_34 rfl (lv_at hl 2 rfl) ?_
        refine z_ri0 (wr := [(h0, ob 3 [.ref qC, .int (nI (rk (ins (kv D0 D1 k) (D0 k)) 20)), .int gc]), (qC, ia E 20 (cmp0 (ins (kv D0 D1 k) (D0 k))))]) cx hw [0, 1, 2, 3] [4, 5] rfl rfl (by decide) (by decide) rfl rfl (z_runS (As := [.ref hC, .int (nI k)]) (rest := [.ref h0]) cx hw [0, 1, 2, 3] rfl rfl (c_X3_reverseOf l E hC qp qd d0 d1 ql qg D0 D1 mm k (by omega) H.size) mf_X3_reverseOf wd_326 ⟨Nat.le_of_ble_eq_true rfl, Nat.le_of_ble_eq_true rfl⟩ hl (Nat.le_of_ble_eq_true rfl) dX3_enterDies_35 ⟨Nat.le_of_ble_eq_true rfl, Nat.le_of_ble_eq_true rfl⟩) (fun r _ H locs hp hw => ?_)
        have hr_35 := hp
        have hr_35 : r = nI (10 + D1 k) := hr_35
        subst hr_35
        have hw : ZW E A s [(h0, ob 3 [.ref qC, .int (nI (rk (ins (kv D0 D1 k) (D0 k)) 20)), .int gc]), (qC, ia E 20 (cmp0 (ins (kv D0 D1 k) (D0 k)))), (hC, ob 1 [.ref qp, .ref qd, .ref ql, .ref qg, .int (nI mm)]), (qd, ra E d0 d1), (d0, ia E 24 (nA D0)), (d1, ia E 24 (nA D1))] H locs := hw
        refine z_rv0 (wr := [(hC, ob 1 [.ref qp, .ref qd, .ref ql, .ref qg, .int (nI mm)]), (qd, ra E d0 d1), (d0, ia E 24 (nA D0)), (d1, ia E 24 (nA D1))]) cx hw [0, 1] [2, 3, 4, 5] rfl rfl (by decide) (by decide) rfl rfl (z_runV (As := [.int (nI (10 + D1 k))]) (rest := []) cx hw rfl rfl [0, 1] rfl rfl (c_X3_enterDie l E h0 qC gc (ins (kv D0 D1 k) (D0 k)) (10 + D1 k) (by have := hD1 k; omega) H.size) mf_X3_enterDie wd_322 ⟨Nat.le_of_ble_eq_true rfl, Nat.le_of_ble_eq_true rfl⟩ hl (Nat.le_of_ble_eq_true rfl) dX3_enterDies_38 ⟨Nat.le_of_ble_eq_true rfl, Nat.le_of_ble_eq_true rfl⟩) (fun _ H locs hp hw => ?_)
        have hw : ZW E A s [(hC, ob 1 [.ref qp, .ref qd, .ref ql, .ref qg, .int (nI mm)]), (qd, ra E d0 d1), (d0, ia E 24 (nA D0)), (d1, ia E 24 (nA D1)), (h0, ob 3 [.ref qC, .int (nI (rk (ins (ins (kv D0 D1 k) (D0 k)) (10 + D1 k)) 20)), .int gc]), (qC, ia E 20 (cmp0 (ins (ins (kv D0 D1 k) (D0 k)) (10 + D1 k))))] H locs := hw
        refine lv_iinc (v := nI (k + 1)) (lv' := [(2, .int (nI (k + 1))), (0, .ref h0), (1, .ref hC)]) hx hb dX3_enterDies_41 hl (k := 2) rfl (nI_1 _) (by decide) rfl (fun ls hl => ?_)
        refine lv_goto (tgt := 15) hx hb dX3_enterDies_44 (by decide) ?_
        have e_b15_0 : (rk (ins (ins (kv D0 D1 k) (D0 k)) (10 + D1 k)) 20) = (rk (kv D0 D1 (k + 1)) 20) := by rfl
        have e_b15_1 : (cmp0 (ins (ins (kv D0 D1 k) (D0 k)) (10 + D1 k))) = (cmp0 (kv D0 D1 (k + 1))) := by rfl
        exact ih_15 (k + 1) (by omega) (by omega) _ _ ls ((hw.perm [4, 0, 1, 2, 3, 5] rfl (by decide)).cast (zc (congrArg (fun z => ((h0, ob 3 [.ref qC, .int (nI z), .int gc]) : Nat × va_E)) e_b15_0) (zc rfl (zc rfl (zc rfl (zc rfl (zc (congrArg (fun z => ((qC, ia E 20 z) : Nat × va_E)) e_b15_1) rfl))))))) (lv_add (lv_add (lv_add (lv_nil hl) (lv_at hl 0 rfl)) (lv_at hl 2 rfl)) (lv_at hl 1 rfl))
  have e_i15_0 : 0 = (rk (kv D0 D1 0) 20) := by rfl
  have e_i15_1 : (fun _ => (-1)) = (cmp0 (kv D0 D1 0)) := by rw [cmp0_0 D0 D1]
  exact loop_15 _ 0 (by omega) (Nat.lt_succ_self _) _ _ ls ((hw).cast (zc (congrArg (fun z => ((h0, ob 3 [.ref qC, .int (nI z), .int gc]) : Nat × va_E)) e_i15_0) (zc rfl (zc rfl (zc rfl (zc rfl (zc (congrArg (fun z => ((qC, ia E 20 z) : Nat × va_E)) e_i15_1) rfl))))))) (lv_add (lv_add (lv_add (lv_nil hl) (lv_at hl 0 rfl)) (lv_at hl 2 rfl)) (lv_at hl 1 rfl))

def rmX3_join : Room := { frames := 0, cells := 0, slots := 0, locals := 0 }
set_option maxHeartbeats 4000000 in
set_option maxRecDepth 100000 in
theorem c_X3_join (l : Launch) (E : ZE) (h0 qC : Nat) (Cm : Nat → Int32) (gd : Nat) (gc : Int32) (v w : Nat) (hv : v < 20) (hw2 : w < 20) : ZMv l yX3_join cX3_join 6 rmX3_join E [.ref h0, .int (nI v), .int (nI w)] [(h0, ob 3 [.ref qC, .int (nI gd), .int gc]), (qC, ia E 20 Cm)] (S := Unit) (fun _ => True) (fun _ => [(h0, ob 3 [.ref qC, .int (nI gd), .int (jc Cm gc v w)]), (qC, ia E 20 (jn Cm v w))]) := by
  refine z_mv (by decide) (Nat.le_of_ble_eq_true rfl) ?_
  intro p e s m args below meth c A Q ls cx hin hw hl ret
  obtain ⟨hx, hb, hml, hown, hts, hK, hN, hA, hlk⟩ := id cx
  have hl : lv_has ls 6 [(0, .ref h0), (1, .int (nI v)), (2, .int (nI w))] := hl
  refine lv_aload_n hx hb dX3_join_0 rfl (lv_at hl 0 rfl) ?_
  refine z_get cx hw 0 0 rfl rfl inlX3 (by decide) wd_57 rfl dX3_join_1 ?_
  refine lv_iload_n hx hb dX3_join_4 rfl (lv_at hl 1 rfl) ?_
  refine z_ald cx hw 1 rfl (v) rfl (by omega) (by decide) dX3_join_5 ?_
  refine lv_istore_n (lv' := [(3, .int (Cm v)), (0, .ref h0), (1, .int (nI v)), (2, .int (nI w))]) hx hb dX3_join_6 rfl hl (by decide) rfl (fun ls hl => ?_)
  refine lv_aload_n hx hb dX3_join_7 rfl (lv_at hl 1 rfl) ?_
  refine z_get cx hw 0 0 rfl rfl inlX3 (by decide) wd_57 rfl dX3_join_8 ?_
  refine lv_iload_n hx hb dX3_join_11 rfl (lv_at hl 3 rfl) ?_
  refine z_ald cx hw 1 rfl (w) rfl (by omega) (by decide) dX3_join_12 ?_
  refine lv_istore (lv' := [(4, .int (Cm w)), (3, .int (Cm v)), (0, .ref h0), (1, .int (nI v)), (2, .int (nI w))]) hx hb dX3_join_13 hl (by decide) rfl (fun ls hl => ?_)
  refine lv_iload_n hx hb dX3_join_15 rfl (lv_at hl 1 rfl) ?_
  refine lv_iload hx hb dX3_join_16 (lv_at hl 0 rfl) ?_
  refine lv_icmp_ne (tgt := 22) hx hb dX3_join_18 (by decide) (fun c_18 => ?_) (fun c_18 => ?_)
  · refine lv_iconst (v := nI 0) hx hb dX3_join_22 (by decide) ?_
    refine lv_istore (lv' := [(5, .int (nI 0)), (4, .int (Cm w)), (3, .int (Cm v)), (0, .ref h0), (1, .int (nI v)), (2, .int (nI w))]) hx hb dX3_join_23 hl (by decide) rfl (fun ls hl => ?_)
    have loop_25 : ∀ (fuel : Nat) (k : Nat) (hk : k ≤ 20) (hm : 20 - k < fuel) (H : Heap) (locs : List Loc) (ls : Array Slot), ZW E A s [(h0, ob 3 [.ref qC, .int (nI gd), .int gc]), (qC, ia E 20 (jnk Cm v w k))] H locs → lv_has ls 6 [(0, .ref h0), (1, .int (nI v)), (2, .int (nI w)), (3, .int (Cm v)), (4, .int (Cm w)), (5, .int (nI k))] → W p l e rmX3_join s m args below meth c H locs 0 0 Q (F0 m 25 ls []) := by
      intro fuel
      induction fuel with
      | zero => intro k hk hm; exact absurd hm (Nat.not_lt_zero _)
      | succ fuel ih_25 =>
        intro k hk hm H locs ls hw hl
        refine lv_iload hx hb dX3_join_25 (lv_at hl 5 rfl) ?_
        refine lv_bipush (v := nI 20) hx hb dX3_join_27 (by decide) ?_
        refine z_icmp_ge hx hb (by omega) (by decide) 58 dX3_join_29 (by decide) (fun c_29 => ?_) (fun c_29 => ?_)
        · refine lv_aload_n hx hb dX3_join_58 rfl (lv_at hl 0 rfl) ?_
          refine lv_dup hx hb dX3_join_59 rfl ?_
          refine z_get cx hw 0 2 rfl rfl inlX3 (by decide) wd_59 rfl dX3_join_60 ?_
          refine lv_iconst (v := nI 1) hx hb dX3_join_63 (by decide) ?_
          refine lv_isub hx hb dX3_join_64 ?_
          refine z_put cx hw 0 2 rfl rfl inlX3 tyX3_ok nmX3 (by decide) wd_59 rfl rfl rfl (Nat.le_of_ble_eq_true rfl) dX3_join_65 (fun H locs hw => ?_)
          have hw : ZW E A s [(h0, ob 3 [.ref qC, .int (nI gd), .int (gc - (nI 1))]), (qC, ia E 20 (jnk Cm v w k))] H locs := hw
          have hw := hw.ext (g := jn Cm v w) 1 rfl (fun j hj => by have z_ : (j < k ∧ Cm j = Cm w) ↔ (Cm j = Cm w) := ⟨fun q => q.2, fun q => ⟨by omega, q⟩⟩; simp only [jnk, jn, z_])
          have hw : ZW E A s [(h0, ob 3 [.ref qC, .int (nI gd), .int (gc - (nI 1))]), (qC, ia E 20 (jn Cm v w))] H locs := hw
          have e_r68_0 : (gc - (nI 1)) = (jc Cm gc v w) := by rw [jc, if_neg c_18]
          exact ret () 68 ls H locs dX3_join_68 (trivial) ((hw).cast (zc (congrArg (fun z => ((h0, ob 3 [.ref qC, .int (nI gd), .int z]) : Nat × va_E)) e_r68_0) rfl))
        · refine lv_aload_n hx hb dX3_join_32 rfl (lv_at hl 0 rfl) ?_
          refine z_get cx hw 0 0 rfl rfl inlX3 (by decide) wd_57 rfl dX3_join_33 ?_
          refine lv_iload hx hb dX3_join_36 (lv_at hl 5 rfl) ?_
          refine z_ald cx hw 1 rfl (k) rfl (by omega) (by decide) dX3_join_38 ?_
          rw [jnk_at]
          refine lv_iload hx hb dX3_join_39 (lv_at hl 4 rfl) ?_
          refine lv_icmp_ne (tgt := 52) hx hb dX3_join_41 (by decide) (fun c_41 => ?_) (fun c_41 => ?_)
          · refine lv_iinc (v := nI (k + 1)) (lv' := [(5, .int (nI (k + 1))), (0, .ref h0), (1, .int (nI v)), (2, .int (nI w)), (3, .int (Cm v)), (4, .int (Cm w))]) hx hb dX3_join_52 hl (k := 5) rfl (nI_1 _) (by decide) rfl (fun ls hl => ?_)
            refine lv_goto (tgt := 25) hx hb dX3_join_55 (by decide) ?_
            have e_b25_0 : (jnk Cm v w k) = (jnk Cm v w (k + 1)) := by rw [jnk_f c_41]
            exact ih_25 (k + 1) (by omega) (by omega) _ _ ls ((hw).cast (zc rfl (zc (congrArg (fun z => ((qC, ia E 20 z) : Nat × va_E)) e_b25_0) rfl))) (lv_add (lv_add (lv_add (lv_add (lv_add (lv_add (lv_nil hl) (lv_at hl 0 rfl)) (lv_at hl 5 rfl)) (lv_at hl 4 rfl)) (lv_at hl 3 rfl)) (lv_at hl 2 rfl)) (lv_at hl 1 rfl))
          · refine lv_aload_n hx hb dX3_join_44 rfl (lv_at hl 0 rfl) ?_
            refine z_get cx hw 0 0 rfl rfl inlX3 (by decide) wd_57 rfl dX3_join_45 ?_
            refine lv_iload hx hb dX3_join_48 (lv_at hl 5 rfl) ?_
            refine lv_iload_n hx hb dX3_join_50 rfl (lv_at hl 3 rfl) ?_
            refine z_ast cx hw 1 rfl (k) rfl (by omega) (by decide) dX3_join_51 (fun H locs hw => ?_)
            have hw : ZW E A s [(h0, ob 3 [.ref qC, .int (nI gd), .int gc]), (qC, ia E 20 (upd (jnk Cm v w k) k (Cm v)))] H locs := hw
            refine lv_iinc (v := nI (k + 1)) (lv' := [(5, .int (nI (k + 1))), (0, .ref h0), (1, .int (nI v)), (2, .int (nI w)), (3, .int (Cm v)), (4, .int (Cm w))]) hx hb dX3_join_52 hl (k := 5) rfl (nI_1 _) (by decide) rfl (fun ls hl => ?_)
            refine lv_goto (tgt := 25) hx hb dX3_join_55 (by decide) ?_
            have e_b25_0 : (upd (jnk Cm v w k) k (Cm v)) = (jnk Cm v w (k + 1)) := by rw [jnk_t c_41]
            exact ih_25 (k + 1) (by omega) (by omega) _ _ ls ((hw).cast (zc rfl (zc (congrArg (fun z => ((qC, ia E 20 z) : Nat × va_E)) e_b25_0) rfl))) (lv_add (lv_add (lv_add (lv_add (lv_add (lv_add (lv_nil hl) (lv_at hl 0 rfl)) (lv_at hl 5 rfl)) (lv_at hl 4 rfl)) (lv_at hl 3 rfl)) (lv_at hl 2 rfl)) (lv_at hl 1 rfl))
    have e_i25_0 : Cm = (jnk Cm v w 0) := by rw [← jnk_0]
    exact loop_25 _ 0 (by omega) (Nat.lt_succ_self _) _ _ ls ((hw).cast (zc rfl (zc (congrArg (fun z => ((qC, ia E 20 z) : Nat × va_E)) e_i25_0) rfl))) (lv_add (lv_add (lv_add (lv_add (lv_add (lv_add (lv_nil hl) (lv_at hl 0 rfl)) (lv_at hl 1 rfl)) (lv_at hl 2 rfl)) (lv_at hl 5 rfl)) (lv_at hl 4 rfl)) (lv_at hl 3 rfl))
  · have e_r21_0 : gc = (jc Cm gc v w) := by rw [jc, if_pos c_18]
    have e_r21_1 : Cm = (jn Cm v w) := by exact jn_eq c_18
    exact ret () 21 ls s.heap [] dX3_join_21 (trivial) ((hw).cast (zc (congrArg (fun z => ((h0, ob 3 [.ref qC, .int (nI gd), .int z]) : Nat × va_E)) e_r21_0) (zc (congrArg (fun z => ((qC, ia E 20 z) : Nat × va_E)) e_r21_1) rfl)))

def rmX3_connect : Room := { frames := 3, cells := 0, slots := 0, locals := 64 }
set_option maxHeartbeats 4000000 in
set_option maxRecDepth 100000 in
theorem c_X3_connect (l : Launch) (E : ZE) (h0 qC : Nat) (Cm : Nat → Int32) (gd : Nat) (gc : Int32) (hC qp qd d0 d1 ql qg : Nat) (D0 D1 : Nat → Nat) (mm : Nat) (wo : Int32) (hmm : mm ≤ 24) (hD0 : Bd D0) (hD1 : Bd D1) : ZMv l yX3_connect cX3_connect 4 rmX3_connect E [.ref h0, .ref hC, .int wo] [(h0, ob 3 [.ref qC, .int (nI gd), .int gc]), (qC, ia E 20 Cm), (hC, ob 1 [.ref qp, .ref qd, .ref ql, .ref qg, .int (nI mm)]), (qd, ra E d0 d1), (d0, ia E 24 (nA D0)), (d1, ia E 24 (nA D1))] (S := Unit) (fun _ => True) (fun _ => [(h0, ob 3 [.ref qC, .int (nI (rk (kv D0 D1 mm) 20)), .int (ck D0 D1 wo mm mm)]), (qC, ia E 20 (cn D0 D1 wo mm mm)), (hC, ob 1 [.ref qp, .ref qd, .ref ql, .ref qg, .int (nI mm)]), (qd, ra E d0 d1), (d0, ia E 24 (nA D0)), (d1, ia E 24 (nA D1))]) := by
  refine z_mv (by decide) (Nat.le_of_ble_eq_true rfl) ?_
  intro p e s m args below meth c A Q ls cx hin hw hl ret
  obtain ⟨hx, hb, hml, hown, hts, hK, hN, hA, hlk⟩ := id cx
  have hl : lv_has ls 4 [(0, .ref h0), (1, .ref hC), (2, .int wo)] := hl
  refine lv_aload_n hx hb dX3_connect_0 rfl (lv_at hl 0 rfl) ?_
  refine lv_aload_n hx hb dX3_connect_1 rfl (lv_at hl 1 rfl) ?_
  refine z_rv0 (wr := []) cx hw [0, 1, 2, 3, 4, 5] [] rfl rfl (by decide) (by decide) rfl rfl (z_runV (As := [.ref hC]) (rest := []) cx hw rfl rfl [0, 1, 2, 3, 4, 5] rfl rfl (c_X3_enterDies l E h0 qC Cm gd gc hC qp qd d0 d1 ql qg D0 D1 mm (by omega) (hD0) (hD1) s.heap.size) mf_X3_enterDies wd_311 ⟨Nat.le_of_ble_eq_true rfl, Nat.le_of_ble_eq_true rfl⟩ hl (Nat.le_of_ble_eq_true rfl) dX3_connect_2 ⟨Nat.le_of_ble_eq_true rfl, Nat.le_of_ble_eq_true rfl⟩) (fun _ H locs hp hw => ?_)
  have hw : ZW E A s [(h0, ob 3 [.ref qC, .int (nI (rk (kv D0 D1 mm) 20)), .int gc]), (qC, ia E 20 (cmp0 (kv D0 D1 mm))), (hC, ob 1 [.ref qp, .ref qd, .ref ql, .ref qg, .int (nI mm)]), (qd, ra E d0 d1), (d0, ia E 24 (nA D0)), (d1, ia E 24 (nA D1))] H locs := hw
  refine lv_aload_n hx hb dX3_connect_5 rfl (lv_at hl 0 rfl) ?_
  refine lv_aload_n hx hb dX3_connect_6 rfl (lv_at hl 0 rfl) ?_
  refine z_get cx hw 0 1 rfl rfl inlX3 (by decide) wd_58 rfl dX3_connect_7 ?_
  refine z_put cx hw 0 2 rfl rfl inlX3 tyX3_ok nmX3 (by decide) wd_59 rfl rfl rfl (Nat.le_of_ble_eq_true rfl) dX3_connect_10 (fun H locs hw => ?_)
  have hw : ZW E A s [(h0, ob 3 [.ref qC, .int (nI (rk (kv D0 D1 mm) 20)), .int (nI (rk (kv D0 D1 mm) 20))]), (qC, ia E 20 (cmp0 (kv D0 D1 mm))), (hC, ob 1 [.ref qp, .ref qd, .ref ql, .ref qg, .int (nI mm)]), (qd, ra E d0 d1), (d0, ia E 24 (nA D0)), (d1, ia E 24 (nA D1))] H locs := hw
  refine lv_iconst (v := nI 0) hx hb dX3_connect_13 (by decide) ?_
  refine lv_istore_n (lv' := [(3, .int (nI 0)), (0, .ref h0), (1, .ref hC), (2, .int wo)]) hx hb dX3_connect_14 rfl hl (by decide) rfl (fun ls hl => ?_)
  have loop_15 : ∀ (fuel : Nat) (k : Nat) (hk : k ≤ mm) (hm : mm - k < fuel) (H : Heap) (locs : List Loc) (ls : Array Slot), ZW E A s [(h0, ob 3 [.ref qC, .int (nI (rk (kv D0 D1 mm) 20)), .int (ck D0 D1 wo mm k)]), (qC, ia E 20 (cn D0 D1 wo mm k)), (hC, ob 1 [.ref qp, .ref qd, .ref ql, .ref qg, .int (nI mm)]), (qd, ra E d0 d1), (d0, ia E 24 (nA D0)), (d1, ia E 24 (nA D1))] H locs → lv_has ls 4 [(0, .ref h0), (1, .ref hC), (2, .int wo), (3, .int (nI k))] → W p l e rmX3_connect s m args below meth c H locs 0 0 Q (F0 m 15 ls []) := by
    intro fuel
    induction fuel with
    | zero => intro k hk hm; exact absurd hm (Nat.not_lt_zero _)
    | succ fuel ih_15 =>
      intro k hk hm H locs ls hw hl
      refine lv_iload_n hx hb dX3_connect_15 rfl (lv_at hl 3 rfl) ?_
      refine lv_aload_n hx hb dX3_connect_16 rfl (lv_at hl 1 rfl) ?_
      refine z_getN cx hw 2 4 rfl rfl inlX1 (by decide) (nf_X3_26 hN) rfl dX3_connect_17 ?_
      refine z_icmp_ge hx hb (by omega) (by omega) 48 dX3_connect_20 (by decide) (fun c_20 => ?_) (fun c_20 => ?_)
      · have e_ : k = mm := by omega
        have e_r48_0 : (ck D0 D1 wo mm k) = (ck D0 D1 wo mm mm) := by rw [e_]
        have e_r48_1 : (cn D0 D1 wo mm k) = (cn D0 D1 wo mm mm) := by rw [e_]
        exact ret () 48 ls H locs dX3_connect_48 (trivial) ((hw).cast (zc (congrArg (fun z => ((h0, ob 3 [.ref qC, .int (nI (rk (kv D0 D1 mm) 20)), .int z]) : Nat × va_E)) e_r48_0) (zc (congrArg (fun z => ((qC, ia E 20 z) : Nat × va_E)) e_r48_1) rfl)))
      · refine lv_iload_n hx hb dX3_connect_23 rfl (lv_at hl 3 rfl) ?_
        refine lv_iload_n hx hb dX3_connect_24 rfl (lv_at hl 2 rfl) ?_
        refine lv_icmp_eq (tgt := 42) hx hb dX3_connect_25 (by decide) (fun c_25 => ?_) (fun c_25 => ?_)
        · refine lv_iinc (v := nI (k + 1)) (lv' := [(3, .int (nI (k + 1))), (0, .ref h0), (1, .ref hC), (2, .int wo)]) hx hb dX3_connect_42 hl (k := 3) rfl (nI_1 _) (by decide) rfl (fun ls hl => ?_)
          refine lv_goto (tgt := 15) hx hb dX3_connect_45 (by decide) ?_
          have e_b15_0 : (ck D0 D1 wo mm k) = (ck D0 D1 wo mm (k + 1)) := by simp only [ck, if_pos c_25]
          have e_b15_1 : (cn D0 D1 wo mm k) = (cn D0 D1 wo mm (k + 1)) := by simp only [cn, if_pos c_25]
          exact ih_15 (k + 1) (by omega) (by omega) _ _ ls ((hw).cast (zc (congrArg (fun z => ((h0, ob 3 [.ref qC, .int (nI (rk (kv D0 D1 mm) 20)), .int z]) : Nat × va_E)) e_b15_0) (zc (congrArg (fun z => ((qC, ia E 20 z) : Nat × va_E)) e_b15_1) rfl))) (lv_add (lv_add (lv_add (lv_add (lv_nil hl) (lv_at hl 0 rfl)) (lv_at hl 3 rfl)) (lv_at hl 2 rfl)) (lv_at hl 1 rfl))
        · refine lv_aload_n hx hb dX3_connect_28 rfl (lv_at hl 0 rfl) ?_
          refine lv_aload_n hx hb dX3_connect_29 rfl (lv_at hl 1 rfl) ?_
          refine lv_iload_n hx hb dX3_connect_30 rfl (lv_at hl 3 rfl) ?_
          refine z_ri0 (wr := [(h0, ob 3 [.ref qC, .int (nI (rk (kv D0 D1 mm) 20)), .int (ck D0 D1 wo mm k)]), (qC, ia E 20 (cn D0 D1 wo mm k))]) cx hw [2, 3, 4, 5] [0, 1] rfl rfl (by decide) (by decide) rfl rfl (z_runS (As := [.ref hC, .int (nI k)]) (rest := [.ref h0]) cx hw [2, 3, 4, 5] rfl rfl (c_X3_obverseOf l E hC qp qd d0 d1 ql qg D0 D1 mm k (by omega) H.size) mf_X3_obverseOf wd_316 ⟨Nat.le_of_ble_eq_true rfl, Nat.le_of_ble_eq_true rfl⟩ hl (Nat.le_of_ble_eq_true rfl) dX3_connect_31 ⟨Nat.le_of_ble_eq_true rfl, Nat.le_of_ble_eq_true rfl⟩) (fun r _ H locs hp hw => ?_)
          have hr_31 := hp
          have hr_31 : r = nI (D0 k) := hr_31
          subst hr_31
          have hw : ZW E A s [(h0, ob 3 [.ref qC, .int (nI (rk (kv D0 D1 mm) 20)), .int (ck D0 D1 wo mm k)]), (qC, ia E 20 (cn D0 D1 wo mm k)), (hC, ob 1 [.ref qp, .ref qd, .ref ql, .ref qg, .int (nI mm)]), (qd, ra E d0 d1), (d0, ia E 24 (nA D0)), (d1, ia E 24 (nA D1))] H locs := hw
          refine lv_aload_n hx hb dX3_connect_34 rfl (lv_at hl 1 rfl) ?_
          refine lv_iload_n hx hb dX3_connect_35 rfl (lv_at hl 3 rfl) ?_
          refine z_ri0 (wr := [(h0, ob 3 [.ref qC, .int (nI (rk (kv D0 D1 mm) 20)), .int (ck D0 D1 wo mm k)]), (qC, ia E 20 (cn D0 D1 wo mm k))]) cx hw [2, 3, 4, 5] [0, 1] rfl rfl (by decide) (by decide) rfl rfl (z_runS (As := [.ref hC, .int (nI k)]) (rest := [.int (nI (D0 k)), .ref h0]) cx hw [2, 3, 4, 5] rfl rfl (c_X3_reverseOf l E hC qp qd d0 d1 ql qg D0 D1 mm k (by omega) H.size) mf_X3_reverseOf wd_326 ⟨Nat.le_of_ble_eq_true rfl, Nat.le_of_ble_eq_true rfl⟩ hl (Nat.le_of_ble_eq_true rfl) dX3_connect_36 ⟨Nat.le_of_ble_eq_true rfl, Nat.le_of_ble_eq_true rfl⟩) (fun r _ H locs hp hw => ?_)
          have hr_36 := hp
          have hr_36 : r = nI (10 + D1 k) := hr_36
          subst hr_36
          have hw : ZW E A s [(h0, ob 3 [.ref qC, .int (nI (rk (kv D0 D1 mm) 20)), .int (ck D0 D1 wo mm k)]), (qC, ia E 20 (cn D0 D1 wo mm k)), (hC, ob 1 [.ref qp, .ref qd, .ref ql, .ref qg, .int (nI mm)]), (qd, ra E d0 d1), (d0, ia E 24 (nA D0)), (d1, ia E 24 (nA D1))] H locs := hw
          refine z_rv0 (wr := [(hC, ob 1 [.ref qp, .ref qd, .ref ql, .ref qg, .int (nI mm)]), (qd, ra E d0 d1), (d0, ia E 24 (nA D0)), (d1, ia E 24 (nA D1))]) cx hw [0, 1] [2, 3, 4, 5] rfl rfl (by decide) (by decide) rfl rfl (z_runV (As := [.int (nI (D0 k)), .int (nI (10 + D1 k))]) (rest := []) cx hw rfl rfl [0, 1] rfl rfl (c_X3_join l E h0 qC (cn D0 D1 wo mm k) (rk (kv D0 D1 mm) 20) (ck D0 D1 wo mm k) (D0 k) (10 + D1 k) (by have := hD0 k; omega) (by have := hD1 k; omega) H.size) mf_X3_join wd_329 ⟨Nat.le_of_ble_eq_true rfl, Nat.le_of_ble_eq_true rfl⟩ hl (Nat.le_of_ble_eq_true rfl) dX3_connect_39 ⟨Nat.le_of_ble_eq_true rfl, Nat.le_of_ble_eq_true rfl⟩) (fun _ H locs hp hw => ?_)
          have hw : ZW E A s [(hC, ob 1 [.ref qp, .ref qd, .ref ql, .ref qg, .int (nI mm)]), (qd, ra E d0 d1), (d0, ia E 24 (nA D0)), (d1, ia E 24 (nA D1)), (h0, ob 3 [.ref qC, .int (nI (rk (kv D0 D1 mm) 20)), .int (jc (cn D0 D1 wo mm k) (ck D0 D1 wo mm k) (D0 k) (10 + D1 k))]), (qC, ia E 20 (jn (cn D0 D1 wo mm k) (D0 k) (10 + D1 k)))] H locs := hw
          refine lv_iinc (v := nI (k + 1)) (lv' := [(3, .int (nI (k + 1))), (0, .ref h0), (1, .ref hC), (2, .int wo)]) hx hb dX3_connect_42 hl (k := 3) rfl (nI_1 _) (by decide) rfl (fun ls hl => ?_)
          refine lv_goto (tgt := 15) hx hb dX3_connect_45 (by decide) ?_
          have e_b15_0 : (jc (cn D0 D1 wo mm k) (ck D0 D1 wo mm k) (D0 k) (10 + D1 k)) = (ck D0 D1 wo mm (k + 1)) := by simp only [ck, if_neg c_25]
          have e_b15_1 : (jn (cn D0 D1 wo mm k) (D0 k) (10 + D1 k)) = (cn D0 D1 wo mm (k + 1)) := by simp only [cn, if_neg c_25]
          exact ih_15 (k + 1) (by omega) (by omega) _ _ ls ((hw.perm [4, 5, 0, 1, 2, 3] rfl (by decide)).cast (zc (congrArg (fun z => ((h0, ob 3 [.ref qC, .int (nI (rk (kv D0 D1 mm) 20)), .int z]) : Nat × va_E)) e_b15_0) (zc (congrArg (fun z => ((qC, ia E 20 z) : Nat × va_E)) e_b15_1) rfl))) (lv_add (lv_add (lv_add (lv_add (lv_nil hl) (lv_at hl 0 rfl)) (lv_at hl 3 rfl)) (lv_at hl 2 rfl)) (lv_at hl 1 rfl))
  have e_i15_0 : (nI (rk (kv D0 D1 mm) 20)) = (ck D0 D1 wo mm 0) := by rfl
  have e_i15_1 : (cmp0 (kv D0 D1 mm)) = (cn D0 D1 wo mm 0) := by rfl
  exact loop_15 _ 0 (by omega) (Nat.lt_succ_self _) _ _ ls ((hw).cast (zc (congrArg (fun z => ((h0, ob 3 [.ref qC, .int (nI (rk (kv D0 D1 mm) 20)), .int z]) : Nat × va_E)) e_i15_0) (zc (congrArg (fun z => ((qC, ia E 20 z) : Nat × va_E)) e_i15_1) rfl))) (lv_add (lv_add (lv_add (lv_add (lv_nil hl) (lv_at hl 0 rfl)) (lv_at hl 3 rfl)) (lv_at hl 2 rfl)) (lv_at hl 1 rfl))

def rmX3_fallsApartWithout : Room := { frames := 4, cells := 0, slots := 0, locals := 87 }
set_option maxHeartbeats 4000000 in
set_option maxRecDepth 100000 in
theorem c_X3_fallsApartWithout (l : Launch) (E : ZE) (h0 qC : Nat) (Cm : Nat → Int32) (gd : Nat) (gc : Int32) (hC qp qd d0 d1 ql qg : Nat) (D0 D1 : Nat → Nat) (mm : Nat) (k : Nat) (hmm : mm ≤ 24) (hD0 : Bd D0) (hD1 : Bd D1) (hk : k < mm) : ZMi l yX3_fallsApartWithout cX3_fallsApartWithout 3 (some .boolean) rmX3_fallsApartWithout E [.ref h0, .ref hC, .int (nI k)] [(h0, ob 3 [.ref qC, .int (nI gd), .int gc]), (qC, ia E 20 Cm), (hC, ob 1 [.ref qp, .ref qd, .ref ql, .ref qg, .int (nI mm)]), (qd, ra E d0 d1), (d0, ia E 24 (nA D0)), (d1, ia E 24 (nA D1))] (S := Unit) (fun r _ => r = bI (fa D0 D1 mm k)) (fun _ => [(h0, ob 3 [.ref qC, .int (nI (rk (kv D0 D1 mm) 20)), .int (ck D0 D1 (nI k) mm mm)]), (qC, ia E 20 (cn D0 D1 (nI k) mm mm)), (hC, ob 1 [.ref qp, .ref qd, .ref ql, .ref qg, .int (nI mm)]), (qd, ra E d0 d1), (d0, ia E 24 (nA D0)), (d1, ia E 24 (nA D1))]) := by
  refine z_mz (by decide) (Nat.le_of_ble_eq_true rfl) ?_
  intro p e s m args below meth c A Q ls cx hin hw hl ret
  obtain ⟨hx, hb, hml, hown, hts, hK, hN, hA, hlk⟩ := id cx
  have hl : lv_has ls 3 [(0, .ref h0), (1, .ref hC), (2, .int (nI k))] := hl
  refine lv_aload_n hx hb dX3_fallsApartWithout_0 rfl (lv_at hl 0 rfl) ?_
  refine lv_aload_n hx hb dX3_fallsApartWithout_1 rfl (lv_at hl 1 rfl) ?_
  refine lv_iload_n hx hb dX3_fallsApartWithout_2 rfl (lv_at hl 2 rfl) ?_
  refine z_rv0 (wr := []) cx hw [0, 1, 2, 3, 4, 5] [] rfl rfl (by decide) (by decide) rfl rfl (z_runV (As := [.ref hC, .int (nI k)]) (rest := []) cx hw rfl rfl [0, 1, 2, 3, 4, 5] rfl rfl (c_X3_connect l E h0 qC Cm gd gc hC qp qd d0 d1 ql qg D0 D1 mm (nI k) (by omega) (hD0) (hD1) s.heap.size) mf_X3_connect wd_367 ⟨Nat.le_of_ble_eq_true rfl, Nat.le_of_ble_eq_true rfl⟩ hl (Nat.le_of_ble_eq_true rfl) dX3_fallsApartWithout_3 ⟨Nat.le_of_ble_eq_true rfl, Nat.le_of_ble_eq_true rfl⟩) (fun _ H locs hp hw => ?_)
  have hw : ZW E A s [(h0, ob 3 [.ref qC, .int (nI (rk (kv D0 D1 mm) 20)), .int (ck D0 D1 (nI k) mm mm)]), (qC, ia E 20 (cn D0 D1 (nI k) mm mm)), (hC, ob 1 [.ref qp, .ref qd, .ref ql, .ref qg, .int (nI mm)]), (qd, ra E d0 d1), (d0, ia E 24 (nA D0)), (d1, ia E 24 (nA D1))] H locs := hw
  refine lv_aload_n hx hb dX3_fallsApartWithout_6 rfl (lv_at hl 0 rfl) ?_
  refine z_get cx hw 0 0 rfl rfl inlX3 (by decide) wd_57 rfl dX3_fallsApartWithout_7 ?_
  refine lv_aload_n hx hb dX3_fallsApartWithout_10 rfl (lv_at hl 1 rfl) ?_
  refine lv_iload_n hx hb dX3_fallsApartWithout_11 rfl (lv_at hl 2 rfl) ?_
  refine z_ri0 (wr := [(h0, ob 3 [.ref qC, .int (nI (rk (kv D0 D1 mm) 20)), .int (ck D0 D1 (nI k) mm mm)]), (qC, ia E 20 (cn D0 D1 (nI k) mm mm))]) cx hw [2, 3, 4, 5] [0, 1] rfl rfl (by decide) (by decide) rfl rfl (z_runS (As := [.ref hC, .int (nI k)]) (rest := [.ref qC]) cx hw [2, 3, 4, 5] rfl rfl (c_X3_obverseOf l E hC qp qd d0 d1 ql qg D0 D1 mm k (by omega) H.size) mf_X3_obverseOf wd_316 ⟨Nat.le_of_ble_eq_true rfl, Nat.le_of_ble_eq_true rfl⟩ hl (Nat.le_of_ble_eq_true rfl) dX3_fallsApartWithout_12 ⟨Nat.le_of_ble_eq_true rfl, Nat.le_of_ble_eq_true rfl⟩) (fun r _ H locs hp hw => ?_)
  have hr_12 := hp
  have hr_12 : r = nI (D0 k) := hr_12
  subst hr_12
  have hw : ZW E A s [(h0, ob 3 [.ref qC, .int (nI (rk (kv D0 D1 mm) 20)), .int (ck D0 D1 (nI k) mm mm)]), (qC, ia E 20 (cn D0 D1 (nI k) mm mm)), (hC, ob 1 [.ref qp, .ref qd, .ref ql, .ref qg, .int (nI mm)]), (qd, ra E d0 d1), (d0, ia E 24 (nA D0)), (d1, ia E 24 (nA D1))] H locs := hw
  have b_ := hD0 k
  refine z_ald cx hw 1 rfl (D0 k) rfl (by omega) (by decide) dX3_fallsApartWithout_15 ?_
  refine lv_aload_n hx hb dX3_fallsApartWithout_16 rfl (lv_at hl 0 rfl) ?_
  refine z_get cx hw 0 0 rfl rfl inlX3 (by decide) wd_57 rfl dX3_fallsApartWithout_17 ?_
  refine lv_aload_n hx hb dX3_fallsApartWithout_20 rfl (lv_at hl 1 rfl) ?_
  refine lv_iload_n hx hb dX3_fallsApartWithout_21 rfl (lv_at hl 2 rfl) ?_
  refine z_ri0 (wr := [(h0, ob 3 [.ref qC, .int (nI (rk (kv D0 D1 mm) 20)), .int (ck D0 D1 (nI k) mm mm)]), (qC, ia E 20 (cn D0 D1 (nI k) mm mm))]) cx hw [2, 3, 4, 5] [0, 1] rfl rfl (by decide) (by decide) rfl rfl (z_runS (As := [.ref hC, .int (nI k)]) (rest := [.ref qC, .int ((cn D0 D1 (nI k) mm mm) (D0 k))]) cx hw [2, 3, 4, 5] rfl rfl (c_X3_reverseOf l E hC qp qd d0 d1 ql qg D0 D1 mm k (by omega) H.size) mf_X3_reverseOf wd_326 ⟨Nat.le_of_ble_eq_true rfl, Nat.le_of_ble_eq_true rfl⟩ hl (Nat.le_of_ble_eq_true rfl) dX3_fallsApartWithout_22 ⟨Nat.le_of_ble_eq_true rfl, Nat.le_of_ble_eq_true rfl⟩) (fun r _ H locs hp hw => ?_)
  have hr_22 := hp
  have hr_22 : r = nI (10 + D1 k) := hr_22
  subst hr_22
  have hw : ZW E A s [(h0, ob 3 [.ref qC, .int (nI (rk (kv D0 D1 mm) 20)), .int (ck D0 D1 (nI k) mm mm)]), (qC, ia E 20 (cn D0 D1 (nI k) mm mm)), (hC, ob 1 [.ref qp, .ref qd, .ref ql, .ref qg, .int (nI mm)]), (qd, ra E d0 d1), (d0, ia E 24 (nA D0)), (d1, ia E 24 (nA D1))] H locs := hw
  have b2_ := hD1 k
  refine z_ald cx hw 1 rfl (10 + D1 k) rfl (by omega) (by decide) dX3_fallsApartWithout_25 ?_
  refine lv_icmp_eq (tgt := 33) hx hb dX3_fallsApartWithout_26 (by decide) (fun c_26 => ?_) (fun c_26 => ?_)
  · refine lv_iconst (v := nI 0) hx hb dX3_fallsApartWithout_33 (by decide) ?_
    exact ret false () 34 ls H locs dX3_fallsApartWithout_34 (congrArg bI (by exact (decide_eq_false (fun q => q c_26)).symm)) (hw)
  · refine lv_iconst (v := nI 1) hx hb dX3_fallsApartWithout_29 (by decide) ?_
    refine lv_goto (tgt := 34) hx hb dX3_fallsApartWithout_30 (by decide) ?_
    exact ret true () 34 ls H locs dX3_fallsApartWithout_34 (congrArg bI (by exact (decide_eq_true c_26).symm)) (hw)

def rmX3_diesAround : Room := { frames := 1, cells := 0, slots := 0, locals := 21 }
set_option maxHeartbeats 4000000 in
set_option maxRecDepth 100000 in
theorem c_X3_diesAround (l : Launch) (E : ZE) (h0 qC : Nat) (Cm : Nat → Int32) (gd : Nat) (gc : Int32) (sd d : Nat) (hs : sd < 2) (hd2 : d < 10) : ZMi l yX3_diesAround cX3_diesAround 6 (some .int) rmX3_diesAround E [.ref h0, .int (nI sd), .int (nI d)] [(h0, ob 3 [.ref qC, .int (nI gd), .int gc]), (qC, ia E 20 Cm)] (S := Unit) (fun r _ => r = nI (dar Cm (10 * sd + d))) (fun _ => [(h0, ob 3 [.ref qC, .int (nI gd), .int gc]), (qC, ia E 20 Cm)]) := by
  refine z_mi (by decide) (Nat.le_of_ble_eq_true rfl) ?_
  intro p e s m args below meth c A Q ls cx hin hw hl ret
  obtain ⟨hx, hb, hml, hown, hts, hK, hN, hA, hlk⟩ := id cx
  have hl : lv_has ls 6 [(0, .ref h0), (1, .int (nI sd)), (2, .int (nI d))] := hl
  refine lv_aload_n hx hb dX3_diesAround_0 rfl (lv_at hl 0 rfl) ?_
  refine z_get cx hw 0 0 rfl rfl inlX3 (by decide) wd_57 rfl dX3_diesAround_1 ?_
  refine lv_iload_n hx hb dX3_diesAround_4 rfl (lv_at hl 1 rfl) ?_
  refine lv_iload_n hx hb dX3_diesAround_5 rfl (lv_at hl 2 rfl) ?_
  refine z_ri0 (wr := [(h0, ob 3 [.ref qC, .int (nI gd), .int gc]), (qC, ia E 20 Cm)]) cx hw [] [0, 1] rfl rfl (by decide) (by decide) rfl rfl (z_runS (As := [.int (nI sd), .int (nI d)]) (rest := [.ref qC]) cx hw [] rfl rfl (c_X3_vertexOf l E sd d  s.heap.size) mf_X3_vertexOf wd_319 ⟨Nat.le_of_ble_eq_true rfl, Nat.le_of_ble_eq_true rfl⟩ hl (Nat.le_of_ble_eq_true rfl) dX3_diesAround_6 ⟨Nat.le_of_ble_eq_true rfl, Nat.le_of_ble_eq_true rfl⟩) (fun r _ H locs hp hw => ?_)
  have hr_6 := hp
  have hr_6 : r = nI (sd * 10 + d) := hr_6
  subst hr_6
  have hw : ZW E A s [(h0, ob 3 [.ref qC, .int (nI gd), .int gc]), (qC, ia E 20 Cm)] H locs := hw
  refine z_ald cx hw 1 rfl (10 * sd + d) (congrArg nI (by omega)) (by omega) (by decide) dX3_diesAround_9 ?_
  refine lv_istore_n (lv' := [(3, .int (Cm (10 * sd + d))), (0, .ref h0), (1, .int (nI sd)), (2, .int (nI d))]) hx hb dX3_diesAround_10 rfl hl (by decide) rfl (fun ls hl => ?_)
  refine lv_iload_n hx hb dX3_diesAround_11 rfl (lv_at hl 0 rfl) ?_
  refine lv_iconst (v := (-1)) hx hb dX3_diesAround_12 (by decide) ?_
  refine lv_icmp_ne (tgt := 18) hx hb dX3_diesAround_13 (by decide) (fun c_13 => ?_) (fun c_13 => ?_)
  · refine lv_iconst (v := nI 0) hx hb dX3_diesAround_18 (by decide) ?_
    refine lv_istore (lv' := [(4, .int (nI 0)), (3, .int (Cm (10 * sd + d))), (0, .ref h0), (1, .int (nI sd)), (2, .int (nI d))]) hx hb dX3_diesAround_19 hl (by decide) rfl (fun ls hl => ?_)
    refine lv_iconst (v := nI 0) hx hb dX3_diesAround_21 (by decide) ?_
    refine lv_istore (lv' := [(5, .int (nI 0)), (4, .int (nI 0)), (3, .int (Cm (10 * sd + d))), (0, .ref h0), (1, .int (nI sd)), (2, .int (nI d))]) hx hb dX3_diesAround_22 hl (by decide) rfl (fun ls hl => ?_)
    have loop_24 : ∀ (fuel : Nat) (k : Nat) (hk : k ≤ 20) (hm : 20 - k < fuel) (H : Heap) (locs : List Loc) (ls : Array Slot), ZW E A s [(h0, ob 3 [.ref qC, .int (nI gd), .int gc]), (qC, ia E 20 Cm)] H locs → lv_has ls 6 [(0, .ref h0), (1, .int (nI sd)), (2, .int (nI d)), (3, .int (Cm (10 * sd + d))), (4, .int (nI (cq Cm (Cm (10 * sd + d)) k))), (5, .int (nI k))] → W p l e rmX3_diesAround s m args below meth c H locs 0 0 Q (F0 m 24 ls []) := by
      intro fuel
      induction fuel with
      | zero => intro k hk hm; exact absurd hm (Nat.not_lt_zero _)
      | succ fuel ih_24 =>
        intro k hk hm H locs ls hw hl
        refine lv_iload hx hb dX3_diesAround_24 (lv_at hl 5 rfl) ?_
        refine lv_bipush (v := nI 20) hx hb dX3_diesAround_26 (by decide) ?_
        refine z_icmp_ge hx hb (by omega) (by decide) 51 dX3_diesAround_28 (by decide) (fun c_28 => ?_) (fun c_28 => ?_)
        · refine lv_iload hx hb dX3_diesAround_51 (lv_at hl 4 rfl) ?_
          have e_ : k = 20 := by omega
          exact ret (nI (cq Cm (Cm (10 * sd + d)) k)) () 53 ls H locs dX3_diesAround_53 (congrArg nI (by rw [dar, if_neg c_13, e_])) (hw)
        · refine lv_aload_n hx hb dX3_diesAround_31 rfl (lv_at hl 0 rfl) ?_
          refine z_get cx hw 0 0 rfl rfl inlX3 (by decide) wd_57 rfl dX3_diesAround_32 ?_
          refine lv_iload hx hb dX3_diesAround_35 (lv_at hl 5 rfl) ?_
          refine z_ald cx hw 1 rfl (k) rfl (by omega) (by decide) dX3_diesAround_37 ?_
          refine lv_iload_n hx hb dX3_diesAround_38 rfl (lv_at hl 3 rfl) ?_
          refine lv_icmp_ne (tgt := 45) hx hb dX3_diesAround_39 (by decide) (fun c_39 => ?_) (fun c_39 => ?_)
          · refine lv_iinc (v := nI (k + 1)) (lv' := [(5, .int (nI (k + 1))), (0, .ref h0), (1, .int (nI sd)), (2, .int (nI d)), (3, .int (Cm (10 * sd + d))), (4, .int (nI (cq Cm (Cm (10 * sd + d)) k)))]) hx hb dX3_diesAround_45 hl (k := 5) rfl (nI_1 _) (by decide) rfl (fun ls hl => ?_)
            refine lv_goto (tgt := 24) hx hb dX3_diesAround_48 (by decide) ?_
            exact ih_24 (k + 1) (by omega) (by omega) _ _ ls (hw) (lv_add (lv_add (lv_add (lv_add (lv_add (lv_add (lv_nil hl) (lv_at hl 0 rfl)) (lv_eqv (lv_at hl 5 rfl) (zN (by simp [cq, c_39])))) (lv_at hl 4 rfl)) (lv_at hl 3 rfl)) (lv_at hl 2 rfl)) (lv_at hl 1 rfl))
          · refine lv_iinc (v := nI (cq Cm (Cm (10 * sd + d)) k + 1)) (lv' := [(4, .int (nI (cq Cm (Cm (10 * sd + d)) k + 1))), (0, .ref h0), (1, .int (nI sd)), (2, .int (nI d)), (3, .int (Cm (10 * sd + d))), (5, .int (nI k))]) hx hb dX3_diesAround_42 hl (k := 4) rfl (nI_1 _) (by decide) rfl (fun ls hl => ?_)
            refine lv_iinc (v := nI (k + 1)) (lv' := [(5, .int (nI (k + 1))), (4, .int (nI (cq Cm (Cm (10 * sd + d)) k + 1))), (0, .ref h0), (1, .int (nI sd)), (2, .int (nI d)), (3, .int (Cm (10 * sd + d)))]) hx hb dX3_diesAround_45 hl (k := 5) rfl (nI_1 _) (by decide) rfl (fun ls hl => ?_)
            refine lv_goto (tgt := 24) hx hb dX3_diesAround_48 (by decide) ?_
            exact ih_24 (k + 1) (by omega) (by omega) _ _ ls (hw) (lv_add (lv_add (lv_add (lv_add (lv_add (lv_add (lv_nil hl) (lv_at hl 0 rfl)) (lv_eqv (lv_at hl 1 rfl) (zN (by simp [cq, c_39])))) (lv_at hl 5 rfl)) (lv_at hl 4 rfl)) (lv_at hl 3 rfl)) (lv_at hl 2 rfl))
    exact loop_24 _ 0 (by omega) (Nat.lt_succ_self _) _ _ ls (hw) (lv_add (lv_add (lv_add (lv_add (lv_add (lv_add (lv_nil hl) (lv_at hl 0 rfl)) (lv_eqv (lv_at hl 1 rfl) (zN (by rfl)))) (lv_at hl 2 rfl)) (lv_at hl 5 rfl)) (lv_at hl 4 rfl)) (lv_at hl 3 rfl))
  · refine lv_iconst (v := nI 0) hx hb dX3_diesAround_16 (by decide) ?_
    exact ret (nI 0) () 17 ls H locs dX3_diesAround_17 (congrArg nI (by rw [dar, if_pos c_13])) (hw)

def rmX0_init : Room := { frames := 1, cells := 3, slots := 72, locals := 24 }
set_option maxHeartbeats 4000000 in
set_option maxRecDepth 100000 in
theorem c_X0_init (l : Launch) (E : ZE) (h0 : Nat)  : ZMv l yX0_init cX0_init 1 rmX0_init E [.ref h0] [(h0, ob 0 [.null, .null, .null])] (S := Nat × Nat × Nat) (fun u => True) (fun u => [(h0, ob 0 [.ref u.1, .ref u.2.1, .ref u.2.2]), (u.1, ia E 24 (nA (fun _ => 0))), (u.2.1, ia E 24 (nA (fun _ => 0))), (u.2.2, ia E 24 (nA (fun _ => 0)))]) := by
  refine z_mv (by decide) (Nat.le_of_ble_eq_true rfl) ?_
  intro p e s m args below meth c A Q ls cx hin hw hl ret
  obtain ⟨hx, hb, hml, hown, hts, hK, hN, hA, hlk⟩ := id cx
  have hl : lv_has ls 1 [(0, .ref h0)] := hl
  refine lv_aload_n hx hb dX0_init_0 rfl (lv_at hl 0 rfl) ?_
  refine z_obj cx hl wd_62 (Nat.le_of_ble_eq_true rfl) (Nat.le_of_ble_eq_true rfl) dX0_init_1 ?_
  refine lv_aload_n hx hb dX0_init_4 rfl (lv_at hl 0 rfl) ?_
  refine lv_bipush (v := nI 24) hx hb dX0_init_5 (by decide) ?_
  refine z_newa (atype := .int) (a0 := (24, .inl (nA (fun _ => 0)))) (k := 0) cx hw 24 rfl (by decide) rfl rfl (fun _ h => by cases h) (fun _ => rfl) (by decide) wd_35 (Nat.le_of_ble_eq_true rfl) (Nat.le_of_ble_eq_true rfl) dX0_init_7 (fun q7 H hw => ?_)
  refine W.widen (k := 1) (n := 24) (Nat.le_of_ble_eq_true rfl) (Nat.le_of_ble_eq_true rfl) ?_
  have hw : ZW E A s [(h0, ob 0 [.null, .null, .null]), (q7, ia E 24 (nA (fun _ => 0)))] H [] := hw
  refine z_putF cx hw 0 0 rfl rfl inlX0 tyX0_ok nmX0 (by decide) wd_63 rfl hin rfl rfl rfl (Nat.le_of_ble_eq_true rfl) dX0_init_9 (fun H locs hw => ?_)
  have hw : ZW E A s [(h0, ob 0 [.ref q7, .null, .null]), (q7, ia E 24 (nA (fun _ => 0)))] H locs := hw
  refine lv_aload_n hx hb dX0_init_12 rfl (lv_at hl 0 rfl) ?_
  refine lv_bipush (v := nI 24) hx hb dX0_init_13 (by decide) ?_
  refine z_newa (atype := .int) (a0 := (24, .inl (nA (fun _ => 0)))) (k := 0) cx hw 24 rfl (by decide) rfl rfl (fun _ h => by cases h) (fun _ => rfl) (by decide) wd_35 (Nat.le_of_ble_eq_true rfl) (Nat.le_of_ble_eq_true rfl) dX0_init_15 (fun q15 H hw => ?_)
  refine W.widen (k := 2) (n := 48) (Nat.le_of_ble_eq_true rfl) (Nat.le_of_ble_eq_true rfl) ?_
  have hw : ZW E A s [(h0, ob 0 [.ref q7, .null, .null]), (q7, ia E 24 (nA (fun _ => 0))), (q15, ia E 24 (nA (fun _ => 0)))] H locs := hw
  refine z_putF cx hw 0 1 rfl rfl inlX0 tyX0_ok nmX0 (by decide) wd_64 rfl hin rfl rfl rfl (Nat.le_of_ble_eq_true rfl) dX0_init_17 (fun H locs hw => ?_)
  have hw : ZW E A s [(h0, ob 0 [.ref q7, .ref q15, .null]), (q7, ia E 24 (nA (fun _ => 0))), (q15, ia E 24 (nA (fun _ => 0)))] H locs := hw
  refine lv_aload_n hx hb dX0_init_20 rfl (lv_at hl 0 rfl) ?_
  refine lv_bipush (v := nI 24) hx hb dX0_init_21 (by decide) ?_
  refine z_newa (atype := .int) (a0 := (24, .inl (nA (fun _ => 0)))) (k := 0) cx hw 24 rfl (by decide) rfl rfl (fun _ h => by cases h) (fun _ => rfl) (by decide) wd_35 (Nat.le_of_ble_eq_true rfl) (Nat.le_of_ble_eq_true rfl) dX0_init_23 (fun q23 H hw => ?_)
  refine W.widen (k := 3) (n := 72) (Nat.le_of_ble_eq_true rfl) (Nat.le_of_ble_eq_true rfl) ?_
  have hw : ZW E A s [(h0, ob 0 [.ref q7, .ref q15, .null]), (q7, ia E 24 (nA (fun _ => 0))), (q15, ia E 24 (nA (fun _ => 0))), (q23, ia E 24 (nA (fun _ => 0)))] H locs := hw
  refine z_putF cx hw 0 2 rfl rfl inlX0 tyX0_ok nmX0 (by decide) wd_65 rfl hin rfl rfl rfl (Nat.le_of_ble_eq_true rfl) dX0_init_25 (fun H locs hw => ?_)
  have hw : ZW E A s [(h0, ob 0 [.ref q7, .ref q15, .ref q23]), (q7, ia E 24 (nA (fun _ => 0))), (q15, ia E 24 (nA (fun _ => 0))), (q23, ia E 24 (nA (fun _ => 0)))] H locs := hw
  exact ret (q7, q15, q23) 28 ls H locs dX0_init_28 (trivial) (hw)

def rmX0_countEarlier : Room := { frames := 2, cells := 0, slots := 0, locals := 45 }
set_option maxHeartbeats 4000000 in
set_option maxRecDepth 100000 in
theorem c_X0_countEarlier (l : Launch) (E : ZE) (h0 qo qe qw : Nat) (OR DP : Nat → Nat) (WF : Nat → Int32) (hC qp qd d0 d1 ql l0 l1 qg g0 g1 : Nat) (P : Nat → Int32) (D0 D1 L0 L1 G0 G1 : Nat → Nat) (mm : Nat) (hmm : mm ≤ 24) (hB : Bd6 D0 D1 L0 L1 G0 G1) : ZMv l yX0_countEarlier cX0_countEarlier 4 rmX0_countEarlier E [.ref h0, .ref hC] [(h0, ob 0 [.ref qo, .ref qe, .ref qw]), (qo, ia E 24 (nA OR)), (qe, ia E 24 (nA DP)), (qw, ia E 24 WF), (hC, ob 1 [.ref qp, .ref qd, .ref ql, .ref qg, .int (nI mm)]), (qp, ia E 100 P), (qd, ra E d0 d1), (d0, ia E 24 (nA D0)), (d1, ia E 24 (nA D1)), (ql, ra E l0 l1), (l0, ia E 24 (nA L0)), (l1, ia E 24 (nA L1)), (qg, ra E g0 g1), (g0, ia E 24 (nA G0)), (g1, ia E 24 (nA G1))] (S := Unit) (fun _ => True) (fun _ => [(h0, ob 0 [.ref qo, .ref qe, .ref qw]), (qo, ia E 24 (nA OR)), (qe, ia E 24 (nA (fun _ => 0))), (qw, ia E 24 (nA (wcE (erl D0 D1 L0 L1 G0 G1) mm mm))), (hC, ob 1 [.ref qp, .ref qd, .ref ql, .ref qg, .int (nI mm)]), (qp, ia E 100 P), (qd, ra E d0 d1), (d0, ia E 24 (nA D0)), (d1, ia E 24 (nA D1)), (ql, ra E l0 l1), (l0, ia E 24 (nA L0)), (l1, ia E 24 (nA L1)), (qg, ra E g0 g1), (g0, ia E 24 (nA G0)), (g1, ia E 24 (nA G1))]) := by
  refine z_mv (by decide) (Nat.le_of_ble_eq_true rfl) ?_
  intro p e s m args below meth c A Q ls cx hin hw hl ret
  obtain ⟨hx, hb, hml, hown, hts, hK, hN, hA, hlk⟩ := id cx
  have hl : lv_has ls 4 [(0, .ref h0), (1, .ref hC)] := hl
  refine lv_aload_n hx hb dX0_countEarlier_0 rfl (lv_at hl 0 rfl) ?_
  refine z_get cx hw 0 2 rfl rfl inlX0 (by decide) wd_65 rfl dX0_countEarlier_1 ?_
  refine lv_iconst (v := nI 0) hx hb dX0_countEarlier_4 (by decide) ?_
  refine z_rv0 (wr := [(h0, ob 0 [.ref qo, .ref qe, .ref qw]), (qo, ia E 24 (nA OR)), (qe, ia E 24 (nA DP)), (hC, ob 1 [.ref qp, .ref qd, .ref ql, .ref qg, .int (nI mm)]), (qp, ia E 100 P), (qd, ra E d0 d1), (d0, ia E 24 (nA D0)), (d1, ia E 24 (nA D1)), (ql, ra E l0 l1), (l0, ia E 24 (nA L0)), (l1, ia E 24 (nA L1)), (qg, ra E g0 g1), (g0, ia E 24 (nA G0)), (g1, ia E 24 (nA G1))]) cx hw [3] [0, 1, 2, 4, 5, 6, 7, 8, 9, 10, 11, 12, 13, 14] rfl rfl (by decide) (by decide) rfl rfl (z_runS (As := [.ref qw, .int (nI 0)]) (rest := []) cx hw [3] rfl rfl (c_J7_fill_5317824 l E qw WF (nI 0)  s.heap.size) mf_J7_fill_53178 wd_414 ⟨Nat.le_of_ble_eq_true rfl, Nat.le_of_ble_eq_true rfl⟩ hl (Nat.le_of_ble_eq_true rfl) dX0_countEarlier_5 ⟨Nat.le_of_ble_eq_true rfl, Nat.le_of_ble_eq_true rfl⟩) (fun _ H locs hp hw => ?_)
  have hw : ZW E A s [(h0, ob 0 [.ref qo, .ref qe, .ref qw]), (qo, ia E 24 (nA OR)), (qe, ia E 24 (nA DP)), (hC, ob 1 [.ref qp, .ref qd, .ref ql, .ref qg, .int (nI mm)]), (qp, ia E 100 P), (qd, ra E d0 d1), (d0, ia E 24 (nA D0)), (d1, ia E 24 (nA D1)), (ql, ra E l0 l1), (l0, ia E 24 (nA L0)), (l1, ia E 24 (nA L1)), (qg, ra E g0 g1), (g0, ia E 24 (nA G0)), (g1, ia E 24 (nA G1)), (qw, ia E 24 (fun _ => (nI 0)))] H locs := hw
  refine lv_aload_n hx hb dX0_countEarlier_8 rfl (lv_at hl 0 rfl) ?_
  refine z_get cx hw 0 1 rfl rfl inlX0 (by decide) wd_64 rfl dX0_countEarlier_9 ?_
  refine lv_iconst (v := nI 0) hx hb dX0_countEarlier_12 (by decide) ?_
  refine z_rv0 (wr := [(h0, ob 0 [.ref qo, .ref qe, .ref qw]), (qo, ia E 24 (nA OR)), (hC, ob 1 [.ref qp, .ref qd, .ref ql, .ref qg, .int (nI mm)]), (qp, ia E 100 P), (qd, ra E d0 d1), (d0, ia E 24 (nA D0)), (d1, ia E 24 (nA D1)), (ql, ra E l0 l1), (l0, ia E 24 (nA L0)), (l1, ia E 24 (nA L1)), (qg, ra E g0 g1), (g0, ia E 24 (nA G0)), (g1, ia E 24 (nA G1)), (qw, ia E 24 (fun _ => (nI 0)))]) cx hw [2] [0, 1, 3, 4, 5, 6, 7, 8, 9, 10, 11, 12, 13, 14] rfl rfl (by decide) (by decide) rfl rfl (z_runS (As := [.ref qe, .int (nI 0)]) (rest := []) cx hw [2] rfl rfl (c_J7_fill_5317824 l E qe (nA DP) (nI 0)  H.size) mf_J7_fill_53178 wd_414 ⟨Nat.le_of_ble_eq_true rfl, Nat.le_of_ble_eq_true rfl⟩ hl (Nat.le_of_ble_eq_true rfl) dX0_countEarlier_13 ⟨Nat.le_of_ble_eq_true rfl, Nat.le_of_ble_eq_true rfl⟩) (fun _ H locs hp hw => ?_)
  have hw : ZW E A s [(h0, ob 0 [.ref qo, .ref qe, .ref qw]), (qo, ia E 24 (nA OR)), (hC, ob 1 [.ref qp, .ref qd, .ref ql, .ref qg, .int (nI mm)]), (qp, ia E 100 P), (qd, ra E d0 d1), (d0, ia E 24 (nA D0)), (d1, ia E 24 (nA D1)), (ql, ra E l0 l1), (l0, ia E 24 (nA L0)), (l1, ia E 24 (nA L1)), (qg, ra E g0 g1), (g0, ia E 24 (nA G0)), (g1, ia E 24 (nA G1)), (qw, ia E 24 (fun _ => (nI 0))), (qe, ia E 24 (fun _ => (nI 0)))] H locs := hw
  refine lv_iconst (v := nI 0) hx hb dX0_countEarlier_16 (by decide) ?_
  refine lv_istore_n (lv' := [(2, .int (nI 0)), (0, .ref h0), (1, .ref hC)]) hx hb dX0_countEarlier_17 rfl hl (by decide) rfl (fun ls hl => ?_)
  have loop_18 : ∀ (fuel : Nat) (k : Nat) (hk : k ≤ mm) (hm : mm - k < fuel) (H : Heap) (locs : List Loc) (ls : Array Slot), ZW E A s [(h0, ob 0 [.ref qo, .ref qe, .ref qw]), (qo, ia E 24 (nA OR)), (hC, ob 1 [.ref qp, .ref qd, .ref ql, .ref qg, .int (nI mm)]), (qp, ia E 100 P), (qd, ra E d0 d1), (d0, ia E 24 (nA D0)), (d1, ia E 24 (nA D1)), (ql, ra E l0 l1), (l0, ia E 24 (nA L0)), (l1, ia E 24 (nA L1)), (qg, ra E g0 g1), (g0, ia E 24 (nA G0)), (g1, ia E 24 (nA G1)), (qw, ia E 24 (nA (wcE (erl D0 D1 L0 L1 G0 G1) mm k))), (qe, ia E 24 (nA (fun _ => 0)))] H locs → lv_has ls 4 [(0, .ref h0), (1, .ref hC), (2, .int (nI k))] → W p l e rmX0_countEarlier s m args below meth c H locs 0 0 Q (F0 m 18 ls []) := by
    intro fuel
    induction fuel with
    | zero => intro k hk hm; exact absurd hm (Nat.not_lt_zero _)
    | succ fuel ih_18 =>
      intro k hk hm H locs ls hw hl
      refine lv_iload_n hx hb dX0_countEarlier_18 rfl (lv_at hl 2 rfl) ?_
      refine lv_aload_n hx hb dX0_countEarlier_19 rfl (lv_at hl 1 rfl) ?_
      refine z_getN cx hw 2 4 rfl rfl inlX1 (by decide) (nf_X0_25 hN) rfl dX0_countEarlier_20 ?_
      refine z_icmp_ge hx hb (by omega) (by omega) 72 dX0_countEarlier_23 (by decide) (fun c_23 => ?_) (fun c_23 => ?_)
      · have e_ : k = mm := by omega
        have e_r72_0 : (wcE (erl D0 D1 L0 L1 G0 G1) mm k) = (wcE (erl D0 D1 L0 L1 G0 G1) mm mm) := by rw [e_]
        exact ret () 72 ls H locs dX0_countEarlier_72 (trivial) ((hw.perm [0, 1, 14, 13, 2, 3, 4, 5, 6, 7, 8, 9, 10, 11, 12] rfl (by decide)).cast (zc rfl (zc rfl (zc rfl (zc (congrArg (fun z => ((qw, ia E 24 (nA z)) : Nat × va_E)) e_r72_0) rfl)))))
      · refine lv_iconst (v := nI 0) hx hb dX0_countEarlier_26 (by decide) ?_
        refine lv_istore_n (lv' := [(3, .int (nI 0)), (0, .ref h0), (1, .ref hC), (2, .int (nI k))]) hx hb dX0_countEarlier_27 rfl hl (by decide) rfl (fun ls hl => ?_)
        have loop_28 : ∀ (fuel : Nat) (i : Nat) (hi : i ≤ mm) (hm : mm - i < fuel) (H : Heap) (locs : List Loc) (ls : Array Slot), ZW E A s [(h0, ob 0 [.ref qo, .ref qe, .ref qw]), (qo, ia E 24 (nA OR)), (hC, ob 1 [.ref qp, .ref qd, .ref ql, .ref qg, .int (nI mm)]), (qp, ia E 100 P), (qd, ra E d0 d1), (d0, ia E 24 (nA D0)), (d1, ia E 24 (nA D1)), (ql, ra E l0 l1), (l0, ia E 24 (nA L0)), (l1, ia E 24 (nA L1)), (qg, ra E g0 g1), (g0, ia E 24 (nA G0)), (g1, ia E 24 (nA G1)), (qw, ia E 24 (nA (wci (erl D0 D1 L0 L1 G0 G1) mm k i))), (qe, ia E 24 (nA (fun _ => 0)))] H locs → lv_has ls 4 [(0, .ref h0), (1, .ref hC), (2, .int (nI k)), (3, .int (nI i))] → W p l e rmX0_countEarlier s m args below meth c H locs 0 0 Q (F0 m 28 ls []) := by
          intro fuel
          induction fuel with
          | zero => intro i hi hm; exact absurd hm (Nat.not_lt_zero _)
          | succ fuel ih_28 =>
            intro i hi hm H locs ls hw hl
            refine lv_iload_n hx hb dX0_countEarlier_28 rfl (lv_at hl 3 rfl) ?_
            refine lv_aload_n hx hb dX0_countEarlier_29 rfl (lv_at hl 1 rfl) ?_
            refine z_getN cx hw 2 4 rfl rfl inlX1 (by decide) (nf_X0_25 hN) rfl dX0_countEarlier_30 ?_
            refine z_icmp_ge hx hb (by omega) (by omega) 66 dX0_countEarlier_33 (by decide) (fun c_33 => ?_) (fun c_33 => ?_)
            · refine lv_iinc (v := nI (k + 1)) (lv' := [(2, .int (nI (k + 1))), (0, .ref h0), (1, .ref hC), (3, .int (nI i))]) hx hb dX0_countEarlier_66 hl (k := 2) rfl (nI_1 _) (by decide) rfl (fun ls hl => ?_)
              refine lv_goto (tgt := 18) hx hb dX0_countEarlier_69 (by decide) ?_
              have e_ : i = mm := by omega
              have hq_ : wci (erl D0 D1 L0 L1 G0 G1) mm k i = wcE (erl D0 D1 L0 L1 G0 G1) mm (k + 1) := by rw [e_, wci_e]
              have e_b18_0 : (wci (erl D0 D1 L0 L1 G0 G1) mm k i) = (wcE (erl D0 D1 L0 L1 G0 G1) mm (k + 1)) := by exact hq_
              exact ih_18 (k + 1) (by omega) (by omega) _ _ ls ((hw).cast (zc rfl (zc rfl (zc rfl (zc rfl (zc rfl (zc rfl (zc rfl (zc rfl (zc rfl (zc rfl (zc rfl (zc rfl (zc rfl (zc (congrArg (fun z => ((qw, ia E 24 (nA z)) : Nat × va_E)) e_b18_0) rfl))))))))))))))) (lv_add (lv_add (lv_add (lv_nil hl) (lv_at hl 0 rfl)) (lv_at hl 2 rfl)) (lv_at hl 1 rfl))
            · refine lv_iload_n hx hb dX0_countEarlier_36 rfl (lv_at hl 3 rfl) ?_
              refine lv_iload_n hx hb dX0_countEarlier_37 rfl (lv_at hl 2 rfl) ?_
              refine z_icmp_eq hx hb (by omega) (by omega) 60 dX0_countEarlier_38 (by decide) (fun c_38 => ?_) (fun c_38 => ?_)
              · refine lv_iinc (v := nI (i + 1)) (lv' := [(3, .int (nI (i + 1))), (0, .ref h0), (1, .ref hC), (2, .int (nI k))]) hx hb dX0_countEarlier_60 hl (k := 3) rfl (nI_1 _) (by decide) rfl (fun ls hl => ?_)
                refine lv_goto (tgt := 28) hx hb dX0_countEarlier_63 (by decide) ?_
                have e_b28_0 : (wci (erl D0 D1 L0 L1 G0 G1) mm k i) = (wci (erl D0 D1 L0 L1 G0 G1) mm k (i + 1)) := by rw [wci_f (fun q => q.1 c_38)]
                exact ih_28 (i + 1) (by omega) (by omega) _ _ ls ((hw).cast (zc rfl (zc rfl (zc rfl (zc rfl (zc rfl (zc rfl (zc rfl (zc rfl (zc rfl (zc rfl (zc rfl (zc rfl (zc rfl (zc (congrArg (fun z => ((qw, ia E 24 (nA z)) : Nat × va_E)) e_b28_0) rfl))))))))))))))) (lv_add (lv_add (lv_add (lv_add (lv_nil hl) (lv_at hl 0 rfl)) (lv_at hl 3 rfl)) (lv_at hl 2 rfl)) (lv_at hl 1 rfl))
              · refine lv_aload_n hx hb dX0_countEarlier_41 rfl (lv_at hl 1 rfl) ?_
                refine lv_iload_n hx hb dX0_countEarlier_42 rfl (lv_at hl 3 rfl) ?_
                refine lv_iload_n hx hb dX0_countEarlier_43 rfl (lv_at hl 2 rfl) ?_
                refine z_ri0 (wr := [(h0, ob 0 [.ref qo, .ref qe, .ref qw]), (qo, ia E 24 (nA OR)), (qw, ia E 24 (nA (wci (erl D0 D1 L0 L1 G0 G1) mm k i))), (qe, ia E 24 (nA (fun _ => 0)))]) cx hw [2, 3, 4, 5, 6, 7, 8, 9, 10, 11, 12] [0, 1, 13, 14] rfl rfl (by decide) (by decide) rfl rfl (z_runVN (As := [.int (nI i), .int (nI k)]) (rest := []) cx hw rfl rfl [2, 3, 4, 5, 6, 7, 8, 9, 10, 11, 12] rfl rfl (c_X1_isEarlier l E hC qp qd d0 d1 ql l0 l1 qg g0 g1 P D0 D1 L0 L1 G0 G1 mm i k (by omega) (by omega) (hB) H.size) mf_X1_isEarlier (nm_X0_45 hN) ⟨Nat.le_of_ble_eq_true rfl, Nat.le_of_ble_eq_true rfl⟩ hl (Nat.le_of_ble_eq_true rfl) dX0_countEarlier_44 ⟨Nat.le_of_ble_eq_true rfl, Nat.le_of_ble_eq_true rfl⟩) (fun r _ H locs hp hw => ?_)
                have hr_44 := hp
                have hr_44 : r = bI (erl D0 D1 L0 L1 G0 G1 i k) := hr_44
                subst hr_44
                have hw : ZW E A s [(h0, ob 0 [.ref qo, .ref qe, .ref qw]), (qo, ia E 24 (nA OR)), (qw, ia E 24 (nA (wci (erl D0 D1 L0 L1 G0 G1) mm k i))), (qe, ia E 24 (nA (fun _ => 0))), (hC, ob 1 [.ref qp, .ref qd, .ref ql, .ref qg, .int (nI mm)]), (qp, ia E 100 P), (qd, ra E d0 d1), (d0, ia E 24 (nA D0)), (d1, ia E 24 (nA D1)), (ql, ra E l0 l1), (l0, ia E 24 (nA L0)), (l1, ia E 24 (nA L1)), (qg, ra E g0 g1), (g0, ia E 24 (nA G0)), (g1, ia E 24 (nA G1))] H locs := hw
                refine z_ifb_eq hx hb 60 dX0_countEarlier_47 (by decide) (fun c_47 => ?_) (fun c_47 => ?_)
                · refine lv_iinc (v := nI (i + 1)) (lv' := [(3, .int (nI (i + 1))), (0, .ref h0), (1, .ref hC), (2, .int (nI k))]) hx hb dX0_countEarlier_60 hl (k := 3) rfl (nI_1 _) (by decide) rfl (fun ls hl => ?_)
                  refine lv_goto (tgt := 28) hx hb dX0_countEarlier_63 (by decide) ?_
                  have e_b28_0 : (wci (erl D0 D1 L0 L1 G0 G1) mm k i) = (wci (erl D0 D1 L0 L1 G0 G1) mm k (i + 1)) := by rw [wci_f (fun q => by rw [c_47] at q; exact absurd q.2 (by decide))]
                  exact ih_28 (i + 1) (by omega) (by omega) _ _ ls ((hw.perm [0, 1, 4, 5, 6, 7, 8, 9, 10, 11, 12, 13, 14, 2, 3] rfl (by decide)).cast (zc rfl (zc rfl (zc rfl (zc rfl (zc rfl (zc rfl (zc rfl (zc rfl (zc rfl (zc rfl (zc rfl (zc rfl (zc rfl (zc (congrArg (fun z => ((qw, ia E 24 (nA z)) : Nat × va_E)) e_b28_0) rfl))))))))))))))) (lv_add (lv_add (lv_add (lv_add (lv_nil hl) (lv_at hl 0 rfl)) (lv_at hl 3 rfl)) (lv_at hl 2 rfl)) (lv_at hl 1 rfl))
                · refine lv_aload_n hx hb dX0_countEarlier_50 rfl (lv_at hl 0 rfl) ?_
                  refine z_get cx hw 0 2 rfl rfl inlX0 (by decide) wd_65 rfl dX0_countEarlier_51 ?_
                  refine lv_iload_n hx hb dX0_countEarlier_54 rfl (lv_at hl 2 rfl) ?_
                  refine lv_dup2_11 hx hb dX0_countEarlier_55 rfl rfl ?_
                  refine z_aldN cx hw 2 rfl (k) rfl (by omega) (by decide) dX0_countEarlier_56 ?_
                  rw [wci_at]
                  refine lv_iconst (v := nI 1) hx hb dX0_countEarlier_57 (by decide) ?_
                  refine z_iadd hx hb ((ce (erl D0 D1 L0 L1 G0 G1) k i) + 1) rfl dX0_countEarlier_58 ?_
                  refine z_astN cx hw 2 rfl (k) rfl (by omega) (by decide) dX0_countEarlier_59 (fun H locs hw => ?_)
                  have hw : ZW E A s [(h0, ob 0 [.ref qo, .ref qe, .ref qw]), (qo, ia E 24 (nA OR)), (qw, ia E 24 (nA (updN (wci (erl D0 D1 L0 L1 G0 G1) mm k i) k ((ce (erl D0 D1 L0 L1 G0 G1) k i) + 1)))), (qe, ia E 24 (nA (fun _ => 0))), (hC, ob 1 [.ref qp, .ref qd, .ref ql, .ref qg, .int (nI mm)]), (qp, ia E 100 P), (qd, ra E d0 d1), (d0, ia E 24 (nA D0)), (d1, ia E 24 (nA D1)), (ql, ra E l0 l1), (l0, ia E 24 (nA L0)), (l1, ia E 24 (nA L1)), (qg, ra E g0 g1), (g0, ia E 24 (nA G0)), (g1, ia E 24 (nA G1))] H locs := hw
                  refine lv_iinc (v := nI (i + 1)) (lv' := [(3, .int (nI (i + 1))), (0, .ref h0), (1, .ref hC), (2, .int (nI k))]) hx hb dX0_countEarlier_60 hl (k := 3) rfl (nI_1 _) (by decide) rfl (fun ls hl => ?_)
                  refine lv_goto (tgt := 28) hx hb dX0_countEarlier_63 (by decide) ?_
                  have e_b28_0 : (updN (wci (erl D0 D1 L0 L1 G0 G1) mm k i) k ((ce (erl D0 D1 L0 L1 G0 G1) k i) + 1)) = (wci (erl D0 D1 L0 L1 G0 G1) mm k (i + 1)) := by rw [wci_t c_38 c_47]
                  exact ih_28 (i + 1) (by omega) (by omega) _ _ ls ((hw.perm [0, 1, 4, 5, 6, 7, 8, 9, 10, 11, 12, 13, 14, 2, 3] rfl (by decide)).cast (zc rfl (zc rfl (zc rfl (zc rfl (zc rfl (zc rfl (zc rfl (zc rfl (zc rfl (zc rfl (zc rfl (zc rfl (zc rfl (zc (congrArg (fun z => ((qw, ia E 24 (nA z)) : Nat × va_E)) e_b28_0) rfl))))))))))))))) (lv_add (lv_add (lv_add (lv_add (lv_nil hl) (lv_at hl 0 rfl)) (lv_at hl 3 rfl)) (lv_at hl 2 rfl)) (lv_at hl 1 rfl))
        have e_i28_0 : (wcE (erl D0 D1 L0 L1 G0 G1) mm k) = (wci (erl D0 D1 L0 L1 G0 G1) mm k 0) := by rw [wci_0]
        exact loop_28 _ 0 (by omega) (Nat.lt_succ_self _) _ _ ls ((hw).cast (zc rfl (zc rfl (zc rfl (zc rfl (zc rfl (zc rfl (zc rfl (zc rfl (zc rfl (zc rfl (zc rfl (zc rfl (zc rfl (zc (congrArg (fun z => ((qw, ia E 24 (nA z)) : Nat × va_E)) e_i28_0) rfl))))))))))))))) (lv_add (lv_add (lv_add (lv_add (lv_nil hl) (lv_at hl 0 rfl)) (lv_at hl 3 rfl)) (lv_at hl 2 rfl)) (lv_at hl 1 rfl))
  have e_i18_0 : (fun _ => (nI 0)) = (nA (wcE (erl D0 D1 L0 L1 G0 G1) mm 0)) := by rw [wcE_0 (erl D0 D1 L0 L1 G0 G1) mm]
  have e_i18_1 : (fun _ => (nI 0)) = (nA (fun _ => 0)) := by rfl
  exact loop_18 _ 0 (by omega) (Nat.lt_succ_self _) _ _ ls ((hw).cast (zc rfl (zc rfl (zc rfl (zc rfl (zc rfl (zc rfl (zc rfl (zc rfl (zc rfl (zc rfl (zc rfl (zc rfl (zc rfl (zc (congrArg (fun z => ((qw, ia E 24 z) : Nat × va_E)) e_i18_0) (zc (congrArg (fun z => ((qe, ia E 24 z) : Nat × va_E)) e_i18_1) rfl)))))))))))))))) (lv_add (lv_add (lv_add (lv_nil hl) (lv_at hl 0 rfl)) (lv_at hl 2 rfl)) (lv_at hl 1 rfl))

def rmX0_lowestThatWaitsForNone : Room := { frames := 0, cells := 0, slots := 0, locals := 0 }
set_option maxHeartbeats 4000000 in
set_option maxRecDepth 100000 in
theorem c_X0_lowestThatWaitsForNone (l : Launch) (E : ZE) (h0 qo qe qw : Nat) (OR DP : Nat → Nat) (WF : Nat → Int32) (mm : Nat) (hmm : mm ≤ 24) : ZMi l yX0_lowestThatWaitsForNone cX0_lowestThatWaitsForNone 3 (some .int) rmX0_lowestThatWaitsForNone E [.ref h0, .int (nI mm)] [(h0, ob 0 [.ref qo, .ref qe, .ref qw]), (qo, ia E 24 (nA OR)), (qe, ia E 24 (nA DP)), (qw, ia E 24 WF)] (S := Unit) (fun r _ => r = optI (lowZ WF mm)) (fun _ => [(h0, ob 0 [.ref qo, .ref qe, .ref qw]), (qo, ia E 24 (nA OR)), (qe, ia E 24 (nA DP)), (qw, ia E 24 WF)]) := by
  refine z_mi (by decide) (Nat.le_of_ble_eq_true rfl) ?_
  intro p e s m args below meth c A Q ls cx hin hw hl ret
  obtain ⟨hx, hb, hml, hown, hts, hK, hN, hA, hlk⟩ := id cx
  have hl : lv_has ls 3 [(0, .ref h0), (1, .int (nI mm))] := hl
  refine lv_iconst (v := nI 0) hx hb dX0_lowestThatWaitsForNone_0 (by decide) ?_
  refine lv_istore_n (lv' := [(2, .int (nI 0)), (0, .ref h0), (1, .int (nI mm))]) hx hb dX0_lowestThatWaitsForNone_1 rfl hl (by decide) rfl (fun ls hl => ?_)
  have loop_2 : ∀ (fuel : Nat) (k : Nat) (hk : k ≤ mm) (hI : ∀ j, j < k → ¬ WF j = 0) (hm : mm - k < fuel) (H : Heap) (locs : List Loc) (ls : Array Slot), ZW E A s [(h0, ob 0 [.ref qo, .ref qe, .ref qw]), (qo, ia E 24 (nA OR)), (qe, ia E 24 (nA DP)), (qw, ia E 24 WF)] H locs → lv_has ls 3 [(0, .ref h0), (1, .int (nI mm)), (2, .int (nI k))] → W p l e rmX0_lowestThatWaitsForNone s m args below meth c H locs 0 0 Q (F0 m 2 ls []) := by
    intro fuel
    induction fuel with
    | zero => intro k hk hI hm; exact absurd hm (Nat.not_lt_zero _)
    | succ fuel ih_2 =>
      intro k hk hI hm H locs ls hw hl
      refine lv_iload_n hx hb dX0_lowestThatWaitsForNone_2 rfl (lv_at hl 2 rfl) ?_
      refine lv_iload_n hx hb dX0_lowestThatWaitsForNone_3 rfl (lv_at hl 1 rfl) ?_
      refine z_icmp_ge hx hb (by omega) (by omega) 24 dX0_lowestThatWaitsForNone_4 (by decide) (fun c_4 => ?_) (fun c_4 => ?_)
      · refine lv_iconst (v := (-1)) hx hb dX0_lowestThatWaitsForNone_24 (by decide) ?_
        have e_ : k = mm := by omega
        rw [e_] at hI
        exact ret ((-1)) () 25 ls H locs dX0_lowestThatWaitsForNone_25 (by rw [lowZ_none.mpr hI]; rfl) (hw)
      · refine lv_aload_n hx hb dX0_lowestThatWaitsForNone_7 rfl (lv_at hl 0 rfl) ?_
        refine z_get cx hw 0 2 rfl rfl inlX0 (by decide) wd_65 rfl dX0_lowestThatWaitsForNone_8 ?_
        refine lv_iload_n hx hb dX0_lowestThatWaitsForNone_11 rfl (lv_at hl 2 rfl) ?_
        refine z_ald cx hw 3 rfl (k) rfl (by omega) (by decide) dX0_lowestThatWaitsForNone_12 ?_
        refine lv_if_ne (tgt := 18) hx hb dX0_lowestThatWaitsForNone_13 (by decide) (fun c_13 => ?_) (fun c_13 => ?_)
        · refine lv_iinc (v := nI (k + 1)) (lv' := [(2, .int (nI (k + 1))), (0, .ref h0), (1, .int (nI mm))]) hx hb dX0_lowestThatWaitsForNone_18 hl (k := 2) rfl (nI_1 _) (by decide) rfl (fun ls hl => ?_)
          refine lv_goto (tgt := 2) hx hb dX0_lowestThatWaitsForNone_21 (by decide) ?_
          exact ih_2 (k + 1) (by omega) (fun j hj => by
                    by_cases e_ : j = k
                    · rw [e_]; exact c_13
                    · exact hI j (by omega)) (by omega) _ _ ls (hw) (lv_add (lv_add (lv_add (lv_nil hl) (lv_at hl 0 rfl)) (lv_at hl 2 rfl)) (lv_at hl 1 rfl))
        · refine lv_iload_n hx hb dX0_lowestThatWaitsForNone_16 rfl (lv_at hl 2 rfl) ?_
          exact ret (nI k) () 17 ls H locs dX0_lowestThatWaitsForNone_17 (by rw [(lowZ_some (n := mm) (c := k)).mpr ⟨c_4, c_13, hI⟩]; rfl) (hw)
  exact loop_2 _ 0 (by omega) (fun j hj => absurd hj (Nat.not_lt_zero _)) (Nat.lt_succ_self _) _ _ ls (hw) (lv_add (lv_add (lv_add (lv_nil hl) (lv_at hl 0 rfl)) (lv_at hl 2 rfl)) (lv_at hl 1 rfl))

def rmX0_releaseLater : Room := { frames := 2, cells := 0, slots := 0, locals := 45 }
set_option maxHeartbeats 4000000 in
set_option maxRecDepth 100000 in
theorem c_X0_releaseLater (l : Launch) (E : ZE) (h0 qo qe qw : Nat) (OR DP : Nat → Nat) (WF : Nat → Int32) (hC qp qd d0 d1 ql l0 l1 qg g0 g1 : Nat) (P : Nat → Int32) (D0 D1 L0 L1 G0 G1 : Nat → Nat) (mm : Nat) (v : Nat) (hmm : mm ≤ 24) (hB : Bd6 D0 D1 L0 L1 G0 G1) (hv : v < mm) (hpl : WF v = -1) (hd : ∀ x, DP x ≤ 30) : ZMv l yX0_releaseLater cX0_releaseLater 4 rmX0_releaseLater E [.ref h0, .ref hC, .int (nI v)] [(h0, ob 0 [.ref qo, .ref qe, .ref qw]), (qo, ia E 24 (nA OR)), (qe, ia E 24 (nA DP)), (qw, ia E 24 WF), (hC, ob 1 [.ref qp, .ref qd, .ref ql, .ref qg, .int (nI mm)]), (qp, ia E 100 P), (qd, ra E d0 d1), (d0, ia E 24 (nA D0)), (d1, ia E 24 (nA D1)), (ql, ra E l0 l1), (l0, ia E 24 (nA L0)), (l1, ia E 24 (nA L1)), (qg, ra E g0 g1), (g0, ia E 24 (nA G0)), (g1, ia E 24 (nA G1))] (S := Unit) (fun _ => True) (fun _ => [(h0, ob 0 [.ref qo, .ref qe, .ref qw]), (qo, ia E 24 (nA OR)), (qe, ia E 24 (nA (relD (erl D0 D1 L0 L1 G0 G1) WF DP v mm))), (qw, ia E 24 (relW (erl D0 D1 L0 L1 G0 G1) WF v mm)), (hC, ob 1 [.ref qp, .ref qd, .ref ql, .ref qg, .int (nI mm)]), (qp, ia E 100 P), (qd, ra E d0 d1), (d0, ia E 24 (nA D0)), (d1, ia E 24 (nA D1)), (ql, ra E l0 l1), (l0, ia E 24 (nA L0)), (l1, ia E 24 (nA L1)), (qg, ra E g0 g1), (g0, ia E 24 (nA G0)), (g1, ia E 24 (nA G1))]) := by
  refine z_mv (by decide) (Nat.le_of_ble_eq_true rfl) ?_
  intro p e s m args below meth c A Q ls cx hin hw hl ret
  obtain ⟨hx, hb, hml, hown, hts, hK, hN, hA, hlk⟩ := id cx
  have hl : lv_has ls 4 [(0, .ref h0), (1, .ref hC), (2, .int (nI v))] := hl
  refine lv_iconst (v := nI 0) hx hb dX0_releaseLater_0 (by decide) ?_
  refine lv_istore_n (lv' := [(3, .int (nI 0)), (0, .ref h0), (1, .ref hC), (2, .int (nI v))]) hx hb dX0_releaseLater_1 rfl hl (by decide) rfl (fun ls hl => ?_)
  have loop_2 : ∀ (fuel : Nat) (k : Nat) (hk : k ≤ mm) (hm : mm - k < fuel) (H : Heap) (locs : List Loc) (ls : Array Slot), ZW E A s [(h0, ob 0 [.ref qo, .ref qe, .ref qw]), (qo, ia E 24 (nA OR)), (qe, ia E 24 (nA (relD (erl D0 D1 L0 L1 G0 G1) WF DP v k))), (qw, ia E 24 (relW (erl D0 D1 L0 L1 G0 G1) WF v k)), (hC, ob 1 [.ref qp, .ref qd, .ref ql, .ref qg, .int (nI mm)]), (qp, ia E 100 P), (qd, ra E d0 d1), (d0, ia E 24 (nA D0)), (d1, ia E 24 (nA D1)), (ql, ra E l0 l1), (l0, ia E 24 (nA L0)), (l1, ia E 24 (nA L1)), (qg, ra E g0 g1), (g0, ia E 24 (nA G0)), (g1, ia E 24 (nA G1))] H locs → lv_has ls 4 [(0, .ref h0), (1, .ref hC), (2, .int (nI v)), (3, .int (nI k))] → W p l e rmX0_releaseLater s m args below meth c H locs 0 0 Q (F0 m 2 ls []) := by
    intro fuel
    induction fuel with
    | zero => intro k hk hm; exact absurd hm (Nat.not_lt_zero _)
    | succ fuel ih_2 =>
      intro k hk hm H locs ls hw hl
      refine lv_iload_n hx hb dX0_releaseLater_2 rfl (lv_at hl 3 rfl) ?_
      refine lv_aload_n hx hb dX0_releaseLater_3 rfl (lv_at hl 1 rfl) ?_
      refine z_getN cx hw 4 4 rfl rfl inlX1 (by decide) (nf_X0_25 hN) rfl dX0_releaseLater_4 ?_
      refine z_icmp_ge hx hb (by omega) (by omega) 68 dX0_releaseLater_7 (by decide) (fun c_7 => ?_) (fun c_7 => ?_)
      · have e_ : k = mm := by omega
        have e_r68_0 : (relD (erl D0 D1 L0 L1 G0 G1) WF DP v k) = (relD (erl D0 D1 L0 L1 G0 G1) WF DP v mm) := by rw [e_]
        have e_r68_1 : (relW (erl D0 D1 L0 L1 G0 G1) WF v k) = (relW (erl D0 D1 L0 L1 G0 G1) WF v mm) := by rw [e_]
        exact ret () 68 ls H locs dX0_releaseLater_68 (trivial) ((hw).cast (zc rfl (zc rfl (zc (congrArg (fun z => ((qe, ia E 24 (nA z)) : Nat × va_E)) e_r68_0) (zc (congrArg (fun z => ((qw, ia E 24 z) : Nat × va_E)) e_r68_1) rfl)))))
      · refine lv_aload_n hx hb dX0_releaseLater_10 rfl (lv_at hl 0 rfl) ?_
        refine z_get cx hw 0 2 rfl rfl inlX0 (by decide) wd_65 rfl dX0_releaseLater_11 ?_
        refine lv_iload_n hx hb dX0_releaseLater_14 rfl (lv_at hl 3 rfl) ?_
        refine z_ald cx hw 3 rfl (k) rfl (by omega) (by decide) dX0_releaseLater_15 ?_
        rw [relW_at]
        refine lv_iconst (v := (-1)) hx hb dX0_releaseLater_16 (by decide) ?_
        refine lv_icmp_eq (tgt := 62) hx hb dX0_releaseLater_17 (by decide) (fun c_17 => ?_) (fun c_17 => ?_)
        · refine lv_iinc (v := nI (k + 1)) (lv' := [(3, .int (nI (k + 1))), (0, .ref h0), (1, .ref hC), (2, .int (nI v))]) hx hb dX0_releaseLater_62 hl (k := 3) rfl (nI_1 _) (by decide) rfl (fun ls hl => ?_)
          refine lv_goto (tgt := 2) hx hb dX0_releaseLater_65 (by decide) ?_
          have e_b2_0 : (relD (erl D0 D1 L0 L1 G0 G1) WF DP v k) = (relD (erl D0 D1 L0 L1 G0 G1) WF DP v (k + 1)) := by rw [relD_f (fun z => z.1 c_17)]
          have e_b2_1 : (relW (erl D0 D1 L0 L1 G0 G1) WF v k) = (relW (erl D0 D1 L0 L1 G0 G1) WF v (k + 1)) := by rw [relW_f (fun z => z.1 c_17)]
          exact ih_2 (k + 1) (by omega) (by omega) _ _ ls ((hw).cast (zc rfl (zc rfl (zc (congrArg (fun z => ((qe, ia E 24 (nA z)) : Nat × va_E)) e_b2_0) (zc (congrArg (fun z => ((qw, ia E 24 z) : Nat × va_E)) e_b2_1) rfl))))) (lv_add (lv_add (lv_add (lv_add (lv_nil hl) (lv_at hl 0 rfl)) (lv_at hl 3 rfl)) (lv_at hl 2 rfl)) (lv_at hl 1 rfl))
        · refine lv_aload_n hx hb dX0_releaseLater_20 rfl (lv_at hl 1 rfl) ?_
          refine lv_iload_n hx hb dX0_releaseLater_21 rfl (lv_at hl 2 rfl) ?_
          refine lv_iload_n hx hb dX0_releaseLater_22 rfl (lv_at hl 3 rfl) ?_
          refine z_ri0 (wr := [(h0, ob 0 [.ref qo, .ref qe, .ref qw]), (qo, ia E 24 (nA OR)), (qe, ia E 24 (nA (relD (erl D0 D1 L0 L1 G0 G1) WF DP v k))), (qw, ia E 24 (relW (erl D0 D1 L0 L1 G0 G1) WF v k))]) cx hw [4, 5, 6, 7, 8, 9, 10, 11, 12, 13, 14] [0, 1, 2, 3] rfl rfl (by decide) (by decide) rfl rfl (z_runVN (As := [.int (nI v), .int (nI k)]) (rest := []) cx hw rfl rfl [4, 5, 6, 7, 8, 9, 10, 11, 12, 13, 14] rfl rfl (c_X1_isEarlier l E hC qp qd d0 d1 ql l0 l1 qg g0 g1 P D0 D1 L0 L1 G0 G1 mm v k (by omega) (by omega) (hB) H.size) mf_X1_isEarlier (nm_X0_45 hN) ⟨Nat.le_of_ble_eq_true rfl, Nat.le_of_ble_eq_true rfl⟩ hl (Nat.le_of_ble_eq_true rfl) dX0_releaseLater_23 ⟨Nat.le_of_ble_eq_true rfl, Nat.le_of_ble_eq_true rfl⟩) (fun r _ H locs hp hw => ?_)
          have hr_23 := hp
          have hr_23 : r = bI (erl D0 D1 L0 L1 G0 G1 v k) := hr_23
          subst hr_23
          have hw : ZW E A s [(h0, ob 0 [.ref qo, .ref qe, .ref qw]), (qo, ia E 24 (nA OR)), (qe, ia E 24 (nA (relD (erl D0 D1 L0 L1 G0 G1) WF DP v k))), (qw, ia E 24 (relW (erl D0 D1 L0 L1 G0 G1) WF v k)), (hC, ob 1 [.ref qp, .ref qd, .ref ql, .ref qg, .int (nI mm)]), (qp, ia E 100 P), (qd, ra E d0 d1), (d0, ia E 24 (nA D0)), (d1, ia E 24 (nA D1)), (ql, ra E l0 l1), (l0, ia E 24 (nA L0)), (l1, ia E 24 (nA L1)), (qg, ra E g0 g1), (g0, ia E 24 (nA G0)), (g1, ia E 24 (nA G1))] H locs := hw
          refine z_ifb_eq hx hb 62 dX0_releaseLater_26 (by decide) (fun c_26 => ?_) (fun c_26 => ?_)
          · refine lv_iinc (v := nI (k + 1)) (lv' := [(3, .int (nI (k + 1))), (0, .ref h0), (1, .ref hC), (2, .int (nI v))]) hx hb dX0_releaseLater_62 hl (k := 3) rfl (nI_1 _) (by decide) rfl (fun ls hl => ?_)
            refine lv_goto (tgt := 2) hx hb dX0_releaseLater_65 (by decide) ?_
            have e_b2_0 : (relD (erl D0 D1 L0 L1 G0 G1) WF DP v k) = (relD (erl D0 D1 L0 L1 G0 G1) WF DP v (k + 1)) := by rw [relD_f (fun z => by rw [c_26] at z; exact absurd z.2 (by decide))]
            have e_b2_1 : (relW (erl D0 D1 L0 L1 G0 G1) WF v k) = (relW (erl D0 D1 L0 L1 G0 G1) WF v (k + 1)) := by rw [relW_f (fun z => by rw [c_26] at z; exact absurd z.2 (by decide))]
            exact ih_2 (k + 1) (by omega) (by omega) _ _ ls ((hw).cast (zc rfl (zc rfl (zc (congrArg (fun z => ((qe, ia E 24 (nA z)) : Nat × va_E)) e_b2_0) (zc (congrArg (fun z => ((qw, ia E 24 z) : Nat × va_E)) e_b2_1) rfl))))) (lv_add (lv_add (lv_add (lv_add (lv_nil hl) (lv_at hl 0 rfl)) (lv_at hl 3 rfl)) (lv_at hl 2 rfl)) (lv_at hl 1 rfl))
          · refine lv_aload_n hx hb dX0_releaseLater_29 rfl (lv_at hl 0 rfl) ?_
            refine z_get cx hw 0 2 rfl rfl inlX0 (by decide) wd_65 rfl dX0_releaseLater_30 ?_
            refine lv_iload_n hx hb dX0_releaseLater_33 rfl (lv_at hl 3 rfl) ?_
            refine lv_dup2_11 hx hb dX0_releaseLater_34 rfl rfl ?_
            refine z_ald cx hw 3 rfl (k) rfl (by omega) (by decide) dX0_releaseLater_35 ?_
            rw [relW_at]
            refine lv_iconst (v := nI 1) hx hb dX0_releaseLater_36 (by decide) ?_
            refine lv_isub hx hb dX0_releaseLater_37 ?_
            refine z_ast cx hw 3 rfl (k) rfl (by omega) (by decide) dX0_releaseLater_38 (fun H locs hw => ?_)
            have hw : ZW E A s [(h0, ob 0 [.ref qo, .ref qe, .ref qw]), (qo, ia E 24 (nA OR)), (qe, ia E 24 (nA (relD (erl D0 D1 L0 L1 G0 G1) WF DP v k))), (qw, ia E 24 (upd (relW (erl D0 D1 L0 L1 G0 G1) WF v k) k ((WF k) - (nI 1)))), (hC, ob 1 [.ref qp, .ref qd, .ref ql, .ref qg, .int (nI mm)]), (qp, ia E 100 P), (qd, ra E d0 d1), (d0, ia E 24 (nA D0)), (d1, ia E 24 (nA D1)), (ql, ra E l0 l1), (l0, ia E 24 (nA L0)), (l1, ia E 24 (nA L1)), (qg, ra E g0 g1), (g0, ia E 24 (nA G0)), (g1, ia E 24 (nA G1))] H locs := hw
            refine lv_aload_n hx hb dX0_releaseLater_39 rfl (lv_at hl 0 rfl) ?_
            refine z_get cx hw 0 1 rfl rfl inlX0 (by decide) wd_64 rfl dX0_releaseLater_40 ?_
            refine lv_iload_n hx hb dX0_releaseLater_43 rfl (lv_at hl 3 rfl) ?_
            refine lv_aload_n hx hb dX0_releaseLater_44 rfl (lv_at hl 0 rfl) ?_
            refine z_get cx hw 0 1 rfl rfl inlX0 (by decide) wd_64 rfl dX0_releaseLater_45 ?_
            refine lv_iload_n hx hb dX0_releaseLater_48 rfl (lv_at hl 3 rfl) ?_
            refine z_aldN cx hw 2 rfl (k) rfl (by omega) (by decide) dX0_releaseLater_49 ?_
            rw [relD_at]
            refine lv_aload_n hx hb dX0_releaseLater_50 rfl (lv_at hl 0 rfl) ?_
            refine z_get cx hw 0 1 rfl rfl inlX0 (by decide) wd_64 rfl dX0_releaseLater_51 ?_
            refine lv_iload_n hx hb dX0_releaseLater_54 rfl (lv_at hl 2 rfl) ?_
            refine z_aldN cx hw 2 rfl (v) rfl (by omega) (by decide) dX0_releaseLater_55 ?_
            rw [relD_q hpl]
            refine lv_iconst (v := nI 1) hx hb dX0_releaseLater_56 (by decide) ?_
            refine z_iadd hx hb ((DP v) + 1) rfl dX0_releaseLater_57 ?_
            have b1_ := hd k
            have b2_ := hd v
            refine z_mmax cx (DP k) ((DP v) + 1) (by omega) (by omega) hl wd_423 (Nat.le_of_ble_eq_true rfl) (Nat.le_of_ble_eq_true rfl) (Nat.le_of_ble_eq_true rfl) (Nat.le_of_ble_eq_true rfl) dX0_releaseLater_58 ?_
            refine z_astN cx hw 2 rfl (k) rfl (by omega) (by decide) dX0_releaseLater_61 (fun H locs hw => ?_)
            have hw : ZW E A s [(h0, ob 0 [.ref qo, .ref qe, .ref qw]), (qo, ia E 24 (nA OR)), (qe, ia E 24 (nA (updN (relD (erl D0 D1 L0 L1 G0 G1) WF DP v k) k (max (DP k) ((DP v) + 1))))), (qw, ia E 24 (upd (relW (erl D0 D1 L0 L1 G0 G1) WF v k) k ((WF k) - (nI 1)))), (hC, ob 1 [.ref qp, .ref qd, .ref ql, .ref qg, .int (nI mm)]), (qp, ia E 100 P), (qd, ra E d0 d1), (d0, ia E 24 (nA D0)), (d1, ia E 24 (nA D1)), (ql, ra E l0 l1), (l0, ia E 24 (nA L0)), (l1, ia E 24 (nA L1)), (qg, ra E g0 g1), (g0, ia E 24 (nA G0)), (g1, ia E 24 (nA G1))] H locs := hw
            refine lv_iinc (v := nI (k + 1)) (lv' := [(3, .int (nI (k + 1))), (0, .ref h0), (1, .ref hC), (2, .int (nI v))]) hx hb dX0_releaseLater_62 hl (k := 3) rfl (nI_1 _) (by decide) rfl (fun ls hl => ?_)
            refine lv_goto (tgt := 2) hx hb dX0_releaseLater_65 (by decide) ?_
            have e_b2_0 : (updN (relD (erl D0 D1 L0 L1 G0 G1) WF DP v k) k (max (DP k) ((DP v) + 1))) = (relD (erl D0 D1 L0 L1 G0 G1) WF DP v (k + 1)) := by rw [relD_t c_17 c_26]
            have e_b2_1 : (upd (relW (erl D0 D1 L0 L1 G0 G1) WF v k) k ((WF k) - (nI 1))) = (relW (erl D0 D1 L0 L1 G0 G1) WF v (k + 1)) := by rw [relW_t c_17 c_26]
            exact ih_2 (k + 1) (by omega) (by omega) _ _ ls ((hw).cast (zc rfl (zc rfl (zc (congrArg (fun z => ((qe, ia E 24 (nA z)) : Nat × va_E)) e_b2_0) (zc (congrArg (fun z => ((qw, ia E 24 z) : Nat × va_E)) e_b2_1) rfl))))) (lv_add (lv_add (lv_add (lv_add (lv_nil hl) (lv_at hl 0 rfl)) (lv_at hl 3 rfl)) (lv_at hl 2 rfl)) (lv_at hl 1 rfl))
  have e_i2_0 : DP = (relD (erl D0 D1 L0 L1 G0 G1) WF DP v 0) := by rw [← relD_0]
  have e_i2_1 : WF = (relW (erl D0 D1 L0 L1 G0 G1) WF v 0) := by rw [← relW_0]
  exact loop_2 _ 0 (by omega) (Nat.lt_succ_self _) _ _ ls ((hw).cast (zc rfl (zc rfl (zc (congrArg (fun z => ((qe, ia E 24 (nA z)) : Nat × va_E)) e_i2_0) (zc (congrArg (fun z => ((qw, ia E 24 z) : Nat × va_E)) e_i2_1) rfl))))) (lv_add (lv_add (lv_add (lv_add (lv_nil hl) (lv_at hl 0 rfl)) (lv_at hl 3 rfl)) (lv_at hl 2 rfl)) (lv_at hl 1 rfl))

def rmX0_arrange : Room := { frames := 3, cells := 0, slots := 0, locals := 68 }
set_option maxHeartbeats 4000000 in
set_option maxRecDepth 100000 in
theorem c_X0_arrange (l : Launch) (E : ZE) (h0 qo qe qw : Nat) (OR DP : Nat → Nat) (WF : Nat → Int32) (hC qp qd d0 d1 ql l0 l1 qg g0 g1 : Nat) (P : Nat → Int32) (D0 D1 L0 L1 G0 G1 : Nat → Nat) (mm : Nat) (hmm : mm ≤ 24) (hB : Bd6 D0 D1 L0 L1 G0 G1) : ZMi l yX0_arrange cX0_arrange 4 (some .boolean) rmX0_arrange E [.ref h0, .ref hC] [(h0, ob 0 [.ref qo, .ref qe, .ref qw]), (qo, ia E 24 (nA OR)), (qe, ia E 24 (nA DP)), (qw, ia E 24 WF), (hC, ob 1 [.ref qp, .ref qd, .ref ql, .ref qg, .int (nI mm)]), (qp, ia E 100 P), (qd, ra E d0 d1), (d0, ia E 24 (nA D0)), (d1, ia E 24 (nA D1)), (ql, ra E l0 l1), (l0, ia E 24 (nA L0)), (l1, ia E 24 (nA L1)), (qg, ra E g0 g1), (g0, ia E 24 (nA G0)), (g1, ia E 24 (nA G1))] (S := (Nat → Int32) × (Nat → Nat) × (Nat → Nat)) (fun r u => r = bI ((arS (erl D0 D1 L0 L1 G0 G1) mm OR mm).isSome) ∧ ∀ t, arS (erl D0 D1 L0 L1 G0 G1) mm OR mm = some t → u.2.1 = t.2.1 ∧ u.2.2 = t.2.2) (fun u => [(h0, ob 0 [.ref qo, .ref qe, .ref qw]), (qo, ia E 24 (nA u.2.1)), (qe, ia E 24 (nA u.2.2)), (qw, ia E 24 u.1), (hC, ob 1 [.ref qp, .ref qd, .ref ql, .ref qg, .int (nI mm)]), (qp, ia E 100 P), (qd, ra E d0 d1), (d0, ia E 24 (nA D0)), (d1, ia E 24 (nA D1)), (ql, ra E l0 l1), (l0, ia E 24 (nA L0)), (l1, ia E 24 (nA L1)), (qg, ra E g0 g1), (g0, ia E 24 (nA G0)), (g1, ia E 24 (nA G1))]) := by
  refine z_mz (by decide) (Nat.le_of_ble_eq_true rfl) ?_
  intro p e s m args below meth c A Q ls cx hin hw hl ret
  obtain ⟨hx, hb, hml, hown, hts, hK, hN, hA, hlk⟩ := id cx
  have hl : lv_has ls 4 [(0, .ref h0), (1, .ref hC)] := hl
  refine lv_aload_n hx hb dX0_arrange_0 rfl (lv_at hl 0 rfl) ?_
  refine lv_aload_n hx hb dX0_arrange_1 rfl (lv_at hl 1 rfl) ?_
  refine z_rv0 (wr := []) cx hw [0, 1, 2, 3, 4, 5, 6, 7, 8, 9, 10, 11, 12, 13, 14] [] rfl rfl (by decide) (by decide) rfl rfl (z_runV (As := [.ref hC]) (rest := []) cx hw rfl rfl [0, 1, 2, 3, 4, 5, 6, 7, 8, 9, 10, 11, 12, 13, 14] rfl rfl (c_X0_countEarlier l E h0 qo qe qw OR DP WF hC qp qd d0 d1 ql l0 l1 qg g0 g1 P D0 D1 L0 L1 G0 G1 mm (by omega) (hB) s.heap.size) mf_X0_countEarlier wd_410 ⟨Nat.le_of_ble_eq_true rfl, Nat.le_of_ble_eq_true rfl⟩ hl (Nat.le_of_ble_eq_true rfl) dX0_arrange_2 ⟨Nat.le_of_ble_eq_true rfl, Nat.le_of_ble_eq_true rfl⟩) (fun _ H locs hp hw => ?_)
  have hw : ZW E A s [(h0, ob 0 [.ref qo, .ref qe, .ref qw]), (qo, ia E 24 (nA OR)), (qe, ia E 24 (nA (fun _ => 0))), (qw, ia E 24 (nA (wcE (erl D0 D1 L0 L1 G0 G1) mm mm))), (hC, ob 1 [.ref qp, .ref qd, .ref ql, .ref qg, .int (nI mm)]), (qp, ia E 100 P), (qd, ra E d0 d1), (d0, ia E 24 (nA D0)), (d1, ia E 24 (nA D1)), (ql, ra E l0 l1), (l0, ia E 24 (nA L0)), (l1, ia E 24 (nA L1)), (qg, ra E g0 g1), (g0, ia E 24 (nA G0)), (g1, ia E 24 (nA G1))] H locs := hw
  refine lv_iconst (v := nI 0) hx hb dX0_arrange_5 (by decide) ?_
  refine lv_istore_n (lv' := [(2, .int (nI 0)), (0, .ref h0), (1, .ref hC)]) hx hb dX0_arrange_6 rfl hl (by decide) rfl (fun ls hl => ?_)
  have loop_7 : ∀ (fuel : Nat) (k : Nat) (WF : Nat → Int32) (O2 : Nat → Nat) (DP : Nat → Nat) (hk : k ≤ mm) (hI : arS (erl D0 D1 L0 L1 G0 G1) mm OR k = some (WF, O2, DP)) (hd : ∀ x, DP x ≤ k) (hm : mm - k < fuel) (H : Heap) (locs : List Loc) (ls : Array Slot), ZW E A s [(h0, ob 0 [.ref qo, .ref qe, .ref qw]), (qo, ia E 24 (nA O2)), (qe, ia E 24 (nA DP)), (qw, ia E 24 WF), (hC, ob 1 [.ref qp, .ref qd, .ref ql, .ref qg, .int (nI mm)]), (qp, ia E 100 P), (qd, ra E d0 d1), (d0, ia E 24 (nA D0)), (d1, ia E 24 (nA D1)), (ql, ra E l0 l1), (l0, ia E 24 (nA L0)), (l1, ia E 24 (nA L1)), (qg, ra E g0 g1), (g0, ia E 24 (nA G0)), (g1, ia E 24 (nA G1))] H locs → lv_has ls 4 [(0, .ref h0), (1, .ref hC), (2, .int (nI k))] → W p l e rmX0_arrange s m args below meth c H locs 0 0 Q (F0 m 7 ls []) := by
    intro fuel
    induction fuel with
    | zero => intro k WF O2 DP hk hI hd hm; exact absurd hm (Nat.not_lt_zero _)
    | succ fuel ih_7 =>
      intro k WF O2 DP hk hI hd hm H locs ls hw hl
      refine lv_iload_n hx hb dX0_arrange_7 rfl (lv_at hl 2 rfl) ?_
      refine lv_aload_n hx hb dX0_arrange_8 rfl (lv_at hl 1 rfl) ?_
      refine z_getN cx hw 4 4 rfl rfl inlX1 (by decide) (nf_X0_25 hN) rfl dX0_arrange_9 ?_
      refine z_icmp_ge hx hb (by omega) (by omega) 57 dX0_arrange_12 (by decide) (fun c_12 => ?_) (fun c_12 => ?_)
      · refine lv_iconst (v := nI 1) hx hb dX0_arrange_57 (by decide) ?_
        have e_ : k = mm := by omega
        rw [e_] at hI
        exact ret true (WF, O2, DP) 58 ls H locs dX0_arrange_58 (⟨congrArg bI (by rw [hI]; rfl), fun t ht => by rw [hI] at ht; cases ht; exact ⟨rfl, rfl⟩⟩) (hw)
      · refine lv_aload_n hx hb dX0_arrange_15 rfl (lv_at hl 0 rfl) ?_
        refine lv_aload_n hx hb dX0_arrange_16 rfl (lv_at hl 1 rfl) ?_
        refine z_getN cx hw 4 4 rfl rfl inlX1 (by decide) (nf_X0_25 hN) rfl dX0_arrange_17 ?_
        refine z_ri0 (wr := [(hC, ob 1 [.ref qp, .ref qd, .ref ql, .ref qg, .int (nI mm)]), (qp, ia E 100 P), (qd, ra E d0 d1), (d0, ia E 24 (nA D0)), (d1, ia E 24 (nA D1)), (ql, ra E l0 l1), (l0, ia E 24 (nA L0)), (l1, ia E 24 (nA L1)), (qg, ra E g0 g1), (g0, ia E 24 (nA G0)), (g1, ia E 24 (nA G1))]) cx hw [0, 1, 2, 3] [4, 5, 6, 7, 8, 9, 10, 11, 12, 13, 14] rfl rfl (by decide) (by decide) rfl rfl (z_runV (As := [.int (nI mm)]) (rest := []) cx hw rfl rfl [0, 1, 2, 3] rfl rfl (c_X0_lowestThatWaitsForNone l E h0 qo qe qw O2 DP WF mm (by omega) H.size) mf_X0_lowestThatWaitsForNone wd_415 ⟨Nat.le_of_ble_eq_true rfl, Nat.le_of_ble_eq_true rfl⟩ hl (Nat.le_of_ble_eq_true rfl) dX0_arrange_20 ⟨Nat.le_of_ble_eq_true rfl, Nat.le_of_ble_eq_true rfl⟩) (fun r _ H locs hp hw => ?_)
        have hr_20 := hp
        have hr_20 : r = optI (lowZ WF mm) := hr_20
        subst hr_20
        have hw : ZW E A s [(hC, ob 1 [.ref qp, .ref qd, .ref ql, .ref qg, .int (nI mm)]), (qp, ia E 100 P), (qd, ra E d0 d1), (d0, ia E 24 (nA D0)), (d1, ia E 24 (nA D1)), (ql, ra E l0 l1), (l0, ia E 24 (nA L0)), (l1, ia E 24 (nA L1)), (qg, ra E g0 g1), (g0, ia E 24 (nA G0)), (g1, ia E 24 (nA G1)), (h0, ob 0 [.ref qo, .ref qe, .ref qw]), (qo, ia E 24 (nA O2)), (qe, ia E 24 (nA DP)), (qw, ia E 24 WF)] H locs := hw
        refine lv_istore_n (lv' := [(3, .int (optI (lowZ WF mm))), (0, .ref h0), (1, .ref hC), (2, .int (nI k))]) hx hb dX0_arrange_23 rfl hl (by decide) rfl (fun ls hl => ?_)
        refine lv_iload_n hx hb dX0_arrange_24 rfl (lv_at hl 0 rfl) ?_
        refine lv_iconst (v := (-1)) hx hb dX0_arrange_25 (by decide) ?_
        refine lv_icmp_ne (tgt := 31) hx hb dX0_arrange_26 (by decide) (fun c_26 => ?_) (fun c_26 => ?_)
        · obtain ⟨i, hz_⟩ := optI_ne c_26
          obtain ⟨hz1_, hz2_, hz3_⟩ := lowZ_some.mp hz_
          have hl : lv_has ls 4 [(3, .int (nI i)), (0, .ref h0), (1, .ref hC), (2, .int (nI k))] := by rw [hz_] at hl; exact hl
          refine lv_aload_n hx hb dX0_arrange_31 rfl (lv_at hl 1 rfl) ?_
          refine z_get cx hw 11 0 rfl rfl inlX0 (by decide) wd_63 rfl dX0_arrange_32 ?_
          refine lv_iload_n hx hb dX0_arrange_35 rfl (lv_at hl 3 rfl) ?_
          refine lv_iload_n hx hb dX0_arrange_36 rfl (lv_at hl 0 rfl) ?_
          refine z_astN cx hw 12 rfl (k) rfl (by omega) (by decide) dX0_arrange_37 (fun H locs hw => ?_)
          have hw : ZW E A s [(hC, ob 1 [.ref qp, .ref qd, .ref ql, .ref qg, .int (nI mm)]), (qp, ia E 100 P), (qd, ra E d0 d1), (d0, ia E 24 (nA D0)), (d1, ia E 24 (nA D1)), (ql, ra E l0 l1), (l0, ia E 24 (nA L0)), (l1, ia E 24 (nA L1)), (qg, ra E g0 g1), (g0, ia E 24 (nA G0)), (g1, ia E 24 (nA G1)), (h0, ob 0 [.ref qo, .ref qe, .ref qw]), (qo, ia E 24 (nA (updN O2 k i))), (qe, ia E 24 (nA DP)), (qw, ia E 24 WF)] H locs := hw
          refine lv_aload_n hx hb dX0_arrange_38 rfl (lv_at hl 1 rfl) ?_
          refine z_get cx hw 11 2 rfl rfl inlX0 (by decide) wd_65 rfl dX0_arrange_39 ?_
          refine lv_iload_n hx hb dX0_arrange_42 rfl (lv_at hl 0 rfl) ?_
          refine lv_iconst (v := (-1)) hx hb dX0_arrange_43 (by decide) ?_
          refine z_ast cx hw 14 rfl (i) rfl (by omega) (by decide) dX0_arrange_44 (fun H locs hw => ?_)
          have hw : ZW E A s [(hC, ob 1 [.ref qp, .ref qd, .ref ql, .ref qg, .int (nI mm)]), (qp, ia E 100 P), (qd, ra E d0 d1), (d0, ia E 24 (nA D0)), (d1, ia E 24 (nA D1)), (ql, ra E l0 l1), (l0, ia E 24 (nA L0)), (l1, ia E 24 (nA L1)), (qg, ra E g0 g1), (g0, ia E 24 (nA G0)), (g1, ia E 24 (nA G1)), (h0, ob 0 [.ref qo, .ref qe, .ref qw]), (qo, ia E 24 (nA (updN O2 k i))), (qe, ia E 24 (nA DP)), (qw, ia E 24 (upd WF i (-1)))] H locs := hw
          refine lv_aload_n hx hb dX0_arrange_45 rfl (lv_at hl 1 rfl) ?_
          refine lv_aload_n hx hb dX0_arrange_46 rfl (lv_at hl 2 rfl) ?_
          refine lv_iload_n hx hb dX0_arrange_47 rfl (lv_at hl 0 rfl) ?_
          refine z_rv0 (wr := []) cx hw [11, 12, 13, 14, 0, 1, 2, 3, 4, 5, 6, 7, 8, 9, 10] [] rfl rfl (by decide) (by decide) rfl rfl (z_runV (As := [.ref hC, .int (nI i)]) (rest := []) cx hw rfl rfl [11, 12, 13, 14, 0, 1, 2, 3, 4, 5, 6, 7, 8, 9, 10] rfl rfl (c_X0_releaseLater l E h0 qo qe qw (updN O2 k i) DP (upd WF i (-1)) hC qp qd d0 d1 ql l0 l1 qg g0 g1 P D0 D1 L0 L1 G0 G1 mm i (by omega) (hB) (by omega) (by simp [upd]) (fun x => by have := hd x; omega) H.size) mf_X0_releaseLater wd_419 ⟨Nat.le_of_ble_eq_true rfl, Nat.le_of_ble_eq_true rfl⟩ hl (Nat.le_of_ble_eq_true rfl) dX0_arrange_48 ⟨Nat.le_of_ble_eq_true rfl, Nat.le_of_ble_eq_true rfl⟩) (fun _ H locs hp hw => ?_)
          have hw : ZW E A s [(h0, ob 0 [.ref qo, .ref qe, .ref qw]), (qo, ia E 24 (nA (updN O2 k i))), (qe, ia E 24 (nA (relD (erl D0 D1 L0 L1 G0 G1) (upd WF i (-1)) DP i mm))), (qw, ia E 24 (relW (erl D0 D1 L0 L1 G0 G1) (upd WF i (-1)) i mm)), (hC, ob 1 [.ref qp, .ref qd, .ref ql, .ref qg, .int (nI mm)]), (qp, ia E 100 P), (qd, ra E d0 d1), (d0, ia E 24 (nA D0)), (d1, ia E 24 (nA D1)), (ql, ra E l0 l1), (l0, ia E 24 (nA L0)), (l1, ia E 24 (nA L1)), (qg, ra E g0 g1), (g0, ia E 24 (nA G0)), (g1, ia E 24 (nA G1))] H locs := hw
          refine lv_iinc (v := nI (k + 1)) (lv' := [(2, .int (nI (k + 1))), (3, .int (nI i)), (0, .ref h0), (1, .ref hC)]) hx hb dX0_arrange_51 hl (k := 3) rfl (nI_1 _) (by decide) rfl (fun ls hl => ?_)
          refine lv_goto (tgt := 7) hx hb dX0_arrange_54 (by decide) ?_
          exact ih_7 (k + 1) (relW (erl D0 D1 L0 L1 G0 G1) (upd WF i (-1)) i mm) (updN O2 k i) (relD (erl D0 D1 L0 L1 G0 G1) (upd WF i (-1)) DP i mm) (by omega) (by simp [arS, hI, hz_]) (relD_le hd) (by omega) _ _ ls (hw) (lv_add (lv_add (lv_add (lv_nil hl) (lv_at hl 0 rfl)) (lv_at hl 3 rfl)) (lv_at hl 2 rfl))
        · refine lv_iconst (v := nI 0) hx hb dX0_arrange_29 (by decide) ?_
          have hn_ : lowZ WF mm = none := by
            cases hq_ : lowZ WF mm with
            | none => rfl
            | some x => rw [hq_] at c_26; exact absurd c_26 (m1_ne (by have := (lowZ_some.mp hq_).1; omega))
          have hf_ : arS (erl D0 D1 L0 L1 G0 G1) mm OR mm = none := arS_none (i := k + 1) (by simp [arS, hI, hn_]) (by omega)
          exact ret false (WF, O2, DP) 30 ls H locs dX0_arrange_30 (⟨congrArg bI (by rw [hf_]; rfl), fun t ht => by rw [hf_] at ht; cases ht⟩) (hw.perm [11, 12, 13, 14, 0, 1, 2, 3, 4, 5, 6, 7, 8, 9, 10] rfl (by decide))
  have e_i7_0 : (nA (wcE (erl D0 D1 L0 L1 G0 G1) mm mm)) = (nA (wcE (erl D0 D1 L0 L1 G0 G1) mm mm)) := by rfl
  exact loop_7 _ 0 (nA (wcE (erl D0 D1 L0 L1 G0 G1) mm mm)) OR (fun _ => 0) (by omega) (rfl) (fun _ => Nat.le_refl _) (Nat.lt_succ_self _) _ _ ls ((hw).cast (zc rfl (zc rfl (zc rfl (zc (congrArg (fun z => ((qw, ia E 24 z) : Nat × va_E)) e_i7_0) rfl))))) (lv_add (lv_add (lv_add (lv_nil hl) (lv_at hl 0 rfl)) (lv_at hl 2 rfl)) (lv_at hl 1 rfl))
end
