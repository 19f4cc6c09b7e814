section
-- ===== PART A: goes FIRST, ahead of the names: the tables' words, and 'selects' of the private methods out of them =====
/-- a private method of a class that the tables say can be made, by its rows of tables_1 -/
def lw_okq (q : MethodName × Nat) : Prop := (q.1.cls ≠ "java/lang/invoke/MethodHandle" ∧ q.1.cls ≠ "java/lang/invoke/VarHandle") ∧ Cond.instantiable q.1.cls q.2 ∈ tables_1 ∧ Cond.privateMethod q.1 ∈ tables_1 ∧ Cond.instanceMethod q.1 ∈ tables_1
theorem lw_p0 : lw_okq (⟨"StereoWar$Scene", "putThing", "(IIII)V"⟩, 3) := ⟨⟨by decide +kernel, by decide +kernel⟩, List.mem_of_getElem? (i := 22) (by decide +kernel), List.mem_of_getElem? (i := 172) (by decide +kernel), List.mem_of_getElem? (i := 173) (by decide +kernel)⟩
theorem lw_p1 : lw_okq (⟨"StereoWar$Scene", "thingBits", "()I"⟩, 3) := ⟨⟨by decide +kernel, by decide +kernel⟩, List.mem_of_getElem? (i := 22) (by decide +kernel), List.mem_of_getElem? (i := 177) (by decide +kernel), List.mem_of_getElem? (i := 178) (by decide +kernel)⟩
theorem lw_p2 : lw_okq (⟨"StereoWar$Scene", "thingAt", "(I)LStereoWar$Thing;"⟩, 3) := ⟨⟨by decide +kernel, by decide +kernel⟩, List.mem_of_getElem? (i := 22) (by decide +kernel), List.mem_of_getElem? (i := 191) (by decide +kernel), List.mem_of_getElem? (i := 192) (by decide +kernel)⟩
theorem lw_p3 : lw_okq (⟨"StereoWar$Scene", "takePicture", "(III)I"⟩, 3) := ⟨⟨by decide +kernel, by decide +kernel⟩, List.mem_of_getElem? (i := 22) (by decide +kernel), List.mem_of_getElem? (i := 209) (by decide +kernel), List.mem_of_getElem? (i := 210) (by decide +kernel)⟩
theorem lw_p4 : lw_okq (⟨"StereoWar$Scene", "expose", "(LStereoWar$Picture;II)V"⟩, 3) := ⟨⟨by decide +kernel, by decide +kernel⟩, List.mem_of_getElem? (i := 22) (by decide +kernel), List.mem_of_getElem? (i := 213) (by decide +kernel), List.mem_of_getElem? (i := 214) (by decide +kernel)⟩
theorem lw_p5 : lw_okq (⟨"StereoWar$Scene", "columnOf", "(III)I"⟩, 3) := ⟨⟨by decide +kernel, by decide +kernel⟩, List.mem_of_getElem? (i := 22) (by decide +kernel), List.mem_of_getElem? (i := 217) (by decide +kernel), List.mem_of_getElem? (i := 218) (by decide +kernel)⟩
theorem lw_p6 : lw_okq (⟨"StereoWar$Thing", "columnFrom", "(III)I"⟩, 4) := ⟨⟨by decide +kernel, by decide +kernel⟩, List.mem_of_getElem? (i := 31) (by decide +kernel), List.mem_of_getElem? (i := 222) (by decide +kernel), List.mem_of_getElem? (i := 223) (by decide +kernel)⟩
theorem lw_p7 : lw_okq (⟨"StereoWar$Picture", "putColumn", "(II)V"⟩, 2) := ⟨⟨by decide +kernel, by decide +kernel⟩, List.mem_of_getElem? (i := 57) (by decide +kernel), List.mem_of_getElem? (i := 227) (by decide +kernel), List.mem_of_getElem? (i := 228) (by decide +kernel)⟩
theorem lw_p8 : lw_okq (⟨"StereoWar$Picture", "shownBits", "()I"⟩, 2) := ⟨⟨by decide +kernel, by decide +kernel⟩, List.mem_of_getElem? (i := 57) (by decide +kernel), List.mem_of_getElem? (i := 232) (by decide +kernel), List.mem_of_getElem? (i := 233) (by decide +kernel)⟩
theorem lw_p9 : lw_okq (⟨"StereoWar$Scene", "pictureAt", "(I)LStereoWar$Picture;"⟩, 3) := ⟨⟨by decide +kernel, by decide +kernel⟩, List.mem_of_getElem? (i := 22) (by decide +kernel), List.mem_of_getElem? (i := 240) (by decide +kernel), List.mem_of_getElem? (i := 241) (by decide +kernel)⟩
theorem lw_p10 : lw_okq (⟨"StereoWar$Picture", "columnOf", "(I)I"⟩, 2) := ⟨⟨by decide +kernel, by decide +kernel⟩, List.mem_of_getElem? (i := 57) (by decide +kernel), List.mem_of_getElem? (i := 244) (by decide +kernel), List.mem_of_getElem? (i := 245) (by decide +kernel)⟩
theorem lw_p11 : lw_okq (⟨"StereoWar$Scene", "pictureBits", "()I"⟩, 3) := ⟨⟨by decide +kernel, by decide +kernel⟩, List.mem_of_getElem? (i := 22) (by decide +kernel), List.mem_of_getElem? (i := 253) (by decide +kernel), List.mem_of_getElem? (i := 254) (by decide +kernel)⟩
theorem lw_p12 : lw_okq (⟨"StereoWar$Pad", "addSign", "(I)Z"⟩, 6) := ⟨⟨by decide +kernel, by decide +kernel⟩, List.mem_of_getElem? (i := 85) (by decide +kernel), List.mem_of_getElem? (i := 261) (by decide +kernel), List.mem_of_getElem? (i := 262) (by decide +kernel)⟩
theorem lw_p13 : lw_okq (⟨"StereoWar$Pad", "read", "()I"⟩, 6) := ⟨⟨by decide +kernel, by decide +kernel⟩, List.mem_of_getElem? (i := 85) (by decide +kernel), List.mem_of_getElem? (i := 274) (by decide +kernel), List.mem_of_getElem? (i := 275) (by decide +kernel)⟩
theorem lw_p14 : lw_okq (⟨"StereoWar$Pad", "addPair", "(II)V"⟩, 6) := ⟨⟨by decide +kernel, by decide +kernel⟩, List.mem_of_getElem? (i := 85) (by decide +kernel), List.mem_of_getElem? (i := 278) (by decide +kernel), List.mem_of_getElem? (i := 279) (by decide +kernel)⟩
theorem lw_p15 : lw_okq (⟨"StereoWar$Pad", "firstWrongPair", "(LStereoWar$Scene;)I"⟩, 6) := ⟨⟨by decide +kernel, by decide +kernel⟩, List.mem_of_getElem? (i := 85) (by decide +kernel), List.mem_of_getElem? (i := 286) (by decide +kernel), List.mem_of_getElem? (i := 287) (by decide +kernel)⟩
def lw_privs_1 : List (MethodName × Nat) := [(⟨"StereoWar$Scene", "putThing", "(IIII)V"⟩, 3), (⟨"StereoWar$Scene", "thingBits", "()I"⟩, 3), (⟨"StereoWar$Scene", "thingAt", "(I)LStereoWar$Thing;"⟩, 3), (⟨"StereoWar$Scene", "takePicture", "(III)I"⟩, 3), (⟨"StereoWar$Scene", "expose", "(LStereoWar$Picture;II)V"⟩, 3), (⟨"StereoWar$Scene", "columnOf", "(III)I"⟩, 3), (⟨"StereoWar$Thing", "columnFrom", "(III)I"⟩, 4), (⟨"StereoWar$Picture", "putColumn", "(II)V"⟩, 2), (⟨"StereoWar$Picture", "shownBits", "()I"⟩, 2), (⟨"StereoWar$Scene", "pictureAt", "(I)LStereoWar$Picture;"⟩, 3), (⟨"StereoWar$Picture", "columnOf", "(I)I"⟩, 2), (⟨"StereoWar$Scene", "pictureBits", "()I"⟩, 3), (⟨"StereoWar$Pad", "addSign", "(I)Z"⟩, 6), (⟨"StereoWar$Pad", "read", "()I"⟩, 6), (⟨"StereoWar$Pad", "addPair", "(II)V"⟩, 6), (⟨"StereoWar$Pad", "firstWrongPair", "(LStereoWar$Scene;)I"⟩, 6)]
theorem lw_r1 : ∀ q ∈ lw_privs_1, lw_okq q := List.forall_mem_cons.mpr ⟨lw_p0, List.forall_mem_cons.mpr ⟨lw_p1, List.forall_mem_cons.mpr ⟨lw_p2, List.forall_mem_cons.mpr ⟨lw_p3, List.forall_mem_cons.mpr ⟨lw_p4, List.forall_mem_cons.mpr ⟨lw_p5, List.forall_mem_cons.mpr ⟨lw_p6, List.forall_mem_cons.mpr ⟨lw_p7, List.forall_mem_cons.mpr ⟨lw_p8, List.forall_mem_cons.mpr ⟨lw_p9, List.forall_mem_cons.mpr ⟨lw_p10, List.forall_mem_cons.mpr ⟨lw_p11, List.forall_mem_cons.mpr ⟨lw_p12, List.forall_mem_cons.mpr ⟨lw_p13, List.forall_mem_cons.mpr ⟨lw_p14, List.forall_mem_cons.mpr ⟨lw_p15, fun _ h => absurd h List.not_mem_nil⟩⟩⟩⟩⟩⟩⟩⟩⟩⟩⟩⟩⟩⟩⟩⟩
theorem lw_p16 : lw_okq (⟨"StereoWar$Pad", "whyNot", "(ILStereoWar$Scene;)I"⟩, 6) := ⟨⟨by decide +kernel, by decide +kernel⟩, List.mem_of_getElem? (i := 85) (by decide +kernel), List.mem_of_getElem? (i := 290) (by decide +kernel), List.mem_of_getElem? (i := 291) (by decide +kernel)⟩
theorem lw_p17 : lw_okq (⟨"StereoWar$Pad", "leftOf", "(I)I"⟩, 6) := ⟨⟨by decide +kernel, by decide +kernel⟩, List.mem_of_getElem? (i := 85) (by decide +kernel), List.mem_of_getElem? (i := 294) (by decide +kernel), List.mem_of_getElem? (i := 295) (by decide +kernel)⟩
theorem lw_p18 : lw_okq (⟨"StereoWar$Pad", "rightOf", "(I)I"⟩, 6) := ⟨⟨by decide +kernel, by decide +kernel⟩, List.mem_of_getElem? (i := 85) (by decide +kernel), List.mem_of_getElem? (i := 298) (by decide +kernel), List.mem_of_getElem? (i := 299) (by decide +kernel)⟩
theorem lw_p19 : lw_okq (⟨"StereoWar$Pad", "isOf", "(II)Z"⟩, 6) := ⟨⟨by decide +kernel, by decide +kernel⟩, List.mem_of_getElem? (i := 85) (by decide +kernel), List.mem_of_getElem? (i := 303) (by decide +kernel), List.mem_of_getElem? (i := 304) (by decide +kernel)⟩
theorem lw_p20 : lw_okq (⟨"StereoWar$Pad", "firstNotGood", "(LStereoWar$Scene;)I"⟩, 6) := ⟨⟨by decide +kernel, by decide +kernel⟩, List.mem_of_getElem? (i := 85) (by decide +kernel), List.mem_of_getElem? (i := 312) (by decide +kernel), List.mem_of_getElem? (i := 313) (by decide +kernel)⟩
theorem lw_p21 : lw_okq (⟨"StereoWar$Scene", "kindOfPair", "(II)I"⟩, 3) := ⟨⟨by decide +kernel, by decide +kernel⟩, List.mem_of_getElem? (i := 22) (by decide +kernel), List.mem_of_getElem? (i := 316) (by decide +kernel), List.mem_of_getElem? (i := 317) (by decide +kernel)⟩
theorem lw_p22 : lw_okq (⟨"StereoWar$Picture", "kindWith", "(LStereoWar$Picture;)I"⟩, 2) := ⟨⟨by decide +kernel, by decide +kernel⟩, List.mem_of_getElem? (i := 57) (by decide +kernel), List.mem_of_getElem? (i := 321) (by decide +kernel), List.mem_of_getElem? (i := 322) (by decide +kernel)⟩
theorem lw_p23 : lw_okq (⟨"StereoWar$Picture", "sharesWith", "(LStereoWar$Picture;I)Z"⟩, 2) := ⟨⟨by decide +kernel, by decide +kernel⟩, List.mem_of_getElem? (i := 57) (by decide +kernel), List.mem_of_getElem? (i := 325) (by decide +kernel), List.mem_of_getElem? (i := 326) (by decide +kernel)⟩
theorem lw_p24 : lw_okq (⟨"StereoWar$Picture", "shiftTo", "(LStereoWar$Picture;I)I"⟩, 2) := ⟨⟨by decide +kernel, by decide +kernel⟩, List.mem_of_getElem? (i := 57) (by decide +kernel), List.mem_of_getElem? (i := 330) (by decide +kernel), List.mem_of_getElem? (i := 331) (by decide +kernel)⟩
theorem lw_p25 : lw_okq (⟨"StereoWar$Pad", "countOfKind", "(ILStereoWar$Scene;)I"⟩, 6) := ⟨⟨by decide +kernel, by decide +kernel⟩, List.mem_of_getElem? (i := 85) (by decide +kernel), List.mem_of_getElem? (i := 334) (by decide +kernel), List.mem_of_getElem? (i := 335) (by decide +kernel)⟩
theorem lw_p26 : lw_okq (⟨"StereoWar$Picture", "countSharedWith", "(LStereoWar$Picture;)I"⟩, 2) := ⟨⟨by decide +kernel, by decide +kernel⟩, List.mem_of_getElem? (i := 57) (by decide +kernel), List.mem_of_getElem? (i := 353) (by decide +kernel), List.mem_of_getElem? (i := 354) (by decide +kernel)⟩
theorem lw_p27 : lw_okq (⟨"StereoWar$Picture", "nearestWith", "(LStereoWar$Picture;I)I"⟩, 2) := ⟨⟨by decide +kernel, by decide +kernel⟩, List.mem_of_getElem? (i := 57) (by decide +kernel), List.mem_of_getElem? (i := 359) (by decide +kernel), List.mem_of_getElem? (i := 360) (by decide +kernel)⟩
theorem lw_p28 : lw_okq (⟨"StereoWar$Picture", "countBefore", "(LStereoWar$Picture;I)I"⟩, 2) := ⟨⟨by decide +kernel, by decide +kernel⟩, List.mem_of_getElem? (i := 57) (by decide +kernel), List.mem_of_getElem? (i := 363) (by decide +kernel), List.mem_of_getElem? (i := 364) (by decide +kernel)⟩
theorem lw_p29 : lw_okq (⟨"StereoWar$Matcher", "prepare", "(LStereoWar$Scene;I)V"⟩, 2) := ⟨⟨by decide +kernel, by decide +kernel⟩, List.mem_of_getElem? (i := 114) (by decide +kernel), List.mem_of_getElem? (i := 374) (by decide +kernel), List.mem_of_getElem? (i := 375) (by decide +kernel)⟩
theorem lw_p30 : lw_okq (⟨"StereoWar$Matcher", "mostOf", "(I)I"⟩, 2) := ⟨⟨by decide +kernel, by decide +kernel⟩, List.mem_of_getElem? (i := 114) (by decide +kernel), List.mem_of_getElem? (i := 382) (by decide +kernel), List.mem_of_getElem? (i := 383) (by decide +kernel)⟩
theorem lw_p31 : lw_okq (⟨"StereoWar$Matcher", "mostPairs", "(I)I"⟩, 2) := ⟨⟨by decide +kernel, by decide +kernel⟩, List.mem_of_getElem? (i := 114) (by decide +kernel), List.mem_of_getElem? (i := 390) (by decide +kernel), List.mem_of_getElem? (i := 391) (by decide +kernel)⟩
def lw_privs_2 : List (MethodName × Nat) := [(⟨"StereoWar$Pad", "whyNot", "(ILStereoWar$Scene;)I"⟩, 6), (⟨"StereoWar$Pad", "leftOf", "(I)I"⟩, 6), (⟨"StereoWar$Pad", "rightOf", "(I)I"⟩, 6), (⟨"StereoWar$Pad", "isOf", "(II)Z"⟩, 6), (⟨"StereoWar$Pad", "firstNotGood", "(LStereoWar$Scene;)I"⟩, 6), (⟨"StereoWar$Scene", "kindOfPair", "(II)I"⟩, 3), (⟨"StereoWar$Picture", "kindWith", "(LStereoWar$Picture;)I"⟩, 2), (⟨"StereoWar$Picture", "sharesWith", "(LStereoWar$Picture;I)Z"⟩, 2), (⟨"StereoWar$Picture", "shiftTo", "(LStereoWar$Picture;I)I"⟩, 2), (⟨"StereoWar$Pad", "countOfKind", "(ILStereoWar$Scene;)I"⟩, 6), (⟨"StereoWar$Picture", "countSharedWith", "(LStereoWar$Picture;)I"⟩, 2), (⟨"StereoWar$Picture", "nearestWith", "(LStereoWar$Picture;I)I"⟩, 2), (⟨"StereoWar$Picture", "countBefore", "(LStereoWar$Picture;I)I"⟩, 2), (⟨"StereoWar$Matcher", "prepare", "(LStereoWar$Scene;I)V"⟩, 2), (⟨"StereoWar$Matcher", "mostOf", "(I)I"⟩, 2), (⟨"StereoWar$Matcher", "mostPairs", "(I)I"⟩, 2)]
theorem lw_r2 : ∀ q ∈ lw_privs_2, lw_okq q := List.forall_mem_cons.mpr ⟨lw_p16, List.forall_mem_cons.mpr ⟨lw_p17, List.forall_mem_cons.mpr ⟨lw_p18, List.forall_mem_cons.mpr ⟨lw_p19, List.forall_mem_cons.mpr ⟨lw_p20, List.forall_mem_cons.mpr ⟨lw_p21, List.forall_mem_cons.mpr ⟨lw_p22, List.forall_mem_cons.mpr ⟨lw_p23, List.forall_mem_cons.mpr ⟨lw_p24, List.forall_mem_cons.mpr ⟨lw_p25, List.forall_mem_cons.mpr ⟨lw_p26, List.forall_mem_cons.mpr ⟨lw_p27, List.forall_mem_cons.mpr ⟨lw_p28, List.forall_mem_cons.mpr ⟨lw_p29, List.forall_mem_cons.mpr ⟨lw_p30, List.forall_mem_cons.mpr ⟨lw_p31, fun _ h => absurd h List.not_mem_nil⟩⟩⟩⟩⟩⟩⟩⟩⟩⟩⟩⟩⟩⟩⟩⟩
theorem lw_p32 : lw_okq (⟨"StereoWar$Matcher", "canPair", "(III)Z"⟩, 2) := ⟨⟨by decide +kernel, by decide +kernel⟩, List.mem_of_getElem? (i := 114) (by decide +kernel), List.mem_of_getElem? (i := 395) (by decide +kernel), List.mem_of_getElem? (i := 396) (by decide +kernel)⟩
theorem lw_p33 : lw_okq (⟨"StereoWar$Matcher", "partnerOf", "(II)I"⟩, 2) := ⟨⟨by decide +kernel, by decide +kernel⟩, List.mem_of_getElem? (i := 114) (by decide +kernel), List.mem_of_getElem? (i := 404) (by decide +kernel), List.mem_of_getElem? (i := 405) (by decide +kernel)⟩
theorem lw_p34 : lw_okq (⟨"StereoWar$Matcher", "firstMate", "(II)I"⟩, 2) := ⟨⟨by decide +kernel, by decide +kernel⟩, List.mem_of_getElem? (i := 114) (by decide +kernel), List.mem_of_getElem? (i := 408) (by decide +kernel), List.mem_of_getElem? (i := 409) (by decide +kernel)⟩
theorem lw_p35 : lw_okq (⟨"StereoWar", "rowsOfThree", "(I)I"⟩, 8) := ⟨⟨by decide +kernel, by decide +kernel⟩, List.mem_of_getElem? (i := 14) (by decide +kernel), List.mem_of_getElem? (i := 475) (by decide +kernel), List.mem_of_getElem? (i := 476) (by decide +kernel)⟩
theorem lw_p36 : lw_okq (⟨"StereoWar$Shutter", "setChances", "(II)V"⟩, 1) := ⟨⟨by decide +kernel, by decide +kernel⟩, List.mem_of_getElem? (i := 127) (by decide +kernel), List.mem_of_getElem? (i := 487) (by decide +kernel), List.mem_of_getElem? (i := 488) (by decide +kernel)⟩
theorem lw_p37 : lw_okq (⟨"StereoWar$Shutter", "waysOf", "(I)J"⟩, 1) := ⟨⟨by decide +kernel, by decide +kernel⟩, List.mem_of_getElem? (i := 127) (by decide +kernel), List.mem_of_getElem? (i := 492) (by decide +kernel), List.mem_of_getElem? (i := 493) (by decide +kernel)⟩
theorem lw_p38 : lw_okq (⟨"StereoWar$Scene", "countShown", "(II)I"⟩, 3) := ⟨⟨by decide +kernel, by decide +kernel⟩, List.mem_of_getElem? (i := 22) (by decide +kernel), List.mem_of_getElem? (i := 510) (by decide +kernel), List.mem_of_getElem? (i := 511) (by decide +kernel)⟩
theorem lw_p39 : lw_okq (⟨"StereoWar$Scene", "copyFrom", "(LStereoWar$Scene;)V"⟩, 3) := ⟨⟨by decide +kernel, by decide +kernel⟩, List.mem_of_getElem? (i := 22) (by decide +kernel), List.mem_of_getElem? (i := 523) (by decide +kernel), List.mem_of_getElem? (i := 524) (by decide +kernel)⟩
theorem lw_p40 : lw_okq (⟨"StereoWar$Thing", "copyFrom", "(LStereoWar$Thing;)V"⟩, 4) := ⟨⟨by decide +kernel, by decide +kernel⟩, List.mem_of_getElem? (i := 31) (by decide +kernel), List.mem_of_getElem? (i := 527) (by decide +kernel), List.mem_of_getElem? (i := 528) (by decide +kernel)⟩
theorem lw_p41 : lw_okq (⟨"StereoWar$Picture", "copyFrom", "(LStereoWar$Picture;)V"⟩, 2) := ⟨⟨by decide +kernel, by decide +kernel⟩, List.mem_of_getElem? (i := 57) (by decide +kernel), List.mem_of_getElem? (i := 531) (by decide +kernel), List.mem_of_getElem? (i := 532) (by decide +kernel)⟩
theorem lw_p42 : lw_okq (⟨"StereoWar", "toldOfThing", "(II)I"⟩, 8) := ⟨⟨by decide +kernel, by decide +kernel⟩, List.mem_of_getElem? (i := 14) (by decide +kernel), List.mem_of_getElem? (i := 543) (by decide +kernel), List.mem_of_getElem? (i := 544) (by decide +kernel)⟩
theorem lw_p43 : lw_okq (⟨"StereoWar", "toldOfPicture", "(II)I"⟩, 8) := ⟨⟨by decide +kernel, by decide +kernel⟩, List.mem_of_getElem? (i := 14) (by decide +kernel), List.mem_of_getElem? (i := 547) (by decide +kernel), List.mem_of_getElem? (i := 548) (by decide +kernel)⟩
theorem lw_p44 : lw_okq (⟨"StereoWarModel", "isThing", "(I)Z"⟩, 24) := ⟨⟨by decide +kernel, by decide +kernel⟩, List.mem_of_getElem? (i := 551) (by decide +kernel), List.mem_of_getElem? (i := 652) (by decide +kernel), List.mem_of_getElem? (i := 653) (by decide +kernel)⟩
theorem lw_p45 : lw_okq (⟨"StereoWarModel", "columnOf", "(III)I"⟩, 24) := ⟨⟨by decide +kernel, by decide +kernel⟩, List.mem_of_getElem? (i := 551) (by decide +kernel), List.mem_of_getElem? (i := 665) (by decide +kernel), List.mem_of_getElem? (i := 666) (by decide +kernel)⟩
theorem lw_p46 : lw_okq (⟨"StereoWarModel", "isPicture", "(I)Z"⟩, 24) := ⟨⟨by decide +kernel, by decide +kernel⟩, List.mem_of_getElem? (i := 551) (by decide +kernel), List.mem_of_getElem? (i := 674) (by decide +kernel), List.mem_of_getElem? (i := 675) (by decide +kernel)⟩
theorem lw_p47 : lw_okq (⟨"StereoWarModel", "keepLeft", "(Z)V"⟩, 24) := ⟨⟨by decide +kernel, by decide +kernel⟩, List.mem_of_getElem? (i := 551) (by decide +kernel), List.mem_of_getElem? (i := 696) (by decide +kernel), List.mem_of_getElem? (i := 697) (by decide +kernel)⟩
def lw_privs_3 : List (MethodName × Nat) := [(⟨"StereoWar$Matcher", "canPair", "(III)Z"⟩, 2), (⟨"StereoWar$Matcher", "partnerOf", "(II)I"⟩, 2), (⟨"StereoWar$Matcher", "firstMate", "(II)I"⟩, 2), (⟨"StereoWar", "rowsOfThree", "(I)I"⟩, 8), (⟨"StereoWar$Shutter", "setChances", "(II)V"⟩, 1), (⟨"StereoWar$Shutter", "waysOf", "(I)J"⟩, 1), (⟨"StereoWar$Scene", "countShown", "(II)I"⟩, 3), (⟨"StereoWar$Scene", "copyFrom", "(LStereoWar$Scene;)V"⟩, 3), (⟨"StereoWar$Thing", "copyFrom", "(LStereoWar$Thing;)V"⟩, 4), (⟨"StereoWar$Picture", "copyFrom", "(LStereoWar$Picture;)V"⟩, 2), (⟨"StereoWar", "toldOfThing", "(II)I"⟩, 8), (⟨"StereoWar", "toldOfPicture", "(II)I"⟩, 8), (⟨"StereoWarModel", "isThing", "(I)Z"⟩, 24), (⟨"StereoWarModel", "columnOf", "(III)I"⟩, 24), (⟨"StereoWarModel", "isPicture", "(I)Z"⟩, 24), (⟨"StereoWarModel", "keepLeft", "(Z)V"⟩, 24)]
theorem lw_r3 : ∀ q ∈ lw_privs_3, lw_okq q := List.forall_mem_cons.mpr ⟨lw_p32, List.forall_mem_cons.mpr ⟨lw_p33, List.forall_mem_cons.mpr ⟨lw_p34, List.forall_mem_cons.mpr ⟨lw_p35, List.forall_mem_cons.mpr ⟨lw_p36, List.forall_mem_cons.mpr ⟨lw_p37, List.forall_mem_cons.mpr ⟨lw_p38, List.forall_mem_cons.mpr ⟨lw_p39, List.forall_mem_cons.mpr ⟨lw_p40, List.forall_mem_cons.mpr ⟨lw_p41, List.forall_mem_cons.mpr ⟨lw_p42, List.forall_mem_cons.mpr ⟨lw_p43, List.forall_mem_cons.mpr ⟨lw_p44, List.forall_mem_cons.mpr ⟨lw_p45, List.forall_mem_cons.mpr ⟨lw_p46, List.forall_mem_cons.mpr ⟨lw_p47, fun _ h => absurd h List.not_mem_nil⟩⟩⟩⟩⟩⟩⟩⟩⟩⟩⟩⟩⟩⟩⟩⟩
theorem lw_p48 : lw_okq (⟨"StereoWarModel", "refusal", "()I"⟩, 24) := ⟨⟨by decide +kernel, by decide +kernel⟩, List.mem_of_getElem? (i := 551) (by decide +kernel), List.mem_of_getElem? (i := 705) (by decide +kernel), List.mem_of_getElem? (i := 706) (by decide +kernel)⟩
theorem lw_p49 : lw_okq (⟨"StereoWarModel", "whyNot", "(I)I"⟩, 24) := ⟨⟨by decide +kernel, by decide +kernel⟩, List.mem_of_getElem? (i := 551) (by decide +kernel), List.mem_of_getElem? (i := 710) (by decide +kernel), List.mem_of_getElem? (i := 711) (by decide +kernel)⟩
theorem lw_p50 : lw_okq (⟨"StereoWarModel", "kindOf", "(II)I"⟩, 24) := ⟨⟨by decide +kernel, by decide +kernel⟩, List.mem_of_getElem? (i := 551) (by decide +kernel), List.mem_of_getElem? (i := 718) (by decide +kernel), List.mem_of_getElem? (i := 719) (by decide +kernel)⟩
theorem lw_p51 : lw_okq (⟨"StereoWarModel", "areBoth", "(III)Z"⟩, 24) := ⟨⟨by decide +kernel, by decide +kernel⟩, List.mem_of_getElem? (i := 551) (by decide +kernel), List.mem_of_getElem? (i := 722) (by decide +kernel), List.mem_of_getElem? (i := 723) (by decide +kernel)⟩
theorem lw_p52 : lw_okq (⟨"StereoWarModel", "shiftOf", "(III)I"⟩, 24) := ⟨⟨by decide +kernel, by decide +kernel⟩, List.mem_of_getElem? (i := 551) (by decide +kernel), List.mem_of_getElem? (i := 726) (by decide +kernel), List.mem_of_getElem? (i := 727) (by decide +kernel)⟩
theorem lw_p53 : lw_okq (⟨"StereoWarModel", "areTwo", "(II)Z"⟩, 24) := ⟨⟨by decide +kernel, by decide +kernel⟩, List.mem_of_getElem? (i := 551) (by decide +kernel), List.mem_of_getElem? (i := 737) (by decide +kernel), List.mem_of_getElem? (i := 738) (by decide +kernel)⟩
theorem lw_p54 : lw_okq (⟨"StereoWarModel", "findMost", "(I)V"⟩, 24) := ⟨⟨by decide +kernel, by decide +kernel⟩, List.mem_of_getElem? (i := 551) (by decide +kernel), List.mem_of_getElem? (i := 754) (by decide +kernel), List.mem_of_getElem? (i := 755) (by decide +kernel)⟩
theorem lw_p55 : lw_okq (⟨"StereoWarModel", "canPair", "(II)Z"⟩, 24) := ⟨⟨by decide +kernel, by decide +kernel⟩, List.mem_of_getElem? (i := 551) (by decide +kernel), List.mem_of_getElem? (i := 761) (by decide +kernel), List.mem_of_getElem? (i := 762) (by decide +kernel)⟩
theorem lw_p56 : lw_okq (⟨"StereoWarModel", "mateOf", "(I)I"⟩, 24) := ⟨⟨by decide +kernel, by decide +kernel⟩, List.mem_of_getElem? (i := 551) (by decide +kernel), List.mem_of_getElem? (i := 765) (by decide +kernel), List.mem_of_getElem? (i := 766) (by decide +kernel)⟩
theorem lw_p57 : lw_okq (⟨"StereoWarModel", "unlike", "(III)I"⟩, 24) := ⟨⟨by decide +kernel, by decide +kernel⟩, List.mem_of_getElem? (i := 551) (by decide +kernel), List.mem_of_getElem? (i := 773) (by decide +kernel), List.mem_of_getElem? (i := 774) (by decide +kernel)⟩
theorem lw_p58 : lw_okq (⟨"StereoWarModel", "findMinutes", "(I)V"⟩, 24) := ⟨⟨by decide +kernel, by decide +kernel⟩, List.mem_of_getElem? (i := 551) (by decide +kernel), List.mem_of_getElem? (i := 785) (by decide +kernel), List.mem_of_getElem? (i := 786) (by decide +kernel)⟩
theorem lw_p59 : lw_okq (⟨"StereoWarModel", "lateKind", "(IIII)I"⟩, 24) := ⟨⟨by decide +kernel, by decide +kernel⟩, List.mem_of_getElem? (i := 551) (by decide +kernel), List.mem_of_getElem? (i := 805) (by decide +kernel), List.mem_of_getElem? (i := 806) (by decide +kernel)⟩
theorem lw_p60 : lw_okq (⟨"StereoWarModel", "shownFrom", "(II)I"⟩, 24) := ⟨⟨by decide +kernel, by decide +kernel⟩, List.mem_of_getElem? (i := 551) (by decide +kernel), List.mem_of_getElem? (i := 820) (by decide +kernel), List.mem_of_getElem? (i := 821) (by decide +kernel)⟩
theorem lw_p61 : lw_okq (⟨"StereoWarModel", "passAll", "()V"⟩, 24) := ⟨⟨by decide +kernel, by decide +kernel⟩, List.mem_of_getElem? (i := 551) (by decide +kernel), List.mem_of_getElem? (i := 836) (by decide +kernel), List.mem_of_getElem? (i := 837) (by decide +kernel)⟩
theorem lw_p62 : lw_okq (⟨"StereoWarModel", "pass", "(I)I"⟩, 24) := ⟨⟨by decide +kernel, by decide +kernel⟩, List.mem_of_getElem? (i := 551) (by decide +kernel), List.mem_of_getElem? (i := 840) (by decide +kernel), List.mem_of_getElem? (i := 841) (by decide +kernel)⟩
theorem lw_p63 : lw_okq (⟨"StereoWarModel", "toldOfThing", "(II)I"⟩, 24) := ⟨⟨by decide +kernel, by decide +kernel⟩, List.mem_of_getElem? (i := 551) (by decide +kernel), List.mem_of_getElem? (i := 855) (by decide +kernel), List.mem_of_getElem? (i := 856) (by decide +kernel)⟩
def lw_privs_4 : List (MethodName × Nat) := [(⟨"StereoWarModel", "refusal", "()I"⟩, 24), (⟨"StereoWarModel", "whyNot", "(I)I"⟩, 24), (⟨"StereoWarModel", "kindOf", "(II)I"⟩, 24), (⟨"StereoWarModel", "areBoth", "(III)Z"⟩, 24), (⟨"StereoWarModel", "shiftOf", "(III)I"⟩, 24), (⟨"StereoWarModel", "areTwo", "(II)Z"⟩, 24), (⟨"StereoWarModel", "findMost", "(I)V"⟩, 24), (⟨"StereoWarModel", "canPair", "(II)Z"⟩, 24), (⟨"StereoWarModel", "mateOf", "(I)I"⟩, 24), (⟨"StereoWarModel", "unlike", "(III)I"⟩, 24), (⟨"StereoWarModel", "findMinutes", "(I)V"⟩, 24), (⟨"StereoWarModel", "lateKind", "(IIII)I"⟩, 24), (⟨"StereoWarModel", "shownFrom", "(II)I"⟩, 24), (⟨"StereoWarModel", "passAll", "()V"⟩, 24), (⟨"StereoWarModel", "pass", "(I)I"⟩, 24), (⟨"StereoWarModel", "toldOfThing", "(II)I"⟩, 24)]
theorem lw_r4 : ∀ q ∈ lw_privs_4, lw_okq q := List.forall_mem_cons.mpr ⟨lw_p48, List.forall_mem_cons.mpr ⟨lw_p49, List.forall_mem_cons.mpr ⟨lw_p50, List.forall_mem_cons.mpr ⟨lw_p51, List.forall_mem_cons.mpr ⟨lw_p52, List.forall_mem_cons.mpr ⟨lw_p53, List.forall_mem_cons.mpr ⟨lw_p54, List.forall_mem_cons.mpr ⟨lw_p55, List.forall_mem_cons.mpr ⟨lw_p56, List.forall_mem_cons.mpr ⟨lw_p57, List.forall_mem_cons.mpr ⟨lw_p58, List.forall_mem_cons.mpr ⟨lw_p59, List.forall_mem_cons.mpr ⟨lw_p60, List.forall_mem_cons.mpr ⟨lw_p61, List.forall_mem_cons.mpr ⟨lw_p62, List.forall_mem_cons.mpr ⟨lw_p63, fun _ h => absurd h List.not_mem_nil⟩⟩⟩⟩⟩⟩⟩⟩⟩⟩⟩⟩⟩⟩⟩⟩
def lw_privs : List (MethodName × Nat) := lw_privs_1 ++ (lw_privs_2 ++ (lw_privs_3 ++ (lw_privs_4)))
def lw_tbl : List Cond := k2_sels lw_privs ++ tables_1
theorem lw_privs_ok : ∀ q ∈ lw_privs, lw_okq q := by
  show ∀ q ∈ lw_privs_1 ++ (lw_privs_2 ++ (lw_privs_3 ++ (lw_privs_4))), lw_okq q
  exact List.forall_mem_append.mpr ⟨lw_r1, List.forall_mem_append.mpr ⟨lw_r2, List.forall_mem_append.mpr ⟨lw_r3, lw_r4⟩⟩⟩

/-- the words that callees may be handed -/
def TT : List Cond := lw_tbl.filter goodWord
/-- the links between nest mates, and the arrays of own classes -/
def isNW : Cond → Bool
  | .fieldLinkNest .. => true
  | .methodLinkNest .. => true
  | .arrayOver (.object _) => true
  | _ => false
def NW : List Cond := lw_tbl.filter isNW
theorem tt_at (i : Nat) {w : Cond} (h : lw_tbl[i]? = some w) (g : goodWord w = true) : w ∈ TT := List.mem_filter.mpr ⟨List.mem_of_getElem? h, g⟩
theorem nw_at (i : Nat) {w : Cond} (h : lw_tbl[i]? = some w) (g : isNW w = true) : w ∈ NW := List.mem_filter.mpr ⟨List.mem_of_getElem? h, g⟩
end
section
def RX0 : String := "StereoWar$Matcher"
def TX0 : u_T := fun k => match k with
  | 0 => ("StereoWar$Matcher", "friends", "[I", true)
  | _ => ("StereoWar$Matcher", "most", "[I", true)
def tyX0 : Nat → FieldType := fun k => match k with
  | 0 => .array .int
  | _ => .array .int
abbrev wsX00 : List Cond := u_ws RX0 TX0 2
theorem nmX0 : ∀ a, a < 2 → ∀ b, b < 2 → a ≠ b → (TX0 a).2.1 ≠ (TX0 b).2.1 := by decide +kernel
theorem tyX0_ok : ∀ k, k < 2 → parseFieldDescriptor (TX0 k).2.2.1 = some (tyX0 k) := by decide +kernel
abbrev cX0_init : ByteArray := prog_2_method_1_code
def yX0_init : MethodName := ⟨RX0, "<init>", "()V"⟩
abbrev cX0_prepare : ByteArray := prog_2_method_2_code
def yX0_prepare : MethodName := ⟨RX0, "prepare", "(LStereoWar$Scene;I)V"⟩
abbrev cX0_friendsOf : ByteArray := prog_2_method_3_code
def yX0_friendsOf : MethodName := ⟨RX0, "friendsOf", "(ILStereoWar$Scene;)I"⟩
abbrev cX0_mostOf : ByteArray := prog_2_method_4_code
def yX0_mostOf : MethodName := ⟨RX0, "mostOf", "(I)I"⟩
abbrev cX0_leastOf : ByteArray := prog_2_method_5_code
def yX0_leastOf : MethodName := ⟨RX0, "leastOf", "(I)I"⟩
abbrev cX0_canPair : ByteArray := prog_2_method_6_code
def yX0_canPair : MethodName := ⟨RX0, "canPair", "(III)Z"⟩
abbrev cX0_mostPairs : ByteArray := prog_2_method_7_code
def yX0_mostPairs : MethodName := ⟨RX0, "mostPairs", "(I)I"⟩
abbrev cX0_partnerOf : ByteArray := prog_2_method_8_code
def yX0_partnerOf : MethodName := ⟨RX0, "partnerOf", "(II)I"⟩
abbrev cX0_firstMate : ByteArray := prog_2_method_9_code
def yX0_firstMate : MethodName := ⟨RX0, "firstMate", "(II)I"⟩
def RX1 : String := "StereoWar$Pad"
def TX1 : u_T := fun k => match k with
  | 0 => ("StereoWar$Pad", "signs", "[I", true)
  | 1 => ("StereoWar$Pad", "count", "I", false)
  | 2 => ("StereoWar$Pad", "lefts", "[I", true)
  | 3 => ("StereoWar$Pad", "rights", "[I", true)
  | 4 => ("StereoWar$Pad", "pairs", "I", false)
  | _ => ("StereoWar$Pad", "turns", "I", false)
def tyX1 : Nat → FieldType := fun k => match k with
  | 0 => .array .int
  | 1 => .int
  | 2 => .array .int
  | 3 => .array .int
  | 4 => .int
  | _ => .int
abbrev wsX10 : List Cond := u_ws RX1 TX1 6
theorem nmX1 : ∀ a, a < 6 → ∀ b, b < 6 → a ≠ b → (TX1 a).2.1 ≠ (TX1 b).2.1 := by decide +kernel
theorem tyX1_ok : ∀ k, k < 6 → parseFieldDescriptor (TX1 k).2.2.1 = some (tyX1 k) := by decide +kernel
abbrev cX1_init : ByteArray := prog_3_method_1_code
def yX1_init : MethodName := ⟨RX1, "<init>", "()V"⟩
abbrev cX1_addSign : ByteArray := prog_3_method_2_code
def yX1_addSign : MethodName := ⟨RX1, "addSign", "(I)Z"⟩
abbrev cX1_read : ByteArray := prog_3_method_3_code
def yX1_read : MethodName := ⟨RX1, "read", "()I"⟩
abbrev cX1_addPair : ByteArray := prog_3_method_4_code
def yX1_addPair : MethodName := ⟨RX1, "addPair", "(II)V"⟩
abbrev cX1_leftOf : ByteArray := prog_3_method_5_code
def yX1_leftOf : MethodName := ⟨RX1, "leftOf", "(I)I"⟩
abbrev cX1_rightOf : ByteArray := prog_3_method_6_code
def yX1_rightOf : MethodName := ⟨RX1, "rightOf", "(I)I"⟩
abbrev cX1_firstWrongPair : ByteArray := prog_3_method_7_code
def yX1_firstWrongPair : MethodName := ⟨RX1, "firstWrongPair", "(LStereoWar$Scene;)I"⟩
abbrev cX1_whyNot : ByteArray := prog_3_method_8_code
def yX1_whyNot : MethodName := ⟨RX1, "whyNot", "(ILStereoWar$Scene;)I"⟩
abbrev cX1_isOf : ByteArray := prog_3_method_9_code
def yX1_isOf : MethodName := ⟨RX1, "isOf", "(II)Z"⟩
abbrev cX1_countOfKind : ByteArray := prog_3_method_10_code
def yX1_countOfKind : MethodName := ⟨RX1, "countOfKind", "(ILStereoWar$Scene;)I"⟩
abbrev cX1_firstNotGood : ByteArray := prog_3_method_11_code
def yX1_firstNotGood : MethodName := ⟨RX1, "firstNotGood", "(LStereoWar$Scene;)I"⟩
def RX2 : String := "StereoWar$Picture"
def TX2 : u_T := fun k => match k with
  | 0 => ("StereoWar$Picture", "there", "Z", false)
  | _ => ("StereoWar$Picture", "columns", "[I", true)
def tyX2 : Nat → FieldType := fun k => match k with
  | 0 => .boolean
  | _ => .array .int
abbrev wsX20 : List Cond := u_ws RX2 TX2 2
theorem nmX2 : ∀ a, a < 2 → ∀ b, b < 2 → a ≠ b → (TX2 a).2.1 ≠ (TX2 b).2.1 := by decide +kernel
theorem tyX2_ok : ∀ k, k < 2 → parseFieldDescriptor (TX2 k).2.2.1 = some (tyX2 k) := by decide +kernel
abbrev cX2_init : ByteArray := prog_4_method_1_code
def yX2_init : MethodName := ⟨RX2, "<init>", "()V"⟩
abbrev cX2_columnOf : ByteArray := prog_4_method_2_code
def yX2_columnOf : MethodName := ⟨RX2, "columnOf", "(I)I"⟩
abbrev cX2_putColumn : ByteArray := prog_4_method_3_code
def yX2_putColumn : MethodName := ⟨RX2, "putColumn", "(II)V"⟩
abbrev cX2_shownBits : ByteArray := prog_4_method_4_code
def yX2_shownBits : MethodName := ⟨RX2, "shownBits", "()I"⟩
abbrev cX2_copyFrom : ByteArray := prog_4_method_5_code
def yX2_copyFrom : MethodName := ⟨RX2, "copyFrom", "(LStereoWar$Picture;)V"⟩
abbrev cX2_sharesWith : ByteArray := prog_4_method_6_code
def yX2_sharesWith : MethodName := ⟨RX2, "sharesWith", "(LStereoWar$Picture;I)Z"⟩
abbrev cX2_shiftTo : ByteArray := prog_4_method_7_code
def yX2_shiftTo : MethodName := ⟨RX2, "shiftTo", "(LStereoWar$Picture;I)I"⟩
abbrev cX2_kindWith : ByteArray := prog_4_method_8_code
def yX2_kindWith : MethodName := ⟨RX2, "kindWith", "(LStereoWar$Picture;)I"⟩
abbrev cX2_countSharedWith : ByteArray := prog_4_method_9_code
def yX2_countSharedWith : MethodName := ⟨RX2, "countSharedWith", "(LStereoWar$Picture;)I"⟩
abbrev cX2_nearestWith : ByteArray := prog_4_method_10_code
def yX2_nearestWith : MethodName := ⟨RX2, "nearestWith", "(LStereoWar$Picture;I)I"⟩
abbrev cX2_countBefore : ByteArray := prog_4_method_11_code
def yX2_countBefore : MethodName := ⟨RX2, "countBefore", "(LStereoWar$Picture;I)I"⟩
def RX3 : String := "StereoWar$Scene"
def TX3 : u_T := fun k => match k with
  | 0 => ("StereoWar$Scene", "things", "[LStereoWar$Thing;", true)
  | 1 => ("StereoWar$Scene", "pictures", "[LStereoWar$Picture;", true)
  | _ => ("StereoWar$Scene", "focus", "I", false)
def tyX3 : Nat → FieldType := fun k => match k with
  | 0 => .array (.object "StereoWar$Thing")
  | 1 => .array (.object "StereoWar$Picture")
  | _ => .int
abbrev wsX30 : List Cond := u_ws RX3 TX3 3
theorem nmX3 : ∀ a, a < 3 → ∀ b, b < 3 → a ≠ b → (TX3 a).2.1 ≠ (TX3 b).2.1 := by decide +kernel
theorem tyX3_ok : ∀ k, k < 3 → parseFieldDescriptor (TX3 k).2.2.1 = some (tyX3 k) := by decide +kernel
abbrev cX3_init : ByteArray := prog_5_method_1_code
def yX3_init : MethodName := ⟨RX3, "<init>", "()V"⟩
abbrev cX3_copyFrom : ByteArray := prog_5_method_2_code
def yX3_copyFrom : MethodName := ⟨RX3, "copyFrom", "(LStereoWar$Scene;)V"⟩
abbrev cX3_thingAt : ByteArray := prog_5_method_3_code
def yX3_thingAt : MethodName := ⟨RX3, "thingAt", "(I)LStereoWar$Thing;"⟩
abbrev cX3_pictureAt : ByteArray := prog_5_method_4_code
def yX3_pictureAt : MethodName := ⟨RX3, "pictureAt", "(I)LStereoWar$Picture;"⟩
abbrev cX3_putThing : ByteArray := prog_5_method_5_code
def yX3_putThing : MethodName := ⟨RX3, "putThing", "(IIII)V"⟩
abbrev cX3_takePicture : ByteArray := prog_5_method_6_code
def yX3_takePicture : MethodName := ⟨RX3, "takePicture", "(III)I"⟩
abbrev cX3_expose : ByteArray := prog_5_method_7_code
def yX3_expose : MethodName := ⟨RX3, "expose", "(LStereoWar$Picture;II)V"⟩
abbrev cX3_columnOf : ByteArray := prog_5_method_8_code
def yX3_columnOf : MethodName := ⟨RX3, "columnOf", "(III)I"⟩
abbrev cX3_countShown : ByteArray := prog_5_method_9_code
def yX3_countShown : MethodName := ⟨RX3, "countShown", "(II)I"⟩
abbrev cX3_thingBits : ByteArray := prog_5_method_10_code
def yX3_thingBits : MethodName := ⟨RX3, "thingBits", "()I"⟩
abbrev cX3_pictureBits : ByteArray := prog_5_method_11_code
def yX3_pictureBits : MethodName := ⟨RX3, "pictureBits", "()I"⟩
abbrev cX3_kindOfPair : ByteArray := prog_5_method_12_code
def yX3_kindOfPair : MethodName := ⟨RX3, "kindOfPair", "(II)I"⟩
def RX4 : String := "StereoWar$Search"
def TX4 : u_T := fun k => match k with
  | _ => ("", "", "", false)
def tyX4 : Nat → FieldType := fun k => match k with
  | _ => .int
abbrev wsX40 : List Cond := u_ws RX4 TX4 0
theorem nmX4 : ∀ a, a < 0 → ∀ b, b < 0 → a ≠ b → (TX4 a).2.1 ≠ (TX4 b).2.1 := by decide +kernel
theorem tyX4_ok : ∀ k, k < 0 → parseFieldDescriptor (TX4 k).2.2.1 = some (tyX4 k) := by decide +kernel
abbrev cX4_fits : ByteArray := prog_6_method_2_code
def yX4_fits : MethodName := ⟨RX4, "fits", "(LStereoWar$Scene;LStereoWar$Picture;III)Z"⟩
abbrev cX4_countStands : ByteArray := prog_6_method_3_code
def yX4_countStands : MethodName := ⟨RX4, "countStands", "(LStereoWar$Scene;LStereoWar$Picture;)I"⟩
abbrev cX4_countStandsIn : ByteArray := prog_6_method_4_code
def yX4_countStandsIn : MethodName := ⟨RX4, "countStandsIn", "(LStereoWar$Scene;LStereoWar$Picture;I)I"⟩
abbrev cX4_standAt : ByteArray := prog_6_method_5_code
def yX4_standAt : MethodName := ⟨RX4, "standAt", "(LStereoWar$Scene;LStereoWar$Picture;I)I"⟩
abbrev cX4_firstMinute : ByteArray := prog_6_method_6_code
def yX4_firstMinute : MethodName := ⟨RX4, "firstMinute", "(LStereoWar$Scene;LStereoWar$Picture;)I"⟩
abbrev cX4_lastMinute : ByteArray := prog_6_method_7_code
def yX4_lastMinute : MethodName := ⟨RX4, "lastMinute", "(LStereoWar$Scene;LStereoWar$Picture;)I"⟩
abbrev cX4_fewestForged : ByteArray := prog_6_method_8_code
def yX4_fewestForged : MethodName := ⟨RX4, "fewestForged", "(LStereoWar$Scene;LStereoWar$Picture;)I"⟩
abbrev cX4_differing : ByteArray := prog_6_method_9_code
def yX4_differing : MethodName := ⟨RX4, "differing", "(LStereoWar$Scene;LStereoWar$Picture;II)I"⟩
abbrev cX4_columnsWithout : ByteArray := prog_6_method_10_code
def yX4_columnsWithout : MethodName := ⟨RX4, "columnsWithout", "(LStereoWar$Scene;LStereoWar$Picture;I)J"⟩
abbrev cX4_leastShown : ByteArray := prog_6_method_11_code
def yX4_leastShown : MethodName := ⟨RX4, "leastShown", "(J)I"⟩
abbrev cX4_greatestShown : ByteArray := prog_6_method_12_code
def yX4_greatestShown : MethodName := ⟨RX4, "greatestShown", "(J)I"⟩
def RX5 : String := "StereoWar$Shutter"
def TX5 : u_T := fun k => match k with
  | _ => ("StereoWar$Shutter", "ways", "[J", true)
def tyX5 : Nat → FieldType := fun k => match k with
  | _ => .array .long
abbrev wsX50 : List Cond := u_ws RX5 TX5 1
theorem nmX5 : ∀ a, a < 1 → ∀ b, b < 1 → a ≠ b → (TX5 a).2.1 ≠ (TX5 b).2.1 := by decide +kernel
theorem tyX5_ok : ∀ k, k < 1 → parseFieldDescriptor (TX5 k).2.2.1 = some (tyX5 k) := by decide +kernel
abbrev cX5_init : ByteArray := prog_7_method_1_code
def yX5_init : MethodName := ⟨RX5, "<init>", "()V"⟩
abbrev cX5_setChances : ByteArray := prog_7_method_2_code
def yX5_setChances : MethodName := ⟨RX5, "setChances", "(II)V"⟩
abbrev cX5_waysOf : ByteArray := prog_7_method_3_code
def yX5_waysOf : MethodName := ⟨RX5, "waysOf", "(I)J"⟩
def RX6 : String := "StereoWar$Thing"
def TX6 : u_T := fun k => match k with
  | 0 => ("StereoWar$Thing", "there", "Z", false)
  | 1 => ("StereoWar$Thing", "place", "I", false)
  | 2 => ("StereoWar$Thing", "pace", "I", false)
  | _ => ("StereoWar$Thing", "deep", "I", false)
def tyX6 : Nat → FieldType := fun k => match k with
  | 0 => .boolean
  | 1 => .int
  | 2 => .int
  | _ => .int
abbrev wsX60 : List Cond := u_ws RX6 TX6 4
theorem nmX6 : ∀ a, a < 4 → ∀ b, b < 4 → a ≠ b → (TX6 a).2.1 ≠ (TX6 b).2.1 := by decide +kernel
theorem tyX6_ok : ∀ k, k < 4 → parseFieldDescriptor (TX6 k).2.2.1 = some (tyX6 k) := by decide +kernel
abbrev cX6_init : ByteArray := prog_8_method_1_code
def yX6_init : MethodName := ⟨RX6, "<init>", "()V"⟩
abbrev cX6_columnFrom : ByteArray := prog_8_method_2_code
def yX6_columnFrom : MethodName := ⟨RX6, "columnFrom", "(III)I"⟩
abbrev cX6_copyFrom : ByteArray := prog_8_method_3_code
def yX6_copyFrom : MethodName := ⟨RX6, "copyFrom", "(LStereoWar$Thing;)V"⟩
def RX7 : String := "StereoWar"
def TX7 : u_T := fun k => match k with
  | 0 => ("StereoWar", "now", "LStereoWar$Scene;", true)
  | 1 => ("StereoWar", "images", "[LStereoWar$Scene;", true)
  | 2 => ("StereoWar", "imageKept", "[Z", true)
  | 3 => ("StereoWar", "pad", "LStereoWar$Pad;", true)
  | 4 => ("StereoWar", "matcher", "LStereoWar$Matcher;", true)
  | 5 => ("StereoWar", "shutter", "LStereoWar$Shutter;", true)
  | 6 => ("StereoWar", "leftPlate", "LStereoWar$Picture;", true)
  | _ => ("StereoWar", "rightPlate", "LStereoWar$Picture;", true)
def tyX7 : Nat → FieldType := fun k => match k with
  | 0 => .object "StereoWar$Scene"
  | 1 => .array (.object "StereoWar$Scene")
  | 2 => .array .boolean
  | 3 => .object "StereoWar$Pad"
  | 4 => .object "StereoWar$Matcher"
  | 5 => .object "StereoWar$Shutter"
  | 6 => .object "StereoWar$Picture"
  | _ => .object "StereoWar$Picture"
abbrev wsX70 : List Cond := u_ws RX7 TX7 8
theorem nmX7 : ∀ a, a < 8 → ∀ b, b < 8 → a ≠ b → (TX7 a).2.1 ≠ (TX7 b).2.1 := by decide +kernel
theorem tyX7_ok : ∀ k, k < 8 → parseFieldDescriptor (TX7 k).2.2.1 = some (tyX7 k) := by decide +kernel
abbrev cX7_init : ByteArray := prog_1_method_1_code
def yX7_init : MethodName := ⟨RX7, "<init>", "()V"⟩
abbrev cX7_thing : ByteArray := prog_1_method_2_code
def yX7_thing : MethodName := ⟨RX7, "thing", "(IIII)I"⟩
abbrev cX7_leave : ByteArray := prog_1_method_3_code
def yX7_leave : MethodName := ⟨RX7, "leave", "(I)I"⟩
abbrev cX7_focus : ByteArray := prog_1_method_4_code
def yX7_focus : MethodName := ⟨RX7, "focus", "(I)I"⟩
abbrev cX7_take : ByteArray := prog_1_method_5_code
def yX7_take : MethodName := ⟨RX7, "take", "(III)I"⟩
abbrev cX7_retouch : ByteArray := prog_1_method_6_code
def yX7_retouch : MethodName := ⟨RX7, "retouch", "(III)I"⟩
abbrev cX7_burn : ByteArray := prog_1_method_7_code
def yX7_burn : MethodName := ⟨RX7, "burn", "(I)I"⟩
abbrev cX7_say : ByteArray := prog_1_method_8_code
def yX7_say : MethodName := ⟨RX7, "say", "(I)I"⟩
abbrev cX7_wipe : ByteArray := prog_1_method_9_code
def yX7_wipe : MethodName := ⟨RX7, "wipe", "()I"⟩
abbrev cX7_fault : ByteArray := prog_1_method_10_code
def yX7_fault : MethodName := ⟨RX7, "fault", "()I"⟩
abbrev cX7_judge : ByteArray := prog_1_method_11_code
def yX7_judge : MethodName := ⟨RX7, "judge", "(I)I"⟩
abbrev cX7_kinds : ByteArray := prog_1_method_12_code
def yX7_kinds : MethodName := ⟨RX7, "kinds", "(I)I"⟩
abbrev cX7_kind : ByteArray := prog_1_method_13_code
def yX7_kind : MethodName := ⟨RX7, "kind", "(II)I"⟩
abbrev cX7_shift : ByteArray := prog_1_method_14_code
def yX7_shift : MethodName := ⟨RX7, "shift", "(III)I"⟩
abbrev cX7_near : ByteArray := prog_1_method_15_code
def yX7_near : MethodName := ⟨RX7, "near", "(III)I"⟩
abbrev cX7_match : ByteArray := prog_1_method_16_code
def yX7_match : MethodName := ⟨RX7, "match", "(II)I"⟩
abbrev cX7_stood : ByteArray := prog_1_method_17_code
def yX7_stood : MethodName := ⟨RX7, "stood", "(II)I"⟩
abbrev cX7_forged : ByteArray := prog_1_method_18_code
def yX7_forged : MethodName := ⟨RX7, "forged", "(II)I"⟩
abbrev cX7_ahead : ByteArray := prog_1_method_19_code
def yX7_ahead : MethodName := ⟨RX7, "ahead", "(II)I"⟩
abbrev cX7_missing : ByteArray := prog_1_method_20_code
def yX7_missing : MethodName := ⟨RX7, "missing", "(III)I"⟩
abbrev cX7_eyes : ByteArray := prog_1_method_21_code
def yX7_eyes : MethodName := ⟨RX7, "eyes", "()I"⟩
abbrev cX7_late : ByteArray := prog_1_method_22_code
def yX7_late : MethodName := ⟨RX7, "late", "(IIIIIII)J"⟩
abbrev cX7_past : ByteArray := prog_1_method_23_code
def yX7_past : MethodName := ⟨RX7, "past", "(III)I"⟩
abbrev cX7_best : ByteArray := prog_1_method_24_code
def yX7_best : MethodName := ⟨RX7, "best", "(II)I"⟩
abbrev cX7_year : ByteArray := prog_1_method_25_code
def yX7_year : MethodName := ⟨RX7, "year", "(III)I"⟩
abbrev cX7_image : ByteArray := prog_1_method_26_code
def yX7_image : MethodName := ⟨RX7, "image", "(I)I"⟩
abbrev cX7_restore : ByteArray := prog_1_method_27_code
def yX7_restore : MethodName := ⟨RX7, "restore", "(I)I"⟩
abbrev cX7_told : ByteArray := prog_1_method_28_code
def yX7_told : MethodName := ⟨RX7, "told", "(I)I"⟩
abbrev cX7_toldOfThing : ByteArray := prog_1_method_29_code
def yX7_toldOfThing : MethodName := ⟨RX7, "toldOfThing", "(II)I"⟩
abbrev cX7_toldOfPicture : ByteArray := prog_1_method_30_code
def yX7_toldOfPicture : MethodName := ⟨RX7, "toldOfPicture", "(II)I"⟩
abbrev cX7_rowsOfThree : ByteArray := prog_1_method_31_code
def yX7_rowsOfThree : MethodName := ⟨RX7, "rowsOfThree", "(I)I"⟩
abbrev cX7_within : ByteArray := prog_1_method_32_code
def yX7_within : MethodName := ⟨RX7, "within", "(III)Z"⟩
abbrev cX7_isStand : ByteArray := prog_1_method_33_code
def yX7_isStand : MethodName := ⟨RX7, "isStand", "(I)Z"⟩
abbrev cX7_isMinute : ByteArray := prog_1_method_34_code
def yX7_isMinute : MethodName := ⟨RX7, "isMinute", "(I)Z"⟩
abbrev cX7_isKind : ByteArray := prog_1_method_35_code
def yX7_isKind : MethodName := ⟨RX7, "isKind", "(I)Z"⟩
abbrev cX7_hasBit : ByteArray := prog_1_method_36_code
def yX7_hasBit : MethodName := ⟨RX7, "hasBit", "(II)Z"⟩
abbrev cX7_greatestDivisor : ByteArray := prog_1_method_37_code
def yX7_greatestDivisor : MethodName := ⟨RX7, "greatestDivisor", "(JJ)J"⟩
def RX8 : String := "StereoWarModel"
def TX8 : u_T := fun k => match k with
  | 0 => ("StereoWarModel", "things", "I", false)
  | 1 => ("StereoWarModel", "place", "[I", true)
  | 2 => ("StereoWarModel", "pace", "[I", true)
  | 3 => ("StereoWarModel", "deep", "[I", true)
  | 4 => ("StereoWarModel", "focus", "I", false)
  | 5 => ("StereoWarModel", "pictures", "I", false)
  | 6 => ("StereoWarModel", "column", "[I", true)
  | 7 => ("StereoWarModel", "pad", "[I", true)
  | 8 => ("StereoWarModel", "padMany", "I", false)
  | 9 => ("StereoWarModel", "left", "[I", true)
  | 10 => ("StereoWarModel", "right", "[I", true)
  | 11 => ("StereoWarModel", "pairs", "I", false)
  | 12 => ("StereoWarModel", "turns", "I", false)
  | 13 => ("StereoWarModel", "lone", "I", false)
  | 14 => ("StereoWarModel", "badPair", "I", false)
  | 15 => ("StereoWarModel", "badWhy", "I", false)
  | 16 => ("StereoWarModel", "mostOf", "[I", true)
  | 17 => ("StereoWarModel", "firstMinute", "I", false)
  | 18 => ("StereoWarModel", "lastMinute", "I", false)
  | 19 => ("StereoWarModel", "could", "[I", true)
  | 20 => ("StereoWarModel", "kept", "[I", true)
  | 21 => ("StereoWarModel", "isKept", "[Z", true)
  | 22 => ("StereoWarModel", "keptAt", "I", false)
  | _ => ("StereoWarModel", "isWriting", "Z", false)
def tyX8 : Nat → FieldType := fun k => match k with
  | 0 => .int
  | 1 => .array .int
  | 2 => .array .int
  | 3 => .array .int
  | 4 => .int
  | 5 => .int
  | 6 => .array .int
  | 7 => .array .int
  | 8 => .int
  | 9 => .array .int
  | 10 => .array .int
  | 11 => .int
  | 12 => .int
  | 13 => .int
  | 14 => .int
  | 15 => .int
  | 16 => .array .int
  | 17 => .int
  | 18 => .int
  | 19 => .array .int
  | 20 => .array .int
  | 21 => .array .boolean
  | 22 => .int
  | _ => .boolean
abbrev wsX80 : List Cond := u_ws RX8 TX8 24
theorem nmX8 : ∀ a, a < 24 → ∀ b, b < 24 → a ≠ b → (TX8 a).2.1 ≠ (TX8 b).2.1 := by decide +kernel
theorem tyX8_ok : ∀ k, k < 24 → parseFieldDescriptor (TX8 k).2.2.1 = some (tyX8 k) := by decide +kernel
abbrev cX8_init : ByteArray := prog_10_method_1_code
def yX8_init : MethodName := ⟨RX8, "<init>", "()V"⟩
abbrev cX8_in : ByteArray := prog_10_method_3_code
def yX8_in : MethodName := ⟨RX8, "in", "(JJJ)Z"⟩
abbrev cX8_ones : ByteArray := prog_10_method_4_code
def yX8_ones : MethodName := ⟨RX8, "ones", "(I)I"⟩
abbrev cX8_isHundred : ByteArray := prog_10_method_5_code
def yX8_isHundred : MethodName := ⟨RX8, "isHundred", "(I)Z"⟩
abbrev cX8_isThing : ByteArray := prog_10_method_6_code
def yX8_isThing : MethodName := ⟨RX8, "isThing", "(I)Z"⟩
abbrev cX8_isPicture : ByteArray := prog_10_method_7_code
def yX8_isPicture : MethodName := ⟨RX8, "isPicture", "(I)Z"⟩
abbrev cX8_areTwo : ByteArray := prog_10_method_8_code
def yX8_areTwo : MethodName := ⟨RX8, "areTwo", "(II)Z"⟩
abbrev cX8_thing : ByteArray := prog_10_method_9_code
def yX8_thing : MethodName := ⟨RX8, "thing", "(IIII)I"⟩
abbrev cX8_leave : ByteArray := prog_10_method_10_code
def yX8_leave : MethodName := ⟨RX8, "leave", "(I)I"⟩
abbrev cX8_focus : ByteArray := prog_10_method_11_code
def yX8_focus : MethodName := ⟨RX8, "focus", "(I)I"⟩
abbrev cX8_columnOf : ByteArray := prog_10_method_12_code
def yX8_columnOf : MethodName := ⟨RX8, "columnOf", "(III)I"⟩
abbrev cX8_take : ByteArray := prog_10_method_13_code
def yX8_take : MethodName := ⟨RX8, "take", "(III)I"⟩
abbrev cX8_retouch : ByteArray := prog_10_method_14_code
def yX8_retouch : MethodName := ⟨RX8, "retouch", "(III)I"⟩
abbrev cX8_burn : ByteArray := prog_10_method_15_code
def yX8_burn : MethodName := ⟨RX8, "burn", "(I)I"⟩
abbrev cX8_say : ByteArray := prog_10_method_16_code
def yX8_say : MethodName := ⟨RX8, "say", "(I)I"⟩
abbrev cX8_wipe : ByteArray := prog_10_method_17_code
def yX8_wipe : MethodName := ⟨RX8, "wipe", "()I"⟩
abbrev cX8_fault : ByteArray := prog_10_method_18_code
def yX8_fault : MethodName := ⟨RX8, "fault", "()I"⟩
abbrev cX8_keepLeft : ByteArray := prog_10_method_19_code
def yX8_keepLeft : MethodName := ⟨RX8, "keepLeft", "(Z)V"⟩
abbrev cX8_shiftOf : ByteArray := prog_10_method_20_code
def yX8_shiftOf : MethodName := ⟨RX8, "shiftOf", "(III)I"⟩
abbrev cX8_areBoth : ByteArray := prog_10_method_21_code
def yX8_areBoth : MethodName := ⟨RX8, "areBoth", "(III)Z"⟩
abbrev cX8_kindBy : ByteArray := prog_10_method_22_code
def yX8_kindBy : MethodName := ⟨RX8, "kindBy", "(ZZ)I"⟩
abbrev cX8_kindOf : ByteArray := prog_10_method_23_code
def yX8_kindOf : MethodName := ⟨RX8, "kindOf", "(II)I"⟩
abbrev cX8_whyNot : ByteArray := prog_10_method_24_code
def yX8_whyNot : MethodName := ⟨RX8, "whyNot", "(I)I"⟩
abbrev cX8_refusal : ByteArray := prog_10_method_25_code
def yX8_refusal : MethodName := ⟨RX8, "refusal", "()I"⟩
abbrev cX8_judge : ByteArray := prog_10_method_26_code
def yX8_judge : MethodName := ⟨RX8, "judge", "(I)I"⟩
abbrev cX8_kinds : ByteArray := prog_10_method_27_code
def yX8_kinds : MethodName := ⟨RX8, "kinds", "(I)I"⟩
abbrev cX8_kind : ByteArray := prog_10_method_28_code
def yX8_kind : MethodName := ⟨RX8, "kind", "(II)I"⟩
abbrev cX8_shift : ByteArray := prog_10_method_29_code
def yX8_shift : MethodName := ⟨RX8, "shift", "(III)I"⟩
abbrev cX8_near : ByteArray := prog_10_method_30_code
def yX8_near : MethodName := ⟨RX8, "near", "(III)I"⟩
abbrev cX8_canPair : ByteArray := prog_10_method_31_code
def yX8_canPair : MethodName := ⟨RX8, "canPair", "(II)Z"⟩
abbrev cX8_leastIn : ByteArray := prog_10_method_32_code
def yX8_leastIn : MethodName := ⟨RX8, "leastIn", "(I)I"⟩
abbrev cX8_findMost : ByteArray := prog_10_method_33_code
def yX8_findMost : MethodName := ⟨RX8, "findMost", "(I)V"⟩
abbrev cX8_mateOf : ByteArray := prog_10_method_34_code
def yX8_mateOf : MethodName := ⟨RX8, "mateOf", "(I)I"⟩
abbrev cX8_match : ByteArray := prog_10_method_35_code
def yX8_match : MethodName := ⟨RX8, "match", "(II)I"⟩
abbrev cX8_unlike : ByteArray := prog_10_method_36_code
def yX8_unlike : MethodName := ⟨RX8, "unlike", "(III)I"⟩
abbrev cX8_stood : ByteArray := prog_10_method_37_code
def yX8_stood : MethodName := ⟨RX8, "stood", "(II)I"⟩
abbrev cX8_forged : ByteArray := prog_10_method_38_code
def yX8_forged : MethodName := ⟨RX8, "forged", "(II)I"⟩
abbrev cX8_findMinutes : ByteArray := prog_10_method_39_code
def yX8_findMinutes : MethodName := ⟨RX8, "findMinutes", "(I)V"⟩
abbrev cX8_ahead : ByteArray := prog_10_method_40_code
def yX8_ahead : MethodName := ⟨RX8, "ahead", "(II)I"⟩
abbrev cX8_missing : ByteArray := prog_10_method_41_code
def yX8_missing : MethodName := ⟨RX8, "missing", "(III)I"⟩
abbrev cX8_eyes : ByteArray := prog_10_method_42_code
def yX8_eyes : MethodName := ⟨RX8, "eyes", "()I"⟩
abbrev cX8_lowest : ByteArray := prog_10_method_43_code
def yX8_lowest : MethodName := ⟨RX8, "lowest", "(JJI)J"⟩
abbrev cX8_lateKind : ByteArray := prog_10_method_44_code
def yX8_lateKind : MethodName := ⟨RX8, "lateKind", "(IIII)I"⟩
abbrev cX8_late : ByteArray := prog_10_method_45_code
def yX8_late : MethodName := ⟨RX8, "late", "(IIIIIII)J"⟩
abbrev cX8_past : ByteArray := prog_10_method_46_code
def yX8_past : MethodName := ⟨RX8, "past", "(III)I"⟩
abbrev cX8_shownFrom : ByteArray := prog_10_method_47_code
def yX8_shownFrom : MethodName := ⟨RX8, "shownFrom", "(II)I"⟩
abbrev cX8_best : ByteArray := prog_10_method_48_code
def yX8_best : MethodName := ⟨RX8, "best", "(II)I"⟩
abbrev cX8_year : ByteArray := prog_10_method_49_code
def yX8_year : MethodName := ⟨RX8, "year", "(III)I"⟩
abbrev cX8_pass : ByteArray := prog_10_method_50_code
def yX8_pass : MethodName := ⟨RX8, "pass", "(I)I"⟩
abbrev cX8_passAll : ByteArray := prog_10_method_51_code
def yX8_passAll : MethodName := ⟨RX8, "passAll", "()V"⟩
abbrev cX8_image : ByteArray := prog_10_method_52_code
def yX8_image : MethodName := ⟨RX8, "image", "(I)I"⟩
abbrev cX8_restore : ByteArray := prog_10_method_53_code
def yX8_restore : MethodName := ⟨RX8, "restore", "(I)I"⟩
abbrev cX8_toldOfThing : ByteArray := prog_10_method_54_code
def yX8_toldOfThing : MethodName := ⟨RX8, "toldOfThing", "(II)I"⟩
abbrev cX8_told : ByteArray := prog_10_method_55_code
def yX8_told : MethodName := ⟨RX8, "told", "(I)I"⟩
def RJ6 : String := "java/lang/Integer"
def TJ6 : u_T := fun k => match k with
  | _ => ("", "", "", false)
def tyJ6 : Nat → FieldType := fun k => match k with
  | _ => .int
abbrev wsJ60 : List Cond := u_ws RJ6 TJ6 0
theorem nmJ6 : ∀ a, a < 0 → ∀ b, b < 0 → a ≠ b → (TJ6 a).2.1 ≠ (TJ6 b).2.1 := by decide +kernel
theorem tyJ6_ok : ∀ k, k < 0 → parseFieldDescriptor (TJ6 k).2.2.1 = some (tyJ6 k) := by decide +kernel
abbrev cJ6_bitCount_0f7a4 : ByteArray := prog_11_method_49_code
def yJ6_bitCount_0f7a4 : MethodName := ⟨RJ6, "bitCount", "(I)I"⟩
def RJ13 : String := "java/lang/Long"
def TJ13 : u_T := fun k => match k with
  | _ => ("", "", "", false)
def tyJ13 : Nat → FieldType := fun k => match k with
  | _ => .int
abbrev wsJ130 : List Cond := u_ws RJ13 TJ13 0
theorem nmJ13 : ∀ a, a < 0 → ∀ b, b < 0 → a ≠ b → (TJ13 a).2.1 ≠ (TJ13 b).2.1 := by decide +kernel
theorem tyJ13_ok : ∀ k, k < 0 → parseFieldDescriptor (TJ13 k).2.2.1 = some (tyJ13 k) := by decide +kernel
abbrev cJ13_bitCount_95d88 : ByteArray := prog_12_method_50_code
def yJ13_bitCount_95d88 : MethodName := ⟨RJ13, "bitCount", "(J)I"⟩
def RJ9 : String := "java/lang/Math"
def TJ9 : u_T := fun k => match k with
  | _ => ("", "", "", false)
def tyJ9 : Nat → FieldType := fun k => match k with
  | _ => .int
abbrev wsJ90 : List Cond := u_ws RJ9 TJ9 0
theorem nmJ9 : ∀ a, a < 0 → ∀ b, b < 0 → a ≠ b → (TJ9 a).2.1 ≠ (TJ9 b).2.1 := by decide +kernel
theorem tyJ9_ok : ∀ k, k < 0 → parseFieldDescriptor (TJ9 k).2.2.1 = some (tyJ9 k) := by decide +kernel
abbrev cJ9_max_7cf53 : ByteArray := prog_13_method_65_code
def yJ9_max_7cf53 : MethodName := ⟨RJ9, "max", "(II)I"⟩
def RL : String := "StereoWarLaw"
abbrev cL_law : ByteArray := code
def yL_law : MethodName := ⟨RL, "law", "([I)Z"⟩
abbrev vwCl : List vw_C := [(RX0, TX0, 2), (RX1, TX1, 6), (RX2, TX2, 2), (RX3, TX3, 3), (RX5, TX5, 1), (RX6, TX6, 4), (RX7, TX7, 8), (RX8, TX8, 24)]
end
section
theorem tw0 : Cond.selects "StereoWar$Scene" (⟨"StereoWar$Scene", "putThing", "(IIII)V"⟩ : MethodName) (⟨"StereoWar$Scene", "putThing", "(IIII)V"⟩ : MethodName) ∈ TT := tt_at 0 (by decide +kernel) rfl
theorem tw1 : Cond.selects "StereoWar$Scene" (⟨"StereoWar$Scene", "thingBits", "()I"⟩ : MethodName) (⟨"StereoWar$Scene", "thingBits", "()I"⟩ : MethodName) ∈ TT := tt_at 1 (by decide +kernel) rfl
theorem tw2 : Cond.selects "StereoWar$Scene" (⟨"StereoWar$Scene", "thingAt", "(I)LStereoWar$Thing;"⟩ : MethodName) (⟨"StereoWar$Scene", "thingAt", "(I)LStereoWar$Thing;"⟩ : MethodName) ∈ TT := tt_at 2 (by decide +kernel) rfl
theorem tw3 : Cond.selects "StereoWar$Scene" (⟨"StereoWar$Scene", "takePicture", "(III)I"⟩ : MethodName) (⟨"StereoWar$Scene", "takePicture", "(III)I"⟩ : MethodName) ∈ TT := tt_at 3 (by decide +kernel) rfl
theorem tw4 : Cond.selects "StereoWar$Scene" (⟨"StereoWar$Scene", "expose", "(LStereoWar$Picture;II)V"⟩ : MethodName) (⟨"StereoWar$Scene", "expose", "(LStereoWar$Picture;II)V"⟩ : MethodName) ∈ TT := tt_at 4 (by decide +kernel) rfl
theorem tw5 : Cond.selects "StereoWar$Scene" (⟨"StereoWar$Scene", "columnOf", "(III)I"⟩ : MethodName) (⟨"StereoWar$Scene", "columnOf", "(III)I"⟩ : MethodName) ∈ TT := tt_at 5 (by decide +kernel) rfl
theorem tw6 : Cond.selects "StereoWar$Thing" (⟨"StereoWar$Thing", "columnFrom", "(III)I"⟩ : MethodName) (⟨"StereoWar$Thing", "columnFrom", "(III)I"⟩ : MethodName) ∈ TT := tt_at 6 (by decide +kernel) rfl
theorem tw7 : Cond.selects "StereoWar$Picture" (⟨"StereoWar$Picture", "putColumn", "(II)V"⟩ : MethodName) (⟨"StereoWar$Picture", "putColumn", "(II)V"⟩ : MethodName) ∈ TT := tt_at 7 (by decide +kernel) rfl
theorem tw8 : Cond.selects "StereoWar$Picture" (⟨"StereoWar$Picture", "shownBits", "()I"⟩ : MethodName) (⟨"StereoWar$Picture", "shownBits", "()I"⟩ : MethodName) ∈ TT := tt_at 8 (by decide +kernel) rfl
theorem tw9 : Cond.selects "StereoWar$Scene" (⟨"StereoWar$Scene", "pictureAt", "(I)LStereoWar$Picture;"⟩ : MethodName) (⟨"StereoWar$Scene", "pictureAt", "(I)LStereoWar$Picture;"⟩ : MethodName) ∈ TT := tt_at 9 (by decide +kernel) rfl
theorem tw10 : Cond.selects "StereoWar$Picture" (⟨"StereoWar$Picture", "columnOf", "(I)I"⟩ : MethodName) (⟨"StereoWar$Picture", "columnOf", "(I)I"⟩ : MethodName) ∈ TT := tt_at 10 (by decide +kernel) rfl
theorem tw11 : Cond.selects "StereoWar$Scene" (⟨"StereoWar$Scene", "pictureBits", "()I"⟩ : MethodName) (⟨"StereoWar$Scene", "pictureBits", "()I"⟩ : MethodName) ∈ TT := tt_at 11 (by decide +kernel) rfl
theorem tw12 : Cond.selects "StereoWar$Pad" (⟨"StereoWar$Pad", "addSign", "(I)Z"⟩ : MethodName) (⟨"StereoWar$Pad", "addSign", "(I)Z"⟩ : MethodName) ∈ TT := tt_at 12 (by decide +kernel) rfl
theorem tw13 : Cond.selects "StereoWar$Pad" (⟨"StereoWar$Pad", "read", "()I"⟩ : MethodName) (⟨"StereoWar$Pad", "read", "()I"⟩ : MethodName) ∈ TT := tt_at 13 (by decide +kernel) rfl
theorem tw14 : Cond.selects "StereoWar$Pad" (⟨"StereoWar$Pad", "addPair", "(II)V"⟩ : MethodName) (⟨"StereoWar$Pad", "addPair", "(II)V"⟩ : MethodName) ∈ TT := tt_at 14 (by decide +kernel) rfl
theorem tw15 : Cond.selects "StereoWar$Pad" (⟨"StereoWar$Pad", "firstWrongPair", "(LStereoWar$Scene;)I"⟩ : MethodName) (⟨"StereoWar$Pad", "firstWrongPair", "(LStereoWar$Scene;)I"⟩ : MethodName) ∈ TT := tt_at 15 (by decide +kernel) rfl
theorem tw16 : Cond.selects "StereoWar$Pad" (⟨"StereoWar$Pad", "whyNot", "(ILStereoWar$Scene;)I"⟩ : MethodName) (⟨"StereoWar$Pad", "whyNot", "(ILStereoWar$Scene;)I"⟩ : MethodName) ∈ TT := tt_at 16 (by decide +kernel) rfl
theorem tw17 : Cond.selects "StereoWar$Pad" (⟨"StereoWar$Pad", "leftOf", "(I)I"⟩ : MethodName) (⟨"StereoWar$Pad", "leftOf", "(I)I"⟩ : MethodName) ∈ TT := tt_at 17 (by decide +kernel) rfl
theorem tw18 : Cond.selects "StereoWar$Pad" (⟨"StereoWar$Pad", "rightOf", "(I)I"⟩ : MethodName) (⟨"StereoWar$Pad", "rightOf", "(I)I"⟩ : MethodName) ∈ TT := tt_at 18 (by decide +kernel) rfl
theorem tw19 : Cond.selects "StereoWar$Pad" (⟨"StereoWar$Pad", "isOf", "(II)Z"⟩ : MethodName) (⟨"StereoWar$Pad", "isOf", "(II)Z"⟩ : MethodName) ∈ TT := tt_at 19 (by decide +kernel) rfl
theorem tw20 : Cond.selects "StereoWar$Pad" (⟨"StereoWar$Pad", "firstNotGood", "(LStereoWar$Scene;)I"⟩ : MethodName) (⟨"StereoWar$Pad", "firstNotGood", "(LStereoWar$Scene;)I"⟩ : MethodName) ∈ TT := tt_at 20 (by decide +kernel) rfl
theorem tw21 : Cond.selects "StereoWar$Scene" (⟨"StereoWar$Scene", "kindOfPair", "(II)I"⟩ : MethodName) (⟨"StereoWar$Scene", "kindOfPair", "(II)I"⟩ : MethodName) ∈ TT := tt_at 21 (by decide +kernel) rfl
theorem tw22 : Cond.selects "StereoWar$Picture" (⟨"StereoWar$Picture", "kindWith", "(LStereoWar$Picture;)I"⟩ : MethodName) (⟨"StereoWar$Picture", "kindWith", "(LStereoWar$Picture;)I"⟩ : MethodName) ∈ TT := tt_at 22 (by decide +kernel) rfl
theorem tw23 : Cond.selects "StereoWar$Picture" (⟨"StereoWar$Picture", "sharesWith", "(LStereoWar$Picture;I)Z"⟩ : MethodName) (⟨"StereoWar$Picture", "sharesWith", "(LStereoWar$Picture;I)Z"⟩ : MethodName) ∈ TT := tt_at 23 (by decide +kernel) rfl
theorem tw24 : Cond.selects "StereoWar$Picture" (⟨"StereoWar$Picture", "shiftTo", "(LStereoWar$Picture;I)I"⟩ : MethodName) (⟨"StereoWar$Picture", "shiftTo", "(LStereoWar$Picture;I)I"⟩ : MethodName) ∈ TT := tt_at 24 (by decide +kernel) rfl
theorem tw25 : Cond.selects "StereoWar$Pad" (⟨"StereoWar$Pad", "countOfKind", "(ILStereoWar$Scene;)I"⟩ : MethodName) (⟨"StereoWar$Pad", "countOfKind", "(ILStereoWar$Scene;)I"⟩ : MethodName) ∈ TT := tt_at 25 (by decide +kernel) rfl
theorem tw26 : Cond.selects "StereoWar$Picture" (⟨"StereoWar$Picture", "countSharedWith", "(LStereoWar$Picture;)I"⟩ : MethodName) (⟨"StereoWar$Picture", "countSharedWith", "(LStereoWar$Picture;)I"⟩ : MethodName) ∈ TT := tt_at 26 (by decide +kernel) rfl
theorem tw27 : Cond.selects "StereoWar$Picture" (⟨"StereoWar$Picture", "nearestWith", "(LStereoWar$Picture;I)I"⟩ : MethodName) (⟨"StereoWar$Picture", "nearestWith", "(LStereoWar$Picture;I)I"⟩ : MethodName) ∈ TT := tt_at 27 (by decide +kernel) rfl
theorem tw28 : Cond.selects "StereoWar$Picture" (⟨"StereoWar$Picture", "countBefore", "(LStereoWar$Picture;I)I"⟩ : MethodName) (⟨"StereoWar$Picture", "countBefore", "(LStereoWar$Picture;I)I"⟩ : MethodName) ∈ TT := tt_at 28 (by decide +kernel) rfl
theorem tw29 : Cond.selects "StereoWar$Matcher" (⟨"StereoWar$Matcher", "prepare", "(LStereoWar$Scene;I)V"⟩ : MethodName) (⟨"StereoWar$Matcher", "prepare", "(LStereoWar$Scene;I)V"⟩ : MethodName) ∈ TT := tt_at 29 (by decide +kernel) rfl
theorem tw30 : Cond.selects "StereoWar$Matcher" (⟨"StereoWar$Matcher", "mostOf", "(I)I"⟩ : MethodName) (⟨"StereoWar$Matcher", "mostOf", "(I)I"⟩ : MethodName) ∈ TT := tt_at 30 (by decide +kernel) rfl
theorem tw31 : Cond.selects "StereoWar$Matcher" (⟨"StereoWar$Matcher", "mostPairs", "(I)I"⟩ : MethodName) (⟨"StereoWar$Matcher", "mostPairs", "(I)I"⟩ : MethodName) ∈ TT := tt_at 31 (by decide +kernel) rfl
theorem tw32 : Cond.selects "StereoWar$Matcher" (⟨"StereoWar$Matcher", "canPair", "(III)Z"⟩ : MethodName) (⟨"StereoWar$Matcher", "canPair", "(III)Z"⟩ : MethodName) ∈ TT := tt_at 32 (by decide +kernel) rfl
theorem tw33 : Cond.selects "StereoWar$Matcher" (⟨"StereoWar$Matcher", "partnerOf", "(II)I"⟩ : MethodName) (⟨"StereoWar$Matcher", "partnerOf", "(II)I"⟩ : MethodName) ∈ TT := tt_at 33 (by decide +kernel) rfl
theorem tw34 : Cond.selects "StereoWar$Matcher" (⟨"StereoWar$Matcher", "firstMate", "(II)I"⟩ : MethodName) (⟨"StereoWar$Matcher", "firstMate", "(II)I"⟩ : MethodName) ∈ TT := tt_at 34 (by decide +kernel) rfl
theorem tw35 : Cond.selects "StereoWar" (⟨"StereoWar", "rowsOfThree", "(I)I"⟩ : MethodName) (⟨"StereoWar", "rowsOfThree", "(I)I"⟩ : MethodName) ∈ TT := tt_at 35 (by decide +kernel) rfl
theorem tw36 : Cond.selects "StereoWar$Shutter" (⟨"StereoWar$Shutter", "setChances", "(II)V"⟩ : MethodName) (⟨"StereoWar$Shutter", "setChances", "(II)V"⟩ : MethodName) ∈ TT := tt_at 36 (by decide +kernel) rfl
theorem tw37 : Cond.selects "StereoWar$Shutter" (⟨"StereoWar$Shutter", "waysOf", "(I)J"⟩ : MethodName) (⟨"StereoWar$Shutter", "waysOf", "(I)J"⟩ : MethodName) ∈ TT := tt_at 37 (by decide +kernel) rfl
theorem tw38 : Cond.selects "StereoWar$Scene" (⟨"StereoWar$Scene", "countShown", "(II)I"⟩ : MethodName) (⟨"StereoWar$Scene", "countShown", "(II)I"⟩ : MethodName) ∈ TT := tt_at 38 (by decide +kernel) rfl
theorem tw39 : Cond.selects "StereoWar$Scene" (⟨"StereoWar$Scene", "copyFrom", "(LStereoWar$Scene;)V"⟩ : MethodName) (⟨"StereoWar$Scene", "copyFrom", "(LStereoWar$Scene;)V"⟩ : MethodName) ∈ TT := tt_at 39 (by decide +kernel) rfl
theorem tw40 : Cond.selects "StereoWar$Thing" (⟨"StereoWar$Thing", "copyFrom", "(LStereoWar$Thing;)V"⟩ : MethodName) (⟨"StereoWar$Thing", "copyFrom", "(LStereoWar$Thing;)V"⟩ : MethodName) ∈ TT := tt_at 40 (by decide +kernel) rfl
theorem tw41 : Cond.selects "StereoWar$Picture" (⟨"StereoWar$Picture", "copyFrom", "(LStereoWar$Picture;)V"⟩ : MethodName) (⟨"StereoWar$Picture", "copyFrom", "(LStereoWar$Picture;)V"⟩ : MethodName) ∈ TT := tt_at 41 (by decide +kernel) rfl
theorem tw42 : Cond.selects "StereoWar" (⟨"StereoWar", "toldOfThing", "(II)I"⟩ : MethodName) (⟨"StereoWar", "toldOfThing", "(II)I"⟩ : MethodName) ∈ TT := tt_at 42 (by decide +kernel) rfl
theorem tw43 : Cond.selects "StereoWar" (⟨"StereoWar", "toldOfPicture", "(II)I"⟩ : MethodName) (⟨"StereoWar", "toldOfPicture", "(II)I"⟩ : MethodName) ∈ TT := tt_at 43 (by decide +kernel) rfl
theorem tw44 : Cond.selects "StereoWarModel" (⟨"StereoWarModel", "isThing", "(I)Z"⟩ : MethodName) (⟨"StereoWarModel", "isThing", "(I)Z"⟩ : MethodName) ∈ TT := tt_at 44 (by decide +kernel) rfl
theorem tw45 : Cond.selects "StereoWarModel" (⟨"StereoWarModel", "columnOf", "(III)I"⟩ : MethodName) (⟨"StereoWarModel", "columnOf", "(III)I"⟩ : MethodName) ∈ TT := tt_at 45 (by decide +kernel) rfl
theorem tw46 : Cond.selects "StereoWarModel" (⟨"StereoWarModel", "isPicture", "(I)Z"⟩ : MethodName) (⟨"StereoWarModel", "isPicture", "(I)Z"⟩ : MethodName) ∈ TT := tt_at 46 (by decide +kernel) rfl
theorem tw47 : Cond.selects "StereoWarModel" (⟨"StereoWarModel", "keepLeft", "(Z)V"⟩ : MethodName) (⟨"StereoWarModel", "keepLeft", "(Z)V"⟩ : MethodName) ∈ TT := tt_at 47 (by decide +kernel) rfl
theorem tw48 : Cond.selects "StereoWarModel" (⟨"StereoWarModel", "refusal", "()I"⟩ : MethodName) (⟨"StereoWarModel", "refusal", "()I"⟩ : MethodName) ∈ TT := tt_at 48 (by decide +kernel) rfl
theorem tw49 : Cond.selects "StereoWarModel" (⟨"StereoWarModel", "whyNot", "(I)I"⟩ : MethodName) (⟨"StereoWarModel", "whyNot", "(I)I"⟩ : MethodName) ∈ TT := tt_at 49 (by decide +kernel) rfl
theorem tw50 : Cond.selects "StereoWarModel" (⟨"StereoWarModel", "kindOf", "(II)I"⟩ : MethodName) (⟨"StereoWarModel", "kindOf", "(II)I"⟩ : MethodName) ∈ TT := tt_at 50 (by decide +kernel) rfl
theorem tw51 : Cond.selects "StereoWarModel" (⟨"StereoWarModel", "areBoth", "(III)Z"⟩ : MethodName) (⟨"StereoWarModel", "areBoth", "(III)Z"⟩ : MethodName) ∈ TT := tt_at 51 (by decide +kernel) rfl
theorem tw52 : Cond.selects "StereoWarModel" (⟨"StereoWarModel", "shiftOf", "(III)I"⟩ : MethodName) (⟨"StereoWarModel", "shiftOf", "(III)I"⟩ : MethodName) ∈ TT := tt_at 52 (by decide +kernel) rfl
theorem tw53 : Cond.selects "StereoWarModel" (⟨"StereoWarModel", "areTwo", "(II)Z"⟩ : MethodName) (⟨"StereoWarModel", "areTwo", "(II)Z"⟩ : MethodName) ∈ TT := tt_at 53 (by decide +kernel) rfl
theorem tw54 : Cond.selects "StereoWarModel" (⟨"StereoWarModel", "findMost", "(I)V"⟩ : MethodName) (⟨"StereoWarModel", "findMost", "(I)V"⟩ : MethodName) ∈ TT := tt_at 54 (by decide +kernel) rfl
theorem tw55 : Cond.selects "StereoWarModel" (⟨"StereoWarModel", "canPair", "(II)Z"⟩ : MethodName) (⟨"StereoWarModel", "canPair", "(II)Z"⟩ : MethodName) ∈ TT := tt_at 55 (by decide +kernel) rfl
theorem tw56 : Cond.selects "StereoWarModel" (⟨"StereoWarModel", "mateOf", "(I)I"⟩ : MethodName) (⟨"StereoWarModel", "mateOf", "(I)I"⟩ : MethodName) ∈ TT := tt_at 56 (by decide +kernel) rfl
theorem tw57 : Cond.selects "StereoWarModel" (⟨"StereoWarModel", "unlike", "(III)I"⟩ : MethodName) (⟨"StereoWarModel", "unlike", "(III)I"⟩ : MethodName) ∈ TT := tt_at 57 (by decide +kernel) rfl
theorem tw58 : Cond.selects "StereoWarModel" (⟨"StereoWarModel", "findMinutes", "(I)V"⟩ : MethodName) (⟨"StereoWarModel", "findMinutes", "(I)V"⟩ : MethodName) ∈ TT := tt_at 58 (by decide +kernel) rfl
theorem tw59 : Cond.selects "StereoWarModel" (⟨"StereoWarModel", "lateKind", "(IIII)I"⟩ : MethodName) (⟨"StereoWarModel", "lateKind", "(IIII)I"⟩ : MethodName) ∈ TT := tt_at 59 (by decide +kernel) rfl
theorem tw60 : Cond.selects "StereoWarModel" (⟨"StereoWarModel", "shownFrom", "(II)I"⟩ : MethodName) (⟨"StereoWarModel", "shownFrom", "(II)I"⟩ : MethodName) ∈ TT := tt_at 60 (by decide +kernel) rfl
theorem tw61 : Cond.selects "StereoWarModel" (⟨"StereoWarModel", "passAll", "()V"⟩ : MethodName) (⟨"StereoWarModel", "passAll", "()V"⟩ : MethodName) ∈ TT := tt_at 61 (by decide +kernel) rfl
theorem tw62 : Cond.selects "StereoWarModel" (⟨"StereoWarModel", "pass", "(I)I"⟩ : MethodName) (⟨"StereoWarModel", "pass", "(I)I"⟩ : MethodName) ∈ TT := tt_at 62 (by decide +kernel) rfl
theorem tw63 : Cond.selects "StereoWarModel" (⟨"StereoWarModel", "toldOfThing", "(II)I"⟩ : MethodName) (⟨"StereoWarModel", "toldOfThing", "(II)I"⟩ : MethodName) ∈ TT := tt_at 63 (by decide +kernel) rfl
theorem tw64 : Cond.initialized "StereoWarLaw" ∈ TT := tt_at 64 (by decide +kernel) rfl
theorem tw65 : Cond.initialized "StereoWar" ∈ TT := tt_at 65 (by decide +kernel) rfl
theorem tw66 : Cond.initialized "StereoWar$Scene" ∈ TT := tt_at 66 (by decide +kernel) rfl
theorem tw67 : Cond.initialized "StereoWar$Thing" ∈ TT := tt_at 67 (by decide +kernel) rfl
theorem tw68 : Cond.initialized "StereoWar$Picture" ∈ TT := tt_at 68 (by decide +kernel) rfl
theorem tw69 : Cond.initialized "StereoWar$Pad" ∈ TT := tt_at 69 (by decide +kernel) rfl
theorem tw70 : Cond.initialized "StereoWar$Matcher" ∈ TT := tt_at 70 (by decide +kernel) rfl
theorem tw71 : Cond.initialized "StereoWar$Shutter" ∈ TT := tt_at 71 (by decide +kernel) rfl
theorem tw72 : Cond.initialized "StereoWarModel" ∈ TT := tt_at 72 (by decide +kernel) rfl
theorem tw73 : Cond.initialized "java/lang/Integer" ∈ TT := tt_at 73 (by decide +kernel) rfl
theorem tw74 : Cond.initialized "java/lang/Math" ∈ TT := tt_at 74 (by decide +kernel) rfl
theorem tw75 : Cond.initialized "StereoWar$Search" ∈ TT := tt_at 75 (by decide +kernel) rfl
theorem tw76 : Cond.initialized "java/lang/Long" ∈ TT := tt_at 76 (by decide +kernel) rfl
theorem tw77 : Cond.classLink "StereoWarLaw" (7 : Nat) "StereoWar" ∈ TT := tt_at 77 (by decide +kernel) rfl
theorem tw78 : Cond.instantiable "StereoWar" (8 : Nat) ∈ TT := tt_at 78 (by decide +kernel) rfl
theorem tw79 : Cond.methodLink "StereoWarLaw" (9 : Nat) ({ cls := "StereoWar", name := "<init>", desc := "()V" } : Jvm.MethodName) ∈ TT := tt_at 79 (by decide +kernel) rfl
theorem tw80 : Cond.instanceMethod ({ cls := "StereoWar", name := "<init>", desc := "()V" } : Jvm.MethodName) ∈ TT := tt_at 80 (by decide +kernel) rfl
theorem tw81 : Cond.code ({ cls := "StereoWar", name := "<init>", desc := "()V" } : Jvm.MethodName) prog_1_method_1_code (2 : Nat) (none) ∈ TT := tt_at 81 (by decide +kernel) rfl
theorem tw82 : Cond.methodLink "StereoWar" (1 : Nat) ({ cls := "java/lang/Object", name := "<init>", desc := "()V" } : Jvm.MethodName) ∈ TT := tt_at 82 (by decide +kernel) rfl
theorem tw83 : Cond.instanceMethod ({ cls := "java/lang/Object", name := "<init>", desc := "()V" } : Jvm.MethodName) ∈ TT := tt_at 83 (by decide +kernel) rfl
theorem tw84 : Cond.code ({ cls := "java/lang/Object", name := "<init>", desc := "()V" } : Jvm.MethodName) object_method_1_code (1 : Nat) (none) ∈ TT := tt_at 84 (by decide +kernel) rfl
theorem tw85 : Cond.classLink "StereoWar" (7 : Nat) "StereoWar$Scene" ∈ TT := tt_at 85 (by decide +kernel) rfl
theorem tw86 : Cond.instantiable "StereoWar$Scene" (3 : Nat) ∈ TT := tt_at 86 (by decide +kernel) rfl
theorem tw87 : Cond.methodLinkNest "StereoWar" (9 : Nat) ({ cls := "StereoWar$Scene", name := "<init>", desc := "()V" } : Jvm.MethodName) "StereoWar" ∈ NW := nw_at 87 (by decide +kernel) rfl
theorem tw88 : Cond.instanceMethod ({ cls := "StereoWar$Scene", name := "<init>", desc := "()V" } : Jvm.MethodName) ∈ TT := tt_at 88 (by decide +kernel) rfl
theorem tw89 : Cond.code ({ cls := "StereoWar$Scene", name := "<init>", desc := "()V" } : Jvm.MethodName) prog_5_method_1_code (2 : Nat) (none) ∈ TT := tt_at 89 (by decide +kernel) rfl
theorem tw90 : Cond.methodLink "StereoWar$Scene" (3 : Nat) ({ cls := "java/lang/Object", name := "<init>", desc := "()V" } : Jvm.MethodName) ∈ TT := tt_at 90 (by decide +kernel) rfl
theorem tw91 : Cond.classLink "StereoWar$Scene" (9 : Nat) "StereoWar$Thing" ∈ TT := tt_at 91 (by decide +kernel) rfl
theorem tw92 : Cond.arrayOver (FieldType.object "StereoWar$Thing") ∈ NW := nw_at 92 (by decide +kernel) rfl
theorem tw93 : Cond.classLink "StereoWar$Scene" (17 : Nat) "StereoWar$Picture" ∈ TT := tt_at 93 (by decide +kernel) rfl
theorem tw94 : Cond.arrayOver (FieldType.object "StereoWar$Picture") ∈ NW := nw_at 94 (by decide +kernel) rfl
theorem tw95 : Cond.instantiable "StereoWar$Thing" (4 : Nat) ∈ TT := tt_at 95 (by decide +kernel) rfl
theorem tw96 : Cond.methodLinkNest "StereoWar$Scene" (27 : Nat) ({ cls := "StereoWar$Thing", name := "<init>", desc := "()V" } : Jvm.MethodName) "StereoWar" ∈ NW := nw_at 96 (by decide +kernel) rfl
theorem tw97 : Cond.instanceMethod ({ cls := "StereoWar$Thing", name := "<init>", desc := "()V" } : Jvm.MethodName) ∈ TT := tt_at 97 (by decide +kernel) rfl
theorem tw98 : Cond.code ({ cls := "StereoWar$Thing", name := "<init>", desc := "()V" } : Jvm.MethodName) prog_8_method_1_code (1 : Nat) (none) ∈ TT := tt_at 98 (by decide +kernel) rfl
theorem tw99 : Cond.methodLink "StereoWar$Thing" (3 : Nat) ({ cls := "java/lang/Object", name := "<init>", desc := "()V" } : Jvm.MethodName) ∈ TT := tt_at 99 (by decide +kernel) rfl
theorem tw100 : Cond.fieldLink "StereoWar$Thing" (25 : Nat) "StereoWar$Thing" "there" "Z" ∈ TT := tt_at 100 (by decide +kernel) rfl
theorem tw101 : Cond.fieldLinkNest "StereoWar" (77 : Nat) "StereoWar$Thing" "there" "Z" "StereoWar" ∈ NW := nw_at 101 (by decide +kernel) rfl
theorem tw102 : Cond.fieldLinkNest "StereoWar$Scene" (40 : Nat) "StereoWar$Thing" "there" "Z" "StereoWar" ∈ NW := nw_at 102 (by decide +kernel) rfl
theorem tw103 : Cond.fieldLink "StereoWar$Thing" (15 : Nat) "StereoWar$Thing" "place" "I" ∈ TT := tt_at 103 (by decide +kernel) rfl
theorem tw104 : Cond.fieldLinkNest "StereoWar$Scene" (45 : Nat) "StereoWar$Thing" "place" "I" "StereoWar" ∈ NW := nw_at 104 (by decide +kernel) rfl
theorem tw105 : Cond.fieldLinkNest "StereoWar" (252 : Nat) "StereoWar$Thing" "place" "I" "StereoWar" ∈ NW := nw_at 105 (by decide +kernel) rfl
theorem tw106 : Cond.fieldLink "StereoWar$Thing" (18 : Nat) "StereoWar$Thing" "pace" "I" ∈ TT := tt_at 106 (by decide +kernel) rfl
theorem tw107 : Cond.fieldLinkNest "StereoWar$Scene" (48 : Nat) "StereoWar$Thing" "pace" "I" "StereoWar" ∈ NW := nw_at 107 (by decide +kernel) rfl
theorem tw108 : Cond.fieldLinkNest "StereoWar" (255 : Nat) "StereoWar$Thing" "pace" "I" "StereoWar" ∈ NW := nw_at 108 (by decide +kernel) rfl
theorem tw109 : Cond.fieldLink "StereoWar$Thing" (9 : Nat) "StereoWar$Thing" "deep" "I" ∈ TT := tt_at 109 (by decide +kernel) rfl
theorem tw110 : Cond.fieldLinkNest "StereoWar$Scene" (51 : Nat) "StereoWar$Thing" "deep" "I" "StereoWar" ∈ NW := nw_at 110 (by decide +kernel) rfl
theorem tw111 : Cond.fieldLinkNest "StereoWar" (258 : Nat) "StereoWar$Thing" "deep" "I" "StereoWar" ∈ NW := nw_at 111 (by decide +kernel) rfl
theorem tw112 : Cond.lays "StereoWar$Thing" "StereoWar$Thing" "there" "Z" ∈ TT := tt_at 112 (by decide +kernel) rfl
theorem tw113 : Cond.soleField "StereoWar$Thing" "there" ∈ TT := tt_at 113 (by decide +kernel) rfl
theorem tw114 : Cond.lays "StereoWar$Thing" "StereoWar$Thing" "place" "I" ∈ TT := tt_at 114 (by decide +kernel) rfl
theorem tw115 : Cond.soleField "StereoWar$Thing" "place" ∈ TT := tt_at 115 (by decide +kernel) rfl
theorem tw116 : Cond.lays "StereoWar$Thing" "StereoWar$Thing" "pace" "I" ∈ TT := tt_at 116 (by decide +kernel) rfl
theorem tw117 : Cond.soleField "StereoWar$Thing" "pace" ∈ TT := tt_at 117 (by decide +kernel) rfl
theorem tw118 : Cond.lays "StereoWar$Thing" "StereoWar$Thing" "deep" "I" ∈ TT := tt_at 118 (by decide +kernel) rfl
theorem tw119 : Cond.soleField "StereoWar$Thing" "deep" ∈ TT := tt_at 119 (by decide +kernel) rfl
theorem tw120 : Cond.superclass "StereoWar$Thing" "java/lang/Object" ∈ TT := tt_at 120 (by decide +kernel) rfl
theorem tw121 : Cond.instantiable "StereoWar$Picture" (2 : Nat) ∈ TT := tt_at 121 (by decide +kernel) rfl
theorem tw122 : Cond.methodLinkNest "StereoWar$Scene" (28 : Nat) ({ cls := "StereoWar$Picture", name := "<init>", desc := "()V" } : Jvm.MethodName) "StereoWar" ∈ NW := nw_at 122 (by decide +kernel) rfl
theorem tw123 : Cond.instanceMethod ({ cls := "StereoWar$Picture", name := "<init>", desc := "()V" } : Jvm.MethodName) ∈ TT := tt_at 123 (by decide +kernel) rfl
theorem tw124 : Cond.code ({ cls := "StereoWar$Picture", name := "<init>", desc := "()V" } : Jvm.MethodName) prog_4_method_1_code (1 : Nat) (none) ∈ TT := tt_at 124 (by decide +kernel) rfl
theorem tw125 : Cond.methodLink "StereoWar$Picture" (3 : Nat) ({ cls := "java/lang/Object", name := "<init>", desc := "()V" } : Jvm.MethodName) ∈ TT := tt_at 125 (by decide +kernel) rfl
theorem tw126 : Cond.fieldLinkNest "StereoWar$Scene" (44 : Nat) "StereoWar$Picture" "there" "Z" "StereoWar" ∈ NW := nw_at 126 (by decide +kernel) rfl
theorem tw127 : Cond.fieldLink "StereoWar$Picture" (19 : Nat) "StereoWar$Picture" "there" "Z" ∈ TT := tt_at 127 (by decide +kernel) rfl
theorem tw128 : Cond.fieldLinkNest "StereoWar" (109 : Nat) "StereoWar$Picture" "there" "Z" "StereoWar" ∈ NW := nw_at 128 (by decide +kernel) rfl
theorem tw129 : Cond.fieldLink "StereoWar$Picture" (9 : Nat) "StereoWar$Picture" "columns" "[I" ∈ TT := tt_at 129 (by decide +kernel) rfl
theorem tw130 : Cond.lays "StereoWar$Picture" "StereoWar$Picture" "there" "Z" ∈ TT := tt_at 130 (by decide +kernel) rfl
theorem tw131 : Cond.soleField "StereoWar$Picture" "there" ∈ TT := tt_at 131 (by decide +kernel) rfl
theorem tw132 : Cond.laysFinal "StereoWar$Picture" "StereoWar$Picture" "columns" "[I" ∈ TT := tt_at 132 (by decide +kernel) rfl
theorem tw133 : Cond.soleField "StereoWar$Picture" "columns" ∈ TT := tt_at 133 (by decide +kernel) rfl
theorem tw134 : Cond.superclass "StereoWar$Picture" "java/lang/Object" ∈ TT := tt_at 134 (by decide +kernel) rfl
theorem tw135 : Cond.arrayClass FieldType.int ∈ TT := tt_at 135 (by decide +kernel) rfl
theorem tw136 : Cond.fieldLink "StereoWar$Scene" (11 : Nat) "StereoWar$Scene" "things" "[LStereoWar$Thing;" ∈ TT := tt_at 136 (by decide +kernel) rfl
theorem tw137 : Cond.fieldLink "StereoWar$Scene" (19 : Nat) "StereoWar$Scene" "pictures" "[LStereoWar$Picture;" ∈ TT := tt_at 137 (by decide +kernel) rfl
theorem tw138 : Cond.fieldLink "StereoWar$Scene" (23 : Nat) "StereoWar$Scene" "focus" "I" ∈ TT := tt_at 138 (by decide +kernel) rfl
theorem tw139 : Cond.fieldLinkNest "StereoWar" (83 : Nat) "StereoWar$Scene" "focus" "I" "StereoWar" ∈ NW := nw_at 139 (by decide +kernel) rfl
theorem tw140 : Cond.laysFinal "StereoWar$Scene" "StereoWar$Scene" "things" "[LStereoWar$Thing;" ∈ TT := tt_at 140 (by decide +kernel) rfl
theorem tw141 : Cond.soleField "StereoWar$Scene" "things" ∈ TT := tt_at 141 (by decide +kernel) rfl
theorem tw142 : Cond.laysFinal "StereoWar$Scene" "StereoWar$Scene" "pictures" "[LStereoWar$Picture;" ∈ TT := tt_at 142 (by decide +kernel) rfl
theorem tw143 : Cond.soleField "StereoWar$Scene" "pictures" ∈ TT := tt_at 143 (by decide +kernel) rfl
theorem tw144 : Cond.lays "StereoWar$Scene" "StereoWar$Scene" "focus" "I" ∈ TT := tt_at 144 (by decide +kernel) rfl
theorem tw145 : Cond.soleField "StereoWar$Scene" "focus" ∈ TT := tt_at 145 (by decide +kernel) rfl
theorem tw146 : Cond.superclass "StereoWar$Scene" "java/lang/Object" ∈ TT := tt_at 146 (by decide +kernel) rfl
theorem tw147 : Cond.arrayOver (FieldType.object "StereoWar$Scene") ∈ NW := nw_at 147 (by decide +kernel) rfl
theorem tw148 : Cond.classLink "StereoWar" (24 : Nat) "StereoWar$Pad" ∈ TT := tt_at 148 (by decide +kernel) rfl
theorem tw149 : Cond.instantiable "StereoWar$Pad" (6 : Nat) ∈ TT := tt_at 149 (by decide +kernel) rfl
theorem tw150 : Cond.methodLinkNest "StereoWar" (26 : Nat) ({ cls := "StereoWar$Pad", name := "<init>", desc := "()V" } : Jvm.MethodName) "StereoWar" ∈ NW := nw_at 150 (by decide +kernel) rfl
theorem tw151 : Cond.instanceMethod ({ cls := "StereoWar$Pad", name := "<init>", desc := "()V" } : Jvm.MethodName) ∈ TT := tt_at 151 (by decide +kernel) rfl
theorem tw152 : Cond.code ({ cls := "StereoWar$Pad", name := "<init>", desc := "()V" } : Jvm.MethodName) prog_3_method_1_code (1 : Nat) (none) ∈ TT := tt_at 152 (by decide +kernel) rfl
theorem tw153 : Cond.methodLink "StereoWar$Pad" (3 : Nat) ({ cls := "java/lang/Object", name := "<init>", desc := "()V" } : Jvm.MethodName) ∈ TT := tt_at 153 (by decide +kernel) rfl
theorem tw154 : Cond.fieldLink "StereoWar$Pad" (9 : Nat) "StereoWar$Pad" "signs" "[I" ∈ TT := tt_at 154 (by decide +kernel) rfl
theorem tw155 : Cond.fieldLink "StereoWar$Pad" (21 : Nat) "StereoWar$Pad" "count" "I" ∈ TT := tt_at 155 (by decide +kernel) rfl
theorem tw156 : Cond.fieldLinkNest "StereoWar" (116 : Nat) "StereoWar$Pad" "count" "I" "StereoWar" ∈ NW := nw_at 156 (by decide +kernel) rfl
theorem tw157 : Cond.fieldLink "StereoWar$Pad" (15 : Nat) "StereoWar$Pad" "lefts" "[I" ∈ TT := tt_at 157 (by decide +kernel) rfl
theorem tw158 : Cond.fieldLink "StereoWar$Pad" (18 : Nat) "StereoWar$Pad" "rights" "[I" ∈ TT := tt_at 158 (by decide +kernel) rfl
theorem tw159 : Cond.fieldLink "StereoWar$Pad" (29 : Nat) "StereoWar$Pad" "pairs" "I" ∈ TT := tt_at 159 (by decide +kernel) rfl
theorem tw160 : Cond.fieldLinkNest "StereoWar" (130 : Nat) "StereoWar$Pad" "pairs" "I" "StereoWar" ∈ NW := nw_at 160 (by decide +kernel) rfl
theorem tw161 : Cond.fieldLink "StereoWar$Pad" (32 : Nat) "StereoWar$Pad" "turns" "I" ∈ TT := tt_at 161 (by decide +kernel) rfl
theorem tw162 : Cond.fieldLinkNest "StereoWar" (133 : Nat) "StereoWar$Pad" "turns" "I" "StereoWar" ∈ NW := nw_at 162 (by decide +kernel) rfl
theorem tw163 : Cond.laysFinal "StereoWar$Pad" "StereoWar$Pad" "signs" "[I" ∈ TT := tt_at 163 (by decide +kernel) rfl
theorem tw164 : Cond.soleField "StereoWar$Pad" "signs" ∈ TT := tt_at 164 (by decide +kernel) rfl
theorem tw165 : Cond.lays "StereoWar$Pad" "StereoWar$Pad" "count" "I" ∈ TT := tt_at 165 (by decide +kernel) rfl
theorem tw166 : Cond.soleField "StereoWar$Pad" "count" ∈ TT := tt_at 166 (by decide +kernel) rfl
theorem tw167 : Cond.laysFinal "StereoWar$Pad" "StereoWar$Pad" "lefts" "[I" ∈ TT := tt_at 167 (by decide +kernel) rfl
theorem tw168 : Cond.soleField "StereoWar$Pad" "lefts" ∈ TT := tt_at 168 (by decide +kernel) rfl
theorem tw169 : Cond.laysFinal "StereoWar$Pad" "StereoWar$Pad" "rights" "[I" ∈ TT := tt_at 169 (by decide +kernel) rfl
theorem tw170 : Cond.soleField "StereoWar$Pad" "rights" ∈ TT := tt_at 170 (by decide +kernel) rfl
theorem tw171 : Cond.lays "StereoWar$Pad" "StereoWar$Pad" "pairs" "I" ∈ TT := tt_at 171 (by decide +kernel) rfl
theorem tw172 : Cond.soleField "StereoWar$Pad" "pairs" ∈ TT := tt_at 172 (by decide +kernel) rfl
theorem tw173 : Cond.lays "StereoWar$Pad" "StereoWar$Pad" "turns" "I" ∈ TT := tt_at 173 (by decide +kernel) rfl
theorem tw174 : Cond.soleField "StereoWar$Pad" "turns" ∈ TT := tt_at 174 (by decide +kernel) rfl
theorem tw175 : Cond.superclass "StereoWar$Pad" "java/lang/Object" ∈ TT := tt_at 175 (by decide +kernel) rfl
theorem tw176 : Cond.arrayClass FieldType.boolean ∈ TT := tt_at 176 (by decide +kernel) rfl
theorem tw177 : Cond.classLink "StereoWar" (31 : Nat) "StereoWar$Matcher" ∈ TT := tt_at 177 (by decide +kernel) rfl
theorem tw178 : Cond.instantiable "StereoWar$Matcher" (2 : Nat) ∈ TT := tt_at 178 (by decide +kernel) rfl
theorem tw179 : Cond.methodLinkNest "StereoWar" (33 : Nat) ({ cls := "StereoWar$Matcher", name := "<init>", desc := "()V" } : Jvm.MethodName) "StereoWar" ∈ NW := nw_at 179 (by decide +kernel) rfl
theorem tw180 : Cond.instanceMethod ({ cls := "StereoWar$Matcher", name := "<init>", desc := "()V" } : Jvm.MethodName) ∈ TT := tt_at 180 (by decide +kernel) rfl
theorem tw181 : Cond.code ({ cls := "StereoWar$Matcher", name := "<init>", desc := "()V" } : Jvm.MethodName) prog_2_method_1_code (1 : Nat) (none) ∈ TT := tt_at 181 (by decide +kernel) rfl
theorem tw182 : Cond.methodLink "StereoWar$Matcher" (3 : Nat) ({ cls := "java/lang/Object", name := "<init>", desc := "()V" } : Jvm.MethodName) ∈ TT := tt_at 182 (by decide +kernel) rfl
theorem tw183 : Cond.fieldLink "StereoWar$Matcher" (9 : Nat) "StereoWar$Matcher" "friends" "[I" ∈ TT := tt_at 183 (by decide +kernel) rfl
theorem tw184 : Cond.fieldLink "StereoWar$Matcher" (15 : Nat) "StereoWar$Matcher" "most" "[I" ∈ TT := tt_at 184 (by decide +kernel) rfl
theorem tw185 : Cond.laysFinal "StereoWar$Matcher" "StereoWar$Matcher" "friends" "[I" ∈ TT := tt_at 185 (by decide +kernel) rfl
theorem tw186 : Cond.soleField "StereoWar$Matcher" "friends" ∈ TT := tt_at 186 (by decide +kernel) rfl
theorem tw187 : Cond.laysFinal "StereoWar$Matcher" "StereoWar$Matcher" "most" "[I" ∈ TT := tt_at 187 (by decide +kernel) rfl
theorem tw188 : Cond.soleField "StereoWar$Matcher" "most" ∈ TT := tt_at 188 (by decide +kernel) rfl
theorem tw189 : Cond.superclass "StereoWar$Matcher" "java/lang/Object" ∈ TT := tt_at 189 (by decide +kernel) rfl
theorem tw190 : Cond.classLink "StereoWar" (38 : Nat) "StereoWar$Shutter" ∈ TT := tt_at 190 (by decide +kernel) rfl
theorem tw191 : Cond.instantiable "StereoWar$Shutter" (1 : Nat) ∈ TT := tt_at 191 (by decide +kernel) rfl
theorem tw192 : Cond.methodLinkNest "StereoWar" (40 : Nat) ({ cls := "StereoWar$Shutter", name := "<init>", desc := "()V" } : Jvm.MethodName) "StereoWar" ∈ NW := nw_at 192 (by decide +kernel) rfl
theorem tw193 : Cond.instanceMethod ({ cls := "StereoWar$Shutter", name := "<init>", desc := "()V" } : Jvm.MethodName) ∈ TT := tt_at 193 (by decide +kernel) rfl
theorem tw194 : Cond.code ({ cls := "StereoWar$Shutter", name := "<init>", desc := "()V" } : Jvm.MethodName) prog_7_method_1_code (1 : Nat) (none) ∈ TT := tt_at 194 (by decide +kernel) rfl
theorem tw195 : Cond.methodLink "StereoWar$Shutter" (3 : Nat) ({ cls := "java/lang/Object", name := "<init>", desc := "()V" } : Jvm.MethodName) ∈ TT := tt_at 195 (by decide +kernel) rfl
theorem tw196 : Cond.fieldLink "StereoWar$Shutter" (9 : Nat) "StereoWar$Shutter" "ways" "[J" ∈ TT := tt_at 196 (by decide +kernel) rfl
theorem tw197 : Cond.laysFinal "StereoWar$Shutter" "StereoWar$Shutter" "ways" "[J" ∈ TT := tt_at 197 (by decide +kernel) rfl
theorem tw198 : Cond.soleField "StereoWar$Shutter" "ways" ∈ TT := tt_at 198 (by decide +kernel) rfl
theorem tw199 : Cond.superclass "StereoWar$Shutter" "java/lang/Object" ∈ TT := tt_at 199 (by decide +kernel) rfl
theorem tw200 : Cond.arrayClass FieldType.long ∈ TT := tt_at 200 (by decide +kernel) rfl
theorem tw201 : Cond.classLink "StereoWar" (45 : Nat) "StereoWar$Picture" ∈ TT := tt_at 201 (by decide +kernel) rfl
theorem tw202 : Cond.methodLinkNest "StereoWar" (47 : Nat) ({ cls := "StereoWar$Picture", name := "<init>", desc := "()V" } : Jvm.MethodName) "StereoWar" ∈ NW := nw_at 202 (by decide +kernel) rfl
theorem tw203 : Cond.fieldLink "StereoWar" (10 : Nat) "StereoWar" "now" "LStereoWar$Scene;" ∈ TT := tt_at 203 (by decide +kernel) rfl
theorem tw204 : Cond.fieldLink "StereoWar" (16 : Nat) "StereoWar" "images" "[LStereoWar$Scene;" ∈ TT := tt_at 204 (by decide +kernel) rfl
theorem tw205 : Cond.fieldLink "StereoWar" (20 : Nat) "StereoWar" "imageKept" "[Z" ∈ TT := tt_at 205 (by decide +kernel) rfl
theorem tw206 : Cond.fieldLink "StereoWar" (27 : Nat) "StereoWar" "pad" "LStereoWar$Pad;" ∈ TT := tt_at 206 (by decide +kernel) rfl
theorem tw207 : Cond.fieldLink "StereoWar" (34 : Nat) "StereoWar" "matcher" "LStereoWar$Matcher;" ∈ TT := tt_at 207 (by decide +kernel) rfl
theorem tw208 : Cond.fieldLink "StereoWar" (41 : Nat) "StereoWar" "shutter" "LStereoWar$Shutter;" ∈ TT := tt_at 208 (by decide +kernel) rfl
theorem tw209 : Cond.fieldLink "StereoWar" (48 : Nat) "StereoWar" "leftPlate" "LStereoWar$Picture;" ∈ TT := tt_at 209 (by decide +kernel) rfl
theorem tw210 : Cond.fieldLink "StereoWar" (52 : Nat) "StereoWar" "rightPlate" "LStereoWar$Picture;" ∈ TT := tt_at 210 (by decide +kernel) rfl
theorem tw211 : Cond.laysFinal "StereoWar" "StereoWar" "now" "LStereoWar$Scene;" ∈ TT := tt_at 211 (by decide +kernel) rfl
theorem tw212 : Cond.soleField "StereoWar" "now" ∈ TT := tt_at 212 (by decide +kernel) rfl
theorem tw213 : Cond.laysFinal "StereoWar" "StereoWar" "images" "[LStereoWar$Scene;" ∈ TT := tt_at 213 (by decide +kernel) rfl
theorem tw214 : Cond.soleField "StereoWar" "images" ∈ TT := tt_at 214 (by decide +kernel) rfl
theorem tw215 : Cond.laysFinal "StereoWar" "StereoWar" "imageKept" "[Z" ∈ TT := tt_at 215 (by decide +kernel) rfl
theorem tw216 : Cond.soleField "StereoWar" "imageKept" ∈ TT := tt_at 216 (by decide +kernel) rfl
theorem tw217 : Cond.laysFinal "StereoWar" "StereoWar" "pad" "LStereoWar$Pad;" ∈ TT := tt_at 217 (by decide +kernel) rfl
theorem tw218 : Cond.soleField "StereoWar" "pad" ∈ TT := tt_at 218 (by decide +kernel) rfl
theorem tw219 : Cond.laysFinal "StereoWar" "StereoWar" "matcher" "LStereoWar$Matcher;" ∈ TT := tt_at 219 (by decide +kernel) rfl
theorem tw220 : Cond.soleField "StereoWar" "matcher" ∈ TT := tt_at 220 (by decide +kernel) rfl
theorem tw221 : Cond.laysFinal "StereoWar" "StereoWar" "shutter" "LStereoWar$Shutter;" ∈ TT := tt_at 221 (by decide +kernel) rfl
theorem tw222 : Cond.soleField "StereoWar" "shutter" ∈ TT := tt_at 222 (by decide +kernel) rfl
theorem tw223 : Cond.laysFinal "StereoWar" "StereoWar" "leftPlate" "LStereoWar$Picture;" ∈ TT := tt_at 223 (by decide +kernel) rfl
theorem tw224 : Cond.soleField "StereoWar" "leftPlate" ∈ TT := tt_at 224 (by decide +kernel) rfl
theorem tw225 : Cond.laysFinal "StereoWar" "StereoWar" "rightPlate" "LStereoWar$Picture;" ∈ TT := tt_at 225 (by decide +kernel) rfl
theorem tw226 : Cond.soleField "StereoWar" "rightPlate" ∈ TT := tt_at 226 (by decide +kernel) rfl
theorem tw227 : Cond.superclass "StereoWar" "java/lang/Object" ∈ TT := tt_at 227 (by decide +kernel) rfl
theorem tw228 : Cond.methodLink "StereoWarLaw" (13 : Nat) ({ cls := "StereoWar", name := "thing", desc := "(IIII)I" } : Jvm.MethodName) ∈ TT := tt_at 228 (by decide +kernel) rfl
theorem tw229 : Cond.instanceMethod ({ cls := "StereoWar", name := "thing", desc := "(IIII)I" } : Jvm.MethodName) ∈ TT := tt_at 229 (by decide +kernel) rfl
theorem tw230 : Cond.selects "StereoWar" ({ cls := "StereoWar", name := "thing", desc := "(IIII)I" } : Jvm.MethodName) ({ cls := "StereoWar", name := "thing", desc := "(IIII)I" } : Jvm.MethodName) ∈ TT := tt_at 230 (by decide +kernel) rfl
theorem tw231 : Cond.code ({ cls := "StereoWar", name := "thing", desc := "(IIII)I" } : Jvm.MethodName) prog_1_method_2_code (5 : Nat) (Option.some FieldType.int) ∈ TT := tt_at 231 (by decide +kernel) rfl
theorem tw232 : Cond.methodLink "StereoWar" (55 : Nat) ({ cls := "StereoWar", name := "within", desc := "(III)Z" } : Jvm.MethodName) ∈ TT := tt_at 232 (by decide +kernel) rfl
theorem tw233 : Cond.static ({ cls := "StereoWar", name := "within", desc := "(III)Z" } : Jvm.MethodName) ∈ TT := tt_at 233 (by decide +kernel) rfl
theorem tw234 : Cond.code ({ cls := "StereoWar", name := "within", desc := "(III)Z" } : Jvm.MethodName) prog_1_method_32_code (3 : Nat) (Option.some FieldType.boolean) ∈ TT := tt_at 234 (by decide +kernel) rfl
theorem tw235 : Cond.methodLinkNest "StereoWar" (59 : Nat) ({ cls := "StereoWar$Scene", name := "putThing", desc := "(IIII)V" } : Jvm.MethodName) "StereoWar" ∈ NW := nw_at 235 (by decide +kernel) rfl
theorem tw237 : Cond.instanceMethod ({ cls := "StereoWar$Scene", name := "putThing", desc := "(IIII)V" } : Jvm.MethodName) ∈ TT := tt_at 237 (by decide +kernel) rfl
theorem tw238 : Cond.code ({ cls := "StereoWar$Scene", name := "putThing", desc := "(IIII)V" } : Jvm.MethodName) prog_5_method_5_code (6 : Nat) (none) ∈ TT := tt_at 238 (by decide +kernel) rfl
theorem tw239 : Cond.methodLinkNest "StereoWar$Scene" (36 : Nat) ({ cls := "StereoWar", name := "within", desc := "(III)Z" } : Jvm.MethodName) "StereoWar" ∈ NW := nw_at 239 (by decide +kernel) rfl
theorem tw240 : Cond.methodLinkNest "StereoWar" (63 : Nat) ({ cls := "StereoWar$Scene", name := "thingBits", desc := "()I" } : Jvm.MethodName) "StereoWar" ∈ NW := nw_at 240 (by decide +kernel) rfl
theorem tw242 : Cond.instanceMethod ({ cls := "StereoWar$Scene", name := "thingBits", desc := "()I" } : Jvm.MethodName) ∈ TT := tt_at 242 (by decide +kernel) rfl
theorem tw243 : Cond.code ({ cls := "StereoWar$Scene", name := "thingBits", desc := "()I" } : Jvm.MethodName) prog_5_method_10_code (3 : Nat) (Option.some FieldType.int) ∈ TT := tt_at 243 (by decide +kernel) rfl
theorem tw244 : Cond.methodLink "StereoWar" (67 : Nat) ({ cls := "java/lang/Integer", name := "bitCount", desc := "(I)I" } : Jvm.MethodName) ∈ TT := tt_at 244 (by decide +kernel) rfl
theorem tw245 : Cond.static ({ cls := "java/lang/Integer", name := "bitCount", desc := "(I)I" } : Jvm.MethodName) ∈ TT := tt_at 245 (by decide +kernel) rfl
theorem tw246 : Cond.code ({ cls := "java/lang/Integer", name := "bitCount", desc := "(I)I" } : Jvm.MethodName) prog_11_method_49_code (1 : Nat) (Option.some FieldType.int) ∈ TT := tt_at 246 (by decide +kernel) rfl
theorem tw247 : Cond.constant "java/lang/Integer" (265 : Nat) (1431655765 : Int32) ∈ TT := tt_at 247 (by decide +kernel) rfl
theorem tw248 : Cond.constant "java/lang/Integer" (266 : Nat) (858993459 : Int32) ∈ TT := tt_at 248 (by decide +kernel) rfl
theorem tw249 : Cond.constant "java/lang/Integer" (267 : Nat) (252645135 : Int32) ∈ TT := tt_at 249 (by decide +kernel) rfl
theorem tw250 : Cond.methodLink "StereoWarLaw" (18 : Nat) ({ cls := "StereoWar", name := "leave", desc := "(I)I" } : Jvm.MethodName) ∈ TT := tt_at 250 (by decide +kernel) rfl
theorem tw251 : Cond.instanceMethod ({ cls := "StereoWar", name := "leave", desc := "(I)I" } : Jvm.MethodName) ∈ TT := tt_at 251 (by decide +kernel) rfl
theorem tw252 : Cond.selects "StereoWar" ({ cls := "StereoWar", name := "leave", desc := "(I)I" } : Jvm.MethodName) ({ cls := "StereoWar", name := "leave", desc := "(I)I" } : Jvm.MethodName) ∈ TT := tt_at 252 (by decide +kernel) rfl
theorem tw253 : Cond.code ({ cls := "StereoWar", name := "leave", desc := "(I)I" } : Jvm.MethodName) prog_1_method_3_code (3 : Nat) (Option.some FieldType.int) ∈ TT := tt_at 253 (by decide +kernel) rfl
theorem tw254 : Cond.methodLinkNest "StereoWar" (73 : Nat) ({ cls := "StereoWar$Scene", name := "thingAt", desc := "(I)LStereoWar$Thing;" } : Jvm.MethodName) "StereoWar" ∈ NW := nw_at 254 (by decide +kernel) rfl
theorem tw256 : Cond.instanceMethod ({ cls := "StereoWar$Scene", name := "thingAt", desc := "(I)LStereoWar$Thing;" } : Jvm.MethodName) ∈ TT := tt_at 256 (by decide +kernel) rfl
theorem tw257 : Cond.code ({ cls := "StereoWar$Scene", name := "thingAt", desc := "(I)LStereoWar$Thing;" } : Jvm.MethodName) prog_5_method_3_code (2 : Nat) (Option.some (FieldType.object "StereoWar$Thing")) ∈ TT := tt_at 257 (by decide +kernel) rfl
theorem tw258 : Cond.methodLink "StereoWarLaw" (23 : Nat) ({ cls := "StereoWar", name := "focus", desc := "(I)I" } : Jvm.MethodName) ∈ TT := tt_at 258 (by decide +kernel) rfl
theorem tw259 : Cond.instanceMethod ({ cls := "StereoWar", name := "focus", desc := "(I)I" } : Jvm.MethodName) ∈ TT := tt_at 259 (by decide +kernel) rfl
theorem tw260 : Cond.selects "StereoWar" ({ cls := "StereoWar", name := "focus", desc := "(I)I" } : Jvm.MethodName) ({ cls := "StereoWar", name := "focus", desc := "(I)I" } : Jvm.MethodName) ∈ TT := tt_at 260 (by decide +kernel) rfl
theorem tw261 : Cond.code ({ cls := "StereoWar", name := "focus", desc := "(I)I" } : Jvm.MethodName) prog_1_method_4_code (3 : Nat) (Option.some FieldType.int) ∈ TT := tt_at 261 (by decide +kernel) rfl
theorem tw262 : Cond.methodLink "StereoWarLaw" (27 : Nat) ({ cls := "StereoWar", name := "take", desc := "(III)I" } : Jvm.MethodName) ∈ TT := tt_at 262 (by decide +kernel) rfl
theorem tw263 : Cond.instanceMethod ({ cls := "StereoWar", name := "take", desc := "(III)I" } : Jvm.MethodName) ∈ TT := tt_at 263 (by decide +kernel) rfl
theorem tw264 : Cond.selects "StereoWar" ({ cls := "StereoWar", name := "take", desc := "(III)I" } : Jvm.MethodName) ({ cls := "StereoWar", name := "take", desc := "(III)I" } : Jvm.MethodName) ∈ TT := tt_at 264 (by decide +kernel) rfl
theorem tw265 : Cond.code ({ cls := "StereoWar", name := "take", desc := "(III)I" } : Jvm.MethodName) prog_1_method_5_code (4 : Nat) (Option.some FieldType.int) ∈ TT := tt_at 265 (by decide +kernel) rfl
theorem tw266 : Cond.methodLink "StereoWar" (87 : Nat) ({ cls := "StereoWar", name := "isStand", desc := "(I)Z" } : Jvm.MethodName) ∈ TT := tt_at 266 (by decide +kernel) rfl
theorem tw267 : Cond.static ({ cls := "StereoWar", name := "isStand", desc := "(I)Z" } : Jvm.MethodName) ∈ TT := tt_at 267 (by decide +kernel) rfl
theorem tw268 : Cond.code ({ cls := "StereoWar", name := "isStand", desc := "(I)Z" } : Jvm.MethodName) prog_1_method_33_code (1 : Nat) (Option.some FieldType.boolean) ∈ TT := tt_at 268 (by decide +kernel) rfl
theorem tw269 : Cond.methodLink "StereoWar" (91 : Nat) ({ cls := "StereoWar", name := "isMinute", desc := "(I)Z" } : Jvm.MethodName) ∈ TT := tt_at 269 (by decide +kernel) rfl
theorem tw270 : Cond.static ({ cls := "StereoWar", name := "isMinute", desc := "(I)Z" } : Jvm.MethodName) ∈ TT := tt_at 270 (by decide +kernel) rfl
theorem tw271 : Cond.code ({ cls := "StereoWar", name := "isMinute", desc := "(I)Z" } : Jvm.MethodName) prog_1_method_34_code (1 : Nat) (Option.some FieldType.boolean) ∈ TT := tt_at 271 (by decide +kernel) rfl
theorem tw272 : Cond.methodLinkNest "StereoWar" (94 : Nat) ({ cls := "StereoWar$Scene", name := "takePicture", desc := "(III)I" } : Jvm.MethodName) "StereoWar" ∈ NW := nw_at 272 (by decide +kernel) rfl
theorem tw274 : Cond.instanceMethod ({ cls := "StereoWar$Scene", name := "takePicture", desc := "(III)I" } : Jvm.MethodName) ∈ TT := tt_at 274 (by decide +kernel) rfl
theorem tw275 : Cond.code ({ cls := "StereoWar$Scene", name := "takePicture", desc := "(III)I" } : Jvm.MethodName) prog_5_method_6_code (5 : Nat) (Option.some FieldType.int) ∈ TT := tt_at 275 (by decide +kernel) rfl
theorem tw276 : Cond.methodLink "StereoWar$Scene" (54 : Nat) ({ cls := "StereoWar$Scene", name := "expose", desc := "(LStereoWar$Picture;II)V" } : Jvm.MethodName) ∈ TT := tt_at 276 (by decide +kernel) rfl
theorem tw278 : Cond.instanceMethod ({ cls := "StereoWar$Scene", name := "expose", desc := "(LStereoWar$Picture;II)V" } : Jvm.MethodName) ∈ TT := tt_at 278 (by decide +kernel) rfl
theorem tw279 : Cond.code ({ cls := "StereoWar$Scene", name := "expose", desc := "(LStereoWar$Picture;II)V" } : Jvm.MethodName) prog_5_method_7_code (5 : Nat) (none) ∈ TT := tt_at 279 (by decide +kernel) rfl
theorem tw280 : Cond.methodLink "StereoWar$Scene" (62 : Nat) ({ cls := "StereoWar$Scene", name := "columnOf", desc := "(III)I" } : Jvm.MethodName) ∈ TT := tt_at 280 (by decide +kernel) rfl
theorem tw282 : Cond.instanceMethod ({ cls := "StereoWar$Scene", name := "columnOf", desc := "(III)I" } : Jvm.MethodName) ∈ TT := tt_at 282 (by decide +kernel) rfl
theorem tw283 : Cond.code ({ cls := "StereoWar$Scene", name := "columnOf", desc := "(III)I" } : Jvm.MethodName) prog_5_method_8_code (5 : Nat) (Option.some FieldType.int) ∈ TT := tt_at 283 (by decide +kernel) rfl
theorem tw284 : Cond.methodLink "StereoWar$Scene" (70 : Nat) ({ cls := "StereoWar$Scene", name := "thingAt", desc := "(I)LStereoWar$Thing;" } : Jvm.MethodName) ∈ TT := tt_at 284 (by decide +kernel) rfl
theorem tw285 : Cond.methodLinkNest "StereoWar$Scene" (74 : Nat) ({ cls := "StereoWar$Thing", name := "columnFrom", desc := "(III)I" } : Jvm.MethodName) "StereoWar" ∈ NW := nw_at 285 (by decide +kernel) rfl
theorem tw287 : Cond.instanceMethod ({ cls := "StereoWar$Thing", name := "columnFrom", desc := "(III)I" } : Jvm.MethodName) ∈ TT := tt_at 287 (by decide +kernel) rfl
theorem tw288 : Cond.code ({ cls := "StereoWar$Thing", name := "columnFrom", desc := "(III)I" } : Jvm.MethodName) prog_8_method_2_code (5 : Nat) (Option.some FieldType.int) ∈ TT := tt_at 288 (by decide +kernel) rfl
theorem tw289 : Cond.methodLinkNest "StereoWar$Thing" (21 : Nat) ({ cls := "StereoWar", name := "within", desc := "(III)Z" } : Jvm.MethodName) "StereoWar" ∈ NW := nw_at 289 (by decide +kernel) rfl
theorem tw290 : Cond.methodLinkNest "StereoWar$Scene" (66 : Nat) ({ cls := "StereoWar$Picture", name := "putColumn", desc := "(II)V" } : Jvm.MethodName) "StereoWar" ∈ NW := nw_at 290 (by decide +kernel) rfl
theorem tw292 : Cond.instanceMethod ({ cls := "StereoWar$Picture", name := "putColumn", desc := "(II)V" } : Jvm.MethodName) ∈ TT := tt_at 292 (by decide +kernel) rfl
theorem tw293 : Cond.code ({ cls := "StereoWar$Picture", name := "putColumn", desc := "(II)V" } : Jvm.MethodName) prog_4_method_3_code (3 : Nat) (none) ∈ TT := tt_at 293 (by decide +kernel) rfl
theorem tw294 : Cond.methodLinkNest "StereoWar$Picture" (15 : Nat) ({ cls := "StereoWar", name := "within", desc := "(III)Z" } : Jvm.MethodName) "StereoWar" ∈ NW := nw_at 294 (by decide +kernel) rfl
theorem tw295 : Cond.methodLinkNest "StereoWar$Scene" (58 : Nat) ({ cls := "StereoWar$Picture", name := "shownBits", desc := "()I" } : Jvm.MethodName) "StereoWar" ∈ NW := nw_at 295 (by decide +kernel) rfl
theorem tw297 : Cond.instanceMethod ({ cls := "StereoWar$Picture", name := "shownBits", desc := "()I" } : Jvm.MethodName) ∈ TT := tt_at 297 (by decide +kernel) rfl
theorem tw298 : Cond.code ({ cls := "StereoWar$Picture", name := "shownBits", desc := "()I" } : Jvm.MethodName) prog_4_method_4_code (3 : Nat) (Option.some FieldType.int) ∈ TT := tt_at 298 (by decide +kernel) rfl
theorem tw299 : Cond.methodLink "StereoWarLaw" (32 : Nat) ({ cls := "StereoWar", name := "retouch", desc := "(III)I" } : Jvm.MethodName) ∈ TT := tt_at 299 (by decide +kernel) rfl
theorem tw300 : Cond.instanceMethod ({ cls := "StereoWar", name := "retouch", desc := "(III)I" } : Jvm.MethodName) ∈ TT := tt_at 300 (by decide +kernel) rfl
theorem tw301 : Cond.selects "StereoWar" ({ cls := "StereoWar", name := "retouch", desc := "(III)I" } : Jvm.MethodName) ({ cls := "StereoWar", name := "retouch", desc := "(III)I" } : Jvm.MethodName) ∈ TT := tt_at 301 (by decide +kernel) rfl
theorem tw302 : Cond.code ({ cls := "StereoWar", name := "retouch", desc := "(III)I" } : Jvm.MethodName) prog_1_method_6_code (6 : Nat) (Option.some FieldType.int) ∈ TT := tt_at 302 (by decide +kernel) rfl
theorem tw303 : Cond.methodLinkNest "StereoWar" (98 : Nat) ({ cls := "StereoWar$Scene", name := "pictureAt", desc := "(I)LStereoWar$Picture;" } : Jvm.MethodName) "StereoWar" ∈ NW := nw_at 303 (by decide +kernel) rfl
theorem tw305 : Cond.instanceMethod ({ cls := "StereoWar$Scene", name := "pictureAt", desc := "(I)LStereoWar$Picture;" } : Jvm.MethodName) ∈ TT := tt_at 305 (by decide +kernel) rfl
theorem tw306 : Cond.code ({ cls := "StereoWar$Scene", name := "pictureAt", desc := "(I)LStereoWar$Picture;" } : Jvm.MethodName) prog_5_method_4_code (2 : Nat) (Option.some (FieldType.object "StereoWar$Picture")) ∈ TT := tt_at 306 (by decide +kernel) rfl
theorem tw307 : Cond.methodLinkNest "StereoWar" (102 : Nat) ({ cls := "StereoWar$Picture", name := "columnOf", desc := "(I)I" } : Jvm.MethodName) "StereoWar" ∈ NW := nw_at 307 (by decide +kernel) rfl
theorem tw309 : Cond.instanceMethod ({ cls := "StereoWar$Picture", name := "columnOf", desc := "(I)I" } : Jvm.MethodName) ∈ TT := tt_at 309 (by decide +kernel) rfl
theorem tw310 : Cond.code ({ cls := "StereoWar$Picture", name := "columnOf", desc := "(I)I" } : Jvm.MethodName) prog_4_method_2_code (2 : Nat) (Option.some FieldType.int) ∈ TT := tt_at 310 (by decide +kernel) rfl
theorem tw311 : Cond.methodLinkNest "StereoWar" (105 : Nat) ({ cls := "StereoWar$Picture", name := "putColumn", desc := "(II)V" } : Jvm.MethodName) "StereoWar" ∈ NW := nw_at 311 (by decide +kernel) rfl
theorem tw312 : Cond.methodLink "StereoWarLaw" (36 : Nat) ({ cls := "StereoWar", name := "burn", desc := "(I)I" } : Jvm.MethodName) ∈ TT := tt_at 312 (by decide +kernel) rfl
theorem tw313 : Cond.instanceMethod ({ cls := "StereoWar", name := "burn", desc := "(I)I" } : Jvm.MethodName) ∈ TT := tt_at 313 (by decide +kernel) rfl
theorem tw314 : Cond.selects "StereoWar" ({ cls := "StereoWar", name := "burn", desc := "(I)I" } : Jvm.MethodName) ({ cls := "StereoWar", name := "burn", desc := "(I)I" } : Jvm.MethodName) ∈ TT := tt_at 314 (by decide +kernel) rfl
theorem tw315 : Cond.code ({ cls := "StereoWar", name := "burn", desc := "(I)I" } : Jvm.MethodName) prog_1_method_7_code (3 : Nat) (Option.some FieldType.int) ∈ TT := tt_at 315 (by decide +kernel) rfl
theorem tw316 : Cond.methodLinkNest "StereoWar" (110 : Nat) ({ cls := "StereoWar$Scene", name := "pictureBits", desc := "()I" } : Jvm.MethodName) "StereoWar" ∈ NW := nw_at 316 (by decide +kernel) rfl
theorem tw318 : Cond.instanceMethod ({ cls := "StereoWar$Scene", name := "pictureBits", desc := "()I" } : Jvm.MethodName) ∈ TT := tt_at 318 (by decide +kernel) rfl
theorem tw319 : Cond.code ({ cls := "StereoWar$Scene", name := "pictureBits", desc := "()I" } : Jvm.MethodName) prog_5_method_11_code (3 : Nat) (Option.some FieldType.int) ∈ TT := tt_at 319 (by decide +kernel) rfl
theorem tw320 : Cond.methodLink "StereoWarLaw" (40 : Nat) ({ cls := "StereoWar", name := "say", desc := "(I)I" } : Jvm.MethodName) ∈ TT := tt_at 320 (by decide +kernel) rfl
theorem tw321 : Cond.instanceMethod ({ cls := "StereoWar", name := "say", desc := "(I)I" } : Jvm.MethodName) ∈ TT := tt_at 321 (by decide +kernel) rfl
theorem tw322 : Cond.selects "StereoWar" ({ cls := "StereoWar", name := "say", desc := "(I)I" } : Jvm.MethodName) ({ cls := "StereoWar", name := "say", desc := "(I)I" } : Jvm.MethodName) ∈ TT := tt_at 322 (by decide +kernel) rfl
theorem tw323 : Cond.code ({ cls := "StereoWar", name := "say", desc := "(I)I" } : Jvm.MethodName) prog_1_method_8_code (2 : Nat) (Option.some FieldType.int) ∈ TT := tt_at 323 (by decide +kernel) rfl
theorem tw324 : Cond.methodLinkNest "StereoWar" (113 : Nat) ({ cls := "StereoWar$Pad", name := "addSign", desc := "(I)Z" } : Jvm.MethodName) "StereoWar" ∈ NW := nw_at 324 (by decide +kernel) rfl
theorem tw326 : Cond.instanceMethod ({ cls := "StereoWar$Pad", name := "addSign", desc := "(I)Z" } : Jvm.MethodName) ∈ TT := tt_at 326 (by decide +kernel) rfl
theorem tw327 : Cond.code ({ cls := "StereoWar$Pad", name := "addSign", desc := "(I)Z" } : Jvm.MethodName) prog_3_method_2_code (2 : Nat) (Option.some FieldType.boolean) ∈ TT := tt_at 327 (by decide +kernel) rfl
theorem tw328 : Cond.methodLinkNest "StereoWar$Pad" (25 : Nat) ({ cls := "StereoWar", name := "within", desc := "(III)Z" } : Jvm.MethodName) "StereoWar" ∈ NW := nw_at 328 (by decide +kernel) rfl
theorem tw329 : Cond.methodLink "StereoWarLaw" (44 : Nat) ({ cls := "StereoWar", name := "wipe", desc := "()I" } : Jvm.MethodName) ∈ TT := tt_at 329 (by decide +kernel) rfl
theorem tw330 : Cond.instanceMethod ({ cls := "StereoWar", name := "wipe", desc := "()I" } : Jvm.MethodName) ∈ TT := tt_at 330 (by decide +kernel) rfl
theorem tw331 : Cond.selects "StereoWar" ({ cls := "StereoWar", name := "wipe", desc := "()I" } : Jvm.MethodName) ({ cls := "StereoWar", name := "wipe", desc := "()I" } : Jvm.MethodName) ∈ TT := tt_at 331 (by decide +kernel) rfl
theorem tw332 : Cond.code ({ cls := "StereoWar", name := "wipe", desc := "()I" } : Jvm.MethodName) prog_1_method_9_code (2 : Nat) (Option.some FieldType.int) ∈ TT := tt_at 332 (by decide +kernel) rfl
theorem tw333 : Cond.methodLink "StereoWarLaw" (49 : Nat) ({ cls := "StereoWar", name := "fault", desc := "()I" } : Jvm.MethodName) ∈ TT := tt_at 333 (by decide +kernel) rfl
theorem tw334 : Cond.instanceMethod ({ cls := "StereoWar", name := "fault", desc := "()I" } : Jvm.MethodName) ∈ TT := tt_at 334 (by decide +kernel) rfl
theorem tw335 : Cond.selects "StereoWar" ({ cls := "StereoWar", name := "fault", desc := "()I" } : Jvm.MethodName) ({ cls := "StereoWar", name := "fault", desc := "()I" } : Jvm.MethodName) ∈ TT := tt_at 335 (by decide +kernel) rfl
theorem tw336 : Cond.code ({ cls := "StereoWar", name := "fault", desc := "()I" } : Jvm.MethodName) prog_1_method_10_code (1 : Nat) (Option.some FieldType.int) ∈ TT := tt_at 336 (by decide +kernel) rfl
theorem tw337 : Cond.methodLinkNest "StereoWar" (119 : Nat) ({ cls := "StereoWar$Pad", name := "read", desc := "()I" } : Jvm.MethodName) "StereoWar" ∈ NW := nw_at 337 (by decide +kernel) rfl
theorem tw339 : Cond.instanceMethod ({ cls := "StereoWar$Pad", name := "read", desc := "()I" } : Jvm.MethodName) ∈ TT := tt_at 339 (by decide +kernel) rfl
theorem tw340 : Cond.code ({ cls := "StereoWar$Pad", name := "read", desc := "()I" } : Jvm.MethodName) prog_3_method_3_code (4 : Nat) (Option.some FieldType.int) ∈ TT := tt_at 340 (by decide +kernel) rfl
theorem tw341 : Cond.methodLink "StereoWar$Pad" (35 : Nat) ({ cls := "StereoWar$Pad", name := "addPair", desc := "(II)V" } : Jvm.MethodName) ∈ TT := tt_at 341 (by decide +kernel) rfl
theorem tw343 : Cond.instanceMethod ({ cls := "StereoWar$Pad", name := "addPair", desc := "(II)V" } : Jvm.MethodName) ∈ TT := tt_at 343 (by decide +kernel) rfl
theorem tw344 : Cond.code ({ cls := "StereoWar$Pad", name := "addPair", desc := "(II)V" } : Jvm.MethodName) prog_3_method_4_code (3 : Nat) (none) ∈ TT := tt_at 344 (by decide +kernel) rfl
theorem tw345 : Cond.methodLink "StereoWarLaw" (53 : Nat) ({ cls := "StereoWar", name := "judge", desc := "(I)I" } : Jvm.MethodName) ∈ TT := tt_at 345 (by decide +kernel) rfl
theorem tw346 : Cond.instanceMethod ({ cls := "StereoWar", name := "judge", desc := "(I)I" } : Jvm.MethodName) ∈ TT := tt_at 346 (by decide +kernel) rfl
theorem tw347 : Cond.selects "StereoWar" ({ cls := "StereoWar", name := "judge", desc := "(I)I" } : Jvm.MethodName) ({ cls := "StereoWar", name := "judge", desc := "(I)I" } : Jvm.MethodName) ∈ TT := tt_at 347 (by decide +kernel) rfl
theorem tw348 : Cond.code ({ cls := "StereoWar", name := "judge", desc := "(I)I" } : Jvm.MethodName) prog_1_method_11_code (3 : Nat) (Option.some FieldType.int) ∈ TT := tt_at 348 (by decide +kernel) rfl
theorem tw349 : Cond.methodLinkNest "StereoWar" (122 : Nat) ({ cls := "StereoWar$Pad", name := "firstWrongPair", desc := "(LStereoWar$Scene;)I" } : Jvm.MethodName) "StereoWar" ∈ NW := nw_at 349 (by decide +kernel) rfl
theorem tw351 : Cond.instanceMethod ({ cls := "StereoWar$Pad", name := "firstWrongPair", desc := "(LStereoWar$Scene;)I" } : Jvm.MethodName) ∈ TT := tt_at 351 (by decide +kernel) rfl
theorem tw352 : Cond.code ({ cls := "StereoWar$Pad", name := "firstWrongPair", desc := "(LStereoWar$Scene;)I" } : Jvm.MethodName) prog_3_method_7_code (3 : Nat) (Option.some FieldType.int) ∈ TT := tt_at 352 (by decide +kernel) rfl
theorem tw353 : Cond.methodLink "StereoWar$Pad" (39 : Nat) ({ cls := "StereoWar$Pad", name := "whyNot", desc := "(ILStereoWar$Scene;)I" } : Jvm.MethodName) ∈ TT := tt_at 353 (by decide +kernel) rfl
theorem tw355 : Cond.instanceMethod ({ cls := "StereoWar$Pad", name := "whyNot", desc := "(ILStereoWar$Scene;)I" } : Jvm.MethodName) ∈ TT := tt_at 355 (by decide +kernel) rfl
theorem tw356 : Cond.code ({ cls := "StereoWar$Pad", name := "whyNot", desc := "(ILStereoWar$Scene;)I" } : Jvm.MethodName) prog_3_method_8_code (6 : Nat) (Option.some FieldType.int) ∈ TT := tt_at 356 (by decide +kernel) rfl
theorem tw357 : Cond.methodLink "StereoWar$Pad" (43 : Nat) ({ cls := "StereoWar$Pad", name := "leftOf", desc := "(I)I" } : Jvm.MethodName) ∈ TT := tt_at 357 (by decide +kernel) rfl
theorem tw359 : Cond.instanceMethod ({ cls := "StereoWar$Pad", name := "leftOf", desc := "(I)I" } : Jvm.MethodName) ∈ TT := tt_at 359 (by decide +kernel) rfl
theorem tw360 : Cond.code ({ cls := "StereoWar$Pad", name := "leftOf", desc := "(I)I" } : Jvm.MethodName) prog_3_method_5_code (2 : Nat) (Option.some FieldType.int) ∈ TT := tt_at 360 (by decide +kernel) rfl
theorem tw361 : Cond.methodLink "StereoWar$Pad" (47 : Nat) ({ cls := "StereoWar$Pad", name := "rightOf", desc := "(I)I" } : Jvm.MethodName) ∈ TT := tt_at 361 (by decide +kernel) rfl
theorem tw363 : Cond.instanceMethod ({ cls := "StereoWar$Pad", name := "rightOf", desc := "(I)I" } : Jvm.MethodName) ∈ TT := tt_at 363 (by decide +kernel) rfl
theorem tw364 : Cond.code ({ cls := "StereoWar$Pad", name := "rightOf", desc := "(I)I" } : Jvm.MethodName) prog_3_method_6_code (2 : Nat) (Option.some FieldType.int) ∈ TT := tt_at 364 (by decide +kernel) rfl
theorem tw365 : Cond.methodLinkNest "StereoWar$Pad" (50 : Nat) ({ cls := "StereoWar$Scene", name := "pictureAt", desc := "(I)LStereoWar$Picture;" } : Jvm.MethodName) "StereoWar" ∈ NW := nw_at 365 (by decide +kernel) rfl
theorem tw366 : Cond.methodLink "StereoWar$Pad" (56 : Nat) ({ cls := "StereoWar$Pad", name := "isOf", desc := "(II)Z" } : Jvm.MethodName) ∈ TT := tt_at 366 (by decide +kernel) rfl
theorem tw368 : Cond.instanceMethod ({ cls := "StereoWar$Pad", name := "isOf", desc := "(II)Z" } : Jvm.MethodName) ∈ TT := tt_at 368 (by decide +kernel) rfl
theorem tw369 : Cond.code ({ cls := "StereoWar$Pad", name := "isOf", desc := "(II)Z" } : Jvm.MethodName) prog_3_method_9_code (3 : Nat) (Option.some FieldType.boolean) ∈ TT := tt_at 369 (by decide +kernel) rfl
theorem tw370 : Cond.methodLinkNest "StereoWar" (126 : Nat) ({ cls := "StereoWar$Pad", name := "whyNot", desc := "(ILStereoWar$Scene;)I" } : Jvm.MethodName) "StereoWar" ∈ NW := nw_at 370 (by decide +kernel) rfl
theorem tw371 : Cond.methodLink "StereoWarLaw" (57 : Nat) ({ cls := "StereoWar", name := "kinds", desc := "(I)I" } : Jvm.MethodName) ∈ TT := tt_at 371 (by decide +kernel) rfl
theorem tw372 : Cond.instanceMethod ({ cls := "StereoWar", name := "kinds", desc := "(I)I" } : Jvm.MethodName) ∈ TT := tt_at 372 (by decide +kernel) rfl
theorem tw373 : Cond.selects "StereoWar" ({ cls := "StereoWar", name := "kinds", desc := "(I)I" } : Jvm.MethodName) ({ cls := "StereoWar", name := "kinds", desc := "(I)I" } : Jvm.MethodName) ∈ TT := tt_at 373 (by decide +kernel) rfl
theorem tw374 : Cond.code ({ cls := "StereoWar", name := "kinds", desc := "(I)I" } : Jvm.MethodName) prog_1_method_12_code (2 : Nat) (Option.some FieldType.int) ∈ TT := tt_at 374 (by decide +kernel) rfl
theorem tw375 : Cond.methodLinkNest "StereoWar" (136 : Nat) ({ cls := "StereoWar$Pad", name := "firstNotGood", desc := "(LStereoWar$Scene;)I" } : Jvm.MethodName) "StereoWar" ∈ NW := nw_at 375 (by decide +kernel) rfl
theorem tw377 : Cond.instanceMethod ({ cls := "StereoWar$Pad", name := "firstNotGood", desc := "(LStereoWar$Scene;)I" } : Jvm.MethodName) ∈ TT := tt_at 377 (by decide +kernel) rfl
theorem tw378 : Cond.code ({ cls := "StereoWar$Pad", name := "firstNotGood", desc := "(LStereoWar$Scene;)I" } : Jvm.MethodName) prog_3_method_11_code (3 : Nat) (Option.some FieldType.int) ∈ TT := tt_at 378 (by decide +kernel) rfl
theorem tw379 : Cond.methodLinkNest "StereoWar$Pad" (60 : Nat) ({ cls := "StereoWar$Scene", name := "kindOfPair", desc := "(II)I" } : Jvm.MethodName) "StereoWar" ∈ NW := nw_at 379 (by decide +kernel) rfl
theorem tw381 : Cond.instanceMethod ({ cls := "StereoWar$Scene", name := "kindOfPair", desc := "(II)I" } : Jvm.MethodName) ∈ TT := tt_at 381 (by decide +kernel) rfl
theorem tw382 : Cond.code ({ cls := "StereoWar$Scene", name := "kindOfPair", desc := "(II)I" } : Jvm.MethodName) prog_5_method_12_code (5 : Nat) (Option.some FieldType.int) ∈ TT := tt_at 382 (by decide +kernel) rfl
theorem tw383 : Cond.methodLink "StereoWar$Scene" (77 : Nat) ({ cls := "StereoWar$Scene", name := "pictureAt", desc := "(I)LStereoWar$Picture;" } : Jvm.MethodName) ∈ TT := tt_at 383 (by decide +kernel) rfl
theorem tw384 : Cond.methodLinkNest "StereoWar$Scene" (81 : Nat) ({ cls := "StereoWar$Picture", name := "kindWith", desc := "(LStereoWar$Picture;)I" } : Jvm.MethodName) "StereoWar" ∈ NW := nw_at 384 (by decide +kernel) rfl
theorem tw386 : Cond.instanceMethod ({ cls := "StereoWar$Picture", name := "kindWith", desc := "(LStereoWar$Picture;)I" } : Jvm.MethodName) ∈ TT := tt_at 386 (by decide +kernel) rfl
theorem tw387 : Cond.code ({ cls := "StereoWar$Picture", name := "kindWith", desc := "(LStereoWar$Picture;)I" } : Jvm.MethodName) prog_4_method_8_code (5 : Nat) (Option.some FieldType.int) ∈ TT := tt_at 387 (by decide +kernel) rfl
theorem tw388 : Cond.methodLink "StereoWar$Picture" (27 : Nat) ({ cls := "StereoWar$Picture", name := "sharesWith", desc := "(LStereoWar$Picture;I)Z" } : Jvm.MethodName) ∈ TT := tt_at 388 (by decide +kernel) rfl
theorem tw390 : Cond.instanceMethod ({ cls := "StereoWar$Picture", name := "sharesWith", desc := "(LStereoWar$Picture;I)Z" } : Jvm.MethodName) ∈ TT := tt_at 390 (by decide +kernel) rfl
theorem tw391 : Cond.code ({ cls := "StereoWar$Picture", name := "sharesWith", desc := "(LStereoWar$Picture;I)Z" } : Jvm.MethodName) prog_4_method_6_code (3 : Nat) (Option.some FieldType.boolean) ∈ TT := tt_at 391 (by decide +kernel) rfl
theorem tw392 : Cond.methodLink "StereoWar$Picture" (23 : Nat) ({ cls := "StereoWar$Picture", name := "columnOf", desc := "(I)I" } : Jvm.MethodName) ∈ TT := tt_at 392 (by decide +kernel) rfl
theorem tw393 : Cond.methodLink "StereoWar$Picture" (31 : Nat) ({ cls := "StereoWar$Picture", name := "shiftTo", desc := "(LStereoWar$Picture;I)I" } : Jvm.MethodName) ∈ TT := tt_at 393 (by decide +kernel) rfl
theorem tw395 : Cond.instanceMethod ({ cls := "StereoWar$Picture", name := "shiftTo", desc := "(LStereoWar$Picture;I)I" } : Jvm.MethodName) ∈ TT := tt_at 395 (by decide +kernel) rfl
theorem tw396 : Cond.code ({ cls := "StereoWar$Picture", name := "shiftTo", desc := "(LStereoWar$Picture;I)I" } : Jvm.MethodName) prog_4_method_7_code (3 : Nat) (Option.some FieldType.int) ∈ TT := tt_at 396 (by decide +kernel) rfl
theorem tw397 : Cond.methodLinkNest "StereoWar" (139 : Nat) ({ cls := "StereoWar$Pad", name := "countOfKind", desc := "(ILStereoWar$Scene;)I" } : Jvm.MethodName) "StereoWar" ∈ NW := nw_at 397 (by decide +kernel) rfl
theorem tw399 : Cond.instanceMethod ({ cls := "StereoWar$Pad", name := "countOfKind", desc := "(ILStereoWar$Scene;)I" } : Jvm.MethodName) ∈ TT := tt_at 399 (by decide +kernel) rfl
theorem tw400 : Cond.code ({ cls := "StereoWar$Pad", name := "countOfKind", desc := "(ILStereoWar$Scene;)I" } : Jvm.MethodName) prog_3_method_10_code (5 : Nat) (Option.some FieldType.int) ∈ TT := tt_at 400 (by decide +kernel) rfl
theorem tw401 : Cond.methodLink "StereoWarLaw" (61 : Nat) ({ cls := "StereoWar", name := "kind", desc := "(II)I" } : Jvm.MethodName) ∈ TT := tt_at 401 (by decide +kernel) rfl
theorem tw402 : Cond.instanceMethod ({ cls := "StereoWar", name := "kind", desc := "(II)I" } : Jvm.MethodName) ∈ TT := tt_at 402 (by decide +kernel) rfl
theorem tw403 : Cond.selects "StereoWar" ({ cls := "StereoWar", name := "kind", desc := "(II)I" } : Jvm.MethodName) ({ cls := "StereoWar", name := "kind", desc := "(II)I" } : Jvm.MethodName) ∈ TT := tt_at 403 (by decide +kernel) rfl
theorem tw404 : Cond.code ({ cls := "StereoWar", name := "kind", desc := "(II)I" } : Jvm.MethodName) prog_1_method_13_code (3 : Nat) (Option.some FieldType.int) ∈ TT := tt_at 404 (by decide +kernel) rfl
theorem tw405 : Cond.methodLinkNest "StereoWar" (142 : Nat) ({ cls := "StereoWar$Scene", name := "kindOfPair", desc := "(II)I" } : Jvm.MethodName) "StereoWar" ∈ NW := nw_at 405 (by decide +kernel) rfl
theorem tw406 : Cond.methodLink "StereoWarLaw" (66 : Nat) ({ cls := "StereoWar", name := "shift", desc := "(III)I" } : Jvm.MethodName) ∈ TT := tt_at 406 (by decide +kernel) rfl
theorem tw407 : Cond.instanceMethod ({ cls := "StereoWar", name := "shift", desc := "(III)I" } : Jvm.MethodName) ∈ TT := tt_at 407 (by decide +kernel) rfl
theorem tw408 : Cond.selects "StereoWar" ({ cls := "StereoWar", name := "shift", desc := "(III)I" } : Jvm.MethodName) ({ cls := "StereoWar", name := "shift", desc := "(III)I" } : Jvm.MethodName) ∈ TT := tt_at 408 (by decide +kernel) rfl
theorem tw409 : Cond.code ({ cls := "StereoWar", name := "shift", desc := "(III)I" } : Jvm.MethodName) prog_1_method_14_code (6 : Nat) (Option.some FieldType.int) ∈ TT := tt_at 409 (by decide +kernel) rfl
theorem tw410 : Cond.methodLinkNest "StereoWar" (146 : Nat) ({ cls := "StereoWar$Picture", name := "sharesWith", desc := "(LStereoWar$Picture;I)Z" } : Jvm.MethodName) "StereoWar" ∈ NW := nw_at 410 (by decide +kernel) rfl
theorem tw411 : Cond.methodLinkNest "StereoWar" (150 : Nat) ({ cls := "StereoWar$Picture", name := "shiftTo", desc := "(LStereoWar$Picture;I)I" } : Jvm.MethodName) "StereoWar" ∈ NW := nw_at 411 (by decide +kernel) rfl
theorem tw412 : Cond.methodLink "StereoWarLaw" (70 : Nat) ({ cls := "StereoWar", name := "near", desc := "(III)I" } : Jvm.MethodName) ∈ TT := tt_at 412 (by decide +kernel) rfl
theorem tw413 : Cond.instanceMethod ({ cls := "StereoWar", name := "near", desc := "(III)I" } : Jvm.MethodName) ∈ TT := tt_at 413 (by decide +kernel) rfl
theorem tw414 : Cond.selects "StereoWar" ({ cls := "StereoWar", name := "near", desc := "(III)I" } : Jvm.MethodName) ({ cls := "StereoWar", name := "near", desc := "(III)I" } : Jvm.MethodName) ∈ TT := tt_at 414 (by decide +kernel) rfl
theorem tw415 : Cond.code ({ cls := "StereoWar", name := "near", desc := "(III)I" } : Jvm.MethodName) prog_1_method_15_code (6 : Nat) (Option.some FieldType.int) ∈ TT := tt_at 415 (by decide +kernel) rfl
theorem tw416 : Cond.methodLinkNest "StereoWar" (154 : Nat) ({ cls := "StereoWar$Picture", name := "countSharedWith", desc := "(LStereoWar$Picture;)I" } : Jvm.MethodName) "StereoWar" ∈ NW := nw_at 416 (by decide +kernel) rfl
theorem tw418 : Cond.instanceMethod ({ cls := "StereoWar$Picture", name := "countSharedWith", desc := "(LStereoWar$Picture;)I" } : Jvm.MethodName) ∈ TT := tt_at 418 (by decide +kernel) rfl
theorem tw419 : Cond.code ({ cls := "StereoWar$Picture", name := "countSharedWith", desc := "(LStereoWar$Picture;)I" } : Jvm.MethodName) prog_4_method_9_code (2 : Nat) (Option.some FieldType.int) ∈ TT := tt_at 419 (by decide +kernel) rfl
theorem tw420 : Cond.methodLink "StereoWar$Picture" (35 : Nat) ({ cls := "StereoWar$Picture", name := "shownBits", desc := "()I" } : Jvm.MethodName) ∈ TT := tt_at 420 (by decide +kernel) rfl
theorem tw421 : Cond.methodLink "StereoWar$Picture" (39 : Nat) ({ cls := "java/lang/Integer", name := "bitCount", desc := "(I)I" } : Jvm.MethodName) ∈ TT := tt_at 421 (by decide +kernel) rfl
theorem tw422 : Cond.methodLinkNest "StereoWar" (158 : Nat) ({ cls := "StereoWar$Picture", name := "nearestWith", desc := "(LStereoWar$Picture;I)I" } : Jvm.MethodName) "StereoWar" ∈ NW := nw_at 422 (by decide +kernel) rfl
theorem tw424 : Cond.instanceMethod ({ cls := "StereoWar$Picture", name := "nearestWith", desc := "(LStereoWar$Picture;I)I" } : Jvm.MethodName) ∈ TT := tt_at 424 (by decide +kernel) rfl
theorem tw425 : Cond.code ({ cls := "StereoWar$Picture", name := "nearestWith", desc := "(LStereoWar$Picture;I)I" } : Jvm.MethodName) prog_4_method_10_code (4 : Nat) (Option.some FieldType.int) ∈ TT := tt_at 425 (by decide +kernel) rfl
theorem tw426 : Cond.methodLink "StereoWar$Picture" (44 : Nat) ({ cls := "StereoWar$Picture", name := "countBefore", desc := "(LStereoWar$Picture;I)I" } : Jvm.MethodName) ∈ TT := tt_at 426 (by decide +kernel) rfl
theorem tw428 : Cond.instanceMethod ({ cls := "StereoWar$Picture", name := "countBefore", desc := "(LStereoWar$Picture;I)I" } : Jvm.MethodName) ∈ TT := tt_at 428 (by decide +kernel) rfl
theorem tw429 : Cond.code ({ cls := "StereoWar$Picture", name := "countBefore", desc := "(LStereoWar$Picture;I)I" } : Jvm.MethodName) prog_4_method_11_code (7 : Nat) (Option.some FieldType.int) ∈ TT := tt_at 429 (by decide +kernel) rfl
theorem tw430 : Cond.methodLink "StereoWarLaw" (74 : Nat) ({ cls := "StereoWar", name := "match", desc := "(II)I" } : Jvm.MethodName) ∈ TT := tt_at 430 (by decide +kernel) rfl
theorem tw431 : Cond.instanceMethod ({ cls := "StereoWar", name := "match", desc := "(II)I" } : Jvm.MethodName) ∈ TT := tt_at 431 (by decide +kernel) rfl
theorem tw432 : Cond.selects "StereoWar" ({ cls := "StereoWar", name := "match", desc := "(II)I" } : Jvm.MethodName) ({ cls := "StereoWar", name := "match", desc := "(II)I" } : Jvm.MethodName) ∈ TT := tt_at 432 (by decide +kernel) rfl
theorem tw433 : Cond.code ({ cls := "StereoWar", name := "match", desc := "(II)I" } : Jvm.MethodName) prog_1_method_16_code (3 : Nat) (Option.some FieldType.int) ∈ TT := tt_at 433 (by decide +kernel) rfl
theorem tw434 : Cond.methodLink "StereoWar" (161 : Nat) ({ cls := "StereoWar", name := "hasBit", desc := "(II)Z" } : Jvm.MethodName) ∈ TT := tt_at 434 (by decide +kernel) rfl
theorem tw435 : Cond.static ({ cls := "StereoWar", name := "hasBit", desc := "(II)Z" } : Jvm.MethodName) ∈ TT := tt_at 435 (by decide +kernel) rfl
theorem tw436 : Cond.code ({ cls := "StereoWar", name := "hasBit", desc := "(II)Z" } : Jvm.MethodName) prog_1_method_36_code (2 : Nat) (Option.some FieldType.boolean) ∈ TT := tt_at 436 (by decide +kernel) rfl
theorem tw437 : Cond.methodLinkNest "StereoWar" (165 : Nat) ({ cls := "StereoWar$Matcher", name := "prepare", desc := "(LStereoWar$Scene;I)V" } : Jvm.MethodName) "StereoWar" ∈ NW := nw_at 437 (by decide +kernel) rfl
theorem tw439 : Cond.instanceMethod ({ cls := "StereoWar$Matcher", name := "prepare", desc := "(LStereoWar$Scene;I)V" } : Jvm.MethodName) ∈ TT := tt_at 439 (by decide +kernel) rfl
theorem tw440 : Cond.code ({ cls := "StereoWar$Matcher", name := "prepare", desc := "(LStereoWar$Scene;I)V" } : Jvm.MethodName) prog_2_method_2_code (4 : Nat) (none) ∈ TT := tt_at 440 (by decide +kernel) rfl
theorem tw441 : Cond.methodLink "StereoWar$Matcher" (18 : Nat) ({ cls := "StereoWar$Matcher", name := "friendsOf", desc := "(ILStereoWar$Scene;)I" } : Jvm.MethodName) ∈ TT := tt_at 441 (by decide +kernel) rfl
theorem tw442 : Cond.static ({ cls := "StereoWar$Matcher", name := "friendsOf", desc := "(ILStereoWar$Scene;)I" } : Jvm.MethodName) ∈ TT := tt_at 442 (by decide +kernel) rfl
theorem tw443 : Cond.code ({ cls := "StereoWar$Matcher", name := "friendsOf", desc := "(ILStereoWar$Scene;)I" } : Jvm.MethodName) prog_2_method_3_code (5 : Nat) (Option.some FieldType.int) ∈ TT := tt_at 443 (by decide +kernel) rfl
theorem tw444 : Cond.methodLinkNest "StereoWar$Matcher" (26 : Nat) ({ cls := "StereoWar$Scene", name := "kindOfPair", desc := "(II)I" } : Jvm.MethodName) "StereoWar" ∈ NW := nw_at 444 (by decide +kernel) rfl
theorem tw445 : Cond.methodLink "StereoWar$Matcher" (22 : Nat) ({ cls := "StereoWar$Matcher", name := "mostOf", desc := "(I)I" } : Jvm.MethodName) ∈ TT := tt_at 445 (by decide +kernel) rfl
theorem tw447 : Cond.instanceMethod ({ cls := "StereoWar$Matcher", name := "mostOf", desc := "(I)I" } : Jvm.MethodName) ∈ TT := tt_at 447 (by decide +kernel) rfl
theorem tw448 : Cond.code ({ cls := "StereoWar$Matcher", name := "mostOf", desc := "(I)I" } : Jvm.MethodName) prog_2_method_4_code (6 : Nat) (Option.some FieldType.int) ∈ TT := tt_at 448 (by decide +kernel) rfl
theorem tw449 : Cond.methodLink "StereoWar$Matcher" (32 : Nat) ({ cls := "StereoWar$Matcher", name := "leastOf", desc := "(I)I" } : Jvm.MethodName) ∈ TT := tt_at 449 (by decide +kernel) rfl
theorem tw450 : Cond.static ({ cls := "StereoWar$Matcher", name := "leastOf", desc := "(I)I" } : Jvm.MethodName) ∈ TT := tt_at 450 (by decide +kernel) rfl
theorem tw451 : Cond.code ({ cls := "StereoWar$Matcher", name := "leastOf", desc := "(I)I" } : Jvm.MethodName) prog_2_method_5_code (1 : Nat) (Option.some FieldType.int) ∈ TT := tt_at 451 (by decide +kernel) rfl
theorem tw452 : Cond.methodLink "StereoWar$Matcher" (47 : Nat) ({ cls := "java/lang/Integer", name := "bitCount", desc := "(I)I" } : Jvm.MethodName) ∈ TT := tt_at 452 (by decide +kernel) rfl
theorem tw453 : Cond.methodLink "StereoWar$Matcher" (35 : Nat) ({ cls := "StereoWar$Matcher", name := "mostPairs", desc := "(I)I" } : Jvm.MethodName) ∈ TT := tt_at 453 (by decide +kernel) rfl
theorem tw455 : Cond.instanceMethod ({ cls := "StereoWar$Matcher", name := "mostPairs", desc := "(I)I" } : Jvm.MethodName) ∈ TT := tt_at 455 (by decide +kernel) rfl
theorem tw456 : Cond.code ({ cls := "StereoWar$Matcher", name := "mostPairs", desc := "(I)I" } : Jvm.MethodName) prog_2_method_7_code (2 : Nat) (Option.some FieldType.int) ∈ TT := tt_at 456 (by decide +kernel) rfl
theorem tw457 : Cond.methodLinkNest "StereoWar$Matcher" (52 : Nat) ({ cls := "StereoWar", name := "within", desc := "(III)Z" } : Jvm.MethodName) "StereoWar" ∈ NW := nw_at 457 (by decide +kernel) rfl
theorem tw458 : Cond.methodLink "StereoWar$Matcher" (38 : Nat) ({ cls := "StereoWar$Matcher", name := "canPair", desc := "(III)Z" } : Jvm.MethodName) ∈ TT := tt_at 458 (by decide +kernel) rfl
theorem tw460 : Cond.instanceMethod ({ cls := "StereoWar$Matcher", name := "canPair", desc := "(III)Z" } : Jvm.MethodName) ∈ TT := tt_at 460 (by decide +kernel) rfl
theorem tw461 : Cond.code ({ cls := "StereoWar$Matcher", name := "canPair", desc := "(III)Z" } : Jvm.MethodName) prog_2_method_6_code (4 : Nat) (Option.some FieldType.boolean) ∈ TT := tt_at 461 (by decide +kernel) rfl
theorem tw462 : Cond.methodLinkNest "StereoWar$Matcher" (55 : Nat) ({ cls := "StereoWar", name := "hasBit", desc := "(II)Z" } : Jvm.MethodName) "StereoWar" ∈ NW := nw_at 462 (by decide +kernel) rfl
theorem tw463 : Cond.methodLink "StereoWar$Matcher" (42 : Nat) ({ cls := "java/lang/Math", name := "max", desc := "(II)I" } : Jvm.MethodName) ∈ TT := tt_at 463 (by decide +kernel) rfl
theorem tw464 : Cond.static ({ cls := "java/lang/Math", name := "max", desc := "(II)I" } : Jvm.MethodName) ∈ TT := tt_at 464 (by decide +kernel) rfl
theorem tw465 : Cond.code ({ cls := "java/lang/Math", name := "max", desc := "(II)I" } : Jvm.MethodName) prog_13_method_65_code (2 : Nat) (Option.some FieldType.int) ∈ TT := tt_at 465 (by decide +kernel) rfl
theorem tw466 : Cond.methodLinkNest "StereoWar" (169 : Nat) ({ cls := "StereoWar$Matcher", name := "mostPairs", desc := "(I)I" } : Jvm.MethodName) "StereoWar" ∈ NW := nw_at 466 (by decide +kernel) rfl
theorem tw467 : Cond.methodLinkNest "StereoWar" (172 : Nat) ({ cls := "StereoWar$Matcher", name := "partnerOf", desc := "(II)I" } : Jvm.MethodName) "StereoWar" ∈ NW := nw_at 467 (by decide +kernel) rfl
theorem tw469 : Cond.instanceMethod ({ cls := "StereoWar$Matcher", name := "partnerOf", desc := "(II)I" } : Jvm.MethodName) ∈ TT := tt_at 469 (by decide +kernel) rfl
theorem tw470 : Cond.code ({ cls := "StereoWar$Matcher", name := "partnerOf", desc := "(II)I" } : Jvm.MethodName) prog_2_method_8_code (6 : Nat) (Option.some FieldType.int) ∈ TT := tt_at 470 (by decide +kernel) rfl
theorem tw471 : Cond.methodLink "StereoWar$Matcher" (59 : Nat) ({ cls := "StereoWar$Matcher", name := "firstMate", desc := "(II)I" } : Jvm.MethodName) ∈ TT := tt_at 471 (by decide +kernel) rfl
theorem tw473 : Cond.instanceMethod ({ cls := "StereoWar$Matcher", name := "firstMate", desc := "(II)I" } : Jvm.MethodName) ∈ TT := tt_at 473 (by decide +kernel) rfl
theorem tw474 : Cond.code ({ cls := "StereoWar$Matcher", name := "firstMate", desc := "(II)I" } : Jvm.MethodName) prog_2_method_9_code (5 : Nat) (Option.some FieldType.int) ∈ TT := tt_at 474 (by decide +kernel) rfl
theorem tw475 : Cond.methodLink "StereoWarLaw" (78 : Nat) ({ cls := "StereoWar", name := "stood", desc := "(II)I" } : Jvm.MethodName) ∈ TT := tt_at 475 (by decide +kernel) rfl
theorem tw476 : Cond.instanceMethod ({ cls := "StereoWar", name := "stood", desc := "(II)I" } : Jvm.MethodName) ∈ TT := tt_at 476 (by decide +kernel) rfl
theorem tw477 : Cond.selects "StereoWar" ({ cls := "StereoWar", name := "stood", desc := "(II)I" } : Jvm.MethodName) ({ cls := "StereoWar", name := "stood", desc := "(II)I" } : Jvm.MethodName) ∈ TT := tt_at 477 (by decide +kernel) rfl
theorem tw478 : Cond.code ({ cls := "StereoWar", name := "stood", desc := "(II)I" } : Jvm.MethodName) prog_1_method_17_code (4 : Nat) (Option.some FieldType.int) ∈ TT := tt_at 478 (by decide +kernel) rfl
theorem tw479 : Cond.methodLinkNest "StereoWar" (175 : Nat) ({ cls := "StereoWar$Search", name := "countStands", desc := "(LStereoWar$Scene;LStereoWar$Picture;)I" } : Jvm.MethodName) "StereoWar" ∈ NW := nw_at 479 (by decide +kernel) rfl
theorem tw480 : Cond.static ({ cls := "StereoWar$Search", name := "countStands", desc := "(LStereoWar$Scene;LStereoWar$Picture;)I" } : Jvm.MethodName) ∈ TT := tt_at 480 (by decide +kernel) rfl
theorem tw481 : Cond.code ({ cls := "StereoWar$Search", name := "countStands", desc := "(LStereoWar$Scene;LStereoWar$Picture;)I" } : Jvm.MethodName) prog_6_method_3_code (4 : Nat) (Option.some FieldType.int) ∈ TT := tt_at 481 (by decide +kernel) rfl
theorem tw482 : Cond.methodLink "StereoWar$Search" (20 : Nat) ({ cls := "StereoWar$Search", name := "countStandsIn", desc := "(LStereoWar$Scene;LStereoWar$Picture;I)I" } : Jvm.MethodName) ∈ TT := tt_at 482 (by decide +kernel) rfl
theorem tw483 : Cond.static ({ cls := "StereoWar$Search", name := "countStandsIn", desc := "(LStereoWar$Scene;LStereoWar$Picture;I)I" } : Jvm.MethodName) ∈ TT := tt_at 483 (by decide +kernel) rfl
theorem tw484 : Cond.code ({ cls := "StereoWar$Search", name := "countStandsIn", desc := "(LStereoWar$Scene;LStereoWar$Picture;I)I" } : Jvm.MethodName) prog_6_method_4_code (5 : Nat) (Option.some FieldType.int) ∈ TT := tt_at 484 (by decide +kernel) rfl
theorem tw485 : Cond.methodLink "StereoWar$Search" (26 : Nat) ({ cls := "StereoWar$Search", name := "fits", desc := "(LStereoWar$Scene;LStereoWar$Picture;III)Z" } : Jvm.MethodName) ∈ TT := tt_at 485 (by decide +kernel) rfl
theorem tw486 : Cond.static ({ cls := "StereoWar$Search", name := "fits", desc := "(LStereoWar$Scene;LStereoWar$Picture;III)Z" } : Jvm.MethodName) ∈ TT := tt_at 486 (by decide +kernel) rfl
theorem tw487 : Cond.code ({ cls := "StereoWar$Search", name := "fits", desc := "(LStereoWar$Scene;LStereoWar$Picture;III)Z" } : Jvm.MethodName) prog_6_method_2_code (6 : Nat) (Option.some FieldType.boolean) ∈ TT := tt_at 487 (by decide +kernel) rfl
theorem tw488 : Cond.methodLinkNest "StereoWar$Search" (9 : Nat) ({ cls := "StereoWar$Scene", name := "columnOf", desc := "(III)I" } : Jvm.MethodName) "StereoWar" ∈ NW := nw_at 488 (by decide +kernel) rfl
theorem tw489 : Cond.methodLinkNest "StereoWar$Search" (15 : Nat) ({ cls := "StereoWar$Picture", name := "columnOf", desc := "(I)I" } : Jvm.MethodName) "StereoWar" ∈ NW := nw_at 489 (by decide +kernel) rfl
theorem tw490 : Cond.methodLinkNest "StereoWar" (181 : Nat) ({ cls := "StereoWar$Search", name := "standAt", desc := "(LStereoWar$Scene;LStereoWar$Picture;I)I" } : Jvm.MethodName) "StereoWar" ∈ NW := nw_at 490 (by decide +kernel) rfl
theorem tw491 : Cond.static ({ cls := "StereoWar$Search", name := "standAt", desc := "(LStereoWar$Scene;LStereoWar$Picture;I)I" } : Jvm.MethodName) ∈ TT := tt_at 491 (by decide +kernel) rfl
theorem tw492 : Cond.code ({ cls := "StereoWar$Search", name := "standAt", desc := "(LStereoWar$Scene;LStereoWar$Picture;I)I" } : Jvm.MethodName) prog_6_method_5_code (6 : Nat) (Option.some FieldType.int) ∈ TT := tt_at 492 (by decide +kernel) rfl
theorem tw493 : Cond.methodLinkNest "StereoWar$Search" (30 : Nat) ({ cls := "StereoWar", name := "within", desc := "(III)Z" } : Jvm.MethodName) "StereoWar" ∈ NW := nw_at 493 (by decide +kernel) rfl
theorem tw494 : Cond.methodLink "StereoWarLaw" (82 : Nat) ({ cls := "StereoWar", name := "forged", desc := "(II)I" } : Jvm.MethodName) ∈ TT := tt_at 494 (by decide +kernel) rfl
theorem tw495 : Cond.instanceMethod ({ cls := "StereoWar", name := "forged", desc := "(II)I" } : Jvm.MethodName) ∈ TT := tt_at 495 (by decide +kernel) rfl
theorem tw496 : Cond.selects "StereoWar" ({ cls := "StereoWar", name := "forged", desc := "(II)I" } : Jvm.MethodName) ({ cls := "StereoWar", name := "forged", desc := "(II)I" } : Jvm.MethodName) ∈ TT := tt_at 496 (by decide +kernel) rfl
theorem tw497 : Cond.code ({ cls := "StereoWar", name := "forged", desc := "(II)I" } : Jvm.MethodName) prog_1_method_18_code (5 : Nat) (Option.some FieldType.int) ∈ TT := tt_at 497 (by decide +kernel) rfl
theorem tw498 : Cond.methodLinkNest "StereoWar" (185 : Nat) ({ cls := "StereoWar$Search", name := "fewestForged", desc := "(LStereoWar$Scene;LStereoWar$Picture;)I" } : Jvm.MethodName) "StereoWar" ∈ NW := nw_at 498 (by decide +kernel) rfl
theorem tw499 : Cond.static ({ cls := "StereoWar$Search", name := "fewestForged", desc := "(LStereoWar$Scene;LStereoWar$Picture;)I" } : Jvm.MethodName) ∈ TT := tt_at 499 (by decide +kernel) rfl
theorem tw500 : Cond.code ({ cls := "StereoWar$Search", name := "fewestForged", desc := "(LStereoWar$Scene;LStereoWar$Picture;)I" } : Jvm.MethodName) prog_6_method_8_code (7 : Nat) (Option.some FieldType.int) ∈ TT := tt_at 500 (by decide +kernel) rfl
theorem tw501 : Cond.methodLink "StereoWar$Search" (34 : Nat) ({ cls := "StereoWar$Search", name := "differing", desc := "(LStereoWar$Scene;LStereoWar$Picture;II)I" } : Jvm.MethodName) ∈ TT := tt_at 501 (by decide +kernel) rfl
theorem tw502 : Cond.static ({ cls := "StereoWar$Search", name := "differing", desc := "(LStereoWar$Scene;LStereoWar$Picture;II)I" } : Jvm.MethodName) ∈ TT := tt_at 502 (by decide +kernel) rfl
theorem tw503 : Cond.code ({ cls := "StereoWar$Search", name := "differing", desc := "(LStereoWar$Scene;LStereoWar$Picture;II)I" } : Jvm.MethodName) prog_6_method_9_code (6 : Nat) (Option.some FieldType.int) ∈ TT := tt_at 503 (by decide +kernel) rfl
theorem tw504 : Cond.methodLink "StereoWar$Search" (38 : Nat) ({ cls := "java/lang/Integer", name := "bitCount", desc := "(I)I" } : Jvm.MethodName) ∈ TT := tt_at 504 (by decide +kernel) rfl
theorem tw505 : Cond.methodLink "StereoWarLaw" (86 : Nat) ({ cls := "StereoWar", name := "ahead", desc := "(II)I" } : Jvm.MethodName) ∈ TT := tt_at 505 (by decide +kernel) rfl
theorem tw506 : Cond.instanceMethod ({ cls := "StereoWar", name := "ahead", desc := "(II)I" } : Jvm.MethodName) ∈ TT := tt_at 506 (by decide +kernel) rfl
theorem tw507 : Cond.selects "StereoWar" ({ cls := "StereoWar", name := "ahead", desc := "(II)I" } : Jvm.MethodName) ({ cls := "StereoWar", name := "ahead", desc := "(II)I" } : Jvm.MethodName) ∈ TT := tt_at 507 (by decide +kernel) rfl
theorem tw508 : Cond.code ({ cls := "StereoWar", name := "ahead", desc := "(II)I" } : Jvm.MethodName) prog_1_method_19_code (7 : Nat) (Option.some FieldType.int) ∈ TT := tt_at 508 (by decide +kernel) rfl
theorem tw509 : Cond.methodLinkNest "StereoWar" (188 : Nat) ({ cls := "StereoWar$Search", name := "firstMinute", desc := "(LStereoWar$Scene;LStereoWar$Picture;)I" } : Jvm.MethodName) "StereoWar" ∈ NW := nw_at 509 (by decide +kernel) rfl
theorem tw510 : Cond.static ({ cls := "StereoWar$Search", name := "firstMinute", desc := "(LStereoWar$Scene;LStereoWar$Picture;)I" } : Jvm.MethodName) ∈ TT := tt_at 510 (by decide +kernel) rfl
theorem tw511 : Cond.code ({ cls := "StereoWar$Search", name := "firstMinute", desc := "(LStereoWar$Scene;LStereoWar$Picture;)I" } : Jvm.MethodName) prog_6_method_6_code (3 : Nat) (Option.some FieldType.int) ∈ TT := tt_at 511 (by decide +kernel) rfl
theorem tw512 : Cond.methodLinkNest "StereoWar" (191 : Nat) ({ cls := "StereoWar$Search", name := "lastMinute", desc := "(LStereoWar$Scene;LStereoWar$Picture;)I" } : Jvm.MethodName) "StereoWar" ∈ NW := nw_at 512 (by decide +kernel) rfl
theorem tw513 : Cond.static ({ cls := "StereoWar$Search", name := "lastMinute", desc := "(LStereoWar$Scene;LStereoWar$Picture;)I" } : Jvm.MethodName) ∈ TT := tt_at 513 (by decide +kernel) rfl
theorem tw514 : Cond.code ({ cls := "StereoWar$Search", name := "lastMinute", desc := "(LStereoWar$Scene;LStereoWar$Picture;)I" } : Jvm.MethodName) prog_6_method_7_code (3 : Nat) (Option.some FieldType.int) ∈ TT := tt_at 514 (by decide +kernel) rfl
theorem tw515 : Cond.methodLink "StereoWarLaw" (90 : Nat) ({ cls := "StereoWar", name := "missing", desc := "(III)I" } : Jvm.MethodName) ∈ TT := tt_at 515 (by decide +kernel) rfl
theorem tw516 : Cond.instanceMethod ({ cls := "StereoWar", name := "missing", desc := "(III)I" } : Jvm.MethodName) ∈ TT := tt_at 516 (by decide +kernel) rfl
theorem tw517 : Cond.selects "StereoWar" ({ cls := "StereoWar", name := "missing", desc := "(III)I" } : Jvm.MethodName) ({ cls := "StereoWar", name := "missing", desc := "(III)I" } : Jvm.MethodName) ∈ TT := tt_at 517 (by decide +kernel) rfl
theorem tw518 : Cond.code ({ cls := "StereoWar", name := "missing", desc := "(III)I" } : Jvm.MethodName) prog_1_method_20_code (7 : Nat) (Option.some FieldType.int) ∈ TT := tt_at 518 (by decide +kernel) rfl
theorem tw519 : Cond.methodLinkNest "StereoWar" (194 : Nat) ({ cls := "StereoWar$Search", name := "columnsWithout", desc := "(LStereoWar$Scene;LStereoWar$Picture;I)J" } : Jvm.MethodName) "StereoWar" ∈ NW := nw_at 519 (by decide +kernel) rfl
theorem tw520 : Cond.static ({ cls := "StereoWar$Search", name := "columnsWithout", desc := "(LStereoWar$Scene;LStereoWar$Picture;I)J" } : Jvm.MethodName) ∈ TT := tt_at 520 (by decide +kernel) rfl
theorem tw521 : Cond.code ({ cls := "StereoWar$Search", name := "columnsWithout", desc := "(LStereoWar$Scene;LStereoWar$Picture;I)J" } : Jvm.MethodName) prog_6_method_10_code (8 : Nat) (Option.some FieldType.long) ∈ TT := tt_at 521 (by decide +kernel) rfl
theorem tw522 : Cond.methodLink "StereoWar" (198 : Nat) ({ cls := "java/lang/Long", name := "bitCount", desc := "(J)I" } : Jvm.MethodName) ∈ TT := tt_at 522 (by decide +kernel) rfl
theorem tw523 : Cond.static ({ cls := "java/lang/Long", name := "bitCount", desc := "(J)I" } : Jvm.MethodName) ∈ TT := tt_at 523 (by decide +kernel) rfl
theorem tw524 : Cond.code ({ cls := "java/lang/Long", name := "bitCount", desc := "(J)I" } : Jvm.MethodName) prog_12_method_50_code (2 : Nat) (Option.some FieldType.int) ∈ TT := tt_at 524 (by decide +kernel) rfl
theorem tw525 : Cond.constantLong "java/lang/Long" (314 : Nat) (6148914691236517205 : Int64) ∈ TT := tt_at 525 (by decide +kernel) rfl
theorem tw526 : Cond.constantLong "java/lang/Long" (316 : Nat) (3689348814741910323 : Int64) ∈ TT := tt_at 526 (by decide +kernel) rfl
theorem tw527 : Cond.constantLong "java/lang/Long" (318 : Nat) (1085102592571150095 : Int64) ∈ TT := tt_at 527 (by decide +kernel) rfl
theorem tw528 : Cond.methodLinkNest "StereoWar" (203 : Nat) ({ cls := "StereoWar$Search", name := "leastShown", desc := "(J)I" } : Jvm.MethodName) "StereoWar" ∈ NW := nw_at 528 (by decide +kernel) rfl
theorem tw529 : Cond.static ({ cls := "StereoWar$Search", name := "leastShown", desc := "(J)I" } : Jvm.MethodName) ∈ TT := tt_at 529 (by decide +kernel) rfl
theorem tw530 : Cond.code ({ cls := "StereoWar$Search", name := "leastShown", desc := "(J)I" } : Jvm.MethodName) prog_6_method_11_code (3 : Nat) (Option.some FieldType.int) ∈ TT := tt_at 530 (by decide +kernel) rfl
theorem tw531 : Cond.methodLinkNest "StereoWar" (206 : Nat) ({ cls := "StereoWar$Search", name := "greatestShown", desc := "(J)I" } : Jvm.MethodName) "StereoWar" ∈ NW := nw_at 531 (by decide +kernel) rfl
theorem tw532 : Cond.static ({ cls := "StereoWar$Search", name := "greatestShown", desc := "(J)I" } : Jvm.MethodName) ∈ TT := tt_at 532 (by decide +kernel) rfl
theorem tw533 : Cond.code ({ cls := "StereoWar$Search", name := "greatestShown", desc := "(J)I" } : Jvm.MethodName) prog_6_method_12_code (3 : Nat) (Option.some FieldType.int) ∈ TT := tt_at 533 (by decide +kernel) rfl
theorem tw534 : Cond.methodLink "StereoWarLaw" (94 : Nat) ({ cls := "StereoWar", name := "eyes", desc := "()I" } : Jvm.MethodName) ∈ TT := tt_at 534 (by decide +kernel) rfl
theorem tw535 : Cond.instanceMethod ({ cls := "StereoWar", name := "eyes", desc := "()I" } : Jvm.MethodName) ∈ TT := tt_at 535 (by decide +kernel) rfl
theorem tw536 : Cond.selects "StereoWar" ({ cls := "StereoWar", name := "eyes", desc := "()I" } : Jvm.MethodName) ({ cls := "StereoWar", name := "eyes", desc := "()I" } : Jvm.MethodName) ∈ TT := tt_at 536 (by decide +kernel) rfl
theorem tw537 : Cond.code ({ cls := "StereoWar", name := "eyes", desc := "()I" } : Jvm.MethodName) prog_1_method_21_code (3 : Nat) (Option.some FieldType.int) ∈ TT := tt_at 537 (by decide +kernel) rfl
theorem tw538 : Cond.methodLink "StereoWar" (209 : Nat) ({ cls := "StereoWar", name := "rowsOfThree", desc := "(I)I" } : Jvm.MethodName) ∈ TT := tt_at 538 (by decide +kernel) rfl
theorem tw540 : Cond.instanceMethod ({ cls := "StereoWar", name := "rowsOfThree", desc := "(I)I" } : Jvm.MethodName) ∈ TT := tt_at 540 (by decide +kernel) rfl
theorem tw541 : Cond.code ({ cls := "StereoWar", name := "rowsOfThree", desc := "(I)I" } : Jvm.MethodName) prog_1_method_31_code (5 : Nat) (Option.some FieldType.int) ∈ TT := tt_at 541 (by decide +kernel) rfl
theorem tw542 : Cond.methodLink "StereoWarLaw" (98 : Nat) ({ cls := "StereoWar", name := "late", desc := "(IIIIIII)J" } : Jvm.MethodName) ∈ TT := tt_at 542 (by decide +kernel) rfl
theorem tw543 : Cond.instanceMethod ({ cls := "StereoWar", name := "late", desc := "(IIIIIII)J" } : Jvm.MethodName) ∈ TT := tt_at 543 (by decide +kernel) rfl
theorem tw544 : Cond.selects "StereoWar" ({ cls := "StereoWar", name := "late", desc := "(IIIIIII)J" } : Jvm.MethodName) ({ cls := "StereoWar", name := "late", desc := "(IIIIIII)J" } : Jvm.MethodName) ∈ TT := tt_at 544 (by decide +kernel) rfl
theorem tw545 : Cond.code ({ cls := "StereoWar", name := "late", desc := "(IIIIIII)J" } : Jvm.MethodName) prog_1_method_22_code (14 : Nat) (Option.some FieldType.long) ∈ TT := tt_at 545 (by decide +kernel) rfl
theorem tw546 : Cond.constantLong "StereoWar" (212 : Nat) (-1000000000000000002 : Int64) ∈ TT := tt_at 546 (by decide +kernel) rfl
theorem tw547 : Cond.methodLink "StereoWar" (214 : Nat) ({ cls := "StereoWar", name := "isKind", desc := "(I)Z" } : Jvm.MethodName) ∈ TT := tt_at 547 (by decide +kernel) rfl
theorem tw548 : Cond.static ({ cls := "StereoWar", name := "isKind", desc := "(I)Z" } : Jvm.MethodName) ∈ TT := tt_at 548 (by decide +kernel) rfl
theorem tw549 : Cond.code ({ cls := "StereoWar", name := "isKind", desc := "(I)Z" } : Jvm.MethodName) prog_1_method_35_code (1 : Nat) (Option.some FieldType.boolean) ∈ TT := tt_at 549 (by decide +kernel) rfl
theorem tw550 : Cond.methodLinkNest "StereoWar" (217 : Nat) ({ cls := "StereoWar$Shutter", name := "setChances", desc := "(II)V" } : Jvm.MethodName) "StereoWar" ∈ NW := nw_at 550 (by decide +kernel) rfl
theorem tw552 : Cond.instanceMethod ({ cls := "StereoWar$Shutter", name := "setChances", desc := "(II)V" } : Jvm.MethodName) ∈ TT := tt_at 552 (by decide +kernel) rfl
theorem tw553 : Cond.code ({ cls := "StereoWar$Shutter", name := "setChances", desc := "(II)V" } : Jvm.MethodName) prog_7_method_2_code (5 : Nat) (none) ∈ TT := tt_at 553 (by decide +kernel) rfl
theorem tw554 : Cond.methodLinkNest "StereoWar" (220 : Nat) ({ cls := "StereoWar$Scene", name := "expose", desc := "(LStereoWar$Picture;II)V" } : Jvm.MethodName) "StereoWar" ∈ NW := nw_at 554 (by decide +kernel) rfl
theorem tw555 : Cond.methodLinkNest "StereoWar" (224 : Nat) ({ cls := "StereoWar$Shutter", name := "waysOf", desc := "(I)J" } : Jvm.MethodName) "StereoWar" ∈ NW := nw_at 555 (by decide +kernel) rfl
theorem tw557 : Cond.instanceMethod ({ cls := "StereoWar$Shutter", name := "waysOf", desc := "(I)J" } : Jvm.MethodName) ∈ TT := tt_at 557 (by decide +kernel) rfl
theorem tw558 : Cond.code ({ cls := "StereoWar$Shutter", name := "waysOf", desc := "(I)J" } : Jvm.MethodName) prog_7_method_3_code (2 : Nat) (Option.some FieldType.long) ∈ TT := tt_at 558 (by decide +kernel) rfl
theorem tw559 : Cond.methodLinkNest "StereoWar$Shutter" (15 : Nat) ({ cls := "StereoWar", name := "within", desc := "(III)Z" } : Jvm.MethodName) "StereoWar" ∈ NW := nw_at 559 (by decide +kernel) rfl
theorem tw560 : Cond.methodLinkNest "StereoWar" (228 : Nat) ({ cls := "StereoWar$Picture", name := "kindWith", desc := "(LStereoWar$Picture;)I" } : Jvm.MethodName) "StereoWar" ∈ NW := nw_at 560 (by decide +kernel) rfl
theorem tw561 : Cond.methodLink "StereoWar" (231 : Nat) ({ cls := "StereoWar", name := "greatestDivisor", desc := "(JJ)J" } : Jvm.MethodName) ∈ TT := tt_at 561 (by decide +kernel) rfl
theorem tw562 : Cond.static ({ cls := "StereoWar", name := "greatestDivisor", desc := "(JJ)J" } : Jvm.MethodName) ∈ TT := tt_at 562 (by decide +kernel) rfl
theorem tw563 : Cond.code ({ cls := "StereoWar", name := "greatestDivisor", desc := "(JJ)J" } : Jvm.MethodName) prog_1_method_37_code (11 : Nat) (Option.some FieldType.long) ∈ TT := tt_at 563 (by decide +kernel) rfl
theorem tw564 : Cond.methodLink "StereoWarLaw" (103 : Nat) ({ cls := "StereoWar", name := "past", desc := "(III)I" } : Jvm.MethodName) ∈ TT := tt_at 564 (by decide +kernel) rfl
theorem tw565 : Cond.instanceMethod ({ cls := "StereoWar", name := "past", desc := "(III)I" } : Jvm.MethodName) ∈ TT := tt_at 565 (by decide +kernel) rfl
theorem tw566 : Cond.selects "StereoWar" ({ cls := "StereoWar", name := "past", desc := "(III)I" } : Jvm.MethodName) ({ cls := "StereoWar", name := "past", desc := "(III)I" } : Jvm.MethodName) ∈ TT := tt_at 566 (by decide +kernel) rfl
theorem tw567 : Cond.code ({ cls := "StereoWar", name := "past", desc := "(III)I" } : Jvm.MethodName) prog_1_method_23_code (8 : Nat) (Option.some FieldType.int) ∈ TT := tt_at 567 (by decide +kernel) rfl
theorem tw568 : Cond.methodLinkNest "StereoWar" (235 : Nat) ({ cls := "StereoWar$Thing", name := "columnFrom", desc := "(III)I" } : Jvm.MethodName) "StereoWar" ∈ NW := nw_at 568 (by decide +kernel) rfl
theorem tw569 : Cond.methodLink "StereoWarLaw" (107 : Nat) ({ cls := "StereoWar", name := "best", desc := "(II)I" } : Jvm.MethodName) ∈ TT := tt_at 569 (by decide +kernel) rfl
theorem tw570 : Cond.instanceMethod ({ cls := "StereoWar", name := "best", desc := "(II)I" } : Jvm.MethodName) ∈ TT := tt_at 570 (by decide +kernel) rfl
theorem tw571 : Cond.selects "StereoWar" ({ cls := "StereoWar", name := "best", desc := "(II)I" } : Jvm.MethodName) ({ cls := "StereoWar", name := "best", desc := "(II)I" } : Jvm.MethodName) ∈ TT := tt_at 571 (by decide +kernel) rfl
theorem tw572 : Cond.code ({ cls := "StereoWar", name := "best", desc := "(II)I" } : Jvm.MethodName) prog_1_method_24_code (7 : Nat) (Option.some FieldType.int) ∈ TT := tt_at 572 (by decide +kernel) rfl
theorem tw573 : Cond.methodLinkNest "StereoWar" (238 : Nat) ({ cls := "StereoWar$Scene", name := "countShown", desc := "(II)I" } : Jvm.MethodName) "StereoWar" ∈ NW := nw_at 573 (by decide +kernel) rfl
theorem tw575 : Cond.instanceMethod ({ cls := "StereoWar$Scene", name := "countShown", desc := "(II)I" } : Jvm.MethodName) ∈ TT := tt_at 575 (by decide +kernel) rfl
theorem tw576 : Cond.code ({ cls := "StereoWar$Scene", name := "countShown", desc := "(II)I" } : Jvm.MethodName) prog_5_method_9_code (5 : Nat) (Option.some FieldType.int) ∈ TT := tt_at 576 (by decide +kernel) rfl
theorem tw577 : Cond.methodLink "StereoWarLaw" (111 : Nat) ({ cls := "StereoWar", name := "year", desc := "(III)I" } : Jvm.MethodName) ∈ TT := tt_at 577 (by decide +kernel) rfl
theorem tw578 : Cond.instanceMethod ({ cls := "StereoWar", name := "year", desc := "(III)I" } : Jvm.MethodName) ∈ TT := tt_at 578 (by decide +kernel) rfl
theorem tw579 : Cond.selects "StereoWar" ({ cls := "StereoWar", name := "year", desc := "(III)I" } : Jvm.MethodName) ({ cls := "StereoWar", name := "year", desc := "(III)I" } : Jvm.MethodName) ∈ TT := tt_at 579 (by decide +kernel) rfl
theorem tw580 : Cond.code ({ cls := "StereoWar", name := "year", desc := "(III)I" } : Jvm.MethodName) prog_1_method_25_code (7 : Nat) (Option.some FieldType.int) ∈ TT := tt_at 580 (by decide +kernel) rfl
theorem tw581 : Cond.constant "StereoWar" (241 : Nat) (65537 : Int32) ∈ TT := tt_at 581 (by decide +kernel) rfl
theorem tw582 : Cond.methodLink "StereoWarLaw" (115 : Nat) ({ cls := "StereoWar", name := "image", desc := "(I)I" } : Jvm.MethodName) ∈ TT := tt_at 582 (by decide +kernel) rfl
theorem tw583 : Cond.instanceMethod ({ cls := "StereoWar", name := "image", desc := "(I)I" } : Jvm.MethodName) ∈ TT := tt_at 583 (by decide +kernel) rfl
theorem tw584 : Cond.selects "StereoWar" ({ cls := "StereoWar", name := "image", desc := "(I)I" } : Jvm.MethodName) ({ cls := "StereoWar", name := "image", desc := "(I)I" } : Jvm.MethodName) ∈ TT := tt_at 584 (by decide +kernel) rfl
theorem tw585 : Cond.code ({ cls := "StereoWar", name := "image", desc := "(I)I" } : Jvm.MethodName) prog_1_method_26_code (2 : Nat) (Option.some FieldType.int) ∈ TT := tt_at 585 (by decide +kernel) rfl
theorem tw586 : Cond.methodLinkNest "StereoWar" (242 : Nat) ({ cls := "StereoWar$Scene", name := "copyFrom", desc := "(LStereoWar$Scene;)V" } : Jvm.MethodName) "StereoWar" ∈ NW := nw_at 586 (by decide +kernel) rfl
theorem tw588 : Cond.instanceMethod ({ cls := "StereoWar$Scene", name := "copyFrom", desc := "(LStereoWar$Scene;)V" } : Jvm.MethodName) ∈ TT := tt_at 588 (by decide +kernel) rfl
theorem tw589 : Cond.code ({ cls := "StereoWar$Scene", name := "copyFrom", desc := "(LStereoWar$Scene;)V" } : Jvm.MethodName) prog_5_method_2_code (3 : Nat) (none) ∈ TT := tt_at 589 (by decide +kernel) rfl
theorem tw590 : Cond.methodLinkNest "StereoWar$Scene" (29 : Nat) ({ cls := "StereoWar$Thing", name := "copyFrom", desc := "(LStereoWar$Thing;)V" } : Jvm.MethodName) "StereoWar" ∈ NW := nw_at 590 (by decide +kernel) rfl
theorem tw592 : Cond.instanceMethod ({ cls := "StereoWar$Thing", name := "copyFrom", desc := "(LStereoWar$Thing;)V" } : Jvm.MethodName) ∈ TT := tt_at 592 (by decide +kernel) rfl
theorem tw593 : Cond.code ({ cls := "StereoWar$Thing", name := "copyFrom", desc := "(LStereoWar$Thing;)V" } : Jvm.MethodName) prog_8_method_3_code (2 : Nat) (none) ∈ TT := tt_at 593 (by decide +kernel) rfl
theorem tw594 : Cond.methodLinkNest "StereoWar$Scene" (33 : Nat) ({ cls := "StereoWar$Picture", name := "copyFrom", desc := "(LStereoWar$Picture;)V" } : Jvm.MethodName) "StereoWar" ∈ NW := nw_at 594 (by decide +kernel) rfl
theorem tw596 : Cond.instanceMethod ({ cls := "StereoWar$Picture", name := "copyFrom", desc := "(LStereoWar$Picture;)V" } : Jvm.MethodName) ∈ TT := tt_at 596 (by decide +kernel) rfl
theorem tw597 : Cond.code ({ cls := "StereoWar$Picture", name := "copyFrom", desc := "(LStereoWar$Picture;)V" } : Jvm.MethodName) prog_4_method_5_code (3 : Nat) (none) ∈ TT := tt_at 597 (by decide +kernel) rfl
theorem tw598 : Cond.methodLink "StereoWarLaw" (119 : Nat) ({ cls := "StereoWar", name := "restore", desc := "(I)I" } : Jvm.MethodName) ∈ TT := tt_at 598 (by decide +kernel) rfl
theorem tw599 : Cond.instanceMethod ({ cls := "StereoWar", name := "restore", desc := "(I)I" } : Jvm.MethodName) ∈ TT := tt_at 599 (by decide +kernel) rfl
theorem tw600 : Cond.selects "StereoWar" ({ cls := "StereoWar", name := "restore", desc := "(I)I" } : Jvm.MethodName) ({ cls := "StereoWar", name := "restore", desc := "(I)I" } : Jvm.MethodName) ∈ TT := tt_at 600 (by decide +kernel) rfl
theorem tw601 : Cond.code ({ cls := "StereoWar", name := "restore", desc := "(I)I" } : Jvm.MethodName) prog_1_method_27_code (2 : Nat) (Option.some FieldType.int) ∈ TT := tt_at 601 (by decide +kernel) rfl
theorem tw602 : Cond.methodLink "StereoWarLaw" (123 : Nat) ({ cls := "StereoWar", name := "told", desc := "(I)I" } : Jvm.MethodName) ∈ TT := tt_at 602 (by decide +kernel) rfl
theorem tw603 : Cond.instanceMethod ({ cls := "StereoWar", name := "told", desc := "(I)I" } : Jvm.MethodName) ∈ TT := tt_at 603 (by decide +kernel) rfl
theorem tw604 : Cond.selects "StereoWar" ({ cls := "StereoWar", name := "told", desc := "(I)I" } : Jvm.MethodName) ({ cls := "StereoWar", name := "told", desc := "(I)I" } : Jvm.MethodName) ∈ TT := tt_at 604 (by decide +kernel) rfl
theorem tw605 : Cond.code ({ cls := "StereoWar", name := "told", desc := "(I)I" } : Jvm.MethodName) prog_1_method_28_code (2 : Nat) (Option.some FieldType.int) ∈ TT := tt_at 605 (by decide +kernel) rfl
theorem tw606 : Cond.methodLink "StereoWar" (246 : Nat) ({ cls := "StereoWar", name := "toldOfThing", desc := "(II)I" } : Jvm.MethodName) ∈ TT := tt_at 606 (by decide +kernel) rfl
theorem tw608 : Cond.instanceMethod ({ cls := "StereoWar", name := "toldOfThing", desc := "(II)I" } : Jvm.MethodName) ∈ TT := tt_at 608 (by decide +kernel) rfl
theorem tw609 : Cond.code ({ cls := "StereoWar", name := "toldOfThing", desc := "(II)I" } : Jvm.MethodName) prog_1_method_29_code (4 : Nat) (Option.some FieldType.int) ∈ TT := tt_at 609 (by decide +kernel) rfl
theorem tw610 : Cond.methodLink "StereoWar" (249 : Nat) ({ cls := "StereoWar", name := "toldOfPicture", desc := "(II)I" } : Jvm.MethodName) ∈ TT := tt_at 610 (by decide +kernel) rfl
theorem tw612 : Cond.instanceMethod ({ cls := "StereoWar", name := "toldOfPicture", desc := "(II)I" } : Jvm.MethodName) ∈ TT := tt_at 612 (by decide +kernel) rfl
theorem tw613 : Cond.code ({ cls := "StereoWar", name := "toldOfPicture", desc := "(II)I" } : Jvm.MethodName) prog_1_method_30_code (4 : Nat) (Option.some FieldType.int) ∈ TT := tt_at 613 (by decide +kernel) rfl
theorem tw614 : Cond.classLink "StereoWarLaw" (10 : Nat) "StereoWarModel" ∈ TT := tt_at 614 (by decide +kernel) rfl
theorem tw615 : Cond.instantiable "StereoWarModel" (24 : Nat) ∈ TT := tt_at 615 (by decide +kernel) rfl
theorem tw616 : Cond.methodLink "StereoWarLaw" (12 : Nat) ({ cls := "StereoWarModel", name := "<init>", desc := "()V" } : Jvm.MethodName) ∈ TT := tt_at 616 (by decide +kernel) rfl
theorem tw617 : Cond.instanceMethod ({ cls := "StereoWarModel", name := "<init>", desc := "()V" } : Jvm.MethodName) ∈ TT := tt_at 617 (by decide +kernel) rfl
theorem tw618 : Cond.code ({ cls := "StereoWarModel", name := "<init>", desc := "()V" } : Jvm.MethodName) prog_10_method_1_code (1 : Nat) (none) ∈ TT := tt_at 618 (by decide +kernel) rfl
theorem tw619 : Cond.methodLink "StereoWarModel" (1 : Nat) ({ cls := "java/lang/Object", name := "<init>", desc := "()V" } : Jvm.MethodName) ∈ TT := tt_at 619 (by decide +kernel) rfl
theorem tw620 : Cond.fieldLink "StereoWarModel" (56 : Nat) "StereoWarModel" "things" "I" ∈ TT := tt_at 620 (by decide +kernel) rfl
theorem tw621 : Cond.fieldLink "StereoWarModel" (7 : Nat) "StereoWarModel" "place" "[I" ∈ TT := tt_at 621 (by decide +kernel) rfl
theorem tw622 : Cond.fieldLink "StereoWarModel" (13 : Nat) "StereoWarModel" "pace" "[I" ∈ TT := tt_at 622 (by decide +kernel) rfl
theorem tw623 : Cond.fieldLink "StereoWarModel" (16 : Nat) "StereoWarModel" "deep" "[I" ∈ TT := tt_at 623 (by decide +kernel) rfl
theorem tw624 : Cond.fieldLink "StereoWarModel" (44 : Nat) "StereoWarModel" "focus" "I" ∈ TT := tt_at 624 (by decide +kernel) rfl
theorem tw625 : Cond.fieldLink "StereoWarModel" (61 : Nat) "StereoWarModel" "pictures" "I" ∈ TT := tt_at 625 (by decide +kernel) rfl
theorem tw626 : Cond.fieldLink "StereoWarModel" (19 : Nat) "StereoWarModel" "column" "[I" ∈ TT := tt_at 626 (by decide +kernel) rfl
theorem tw627 : Cond.fieldLink "StereoWarModel" (22 : Nat) "StereoWarModel" "pad" "[I" ∈ TT := tt_at 627 (by decide +kernel) rfl
theorem tw628 : Cond.fieldLink "StereoWarModel" (94 : Nat) "StereoWarModel" "padMany" "I" ∈ TT := tt_at 628 (by decide +kernel) rfl
theorem tw629 : Cond.fieldLink "StereoWarModel" (25 : Nat) "StereoWarModel" "left" "[I" ∈ TT := tt_at 629 (by decide +kernel) rfl
theorem tw630 : Cond.fieldLink "StereoWarModel" (28 : Nat) "StereoWarModel" "right" "[I" ∈ TT := tt_at 630 (by decide +kernel) rfl
theorem tw631 : Cond.fieldLink "StereoWarModel" (97 : Nat) "StereoWarModel" "pairs" "I" ∈ TT := tt_at 631 (by decide +kernel) rfl
theorem tw632 : Cond.fieldLink "StereoWarModel" (100 : Nat) "StereoWarModel" "turns" "I" ∈ TT := tt_at 632 (by decide +kernel) rfl
theorem tw633 : Cond.fieldLink "StereoWarModel" (103 : Nat) "StereoWarModel" "lone" "I" ∈ TT := tt_at 633 (by decide +kernel) rfl
theorem tw634 : Cond.fieldLink "StereoWarModel" (125 : Nat) "StereoWarModel" "badPair" "I" ∈ TT := tt_at 634 (by decide +kernel) rfl
theorem tw635 : Cond.fieldLink "StereoWarModel" (128 : Nat) "StereoWarModel" "badWhy" "I" ∈ TT := tt_at 635 (by decide +kernel) rfl
theorem tw636 : Cond.fieldLink "StereoWarModel" (31 : Nat) "StereoWarModel" "mostOf" "[I" ∈ TT := tt_at 636 (by decide +kernel) rfl
theorem tw637 : Cond.fieldLink "StereoWarModel" (165 : Nat) "StereoWarModel" "firstMinute" "I" ∈ TT := tt_at 637 (by decide +kernel) rfl
theorem tw638 : Cond.fieldLink "StereoWarModel" (168 : Nat) "StereoWarModel" "lastMinute" "I" ∈ TT := tt_at 638 (by decide +kernel) rfl
theorem tw639 : Cond.fieldLink "StereoWarModel" (34 : Nat) "StereoWarModel" "could" "[I" ∈ TT := tt_at 639 (by decide +kernel) rfl
theorem tw640 : Cond.fieldLink "StereoWarModel" (37 : Nat) "StereoWarModel" "kept" "[I" ∈ TT := tt_at 640 (by decide +kernel) rfl
theorem tw641 : Cond.fieldLink "StereoWarModel" (40 : Nat) "StereoWarModel" "isKept" "[Z" ∈ TT := tt_at 641 (by decide +kernel) rfl
theorem tw642 : Cond.fieldLink "StereoWarModel" (205 : Nat) "StereoWarModel" "keptAt" "I" ∈ TT := tt_at 642 (by decide +kernel) rfl
theorem tw643 : Cond.fieldLink "StereoWarModel" (201 : Nat) "StereoWarModel" "isWriting" "Z" ∈ TT := tt_at 643 (by decide +kernel) rfl
theorem tw644 : Cond.lays "StereoWarModel" "StereoWarModel" "things" "I" ∈ TT := tt_at 644 (by decide +kernel) rfl
theorem tw645 : Cond.soleField "StereoWarModel" "things" ∈ TT := tt_at 645 (by decide +kernel) rfl
theorem tw646 : Cond.laysFinal "StereoWarModel" "StereoWarModel" "place" "[I" ∈ TT := tt_at 646 (by decide +kernel) rfl
theorem tw647 : Cond.soleField "StereoWarModel" "place" ∈ TT := tt_at 647 (by decide +kernel) rfl
theorem tw648 : Cond.laysFinal "StereoWarModel" "StereoWarModel" "pace" "[I" ∈ TT := tt_at 648 (by decide +kernel) rfl
theorem tw649 : Cond.soleField "StereoWarModel" "pace" ∈ TT := tt_at 649 (by decide +kernel) rfl
theorem tw650 : Cond.laysFinal "StereoWarModel" "StereoWarModel" "deep" "[I" ∈ TT := tt_at 650 (by decide +kernel) rfl
theorem tw651 : Cond.soleField "StereoWarModel" "deep" ∈ TT := tt_at 651 (by decide +kernel) rfl
theorem tw652 : Cond.lays "StereoWarModel" "StereoWarModel" "focus" "I" ∈ TT := tt_at 652 (by decide +kernel) rfl
theorem tw653 : Cond.soleField "StereoWarModel" "focus" ∈ TT := tt_at 653 (by decide +kernel) rfl
theorem tw654 : Cond.lays "StereoWarModel" "StereoWarModel" "pictures" "I" ∈ TT := tt_at 654 (by decide +kernel) rfl
theorem tw655 : Cond.soleField "StereoWarModel" "pictures" ∈ TT := tt_at 655 (by decide +kernel) rfl
theorem tw656 : Cond.laysFinal "StereoWarModel" "StereoWarModel" "column" "[I" ∈ TT := tt_at 656 (by decide +kernel) rfl
theorem tw657 : Cond.soleField "StereoWarModel" "column" ∈ TT := tt_at 657 (by decide +kernel) rfl
theorem tw658 : Cond.laysFinal "StereoWarModel" "StereoWarModel" "pad" "[I" ∈ TT := tt_at 658 (by decide +kernel) rfl
theorem tw659 : Cond.soleField "StereoWarModel" "pad" ∈ TT := tt_at 659 (by decide +kernel) rfl
theorem tw660 : Cond.lays "StereoWarModel" "StereoWarModel" "padMany" "I" ∈ TT := tt_at 660 (by decide +kernel) rfl
theorem tw661 : Cond.soleField "StereoWarModel" "padMany" ∈ TT := tt_at 661 (by decide +kernel) rfl
theorem tw662 : Cond.laysFinal "StereoWarModel" "StereoWarModel" "left" "[I" ∈ TT := tt_at 662 (by decide +kernel) rfl
theorem tw663 : Cond.soleField "StereoWarModel" "left" ∈ TT := tt_at 663 (by decide +kernel) rfl
theorem tw664 : Cond.laysFinal "StereoWarModel" "StereoWarModel" "right" "[I" ∈ TT := tt_at 664 (by decide +kernel) rfl
theorem tw665 : Cond.soleField "StereoWarModel" "right" ∈ TT := tt_at 665 (by decide +kernel) rfl
theorem tw666 : Cond.lays "StereoWarModel" "StereoWarModel" "pairs" "I" ∈ TT := tt_at 666 (by decide +kernel) rfl
theorem tw667 : Cond.soleField "StereoWarModel" "pairs" ∈ TT := tt_at 667 (by decide +kernel) rfl
theorem tw668 : Cond.lays "StereoWarModel" "StereoWarModel" "turns" "I" ∈ TT := tt_at 668 (by decide +kernel) rfl
theorem tw669 : Cond.soleField "StereoWarModel" "turns" ∈ TT := tt_at 669 (by decide +kernel) rfl
theorem tw670 : Cond.lays "StereoWarModel" "StereoWarModel" "lone" "I" ∈ TT := tt_at 670 (by decide +kernel) rfl
theorem tw671 : Cond.soleField "StereoWarModel" "lone" ∈ TT := tt_at 671 (by decide +kernel) rfl
theorem tw672 : Cond.lays "StereoWarModel" "StereoWarModel" "badPair" "I" ∈ TT := tt_at 672 (by decide +kernel) rfl
theorem tw673 : Cond.soleField "StereoWarModel" "badPair" ∈ TT := tt_at 673 (by decide +kernel) rfl
theorem tw674 : Cond.lays "StereoWarModel" "StereoWarModel" "badWhy" "I" ∈ TT := tt_at 674 (by decide +kernel) rfl
theorem tw675 : Cond.soleField "StereoWarModel" "badWhy" ∈ TT := tt_at 675 (by decide +kernel) rfl
theorem tw676 : Cond.laysFinal "StereoWarModel" "StereoWarModel" "mostOf" "[I" ∈ TT := tt_at 676 (by decide +kernel) rfl
theorem tw677 : Cond.soleField "StereoWarModel" "mostOf" ∈ TT := tt_at 677 (by decide +kernel) rfl
theorem tw678 : Cond.lays "StereoWarModel" "StereoWarModel" "firstMinute" "I" ∈ TT := tt_at 678 (by decide +kernel) rfl
theorem tw679 : Cond.soleField "StereoWarModel" "firstMinute" ∈ TT := tt_at 679 (by decide +kernel) rfl
theorem tw680 : Cond.lays "StereoWarModel" "StereoWarModel" "lastMinute" "I" ∈ TT := tt_at 680 (by decide +kernel) rfl
theorem tw681 : Cond.soleField "StereoWarModel" "lastMinute" ∈ TT := tt_at 681 (by decide +kernel) rfl
theorem tw682 : Cond.laysFinal "StereoWarModel" "StereoWarModel" "could" "[I" ∈ TT := tt_at 682 (by decide +kernel) rfl
theorem tw683 : Cond.soleField "StereoWarModel" "could" ∈ TT := tt_at 683 (by decide +kernel) rfl
theorem tw684 : Cond.laysFinal "StereoWarModel" "StereoWarModel" "kept" "[I" ∈ TT := tt_at 684 (by decide +kernel) rfl
theorem tw685 : Cond.soleField "StereoWarModel" "kept" ∈ TT := tt_at 685 (by decide +kernel) rfl
theorem tw686 : Cond.laysFinal "StereoWarModel" "StereoWarModel" "isKept" "[Z" ∈ TT := tt_at 686 (by decide +kernel) rfl
theorem tw687 : Cond.soleField "StereoWarModel" "isKept" ∈ TT := tt_at 687 (by decide +kernel) rfl
theorem tw688 : Cond.lays "StereoWarModel" "StereoWarModel" "keptAt" "I" ∈ TT := tt_at 688 (by decide +kernel) rfl
theorem tw689 : Cond.soleField "StereoWarModel" "keptAt" ∈ TT := tt_at 689 (by decide +kernel) rfl
theorem tw690 : Cond.lays "StereoWarModel" "StereoWarModel" "isWriting" "Z" ∈ TT := tt_at 690 (by decide +kernel) rfl
theorem tw691 : Cond.soleField "StereoWarModel" "isWriting" ∈ TT := tt_at 691 (by decide +kernel) rfl
theorem tw692 : Cond.superclass "StereoWarModel" "java/lang/Object" ∈ TT := tt_at 692 (by decide +kernel) rfl
theorem tw693 : Cond.methodLink "StereoWarLaw" (17 : Nat) ({ cls := "StereoWarModel", name := "thing", desc := "(IIII)I" } : Jvm.MethodName) ∈ TT := tt_at 693 (by decide +kernel) rfl
theorem tw694 : Cond.instanceMethod ({ cls := "StereoWarModel", name := "thing", desc := "(IIII)I" } : Jvm.MethodName) ∈ TT := tt_at 694 (by decide +kernel) rfl
theorem tw695 : Cond.selects "StereoWarModel" ({ cls := "StereoWarModel", name := "thing", desc := "(IIII)I" } : Jvm.MethodName) ({ cls := "StereoWarModel", name := "thing", desc := "(IIII)I" } : Jvm.MethodName) ∈ TT := tt_at 695 (by decide +kernel) rfl
theorem tw696 : Cond.code ({ cls := "StereoWarModel", name := "thing", desc := "(IIII)I" } : Jvm.MethodName) prog_10_method_9_code (5 : Nat) (Option.some FieldType.int) ∈ TT := tt_at 696 (by decide +kernel) rfl
theorem tw697 : Cond.constantLong "StereoWarModel" (54 : Nat) (5 : Int64) ∈ TT := tt_at 697 (by decide +kernel) rfl
theorem tw698 : Cond.methodLink "StereoWarModel" (50 : Nat) ({ cls := "StereoWarModel", name := "in", desc := "(JJJ)Z" } : Jvm.MethodName) ∈ TT := tt_at 698 (by decide +kernel) rfl
theorem tw699 : Cond.static ({ cls := "StereoWarModel", name := "in", desc := "(JJJ)Z" } : Jvm.MethodName) ∈ TT := tt_at 699 (by decide +kernel) rfl
theorem tw700 : Cond.code ({ cls := "StereoWarModel", name := "in", desc := "(JJJ)Z" } : Jvm.MethodName) prog_10_method_3_code (6 : Nat) (Option.some FieldType.boolean) ∈ TT := tt_at 700 (by decide +kernel) rfl
theorem tw701 : Cond.methodLink "StereoWarModel" (68 : Nat) ({ cls := "StereoWarModel", name := "isHundred", desc := "(I)Z" } : Jvm.MethodName) ∈ TT := tt_at 701 (by decide +kernel) rfl
theorem tw702 : Cond.static ({ cls := "StereoWarModel", name := "isHundred", desc := "(I)Z" } : Jvm.MethodName) ∈ TT := tt_at 702 (by decide +kernel) rfl
theorem tw703 : Cond.code ({ cls := "StereoWarModel", name := "isHundred", desc := "(I)Z" } : Jvm.MethodName) prog_10_method_5_code (1 : Nat) (Option.some FieldType.boolean) ∈ TT := tt_at 703 (by decide +kernel) rfl
theorem tw704 : Cond.constantLong "StereoWarModel" (48 : Nat) (99 : Int64) ∈ TT := tt_at 704 (by decide +kernel) rfl
theorem tw705 : Cond.constantLong "StereoWarModel" (71 : Nat) (-9 : Int64) ∈ TT := tt_at 705 (by decide +kernel) rfl
theorem tw706 : Cond.constantLong "StereoWarModel" (59 : Nat) (9 : Int64) ∈ TT := tt_at 706 (by decide +kernel) rfl
theorem tw707 : Cond.constantLong "StereoWarModel" (73 : Nat) (20 : Int64) ∈ TT := tt_at 707 (by decide +kernel) rfl
theorem tw708 : Cond.methodLink "StereoWarModel" (75 : Nat) ({ cls := "StereoWarModel", name := "ones", desc := "(I)I" } : Jvm.MethodName) ∈ TT := tt_at 708 (by decide +kernel) rfl
theorem tw709 : Cond.static ({ cls := "StereoWarModel", name := "ones", desc := "(I)I" } : Jvm.MethodName) ∈ TT := tt_at 709 (by decide +kernel) rfl
theorem tw710 : Cond.code ({ cls := "StereoWarModel", name := "ones", desc := "(I)I" } : Jvm.MethodName) prog_10_method_4_code (3 : Nat) (Option.some FieldType.int) ∈ TT := tt_at 710 (by decide +kernel) rfl
theorem tw711 : Cond.methodLink "StereoWarLaw" (22 : Nat) ({ cls := "StereoWarModel", name := "leave", desc := "(I)I" } : Jvm.MethodName) ∈ TT := tt_at 711 (by decide +kernel) rfl
theorem tw712 : Cond.instanceMethod ({ cls := "StereoWarModel", name := "leave", desc := "(I)I" } : Jvm.MethodName) ∈ TT := tt_at 712 (by decide +kernel) rfl
theorem tw713 : Cond.selects "StereoWarModel" ({ cls := "StereoWarModel", name := "leave", desc := "(I)I" } : Jvm.MethodName) ({ cls := "StereoWarModel", name := "leave", desc := "(I)I" } : Jvm.MethodName) ∈ TT := tt_at 713 (by decide +kernel) rfl
theorem tw714 : Cond.code ({ cls := "StereoWarModel", name := "leave", desc := "(I)I" } : Jvm.MethodName) prog_10_method_10_code (2 : Nat) (Option.some FieldType.int) ∈ TT := tt_at 714 (by decide +kernel) rfl
theorem tw715 : Cond.methodLink "StereoWarModel" (79 : Nat) ({ cls := "StereoWarModel", name := "isThing", desc := "(I)Z" } : Jvm.MethodName) ∈ TT := tt_at 715 (by decide +kernel) rfl
theorem tw717 : Cond.instanceMethod ({ cls := "StereoWarModel", name := "isThing", desc := "(I)Z" } : Jvm.MethodName) ∈ TT := tt_at 717 (by decide +kernel) rfl
theorem tw718 : Cond.code ({ cls := "StereoWarModel", name := "isThing", desc := "(I)Z" } : Jvm.MethodName) prog_10_method_6_code (2 : Nat) (Option.some FieldType.boolean) ∈ TT := tt_at 718 (by decide +kernel) rfl
theorem tw719 : Cond.methodLink "StereoWarLaw" (26 : Nat) ({ cls := "StereoWarModel", name := "focus", desc := "(I)I" } : Jvm.MethodName) ∈ TT := tt_at 719 (by decide +kernel) rfl
theorem tw720 : Cond.instanceMethod ({ cls := "StereoWarModel", name := "focus", desc := "(I)I" } : Jvm.MethodName) ∈ TT := tt_at 720 (by decide +kernel) rfl
theorem tw721 : Cond.selects "StereoWarModel" ({ cls := "StereoWarModel", name := "focus", desc := "(I)I" } : Jvm.MethodName) ({ cls := "StereoWarModel", name := "focus", desc := "(I)I" } : Jvm.MethodName) ∈ TT := tt_at 721 (by decide +kernel) rfl
theorem tw722 : Cond.code ({ cls := "StereoWarModel", name := "focus", desc := "(I)I" } : Jvm.MethodName) prog_10_method_11_code (3 : Nat) (Option.some FieldType.int) ∈ TT := tt_at 722 (by decide +kernel) rfl
theorem tw723 : Cond.constantLong "StereoWarModel" (82 : Nat) (40 : Int64) ∈ TT := tt_at 723 (by decide +kernel) rfl
theorem tw724 : Cond.methodLink "StereoWarLaw" (31 : Nat) ({ cls := "StereoWarModel", name := "take", desc := "(III)I" } : Jvm.MethodName) ∈ TT := tt_at 724 (by decide +kernel) rfl
theorem tw725 : Cond.instanceMethod ({ cls := "StereoWarModel", name := "take", desc := "(III)I" } : Jvm.MethodName) ∈ TT := tt_at 725 (by decide +kernel) rfl
theorem tw726 : Cond.selects "StereoWarModel" ({ cls := "StereoWarModel", name := "take", desc := "(III)I" } : Jvm.MethodName) ({ cls := "StereoWarModel", name := "take", desc := "(III)I" } : Jvm.MethodName) ∈ TT := tt_at 726 (by decide +kernel) rfl
theorem tw727 : Cond.code ({ cls := "StereoWarModel", name := "take", desc := "(III)I" } : Jvm.MethodName) prog_10_method_13_code (7 : Nat) (Option.some FieldType.int) ∈ TT := tt_at 727 (by decide +kernel) rfl
theorem tw728 : Cond.methodLink "StereoWarModel" (86 : Nat) ({ cls := "StereoWarModel", name := "columnOf", desc := "(III)I" } : Jvm.MethodName) ∈ TT := tt_at 728 (by decide +kernel) rfl
theorem tw730 : Cond.instanceMethod ({ cls := "StereoWarModel", name := "columnOf", desc := "(III)I" } : Jvm.MethodName) ∈ TT := tt_at 730 (by decide +kernel) rfl
theorem tw731 : Cond.code ({ cls := "StereoWarModel", name := "columnOf", desc := "(III)I" } : Jvm.MethodName) prog_10_method_12_code (5 : Nat) (Option.some FieldType.int) ∈ TT := tt_at 731 (by decide +kernel) rfl
theorem tw732 : Cond.constantLong "StereoWarModel" (84 : Nat) (60 : Int64) ∈ TT := tt_at 732 (by decide +kernel) rfl
theorem tw733 : Cond.methodLink "StereoWarLaw" (35 : Nat) ({ cls := "StereoWarModel", name := "retouch", desc := "(III)I" } : Jvm.MethodName) ∈ TT := tt_at 733 (by decide +kernel) rfl
theorem tw734 : Cond.instanceMethod ({ cls := "StereoWarModel", name := "retouch", desc := "(III)I" } : Jvm.MethodName) ∈ TT := tt_at 734 (by decide +kernel) rfl
theorem tw735 : Cond.selects "StereoWarModel" ({ cls := "StereoWarModel", name := "retouch", desc := "(III)I" } : Jvm.MethodName) ({ cls := "StereoWarModel", name := "retouch", desc := "(III)I" } : Jvm.MethodName) ∈ TT := tt_at 735 (by decide +kernel) rfl
theorem tw736 : Cond.code ({ cls := "StereoWarModel", name := "retouch", desc := "(III)I" } : Jvm.MethodName) prog_10_method_14_code (5 : Nat) (Option.some FieldType.int) ∈ TT := tt_at 736 (by decide +kernel) rfl
theorem tw737 : Cond.methodLink "StereoWarModel" (64 : Nat) ({ cls := "StereoWarModel", name := "isPicture", desc := "(I)Z" } : Jvm.MethodName) ∈ TT := tt_at 737 (by decide +kernel) rfl
theorem tw739 : Cond.instanceMethod ({ cls := "StereoWarModel", name := "isPicture", desc := "(I)Z" } : Jvm.MethodName) ∈ TT := tt_at 739 (by decide +kernel) rfl
theorem tw740 : Cond.code ({ cls := "StereoWarModel", name := "isPicture", desc := "(I)Z" } : Jvm.MethodName) prog_10_method_7_code (2 : Nat) (Option.some FieldType.boolean) ∈ TT := tt_at 740 (by decide +kernel) rfl
theorem tw741 : Cond.methodLink "StereoWarLaw" (39 : Nat) ({ cls := "StereoWarModel", name := "burn", desc := "(I)I" } : Jvm.MethodName) ∈ TT := tt_at 741 (by decide +kernel) rfl
theorem tw742 : Cond.instanceMethod ({ cls := "StereoWarModel", name := "burn", desc := "(I)I" } : Jvm.MethodName) ∈ TT := tt_at 742 (by decide +kernel) rfl
theorem tw743 : Cond.selects "StereoWarModel" ({ cls := "StereoWarModel", name := "burn", desc := "(I)I" } : Jvm.MethodName) ({ cls := "StereoWarModel", name := "burn", desc := "(I)I" } : Jvm.MethodName) ∈ TT := tt_at 743 (by decide +kernel) rfl
theorem tw744 : Cond.code ({ cls := "StereoWarModel", name := "burn", desc := "(I)I" } : Jvm.MethodName) prog_10_method_15_code (2 : Nat) (Option.some FieldType.int) ∈ TT := tt_at 744 (by decide +kernel) rfl
theorem tw745 : Cond.methodLink "StereoWarLaw" (43 : Nat) ({ cls := "StereoWarModel", name := "say", desc := "(I)I" } : Jvm.MethodName) ∈ TT := tt_at 745 (by decide +kernel) rfl
theorem tw746 : Cond.instanceMethod ({ cls := "StereoWarModel", name := "say", desc := "(I)I" } : Jvm.MethodName) ∈ TT := tt_at 746 (by decide +kernel) rfl
theorem tw747 : Cond.selects "StereoWarModel" ({ cls := "StereoWarModel", name := "say", desc := "(I)I" } : Jvm.MethodName) ({ cls := "StereoWarModel", name := "say", desc := "(I)I" } : Jvm.MethodName) ∈ TT := tt_at 747 (by decide +kernel) rfl
theorem tw748 : Cond.code ({ cls := "StereoWarModel", name := "say", desc := "(I)I" } : Jvm.MethodName) prog_10_method_16_code (2 : Nat) (Option.some FieldType.int) ∈ TT := tt_at 748 (by decide +kernel) rfl
theorem tw749 : Cond.constantLong "StereoWarModel" (90 : Nat) (33 : Int64) ∈ TT := tt_at 749 (by decide +kernel) rfl
theorem tw750 : Cond.constantLong "StereoWarModel" (92 : Nat) (126 : Int64) ∈ TT := tt_at 750 (by decide +kernel) rfl
theorem tw751 : Cond.methodLink "StereoWarLaw" (48 : Nat) ({ cls := "StereoWarModel", name := "wipe", desc := "()I" } : Jvm.MethodName) ∈ TT := tt_at 751 (by decide +kernel) rfl
theorem tw752 : Cond.instanceMethod ({ cls := "StereoWarModel", name := "wipe", desc := "()I" } : Jvm.MethodName) ∈ TT := tt_at 752 (by decide +kernel) rfl
theorem tw753 : Cond.selects "StereoWarModel" ({ cls := "StereoWarModel", name := "wipe", desc := "()I" } : Jvm.MethodName) ({ cls := "StereoWarModel", name := "wipe", desc := "()I" } : Jvm.MethodName) ∈ TT := tt_at 753 (by decide +kernel) rfl
theorem tw754 : Cond.code ({ cls := "StereoWarModel", name := "wipe", desc := "()I" } : Jvm.MethodName) prog_10_method_17_code (2 : Nat) (Option.some FieldType.int) ∈ TT := tt_at 754 (by decide +kernel) rfl
theorem tw755 : Cond.methodLink "StereoWarLaw" (52 : Nat) ({ cls := "StereoWarModel", name := "fault", desc := "()I" } : Jvm.MethodName) ∈ TT := tt_at 755 (by decide +kernel) rfl
theorem tw756 : Cond.instanceMethod ({ cls := "StereoWarModel", name := "fault", desc := "()I" } : Jvm.MethodName) ∈ TT := tt_at 756 (by decide +kernel) rfl
theorem tw757 : Cond.selects "StereoWarModel" ({ cls := "StereoWarModel", name := "fault", desc := "()I" } : Jvm.MethodName) ({ cls := "StereoWarModel", name := "fault", desc := "()I" } : Jvm.MethodName) ∈ TT := tt_at 757 (by decide +kernel) rfl
theorem tw758 : Cond.code ({ cls := "StereoWarModel", name := "fault", desc := "()I" } : Jvm.MethodName) prog_10_method_18_code (5 : Nat) (Option.some FieldType.int) ∈ TT := tt_at 758 (by decide +kernel) rfl
theorem tw759 : Cond.methodLink "StereoWarModel" (106 : Nat) ({ cls := "StereoWarModel", name := "keepLeft", desc := "(Z)V" } : Jvm.MethodName) ∈ TT := tt_at 759 (by decide +kernel) rfl
theorem tw761 : Cond.instanceMethod ({ cls := "StereoWarModel", name := "keepLeft", desc := "(Z)V" } : Jvm.MethodName) ∈ TT := tt_at 761 (by decide +kernel) rfl
theorem tw762 : Cond.code ({ cls := "StereoWarModel", name := "keepLeft", desc := "(Z)V" } : Jvm.MethodName) prog_10_method_19_code (2 : Nat) (none) ∈ TT := tt_at 762 (by decide +kernel) rfl
theorem tw763 : Cond.methodLink "StereoWarLaw" (56 : Nat) ({ cls := "StereoWarModel", name := "judge", desc := "(I)I" } : Jvm.MethodName) ∈ TT := tt_at 763 (by decide +kernel) rfl
theorem tw764 : Cond.instanceMethod ({ cls := "StereoWarModel", name := "judge", desc := "(I)I" } : Jvm.MethodName) ∈ TT := tt_at 764 (by decide +kernel) rfl
theorem tw765 : Cond.selects "StereoWarModel" ({ cls := "StereoWarModel", name := "judge", desc := "(I)I" } : Jvm.MethodName) ({ cls := "StereoWarModel", name := "judge", desc := "(I)I" } : Jvm.MethodName) ∈ TT := tt_at 765 (by decide +kernel) rfl
theorem tw766 : Cond.code ({ cls := "StereoWarModel", name := "judge", desc := "(I)I" } : Jvm.MethodName) prog_10_method_26_code (3 : Nat) (Option.some FieldType.int) ∈ TT := tt_at 766 (by decide +kernel) rfl
theorem tw767 : Cond.constantLong "StereoWarModel" (134 : Nat) (3 : Int64) ∈ TT := tt_at 767 (by decide +kernel) rfl
theorem tw768 : Cond.methodLink "StereoWarModel" (136 : Nat) ({ cls := "StereoWarModel", name := "refusal", desc := "()I" } : Jvm.MethodName) ∈ TT := tt_at 768 (by decide +kernel) rfl
theorem tw770 : Cond.instanceMethod ({ cls := "StereoWarModel", name := "refusal", desc := "()I" } : Jvm.MethodName) ∈ TT := tt_at 770 (by decide +kernel) rfl
theorem tw771 : Cond.code ({ cls := "StereoWarModel", name := "refusal", desc := "()I" } : Jvm.MethodName) prog_10_method_25_code (3 : Nat) (Option.some FieldType.int) ∈ TT := tt_at 771 (by decide +kernel) rfl
theorem tw772 : Cond.methodLink "StereoWarModel" (121 : Nat) ({ cls := "StereoWarModel", name := "fault", desc := "()I" } : Jvm.MethodName) ∈ TT := tt_at 772 (by decide +kernel) rfl
theorem tw773 : Cond.methodLink "StereoWarModel" (131 : Nat) ({ cls := "StereoWarModel", name := "whyNot", desc := "(I)I" } : Jvm.MethodName) ∈ TT := tt_at 773 (by decide +kernel) rfl
theorem tw775 : Cond.instanceMethod ({ cls := "StereoWarModel", name := "whyNot", desc := "(I)I" } : Jvm.MethodName) ∈ TT := tt_at 775 (by decide +kernel) rfl
theorem tw776 : Cond.code ({ cls := "StereoWarModel", name := "whyNot", desc := "(I)I" } : Jvm.MethodName) prog_10_method_24_code (4 : Nat) (Option.some FieldType.int) ∈ TT := tt_at 776 (by decide +kernel) rfl
theorem tw777 : Cond.methodLink "StereoWarLaw" (60 : Nat) ({ cls := "StereoWarModel", name := "kinds", desc := "(I)I" } : Jvm.MethodName) ∈ TT := tt_at 777 (by decide +kernel) rfl
theorem tw778 : Cond.instanceMethod ({ cls := "StereoWarModel", name := "kinds", desc := "(I)I" } : Jvm.MethodName) ∈ TT := tt_at 778 (by decide +kernel) rfl
theorem tw779 : Cond.selects "StereoWarModel" ({ cls := "StereoWarModel", name := "kinds", desc := "(I)I" } : Jvm.MethodName) ({ cls := "StereoWarModel", name := "kinds", desc := "(I)I" } : Jvm.MethodName) ∈ TT := tt_at 779 (by decide +kernel) rfl
theorem tw780 : Cond.code ({ cls := "StereoWarModel", name := "kinds", desc := "(I)I" } : Jvm.MethodName) prog_10_method_27_code (8 : Nat) (Option.some FieldType.int) ∈ TT := tt_at 780 (by decide +kernel) rfl
theorem tw781 : Cond.methodLink "StereoWarModel" (139 : Nat) ({ cls := "StereoWarModel", name := "kindOf", desc := "(II)I" } : Jvm.MethodName) ∈ TT := tt_at 781 (by decide +kernel) rfl
theorem tw783 : Cond.instanceMethod ({ cls := "StereoWarModel", name := "kindOf", desc := "(II)I" } : Jvm.MethodName) ∈ TT := tt_at 783 (by decide +kernel) rfl
theorem tw784 : Cond.code ({ cls := "StereoWarModel", name := "kindOf", desc := "(II)I" } : Jvm.MethodName) prog_10_method_23_code (7 : Nat) (Option.some FieldType.int) ∈ TT := tt_at 784 (by decide +kernel) rfl
theorem tw785 : Cond.methodLink "StereoWarModel" (110 : Nat) ({ cls := "StereoWarModel", name := "areBoth", desc := "(III)Z" } : Jvm.MethodName) ∈ TT := tt_at 785 (by decide +kernel) rfl
theorem tw787 : Cond.instanceMethod ({ cls := "StereoWarModel", name := "areBoth", desc := "(III)Z" } : Jvm.MethodName) ∈ TT := tt_at 787 (by decide +kernel) rfl
theorem tw788 : Cond.code ({ cls := "StereoWarModel", name := "areBoth", desc := "(III)Z" } : Jvm.MethodName) prog_10_method_21_code (4 : Nat) (Option.some FieldType.boolean) ∈ TT := tt_at 788 (by decide +kernel) rfl
theorem tw789 : Cond.methodLink "StereoWarModel" (114 : Nat) ({ cls := "StereoWarModel", name := "shiftOf", desc := "(III)I" } : Jvm.MethodName) ∈ TT := tt_at 789 (by decide +kernel) rfl
theorem tw791 : Cond.instanceMethod ({ cls := "StereoWarModel", name := "shiftOf", desc := "(III)I" } : Jvm.MethodName) ∈ TT := tt_at 791 (by decide +kernel) rfl
theorem tw792 : Cond.code ({ cls := "StereoWarModel", name := "shiftOf", desc := "(III)I" } : Jvm.MethodName) prog_10_method_20_code (4 : Nat) (Option.some FieldType.int) ∈ TT := tt_at 792 (by decide +kernel) rfl
theorem tw793 : Cond.methodLink "StereoWarModel" (117 : Nat) ({ cls := "StereoWarModel", name := "kindBy", desc := "(ZZ)I" } : Jvm.MethodName) ∈ TT := tt_at 793 (by decide +kernel) rfl
theorem tw794 : Cond.static ({ cls := "StereoWarModel", name := "kindBy", desc := "(ZZ)I" } : Jvm.MethodName) ∈ TT := tt_at 794 (by decide +kernel) rfl
theorem tw795 : Cond.code ({ cls := "StereoWarModel", name := "kindBy", desc := "(ZZ)I" } : Jvm.MethodName) prog_10_method_22_code (2 : Nat) (Option.some FieldType.int) ∈ TT := tt_at 795 (by decide +kernel) rfl
theorem tw796 : Cond.methodLink "StereoWarLaw" (65 : Nat) ({ cls := "StereoWarModel", name := "kind", desc := "(II)I" } : Jvm.MethodName) ∈ TT := tt_at 796 (by decide +kernel) rfl
theorem tw797 : Cond.instanceMethod ({ cls := "StereoWarModel", name := "kind", desc := "(II)I" } : Jvm.MethodName) ∈ TT := tt_at 797 (by decide +kernel) rfl
theorem tw798 : Cond.selects "StereoWarModel" ({ cls := "StereoWarModel", name := "kind", desc := "(II)I" } : Jvm.MethodName) ({ cls := "StereoWarModel", name := "kind", desc := "(II)I" } : Jvm.MethodName) ∈ TT := tt_at 798 (by decide +kernel) rfl
theorem tw799 : Cond.code ({ cls := "StereoWarModel", name := "kind", desc := "(II)I" } : Jvm.MethodName) prog_10_method_28_code (3 : Nat) (Option.some FieldType.int) ∈ TT := tt_at 799 (by decide +kernel) rfl
theorem tw800 : Cond.methodLink "StereoWarModel" (143 : Nat) ({ cls := "StereoWarModel", name := "areTwo", desc := "(II)Z" } : Jvm.MethodName) ∈ TT := tt_at 800 (by decide +kernel) rfl
theorem tw802 : Cond.instanceMethod ({ cls := "StereoWarModel", name := "areTwo", desc := "(II)Z" } : Jvm.MethodName) ∈ TT := tt_at 802 (by decide +kernel) rfl
theorem tw803 : Cond.code ({ cls := "StereoWarModel", name := "areTwo", desc := "(II)Z" } : Jvm.MethodName) prog_10_method_8_code (3 : Nat) (Option.some FieldType.boolean) ∈ TT := tt_at 803 (by decide +kernel) rfl
theorem tw804 : Cond.methodLink "StereoWarLaw" (69 : Nat) ({ cls := "StereoWarModel", name := "shift", desc := "(III)I" } : Jvm.MethodName) ∈ TT := tt_at 804 (by decide +kernel) rfl
theorem tw805 : Cond.instanceMethod ({ cls := "StereoWarModel", name := "shift", desc := "(III)I" } : Jvm.MethodName) ∈ TT := tt_at 805 (by decide +kernel) rfl
theorem tw806 : Cond.selects "StereoWarModel" ({ cls := "StereoWarModel", name := "shift", desc := "(III)I" } : Jvm.MethodName) ({ cls := "StereoWarModel", name := "shift", desc := "(III)I" } : Jvm.MethodName) ∈ TT := tt_at 806 (by decide +kernel) rfl
theorem tw807 : Cond.code ({ cls := "StereoWarModel", name := "shift", desc := "(III)I" } : Jvm.MethodName) prog_10_method_29_code (4 : Nat) (Option.some FieldType.int) ∈ TT := tt_at 807 (by decide +kernel) rfl
theorem tw808 : Cond.methodLink "StereoWarLaw" (73 : Nat) ({ cls := "StereoWarModel", name := "near", desc := "(III)I" } : Jvm.MethodName) ∈ TT := tt_at 808 (by decide +kernel) rfl
theorem tw809 : Cond.instanceMethod ({ cls := "StereoWarModel", name := "near", desc := "(III)I" } : Jvm.MethodName) ∈ TT := tt_at 809 (by decide +kernel) rfl
theorem tw810 : Cond.selects "StereoWarModel" ({ cls := "StereoWarModel", name := "near", desc := "(III)I" } : Jvm.MethodName) ({ cls := "StereoWarModel", name := "near", desc := "(III)I" } : Jvm.MethodName) ∈ TT := tt_at 810 (by decide +kernel) rfl
theorem tw811 : Cond.code ({ cls := "StereoWarModel", name := "near", desc := "(III)I" } : Jvm.MethodName) prog_10_method_30_code (7 : Nat) (Option.some FieldType.int) ∈ TT := tt_at 811 (by decide +kernel) rfl
theorem tw812 : Cond.methodLink "StereoWarLaw" (77 : Nat) ({ cls := "StereoWarModel", name := "match", desc := "(II)I" } : Jvm.MethodName) ∈ TT := tt_at 812 (by decide +kernel) rfl
theorem tw813 : Cond.instanceMethod ({ cls := "StereoWarModel", name := "match", desc := "(II)I" } : Jvm.MethodName) ∈ TT := tt_at 813 (by decide +kernel) rfl
theorem tw814 : Cond.selects "StereoWarModel" ({ cls := "StereoWarModel", name := "match", desc := "(II)I" } : Jvm.MethodName) ({ cls := "StereoWarModel", name := "match", desc := "(II)I" } : Jvm.MethodName) ∈ TT := tt_at 814 (by decide +kernel) rfl
theorem tw815 : Cond.code ({ cls := "StereoWarModel", name := "match", desc := "(II)I" } : Jvm.MethodName) prog_10_method_35_code (7 : Nat) (Option.some FieldType.int) ∈ TT := tt_at 815 (by decide +kernel) rfl
theorem tw816 : Cond.constantLong "StereoWarModel" (153 : Nat) (1023 : Int64) ∈ TT := tt_at 816 (by decide +kernel) rfl
theorem tw817 : Cond.methodLink "StereoWarModel" (155 : Nat) ({ cls := "StereoWarModel", name := "findMost", desc := "(I)V" } : Jvm.MethodName) ∈ TT := tt_at 817 (by decide +kernel) rfl
theorem tw819 : Cond.instanceMethod ({ cls := "StereoWarModel", name := "findMost", desc := "(I)V" } : Jvm.MethodName) ∈ TT := tt_at 819 (by decide +kernel) rfl
theorem tw820 : Cond.code ({ cls := "StereoWarModel", name := "findMost", desc := "(I)V" } : Jvm.MethodName) prog_10_method_33_code (9 : Nat) (none) ∈ TT := tt_at 820 (by decide +kernel) rfl
theorem tw821 : Cond.methodLink "StereoWarModel" (147 : Nat) ({ cls := "StereoWarModel", name := "leastIn", desc := "(I)I" } : Jvm.MethodName) ∈ TT := tt_at 821 (by decide +kernel) rfl
theorem tw822 : Cond.static ({ cls := "StereoWarModel", name := "leastIn", desc := "(I)I" } : Jvm.MethodName) ∈ TT := tt_at 822 (by decide +kernel) rfl
theorem tw823 : Cond.code ({ cls := "StereoWarModel", name := "leastIn", desc := "(I)I" } : Jvm.MethodName) prog_10_method_32_code (2 : Nat) (Option.some FieldType.int) ∈ TT := tt_at 823 (by decide +kernel) rfl
theorem tw824 : Cond.methodLink "StereoWarModel" (150 : Nat) ({ cls := "StereoWarModel", name := "canPair", desc := "(II)Z" } : Jvm.MethodName) ∈ TT := tt_at 824 (by decide +kernel) rfl
theorem tw826 : Cond.instanceMethod ({ cls := "StereoWarModel", name := "canPair", desc := "(II)Z" } : Jvm.MethodName) ∈ TT := tt_at 826 (by decide +kernel) rfl
theorem tw827 : Cond.code ({ cls := "StereoWarModel", name := "canPair", desc := "(II)Z" } : Jvm.MethodName) prog_10_method_31_code (4 : Nat) (Option.some FieldType.boolean) ∈ TT := tt_at 827 (by decide +kernel) rfl
theorem tw828 : Cond.methodLink "StereoWarModel" (159 : Nat) ({ cls := "StereoWarModel", name := "mateOf", desc := "(I)I" } : Jvm.MethodName) ∈ TT := tt_at 828 (by decide +kernel) rfl
theorem tw830 : Cond.instanceMethod ({ cls := "StereoWarModel", name := "mateOf", desc := "(I)I" } : Jvm.MethodName) ∈ TT := tt_at 830 (by decide +kernel) rfl
theorem tw831 : Cond.code ({ cls := "StereoWarModel", name := "mateOf", desc := "(I)I" } : Jvm.MethodName) prog_10_method_34_code (6 : Nat) (Option.some FieldType.int) ∈ TT := tt_at 831 (by decide +kernel) rfl
theorem tw832 : Cond.methodLink "StereoWarLaw" (81 : Nat) ({ cls := "StereoWarModel", name := "stood", desc := "(II)I" } : Jvm.MethodName) ∈ TT := tt_at 832 (by decide +kernel) rfl
theorem tw833 : Cond.instanceMethod ({ cls := "StereoWarModel", name := "stood", desc := "(II)I" } : Jvm.MethodName) ∈ TT := tt_at 833 (by decide +kernel) rfl
theorem tw834 : Cond.selects "StereoWarModel" ({ cls := "StereoWarModel", name := "stood", desc := "(II)I" } : Jvm.MethodName) ({ cls := "StereoWarModel", name := "stood", desc := "(II)I" } : Jvm.MethodName) ∈ TT := tt_at 834 (by decide +kernel) rfl
theorem tw835 : Cond.code ({ cls := "StereoWarModel", name := "stood", desc := "(II)I" } : Jvm.MethodName) prog_10_method_37_code (5 : Nat) (Option.some FieldType.int) ∈ TT := tt_at 835 (by decide +kernel) rfl
theorem tw836 : Cond.methodLink "StereoWarModel" (162 : Nat) ({ cls := "StereoWarModel", name := "unlike", desc := "(III)I" } : Jvm.MethodName) ∈ TT := tt_at 836 (by decide +kernel) rfl
theorem tw838 : Cond.instanceMethod ({ cls := "StereoWarModel", name := "unlike", desc := "(III)I" } : Jvm.MethodName) ∈ TT := tt_at 838 (by decide +kernel) rfl
theorem tw839 : Cond.code ({ cls := "StereoWarModel", name := "unlike", desc := "(III)I" } : Jvm.MethodName) prog_10_method_36_code (6 : Nat) (Option.some FieldType.int) ∈ TT := tt_at 839 (by decide +kernel) rfl
theorem tw840 : Cond.methodLink "StereoWarLaw" (85 : Nat) ({ cls := "StereoWarModel", name := "forged", desc := "(II)I" } : Jvm.MethodName) ∈ TT := tt_at 840 (by decide +kernel) rfl
theorem tw841 : Cond.instanceMethod ({ cls := "StereoWarModel", name := "forged", desc := "(II)I" } : Jvm.MethodName) ∈ TT := tt_at 841 (by decide +kernel) rfl
theorem tw842 : Cond.selects "StereoWarModel" ({ cls := "StereoWarModel", name := "forged", desc := "(II)I" } : Jvm.MethodName) ({ cls := "StereoWarModel", name := "forged", desc := "(II)I" } : Jvm.MethodName) ∈ TT := tt_at 842 (by decide +kernel) rfl
theorem tw843 : Cond.code ({ cls := "StereoWarModel", name := "forged", desc := "(II)I" } : Jvm.MethodName) prog_10_method_38_code (7 : Nat) (Option.some FieldType.int) ∈ TT := tt_at 843 (by decide +kernel) rfl
theorem tw844 : Cond.methodLink "StereoWarLaw" (89 : Nat) ({ cls := "StereoWarModel", name := "ahead", desc := "(II)I" } : Jvm.MethodName) ∈ TT := tt_at 844 (by decide +kernel) rfl
theorem tw845 : Cond.instanceMethod ({ cls := "StereoWarModel", name := "ahead", desc := "(II)I" } : Jvm.MethodName) ∈ TT := tt_at 845 (by decide +kernel) rfl
theorem tw846 : Cond.selects "StereoWarModel" ({ cls := "StereoWarModel", name := "ahead", desc := "(II)I" } : Jvm.MethodName) ({ cls := "StereoWarModel", name := "ahead", desc := "(II)I" } : Jvm.MethodName) ∈ TT := tt_at 846 (by decide +kernel) rfl
theorem tw847 : Cond.code ({ cls := "StereoWarModel", name := "ahead", desc := "(II)I" } : Jvm.MethodName) prog_10_method_40_code (5 : Nat) (Option.some FieldType.int) ∈ TT := tt_at 847 (by decide +kernel) rfl
theorem tw848 : Cond.methodLink "StereoWarModel" (171 : Nat) ({ cls := "StereoWarModel", name := "findMinutes", desc := "(I)V" } : Jvm.MethodName) ∈ TT := tt_at 848 (by decide +kernel) rfl
theorem tw850 : Cond.instanceMethod ({ cls := "StereoWarModel", name := "findMinutes", desc := "(I)V" } : Jvm.MethodName) ∈ TT := tt_at 850 (by decide +kernel) rfl
theorem tw851 : Cond.code ({ cls := "StereoWarModel", name := "findMinutes", desc := "(I)V" } : Jvm.MethodName) prog_10_method_39_code (3 : Nat) (none) ∈ TT := tt_at 851 (by decide +kernel) rfl
theorem tw852 : Cond.methodLink "StereoWarLaw" (93 : Nat) ({ cls := "StereoWarModel", name := "missing", desc := "(III)I" } : Jvm.MethodName) ∈ TT := tt_at 852 (by decide +kernel) rfl
theorem tw853 : Cond.instanceMethod ({ cls := "StereoWarModel", name := "missing", desc := "(III)I" } : Jvm.MethodName) ∈ TT := tt_at 853 (by decide +kernel) rfl
theorem tw854 : Cond.selects "StereoWarModel" ({ cls := "StereoWarModel", name := "missing", desc := "(III)I" } : Jvm.MethodName) ({ cls := "StereoWarModel", name := "missing", desc := "(III)I" } : Jvm.MethodName) ∈ TT := tt_at 854 (by decide +kernel) rfl
theorem tw855 : Cond.code ({ cls := "StereoWarModel", name := "missing", desc := "(III)I" } : Jvm.MethodName) prog_10_method_41_code (8 : Nat) (Option.some FieldType.int) ∈ TT := tt_at 855 (by decide +kernel) rfl
theorem tw856 : Cond.constantLong "StereoWarModel" (174 : Nat) (2 : Int64) ∈ TT := tt_at 856 (by decide +kernel) rfl
theorem tw857 : Cond.methodLink "StereoWarLaw" (97 : Nat) ({ cls := "StereoWarModel", name := "eyes", desc := "()I" } : Jvm.MethodName) ∈ TT := tt_at 857 (by decide +kernel) rfl
theorem tw858 : Cond.instanceMethod ({ cls := "StereoWarModel", name := "eyes", desc := "()I" } : Jvm.MethodName) ∈ TT := tt_at 858 (by decide +kernel) rfl
theorem tw859 : Cond.selects "StereoWarModel" ({ cls := "StereoWarModel", name := "eyes", desc := "()I" } : Jvm.MethodName) ({ cls := "StereoWarModel", name := "eyes", desc := "()I" } : Jvm.MethodName) ∈ TT := tt_at 859 (by decide +kernel) rfl
theorem tw860 : Cond.code ({ cls := "StereoWarModel", name := "eyes", desc := "()I" } : Jvm.MethodName) prog_10_method_42_code (7 : Nat) (Option.some FieldType.int) ∈ TT := tt_at 860 (by decide +kernel) rfl
theorem tw861 : Cond.methodLink "StereoWarLaw" (102 : Nat) ({ cls := "StereoWarModel", name := "late", desc := "(IIIIIII)J" } : Jvm.MethodName) ∈ TT := tt_at 861 (by decide +kernel) rfl
theorem tw862 : Cond.instanceMethod ({ cls := "StereoWarModel", name := "late", desc := "(IIIIIII)J" } : Jvm.MethodName) ∈ TT := tt_at 862 (by decide +kernel) rfl
theorem tw863 : Cond.selects "StereoWarModel" ({ cls := "StereoWarModel", name := "late", desc := "(IIIIIII)J" } : Jvm.MethodName) ({ cls := "StereoWarModel", name := "late", desc := "(IIIIIII)J" } : Jvm.MethodName) ∈ TT := tt_at 863 (by decide +kernel) rfl
theorem tw864 : Cond.code ({ cls := "StereoWarModel", name := "late", desc := "(IIIIIII)J" } : Jvm.MethodName) prog_10_method_45_code (16 : Nat) (Option.some FieldType.long) ∈ TT := tt_at 864 (by decide +kernel) rfl
theorem tw865 : Cond.constantLong "StereoWarModel" (176 : Nat) (8 : Int64) ∈ TT := tt_at 865 (by decide +kernel) rfl
theorem tw866 : Cond.constantLong "StereoWarModel" (178 : Nat) (10 : Int64) ∈ TT := tt_at 866 (by decide +kernel) rfl
theorem tw867 : Cond.constantLong "StereoWarModel" (180 : Nat) (-1000000000000000002 : Int64) ∈ TT := tt_at 867 (by decide +kernel) rfl
theorem tw868 : Cond.methodLink "StereoWarModel" (182 : Nat) ({ cls := "StereoWarModel", name := "lateKind", desc := "(IIII)I" } : Jvm.MethodName) ∈ TT := tt_at 868 (by decide +kernel) rfl
theorem tw870 : Cond.instanceMethod ({ cls := "StereoWarModel", name := "lateKind", desc := "(IIII)I" } : Jvm.MethodName) ∈ TT := tt_at 870 (by decide +kernel) rfl
theorem tw871 : Cond.code ({ cls := "StereoWarModel", name := "lateKind", desc := "(IIII)I" } : Jvm.MethodName) prog_10_method_44_code (11 : Nat) (Option.some FieldType.int) ∈ TT := tt_at 871 (by decide +kernel) rfl
theorem tw872 : Cond.methodLink "StereoWarModel" (186 : Nat) ({ cls := "StereoWarModel", name := "lowest", desc := "(JJI)J" } : Jvm.MethodName) ∈ TT := tt_at 872 (by decide +kernel) rfl
theorem tw873 : Cond.static ({ cls := "StereoWarModel", name := "lowest", desc := "(JJI)J" } : Jvm.MethodName) ∈ TT := tt_at 873 (by decide +kernel) rfl
theorem tw874 : Cond.code ({ cls := "StereoWarModel", name := "lowest", desc := "(JJI)J" } : Jvm.MethodName) prog_10_method_43_code (11 : Nat) (Option.some FieldType.long) ∈ TT := tt_at 874 (by decide +kernel) rfl
theorem tw875 : Cond.methodLink "StereoWarLaw" (106 : Nat) ({ cls := "StereoWarModel", name := "past", desc := "(III)I" } : Jvm.MethodName) ∈ TT := tt_at 875 (by decide +kernel) rfl
theorem tw876 : Cond.instanceMethod ({ cls := "StereoWarModel", name := "past", desc := "(III)I" } : Jvm.MethodName) ∈ TT := tt_at 876 (by decide +kernel) rfl
theorem tw877 : Cond.selects "StereoWarModel" ({ cls := "StereoWarModel", name := "past", desc := "(III)I" } : Jvm.MethodName) ({ cls := "StereoWarModel", name := "past", desc := "(III)I" } : Jvm.MethodName) ∈ TT := tt_at 877 (by decide +kernel) rfl
theorem tw878 : Cond.code ({ cls := "StereoWarModel", name := "past", desc := "(III)I" } : Jvm.MethodName) prog_10_method_46_code (8 : Nat) (Option.some FieldType.int) ∈ TT := tt_at 878 (by decide +kernel) rfl
theorem tw879 : Cond.methodLink "StereoWarLaw" (110 : Nat) ({ cls := "StereoWarModel", name := "best", desc := "(II)I" } : Jvm.MethodName) ∈ TT := tt_at 879 (by decide +kernel) rfl
theorem tw880 : Cond.instanceMethod ({ cls := "StereoWarModel", name := "best", desc := "(II)I" } : Jvm.MethodName) ∈ TT := tt_at 880 (by decide +kernel) rfl
theorem tw881 : Cond.selects "StereoWarModel" ({ cls := "StereoWarModel", name := "best", desc := "(II)I" } : Jvm.MethodName) ({ cls := "StereoWarModel", name := "best", desc := "(II)I" } : Jvm.MethodName) ∈ TT := tt_at 881 (by decide +kernel) rfl
theorem tw882 : Cond.code ({ cls := "StereoWarModel", name := "best", desc := "(II)I" } : Jvm.MethodName) prog_10_method_48_code (5 : Nat) (Option.some FieldType.int) ∈ TT := tt_at 882 (by decide +kernel) rfl
theorem tw883 : Cond.methodLink "StereoWarModel" (190 : Nat) ({ cls := "StereoWarModel", name := "shownFrom", desc := "(II)I" } : Jvm.MethodName) ∈ TT := tt_at 883 (by decide +kernel) rfl
theorem tw885 : Cond.instanceMethod ({ cls := "StereoWarModel", name := "shownFrom", desc := "(II)I" } : Jvm.MethodName) ∈ TT := tt_at 885 (by decide +kernel) rfl
theorem tw886 : Cond.code ({ cls := "StereoWarModel", name := "shownFrom", desc := "(II)I" } : Jvm.MethodName) prog_10_method_47_code (5 : Nat) (Option.some FieldType.int) ∈ TT := tt_at 886 (by decide +kernel) rfl
theorem tw887 : Cond.methodLink "StereoWarLaw" (114 : Nat) ({ cls := "StereoWarModel", name := "year", desc := "(III)I" } : Jvm.MethodName) ∈ TT := tt_at 887 (by decide +kernel) rfl
theorem tw888 : Cond.instanceMethod ({ cls := "StereoWarModel", name := "year", desc := "(III)I" } : Jvm.MethodName) ∈ TT := tt_at 888 (by decide +kernel) rfl
theorem tw889 : Cond.selects "StereoWarModel" ({ cls := "StereoWarModel", name := "year", desc := "(III)I" } : Jvm.MethodName) ({ cls := "StereoWarModel", name := "year", desc := "(III)I" } : Jvm.MethodName) ∈ TT := tt_at 889 (by decide +kernel) rfl
theorem tw890 : Cond.code ({ cls := "StereoWarModel", name := "year", desc := "(III)I" } : Jvm.MethodName) prog_10_method_49_code (9 : Nat) (Option.some FieldType.int) ∈ TT := tt_at 890 (by decide +kernel) rfl
theorem tw891 : Cond.constantLong "StereoWarModel" (193 : Nat) (9999 : Int64) ∈ TT := tt_at 891 (by decide +kernel) rfl
theorem tw892 : Cond.constantLong "StereoWarModel" (195 : Nat) (75 : Int64) ∈ TT := tt_at 892 (by decide +kernel) rfl
theorem tw893 : Cond.constantLong "StereoWarModel" (197 : Nat) (74 : Int64) ∈ TT := tt_at 893 (by decide +kernel) rfl
theorem tw894 : Cond.constantLong "StereoWarModel" (199 : Nat) (65537 : Int64) ∈ TT := tt_at 894 (by decide +kernel) rfl
theorem tw895 : Cond.methodLink "StereoWarLaw" (118 : Nat) ({ cls := "StereoWarModel", name := "image", desc := "(I)I" } : Jvm.MethodName) ∈ TT := tt_at 895 (by decide +kernel) rfl
theorem tw896 : Cond.instanceMethod ({ cls := "StereoWarModel", name := "image", desc := "(I)I" } : Jvm.MethodName) ∈ TT := tt_at 896 (by decide +kernel) rfl
theorem tw897 : Cond.selects "StereoWarModel" ({ cls := "StereoWarModel", name := "image", desc := "(I)I" } : Jvm.MethodName) ({ cls := "StereoWarModel", name := "image", desc := "(I)I" } : Jvm.MethodName) ∈ TT := tt_at 897 (by decide +kernel) rfl
theorem tw898 : Cond.code ({ cls := "StereoWarModel", name := "image", desc := "(I)I" } : Jvm.MethodName) prog_10_method_52_code (2 : Nat) (Option.some FieldType.int) ∈ TT := tt_at 898 (by decide +kernel) rfl
theorem tw899 : Cond.methodLink "StereoWarModel" (211 : Nat) ({ cls := "StereoWarModel", name := "passAll", desc := "()V" } : Jvm.MethodName) ∈ TT := tt_at 899 (by decide +kernel) rfl
theorem tw901 : Cond.instanceMethod ({ cls := "StereoWarModel", name := "passAll", desc := "()V" } : Jvm.MethodName) ∈ TT := tt_at 901 (by decide +kernel) rfl
theorem tw902 : Cond.code ({ cls := "StereoWarModel", name := "passAll", desc := "()V" } : Jvm.MethodName) prog_10_method_51_code (2 : Nat) (none) ∈ TT := tt_at 902 (by decide +kernel) rfl
theorem tw903 : Cond.methodLink "StereoWarModel" (208 : Nat) ({ cls := "StereoWarModel", name := "pass", desc := "(I)I" } : Jvm.MethodName) ∈ TT := tt_at 903 (by decide +kernel) rfl
theorem tw905 : Cond.instanceMethod ({ cls := "StereoWarModel", name := "pass", desc := "(I)I" } : Jvm.MethodName) ∈ TT := tt_at 905 (by decide +kernel) rfl
theorem tw906 : Cond.code ({ cls := "StereoWarModel", name := "pass", desc := "(I)I" } : Jvm.MethodName) prog_10_method_50_code (3 : Nat) (Option.some FieldType.int) ∈ TT := tt_at 906 (by decide +kernel) rfl
theorem tw907 : Cond.methodLink "StereoWarLaw" (122 : Nat) ({ cls := "StereoWarModel", name := "restore", desc := "(I)I" } : Jvm.MethodName) ∈ TT := tt_at 907 (by decide +kernel) rfl
theorem tw908 : Cond.instanceMethod ({ cls := "StereoWarModel", name := "restore", desc := "(I)I" } : Jvm.MethodName) ∈ TT := tt_at 908 (by decide +kernel) rfl
theorem tw909 : Cond.selects "StereoWarModel" ({ cls := "StereoWarModel", name := "restore", desc := "(I)I" } : Jvm.MethodName) ({ cls := "StereoWarModel", name := "restore", desc := "(I)I" } : Jvm.MethodName) ∈ TT := tt_at 909 (by decide +kernel) rfl
theorem tw910 : Cond.code ({ cls := "StereoWarModel", name := "restore", desc := "(I)I" } : Jvm.MethodName) prog_10_method_53_code (2 : Nat) (Option.some FieldType.int) ∈ TT := tt_at 910 (by decide +kernel) rfl
theorem tw911 : Cond.methodLink "StereoWarLaw" (126 : Nat) ({ cls := "StereoWarModel", name := "told", desc := "(I)I" } : Jvm.MethodName) ∈ TT := tt_at 911 (by decide +kernel) rfl
theorem tw912 : Cond.instanceMethod ({ cls := "StereoWarModel", name := "told", desc := "(I)I" } : Jvm.MethodName) ∈ TT := tt_at 912 (by decide +kernel) rfl
theorem tw913 : Cond.selects "StereoWarModel" ({ cls := "StereoWarModel", name := "told", desc := "(I)I" } : Jvm.MethodName) ({ cls := "StereoWarModel", name := "told", desc := "(I)I" } : Jvm.MethodName) ∈ TT := tt_at 913 (by decide +kernel) rfl
theorem tw914 : Cond.code ({ cls := "StereoWarModel", name := "told", desc := "(I)I" } : Jvm.MethodName) prog_10_method_55_code (4 : Nat) (Option.some FieldType.int) ∈ TT := tt_at 914 (by decide +kernel) rfl
theorem tw915 : Cond.constantLong "StereoWarModel" (214 : Nat) (100 : Int64) ∈ TT := tt_at 915 (by decide +kernel) rfl
theorem tw916 : Cond.constantLong "StereoWarModel" (216 : Nat) (1099 : Int64) ∈ TT := tt_at 916 (by decide +kernel) rfl
theorem tw917 : Cond.constantLong "StereoWarModel" (218 : Nat) (69 : Int64) ∈ TT := tt_at 917 (by decide +kernel) rfl
theorem tw918 : Cond.methodLink "StereoWarModel" (220 : Nat) ({ cls := "StereoWarModel", name := "toldOfThing", desc := "(II)I" } : Jvm.MethodName) ∈ TT := tt_at 918 (by decide +kernel) rfl
theorem tw920 : Cond.instanceMethod ({ cls := "StereoWarModel", name := "toldOfThing", desc := "(II)I" } : Jvm.MethodName) ∈ TT := tt_at 920 (by decide +kernel) rfl
theorem tw921 : Cond.code ({ cls := "StereoWarModel", name := "toldOfThing", desc := "(II)I" } : Jvm.MethodName) prog_10_method_54_code (3 : Nat) (Option.some FieldType.int) ∈ TT := tt_at 921 (by decide +kernel) rfl
theorem inX0 : ∀ w ∈ u_ws RX0 TX0 2, w ∈ TT := fun w h => List.mem_filter.mpr ⟨(by decide +kernel : ∀ w ∈ u_ws RX0 TX0 2, w ∈ lw_tbl) w h, List.all_eq_true.mp (by decide +kernel : (u_ws RX0 TX0 2).all goodWord = true) w h⟩
theorem inX1 : ∀ w ∈ u_ws RX1 TX1 6, w ∈ TT := fun w h => List.mem_filter.mpr ⟨(by decide +kernel : ∀ w ∈ u_ws RX1 TX1 6, w ∈ lw_tbl) w h, List.all_eq_true.mp (by decide +kernel : (u_ws RX1 TX1 6).all goodWord = true) w h⟩
theorem inX2 : ∀ w ∈ u_ws RX2 TX2 2, w ∈ TT := fun w h => List.mem_filter.mpr ⟨(by decide +kernel : ∀ w ∈ u_ws RX2 TX2 2, w ∈ lw_tbl) w h, List.all_eq_true.mp (by decide +kernel : (u_ws RX2 TX2 2).all goodWord = true) w h⟩
theorem inX3 : ∀ w ∈ u_ws RX3 TX3 3, w ∈ TT := fun w h => List.mem_filter.mpr ⟨(by decide +kernel : ∀ w ∈ u_ws RX3 TX3 3, w ∈ lw_tbl) w h, List.all_eq_true.mp (by decide +kernel : (u_ws RX3 TX3 3).all goodWord = true) w h⟩
theorem inX5 : ∀ w ∈ u_ws RX5 TX5 1, w ∈ TT := fun w h => List.mem_filter.mpr ⟨(by decide +kernel : ∀ w ∈ u_ws RX5 TX5 1, w ∈ lw_tbl) w h, List.all_eq_true.mp (by decide +kernel : (u_ws RX5 TX5 1).all goodWord = true) w h⟩
theorem inX6 : ∀ w ∈ u_ws RX6 TX6 4, w ∈ TT := fun w h => List.mem_filter.mpr ⟨(by decide +kernel : ∀ w ∈ u_ws RX6 TX6 4, w ∈ lw_tbl) w h, List.all_eq_true.mp (by decide +kernel : (u_ws RX6 TX6 4).all goodWord = true) w h⟩
theorem inX7 : ∀ w ∈ u_ws RX7 TX7 8, w ∈ TT := fun w h => List.mem_filter.mpr ⟨(by decide +kernel : ∀ w ∈ u_ws RX7 TX7 8, w ∈ lw_tbl) w h, List.all_eq_true.mp (by decide +kernel : (u_ws RX7 TX7 8).all goodWord = true) w h⟩
theorem inX8 : ∀ w ∈ u_ws RX8 TX8 24, w ∈ TT := fun w h => List.mem_filter.mpr ⟨(by decide +kernel : ∀ w ∈ u_ws RX8 TX8 24, w ∈ lw_tbl) w h, List.all_eq_true.mp (by decide +kernel : (u_ws RX8 TX8 24).all goodWord = true) w h⟩
end
section
/-! ===== the calculus: a world of numbered cells; SX: the machine at a place of a method, whatever the heap that holds the world ===== -/
def wl (N : Nat) (adr : Nat → Nat) (G : Nat → va_E) : va_W := (List.range N).map (fun k => (adr k, G k))
theorem wl_at {N : Nat} {adr : Nat → Nat} {G : Nat → va_E} {k : Nat} (h : k < N) : (wl N adr G)[k]? = some (adr k, G k) := by
  simp [wl, h]
theorem wl_get {N : Nat} {adr : Nat → Nat} {G : Nat → va_E} {k : Nat} {e : va_E} (h : k < N) (hg : G k = e) : (wl N adr G)[k]? = some (adr k, e) := by
  rw [wl_at h, hg]
theorem wl_set {N : Nat} {adr : Nat → Nat} {G : Nat → va_E} {k : Nat} {e : va_E} : (wl N adr G).set k (adr k, e) = wl N adr (va_up G k e) := by
  apply List.ext_getElem?
  intro i
  by_cases hi : i < N
  · by_cases hk : k = i
    · subst hk
      simp [wl, va_up, hi]
    · have h2 : ¬ i = k := fun q => hk q.symm
      simp [wl, va_up, hi, List.getElem?_set, hk, h2]
  · simp [wl, hi, List.getElem?_set]
theorem wl_push {N : Nat} {adr : Nat → Nat} {G : Nat → va_E} {q : Nat} {e : va_E} : wl N adr G ++ [(q, e)] = wl (N + 1) (va_up adr N q) (va_up G N e) := by
  simp only [wl, List.range_succ, List.map_append, List.map_cons, List.map_nil]
  congr 1
  · apply List.map_congr_left
    intro i hi
    have h : i ≠ N := Nat.ne_of_lt (List.mem_range.mp hi)
    simp [va_up, h]
  · simp [va_up]
abbrev tyW (D : va_G) : List (ClassId × FieldType) := [(D.1 100, .int), (D.1 101, .long), (D.1 102, .boolean), (D.1 103, .object RX2), (D.1 104, .object RX3), (D.1 105, .object RX6)]
abbrev GT : Type := Program × Launch × Env × Room × State × MethodId × Array Value × List Frame × Method × Code × va_G × (Nat → Prop) × (State → Prop) × Nat
abbrev PT : Type := Option Value → Nat → (Nat → Nat) → (Nat → va_E) → Prop
def SX (Γ : GT) (ce sl pc : Nat) (lv : List (Nat × Value)) (st : List Value) (N : Nat) (adr : Nat → Nat) (G : Nat → va_E) : Prop := match Γ with
  | (p, l, e, R, s, m, args, below, meth, c, D, A, Q, nL) => ∀ (H : Heap) (locs : List Loc) (ls : Array Slot), va_P D vwCl (wl N adr G) H → va_D A (wl N adr G) → va_S A s.heap H locs → lv_has ls nL lv → W p l e R s m args below meth c H locs ce sl Q (F0 m pc ls st)
def cx (l0 : Launch) (D0 : va_G) (R0 : Room) (own : String) (cc : ByteArray) (n0 : Nat) (Γ : GT) : Prop := match Γ with
  | (p, l, _, R, s, m, args, _, meth, c, D, A, _, nL) => l = l0 ∧ D = D0 ∧ R = R0 ∧ nL = n0 ∧ p.tables.exec = Jvm.exec ∧ c.code = cc ∧ c.maxLocals = nL ∧ s.vm.findClass own = some m.cls ∧ (∀ w ∈ TT, w.before args s = true) ∧ (∀ w ∈ NW, va_Nw w s) ∧ va_K D vwCl (tyW D) s ∧ (∀ q, s.heap.size ≤ q → A q) ∧ meth.locks = false
def QP (P : PT) (D : va_G) (A : Nat → Prop) : Array Value → State → Outcome → State → Prop := fun _ st oc t => (∃ (v : Option Value) (N : Nat) (adr : Nat → Nat) (G : Nat → va_E), oc = .returned v ∧ P v N adr G ∧ va_P D vwCl (wl N adr G) t.heap ∧ va_D A (wl N adr G)) ∧ va_F A st t
def ex (nm : String) (ret : Option FieldType) (P : PT) (mc ms : Nat) (Γ : GT) : Prop := match Γ with
  | (_, _, _, _, s, _, args, below, meth, _, D, A, Q, _) => meth.name = nm ∧ meth.sig.returnType = ret ∧ Q = MQ below (QP P D A) args s mc ms A
def kk (D : va_G) (U : State) : Prop := va_K D vwCl (tyW D) U ∧ ∀ w ∈ NW, va_Nw w U
def CT (l : Launch) (D : va_G) (y : MethodName) (bs : ByteArray) (nL : Nat) (ret : Option FieldType) (rm : Room) (av : List Value) (N : Nat) (adr : Nat → Nat) (G : Nat → va_E) (P : PT) : Prop :=
  ∀ sz : Nat, Met l y (.code y bs nL ret :: TT) rm (va_Pc av (fun U => U.heap.size = sz ∧ va_P D vwCl (wl N adr G) U.heap ∧ kk D U ∧ va_D (fun _ => True) (wl N adr G))) (QP P D (va_A (wl N adr G) sz)) rm.cells rm.slots (va_A (wl N adr G) sz)
theorem nw_warm {w : Cond} (hi : isNW w = true) {s U : State} (hW : s.WarmedH U.vm) (h : va_Nw w s) : va_Nw w U := by
  unfold isNW at hi
  split at hi
  · exact va_Nw.warmF hW h
  · exact va_Nw.warmM hW h
  · exact va_AO.moved hW.alike h
  · cases hi
theorem nw_is {w : Cond} (h : w ∈ NW) : isNW w = true := (List.mem_filter.mp h).2
theorem kk_warm {D : va_G} {s U : State} (hW : s.WarmedH U.vm) (h : va_K D vwCl (tyW D) s) (hn : ∀ w ∈ NW, va_Nw w s) : kk D U := ⟨va_K.moved hW.alike h, fun w hw => nw_warm (nw_is hw) hW (hn w hw)⟩
theorem tt_good {y : MethodName} {bs : ByteArray} {nL : Nat} {ret : Option FieldType} (hc : Cond.code y bs nL ret ∈ TT) : GoodIn TT (.code y bs nL ret :: TT) := by
  intro w hw
  have h : w ∈ TT := (List.mem_cons.mp hw).elim (fun e => by rw [e]; exact hc) id
  exact ⟨h, good_of_word (List.mem_filter.mp h).2⟩
/-- a contract out of a walk -/
theorem CT.of {l : Launch} {D : va_G} {y : MethodName} {bs : ByteArray} {nL : Nat} {ret : Option FieldType} {rm : Room} {av : List Value} {N : Nat} {adr : Nat → Nat} {G : Nat → va_E} {P : PT} (hy : plainName y.cls = true) (hlen : (lg_sl av).length ≤ nL)
    (body : ∀ Γ : GT, cx l D rm y.cls bs nL Γ → ex y.name ret P rm.cells rm.slots Γ → SX Γ 0 0 0 (lv_args 0 av) [] N adr G) : CT l D y bs nL ret rm av N adr G P := by
  intro sz
  refine Met.ofW (cc := bs) (maxL := nL) (ret := ret) hy rfl ?_
  intro p e s m args below meth c s₁ B hml hv
  obtain ⟨rfl, hsz, hP, hK, hD0⟩ := hv
  have hts := atoms_spec (ws := Cond.code y bs nL ret :: TT) B.pre
  have hown : s.vm.findClass y.cls = some m.cls := findClass_of_methodNamed B.named
  have hnm : meth.name = y.name := (name_of_methodNamed B.named B.method).1
  subst hsz
  have hD := hD0.self (sz := s.heap.size)
  have hb := body (p, l, e, rm, s, m, av.toArray, below, meth, c, D, va_A (wl N adr G) s.heap.size, MQ below (QP P D (va_A (wl N adr G) s.heap.size)) av.toArray s rm.cells rm.slots (va_A (wl N adr G) s.heap.size), nL)
    ⟨rfl, rfl, rfl, rfl, B.exec, B.bytes, hml, hown, fun w hw => hts w (List.mem_cons_of_mem _ hw), hK.2, hK.1, fun q h => Or.inr h, B.notSynchronized⟩ ⟨hnm, B.returns, rfl⟩
  have hl := lv_entry av (n := nL) hlen
  rw [lg_entry_eq]
  exact hb s.heap [] _ hP hD va_S.rf hl
/-- locals, by their numbers -/
def lgt : List (Nat × Value) → Nat → Option Value
  | [], _ => none
  | q :: r, i => match Nat.beq q.1 i with
    | true => some q.2
    | false => lgt r i
theorem lgt_mem : ∀ {lv : List (Nat × Value)} {i : Nat} {v : Value}, lgt lv i = some v → (i, v) ∈ lv
  | [], i, v, h => by cases h
  | q :: r, i, v, h => by
    unfold lgt at h
    split at h
    · rename_i hq
      have h1 : q.1 = i := Nat.eq_of_beq_eq_true hq
      have h2 : q.2 = v := Option.some.inj h
      rw [← h1, ← h2]
      exact List.mem_cons_self
    · exact List.mem_cons_of_mem _ (lgt_mem h)
theorem lgt_at {lv : List (Nat × Value)} {ls : Array Slot} {nL i : Nat} {v : Value} (h : lv_has ls nL lv) (hi : lgt lv i = some v) : ls[i]? = some (.val v) := h.2.2 (i, v) (lgt_mem hi)
def lset (lv : List (Nat × Value)) (i : Nat) (v : Value) : List (Nat × Value) := (i, v) :: lv.filter (fun q => !(q.1 == i) && !(q.1 + 1 == i && q.2.category == 2))
def lsetL (lv : List (Nat × Value)) (i : Nat) (v : Value) : List (Nat × Value) := (i, v) :: lv.filter (fun q => !(q.1 == i) && (!(q.1 == i + 1) && !(q.1 + 1 == i && q.2.category == 2)))
def lall (lv : List (Nat × Value)) : List (Nat × Value) → Prop
  | [] => True
  | q :: r => lgt lv q.1 = some q.2 ∧ lall lv r
theorem lall_mem {lv : List (Nat × Value)} : ∀ {lv2 : List (Nat × Value)}, lall lv lv2 → ∀ q ∈ lv2, q ∈ lv
  | [], _, q, hq => by cases hq
  | a :: r, h, q, hq => by
    rcases List.mem_cons.mp hq with rfl | hq
    · exact lgt_mem h.1
    · exact lall_mem h.2 q hq
/-- the same place with fewer locals, or in another order -/
theorem SX.loc {Γ : GT} {ce sl pc : Nat} {lv lv2 : List (Nat × Value)} {st : List Value} {N : Nat} {adr : Nat → Nat} {G : Nat → va_E} (k : SX Γ ce sl pc lv2 st N adr G) (h : lall lv lv2) : SX Γ ce sl pc lv st N adr G := by
  obtain ⟨p, l, e, R, s, m, args, below, meth, c, D, A, Q, nL⟩ := Γ
  intro H locs ls hP hD hS hl
  exact k H locs ls hP hD hS ⟨hl.1, hl.2.1, fun q hq => hl.2.2 q (lall_mem h q hq)⟩
/-- the same place with the world told by an equal one -/
theorem SX.wide {Γ : GT} {ce sl ce2 sl2 pc : Nat} {lv : List (Nat × Value)} {st : List Value} {N : Nat} {adr : Nat → Nat} {G : Nat → va_E} (h1 : ce ≤ ce2) (h2 : sl ≤ sl2) (k : SX Γ ce2 sl2 pc lv st N adr G) : SX Γ ce sl pc lv st N adr G := by
  obtain ⟨p, l, e, R, s, m, args, below, meth, c, D, A, Q, nL⟩ := Γ
  intro H locs ls hP hD hS hl
  exact W.widen h1 h2 (k H locs ls hP hD hS hl)

theorem s_iconst {l : Launch} {D : va_G} {R : Room} {own : String} {cc : ByteArray} {nL : Nat} {Γ : GT} {ce sl pc : Nat} {lv : List (Nat × Value)} {st : List Value} {N : Nat} {adr : Nat → Nat} {G : Nat → va_E} {n : Int} {v : Int32} (h : cx l D R own cc nL Γ) (d : decode cc pc = .ok (.iconst n, 1)) (hv : Int32.ofInt n = v) (k : SX Γ ce sl (pc + 1) lv (.int v :: st) N adr G) : SX Γ ce sl pc lv st N adr G := by
  obtain ⟨p, l', e, R', s, m, args, below, meth, c, D', A, Q, nL'⟩ := Γ
  obtain ⟨rfl, rfl, rfl, rfl, hx, hb, hml, hown, hts, hnw, hK, hA, hlk⟩ := h
  intro H locs ls hP hD hS hl
  exact lv_iconst hx hb d hv (k H locs ls hP hD hS hl)
theorem s_bipush {l : Launch} {D : va_G} {R : Room} {own : String} {cc : ByteArray} {nL : Nat} {Γ : GT} {ce sl pc : Nat} {lv : List (Nat × Value)} {st : List Value} {N : Nat} {adr : Nat → Nat} {G : Nat → va_E} {n : Int} {v : Int32} (h : cx l D R own cc nL Γ) (d : decode cc pc = .ok (.bipush n, 2)) (hv : (Int8.ofInt n).toInt32 = v) (k : SX Γ ce sl (pc + 2) lv (.int v :: st) N adr G) : SX Γ ce sl pc lv st N adr G := by
  obtain ⟨p, l', e, R', s, m, args, below, meth, c, D', A, Q, nL'⟩ := Γ
  obtain ⟨rfl, rfl, rfl, rfl, hx, hb, hml, hown, hts, hnw, hK, hA, hlk⟩ := h
  intro H locs ls hP hD hS hl
  exact lv_bipush hx hb d hv (k H locs ls hP hD hS hl)
theorem s_sipush {l : Launch} {D : va_G} {R : Room} {own : String} {cc : ByteArray} {nL : Nat} {Γ : GT} {ce sl pc : Nat} {lv : List (Nat × Value)} {st : List Value} {N : Nat} {adr : Nat → Nat} {G : Nat → va_E} {n : Int} {v : Int32} (h : cx l D R own cc nL Γ) (d : decode cc pc = .ok (.sipush n, 3)) (hv : (Int16.ofInt n).toInt32 = v) (k : SX Γ ce sl (pc + 3) lv (.int v :: st) N adr G) : SX Γ ce sl pc lv st N adr G := by
  obtain ⟨p, l', e, R', s, m, args, below, meth, c, D', A, Q, nL'⟩ := Γ
  obtain ⟨rfl, rfl, rfl, rfl, hx, hb, hml, hown, hts, hnw, hK, hA, hlk⟩ := h
  intro H locs ls hP hD hS hl
  exact lv_sipush hx hb d hv (k H locs ls hP hD hS hl)
theorem s_lconst {l : Launch} {D : va_G} {R : Room} {own : String} {cc : ByteArray} {nL : Nat} {Γ : GT} {ce sl pc : Nat} {lv : List (Nat × Value)} {st : List Value} {N : Nat} {adr : Nat → Nat} {G : Nat → va_E} {n : Fin 2} {v : Int64} (h : cx l D R own cc nL Γ) (d : decode cc pc = .ok (.lconst n, 1)) (hv : Int64.ofNat (n : Nat) = v) (k : SX Γ ce sl (pc + 1) lv (.long v :: st) N adr G) : SX Γ ce sl pc lv st N adr G := by
  obtain ⟨p, l', e, R', s, m, args, below, meth, c, D', A, Q, nL'⟩ := Γ
  obtain ⟨rfl, rfl, rfl, rfl, hx, hb, hml, hown, hts, hnw, hK, hA, hlk⟩ := h
  intro H locs ls hP hD hS hl
  exact lv_lconst hx hb d hv (k H locs ls hP hD hS hl)
theorem s_null {l : Launch} {D : va_G} {R : Room} {own : String} {cc : ByteArray} {nL : Nat} {Γ : GT} {ce sl pc : Nat} {lv : List (Nat × Value)} {st : List Value} {N : Nat} {adr : Nat → Nat} {G : Nat → va_E}  (h : cx l D R own cc nL Γ) (d : decode cc pc = .ok (.aconst_null, 1)) (k : SX Γ ce sl (pc + 1) lv (.null :: st) N adr G) : SX Γ ce sl pc lv st N adr G := by
  obtain ⟨p, l', e, R', s, m, args, below, meth, c, D', A, Q, nL'⟩ := Γ
  obtain ⟨rfl, rfl, rfl, rfl, hx, hb, hml, hown, hts, hnw, hK, hA, hlk⟩ := h
  intro H locs ls hP hD hS hl
  exact lv_null hx hb d (k H locs ls hP hD hS hl)
theorem s_ldc {l : Launch} {D : va_G} {R : Room} {own : String} {cc : ByteArray} {nL : Nat} {Γ : GT} {ce sl pc : Nat} {lv : List (Nat × Value)} {st : List Value} {N : Nat} {adr : Nat → Nat} {G : Nat → va_E} {index : Nat} {v : Int32} (h : cx l D R own cc nL Γ) (d : decode cc pc = .ok (.ldc index, 2)) (hw : Cond.constant own index v ∈ TT) (k : SX Γ ce sl (pc + 2) lv (.int v :: st) N adr G) : SX Γ ce sl pc lv st N adr G := by
  obtain ⟨p, l', e, R', s, m, args, below, meth, c, D', A, Q, nL'⟩ := Γ
  obtain ⟨rfl, rfl, rfl, rfl, hx, hb, hml, hown, hts, hnw, hK, hA, hlk⟩ := h
  intro H locs ls hP hD hS hl
  exact lv_ldc hx hb hown (hts _ hw) d (k H locs ls hP hD hS hl)
theorem s_ldc_w {l : Launch} {D : va_G} {R : Room} {own : String} {cc : ByteArray} {nL : Nat} {Γ : GT} {ce sl pc : Nat} {lv : List (Nat × Value)} {st : List Value} {N : Nat} {adr : Nat → Nat} {G : Nat → va_E} {index : Nat} {v : Int32} (h : cx l D R own cc nL Γ) (d : decode cc pc = .ok (.ldc_w index, 3)) (hw : Cond.constant own index v ∈ TT) (k : SX Γ ce sl (pc + 3) lv (.int v :: st) N adr G) : SX Γ ce sl pc lv st N adr G := by
  obtain ⟨p, l', e, R', s, m, args, below, meth, c, D', A, Q, nL'⟩ := Γ
  obtain ⟨rfl, rfl, rfl, rfl, hx, hb, hml, hown, hts, hnw, hK, hA, hlk⟩ := h
  intro H locs ls hP hD hS hl
  exact lv_ldcw hx hb hown (hts _ hw) d (k H locs ls hP hD hS hl)
theorem s_ldc2 {l : Launch} {D : va_G} {R : Room} {own : String} {cc : ByteArray} {nL : Nat} {Γ : GT} {ce sl pc : Nat} {lv : List (Nat × Value)} {st : List Value} {N : Nat} {adr : Nat → Nat} {G : Nat → va_E} {index : Nat} {v : Int64} (h : cx l D R own cc nL Γ) (d : decode cc pc = .ok (.ldc2_w index, 3)) (hw : Cond.constantLong own index v ∈ TT) (k : SX Γ ce sl (pc + 3) lv (.long v :: st) N adr G) : SX Γ ce sl pc lv st N adr G := by
  obtain ⟨p, l', e, R', s, m, args, below, meth, c, D', A, Q, nL'⟩ := Γ
  obtain ⟨rfl, rfl, rfl, rfl, hx, hb, hml, hown, hts, hnw, hK, hA, hlk⟩ := h
  intro H locs ls hP hD hS hl
  exact lv_ldc2 hx hb hown (hts _ hw) d (k H locs ls hP hD hS hl)
theorem s_iload_n {l : Launch} {D : va_G} {R : Room} {own : String} {cc : ByteArray} {nL : Nat} {Γ : GT} {ce sl pc : Nat} {lv : List (Nat × Value)} {st : List Value} {N : Nat} {adr : Nat → Nat} {G : Nat → va_E} {i : Fin 4} {x : Int32} (h : cx l D R own cc nL Γ) (d : decode cc pc = .ok (.iload_n i, 1)) (hi : lgt lv (i : Nat) = some (.int x)) (k : SX Γ ce sl (pc + 1) lv (.int x :: st) N adr G) : SX Γ ce sl pc lv st N adr G := by
  obtain ⟨p, l', e, R', s, m, args, below, meth, c, D', A, Q, nL'⟩ := Γ
  obtain ⟨rfl, rfl, rfl, rfl, hx, hb, hml, hown, hts, hnw, hK, hA, hlk⟩ := h
  intro H locs ls hP hD hS hl
  exact lv_iload_n hx hb d rfl (lgt_at hl hi) (k H locs ls hP hD hS hl)
theorem s_iload {l : Launch} {D : va_G} {R : Room} {own : String} {cc : ByteArray} {nL : Nat} {Γ : GT} {ce sl pc : Nat} {lv : List (Nat × Value)} {st : List Value} {N : Nat} {adr : Nat → Nat} {G : Nat → va_E} {i : Nat} {x : Int32} (h : cx l D R own cc nL Γ) (d : decode cc pc = .ok (.iload i, 2)) (hi : lgt lv i = some (.int x)) (k : SX Γ ce sl (pc + 2) lv (.int x :: st) N adr G) : SX Γ ce sl pc lv st N adr G := by
  obtain ⟨p, l', e, R', s, m, args, below, meth, c, D', A, Q, nL'⟩ := Γ
  obtain ⟨rfl, rfl, rfl, rfl, hx, hb, hml, hown, hts, hnw, hK, hA, hlk⟩ := h
  intro H locs ls hP hD hS hl
  exact lv_iload hx hb d (lgt_at hl hi) (k H locs ls hP hD hS hl)
theorem s_lload_n {l : Launch} {D : va_G} {R : Room} {own : String} {cc : ByteArray} {nL : Nat} {Γ : GT} {ce sl pc : Nat} {lv : List (Nat × Value)} {st : List Value} {N : Nat} {adr : Nat → Nat} {G : Nat → va_E} {i : Fin 4} {x : Int64} (h : cx l D R own cc nL Γ) (d : decode cc pc = .ok (.lload_n i, 1)) (hi : lgt lv (i : Nat) = some (.long x)) (k : SX Γ ce sl (pc + 1) lv (.long x :: st) N adr G) : SX Γ ce sl pc lv st N adr G := by
  obtain ⟨p, l', e, R', s, m, args, below, meth, c, D', A, Q, nL'⟩ := Γ
  obtain ⟨rfl, rfl, rfl, rfl, hx, hb, hml, hown, hts, hnw, hK, hA, hlk⟩ := h
  intro H locs ls hP hD hS hl
  exact lv_lload_n hx hb d rfl (lgt_at hl hi) (k H locs ls hP hD hS hl)
theorem s_lload {l : Launch} {D : va_G} {R : Room} {own : String} {cc : ByteArray} {nL : Nat} {Γ : GT} {ce sl pc : Nat} {lv : List (Nat × Value)} {st : List Value} {N : Nat} {adr : Nat → Nat} {G : Nat → va_E} {i : Nat} {x : Int64} (h : cx l D R own cc nL Γ) (d : decode cc pc = .ok (.lload i, 2)) (hi : lgt lv i = some (.long x)) (k : SX Γ ce sl (pc + 2) lv (.long x :: st) N adr G) : SX Γ ce sl pc lv st N adr G := by
  obtain ⟨p, l', e, R', s, m, args, below, meth, c, D', A, Q, nL'⟩ := Γ
  obtain ⟨rfl, rfl, rfl, rfl, hx, hb, hml, hown, hts, hnw, hK, hA, hlk⟩ := h
  intro H locs ls hP hD hS hl
  exact lv_lload hx hb d (lgt_at hl hi) (k H locs ls hP hD hS hl)
theorem s_aload_n {l : Launch} {D : va_G} {R : Room} {own : String} {cc : ByteArray} {nL : Nat} {Γ : GT} {ce sl pc : Nat} {lv : List (Nat × Value)} {st : List Value} {N : Nat} {adr : Nat → Nat} {G : Nat → va_E} {i : Fin 4} {x : Nat} (h : cx l D R own cc nL Γ) (d : decode cc pc = .ok (.aload_n i, 1)) (hi : lgt lv (i : Nat) = some (.ref x)) (k : SX Γ ce sl (pc + 1) lv (.ref x :: st) N adr G) : SX Γ ce sl pc lv st N adr G := by
  obtain ⟨p, l', e, R', s, m, args, below, meth, c, D', A, Q, nL'⟩ := Γ
  obtain ⟨rfl, rfl, rfl, rfl, hx, hb, hml, hown, hts, hnw, hK, hA, hlk⟩ := h
  intro H locs ls hP hD hS hl
  exact lv_aload_n hx hb d rfl (lgt_at hl hi) (k H locs ls hP hD hS hl)
theorem s_aload {l : Launch} {D : va_G} {R : Room} {own : String} {cc : ByteArray} {nL : Nat} {Γ : GT} {ce sl pc : Nat} {lv : List (Nat × Value)} {st : List Value} {N : Nat} {adr : Nat → Nat} {G : Nat → va_E} {i : Nat} {x : Nat} (h : cx l D R own cc nL Γ) (d : decode cc pc = .ok (.aload i, 2)) (hi : lgt lv i = some (.ref x)) (k : SX Γ ce sl (pc + 2) lv (.ref x :: st) N adr G) : SX Γ ce sl pc lv st N adr G := by
  obtain ⟨p, l', e, R', s, m, args, below, meth, c, D', A, Q, nL'⟩ := Γ
  obtain ⟨rfl, rfl, rfl, rfl, hx, hb, hml, hown, hts, hnw, hK, hA, hlk⟩ := h
  intro H locs ls hP hD hS hl
  exact lv_aload hx hb d (lgt_at hl hi) (k H locs ls hP hD hS hl)
theorem s_aload_nN {l : Launch} {D : va_G} {R : Room} {own : String} {cc : ByteArray} {nL : Nat} {Γ : GT} {ce sl pc : Nat} {lv : List (Nat × Value)} {st : List Value} {N : Nat} {adr : Nat → Nat} {G : Nat → va_E} {i : Fin 4} (h : cx l D R own cc nL Γ) (d : decode cc pc = .ok (.aload_n i, 1)) (hi : lgt lv (i : Nat) = some .null) (k : SX Γ ce sl (pc + 1) lv (.null :: st) N adr G) : SX Γ ce sl pc lv st N adr G := by
  obtain ⟨p, l', e, R', s, m, args, below, meth, c, D', A, Q, nL'⟩ := Γ
  obtain ⟨rfl, rfl, rfl, rfl, hx, hb, hml, hown, hts, hnw, hK, hA, hlk⟩ := h
  intro H locs ls hP hD hS hl
  exact lv_aload_nN hx hb d rfl (lgt_at hl hi) (k H locs ls hP hD hS hl)
theorem s_aloadN {l : Launch} {D : va_G} {R : Room} {own : String} {cc : ByteArray} {nL : Nat} {Γ : GT} {ce sl pc : Nat} {lv : List (Nat × Value)} {st : List Value} {N : Nat} {adr : Nat → Nat} {G : Nat → va_E} {i : Nat} (h : cx l D R own cc nL Γ) (d : decode cc pc = .ok (.aload i, 2)) (hi : lgt lv i = some .null) (k : SX Γ ce sl (pc + 2) lv (.null :: st) N adr G) : SX Γ ce sl pc lv st N adr G := by
  obtain ⟨p, l', e, R', s, m, args, below, meth, c, D', A, Q, nL'⟩ := Γ
  obtain ⟨rfl, rfl, rfl, rfl, hx, hb, hml, hown, hts, hnw, hK, hA, hlk⟩ := h
  intro H locs ls hP hD hS hl
  exact lv_aloadN hx hb d (lgt_at hl hi) (k H locs ls hP hD hS hl)
theorem s_istore_n {l : Launch} {D : va_G} {R : Room} {own : String} {cc : ByteArray} {nL : Nat} {Γ : GT} {ce sl pc : Nat} {lv : List (Nat × Value)} {st : List Value} {N : Nat} {adr : Nat → Nat} {G : Nat → va_E} {i : Fin 4} {x : Int32} (h : cx l D R own cc nL Γ) (d : decode cc pc = .ok (.istore_n i, 1)) (hn : Nat.blt (i : Nat) nL = true) (k : SX Γ ce sl (pc + 1) (lset lv (i : Nat) (.int x)) st N adr G) : SX Γ ce sl pc lv (.int x :: st) N adr G := by
  obtain ⟨p, l', e, R', s, m, args, below, meth, c, D', A, Q, nL'⟩ := Γ
  obtain ⟨rfl, rfl, rfl, rfl, hx, hb, hml, hown, hts, hnw, hK, hA, hlk⟩ := h
  intro H locs ls hP hD hS hl
  exact lv_istore_n hx hb d rfl hl (Nat.blt_eq.mp hn) rfl (fun ls2 hl2 => k H locs ls2 hP hD hS hl2)
theorem s_istore {l : Launch} {D : va_G} {R : Room} {own : String} {cc : ByteArray} {nL : Nat} {Γ : GT} {ce sl pc : Nat} {lv : List (Nat × Value)} {st : List Value} {N : Nat} {adr : Nat → Nat} {G : Nat → va_E} {i : Nat} {x : Int32} (h : cx l D R own cc nL Γ) (d : decode cc pc = .ok (.istore i, 2)) (hn : Nat.blt i nL = true) (k : SX Γ ce sl (pc + 2) (lset lv i (.int x)) st N adr G) : SX Γ ce sl pc lv (.int x :: st) N adr G := by
  obtain ⟨p, l', e, R', s, m, args, below, meth, c, D', A, Q, nL'⟩ := Γ
  obtain ⟨rfl, rfl, rfl, rfl, hx, hb, hml, hown, hts, hnw, hK, hA, hlk⟩ := h
  intro H locs ls hP hD hS hl
  exact lv_istore hx hb d hl (Nat.blt_eq.mp hn) rfl (fun ls2 hl2 => k H locs ls2 hP hD hS hl2)
theorem s_lstore_n {l : Launch} {D : va_G} {R : Room} {own : String} {cc : ByteArray} {nL : Nat} {Γ : GT} {ce sl pc : Nat} {lv : List (Nat × Value)} {st : List Value} {N : Nat} {adr : Nat → Nat} {G : Nat → va_E} {i : Fin 4} {x : Int64} (h : cx l D R own cc nL Γ) (d : decode cc pc = .ok (.lstore_n i, 1)) (hn : Nat.blt ((i : Nat) + 1) nL = true) (k : SX Γ ce sl (pc + 1) (lsetL lv (i : Nat) (.long x)) st N adr G) : SX Γ ce sl pc lv (.long x :: st) N adr G := by
  obtain ⟨p, l', e, R', s, m, args, below, meth, c, D', A, Q, nL'⟩ := Γ
  obtain ⟨rfl, rfl, rfl, rfl, hx, hb, hml, hown, hts, hnw, hK, hA, hlk⟩ := h
  intro H locs ls hP hD hS hl
  exact lv_lstore_n hx hb d rfl hl (Nat.blt_eq.mp hn) rfl (fun ls2 hl2 => k H locs ls2 hP hD hS hl2)
theorem s_lstore {l : Launch} {D : va_G} {R : Room} {own : String} {cc : ByteArray} {nL : Nat} {Γ : GT} {ce sl pc : Nat} {lv : List (Nat × Value)} {st : List Value} {N : Nat} {adr : Nat → Nat} {G : Nat → va_E} {i : Nat} {x : Int64} (h : cx l D R own cc nL Γ) (d : decode cc pc = .ok (.lstore i, 2)) (hn : Nat.blt (i + 1) nL = true) (k : SX Γ ce sl (pc + 2) (lsetL lv i (.long x)) st N adr G) : SX Γ ce sl pc lv (.long x :: st) N adr G := by
  obtain ⟨p, l', e, R', s, m, args, below, meth, c, D', A, Q, nL'⟩ := Γ
  obtain ⟨rfl, rfl, rfl, rfl, hx, hb, hml, hown, hts, hnw, hK, hA, hlk⟩ := h
  intro H locs ls hP hD hS hl
  exact lv_lstore hx hb d hl (Nat.blt_eq.mp hn) rfl (fun ls2 hl2 => k H locs ls2 hP hD hS hl2)
theorem s_astore_n {l : Launch} {D : va_G} {R : Room} {own : String} {cc : ByteArray} {nL : Nat} {Γ : GT} {ce sl pc : Nat} {lv : List (Nat × Value)} {st : List Value} {N : Nat} {adr : Nat → Nat} {G : Nat → va_E} {i : Fin 4} {x : Nat} (h : cx l D R own cc nL Γ) (d : decode cc pc = .ok (.astore_n i, 1)) (hn : Nat.blt (i : Nat) nL = true) (k : SX Γ ce sl (pc + 1) (lset lv (i : Nat) (.ref x)) st N adr G) : SX Γ ce sl pc lv (.ref x :: st) N adr G := by
  obtain ⟨p, l', e, R', s, m, args, below, meth, c, D', A, Q, nL'⟩ := Γ
  obtain ⟨rfl, rfl, rfl, rfl, hx, hb, hml, hown, hts, hnw, hK, hA, hlk⟩ := h
  intro H locs ls hP hD hS hl
  exact lv_astore_n hx hb d rfl hl (Nat.blt_eq.mp hn) rfl (fun ls2 hl2 => k H locs ls2 hP hD hS hl2)
theorem s_astore {l : Launch} {D : va_G} {R : Room} {own : String} {cc : ByteArray} {nL : Nat} {Γ : GT} {ce sl pc : Nat} {lv : List (Nat × Value)} {st : List Value} {N : Nat} {adr : Nat → Nat} {G : Nat → va_E} {i : Nat} {x : Nat} (h : cx l D R own cc nL Γ) (d : decode cc pc = .ok (.astore i, 2)) (hn : Nat.blt i nL = true) (k : SX Γ ce sl (pc + 2) (lset lv i (.ref x)) st N adr G) : SX Γ ce sl pc lv (.ref x :: st) N adr G := by
  obtain ⟨p, l', e, R', s, m, args, below, meth, c, D', A, Q, nL'⟩ := Γ
  obtain ⟨rfl, rfl, rfl, rfl, hx, hb, hml, hown, hts, hnw, hK, hA, hlk⟩ := h
  intro H locs ls hP hD hS hl
  exact lv_astore hx hb d hl (Nat.blt_eq.mp hn) rfl (fun ls2 hl2 => k H locs ls2 hP hD hS hl2)
theorem s_iinc {l : Launch} {D : va_G} {R : Room} {own : String} {cc : ByteArray} {nL : Nat} {Γ : GT} {ce sl pc : Nat} {lv : List (Nat × Value)} {st : List Value} {N : Nat} {adr : Nat → Nat} {G : Nat → va_E} {i : Nat} {n : Int} {x v : Int32} (h : cx l D R own cc nL Γ) (d : decode cc pc = .ok (.iinc i n, 3)) (hn : Nat.blt i nL = true) (hi : lgt lv i = some (.int x)) (hv : Int32.ofInt n = v) (k : SX Γ ce sl (pc + 3) (lset lv i (.int (x + v))) st N adr G) : SX Γ ce sl pc lv st N adr G := by
  obtain ⟨p, l', e, R', s, m, args, below, meth, c, D', A, Q, nL'⟩ := Γ
  obtain ⟨rfl, rfl, rfl, rfl, hx, hb, hml, hown, hts, hnw, hK, hA, hlk⟩ := h
  intro H locs ls hP hD hS hl
  subst hv
  obtain ⟨j, hj⟩ := List.mem_iff_getElem?.mp (lgt_mem hi)
  exact lv_iinc hx hb d hl (k := j) hj rfl (Nat.blt_eq.mp hn) rfl (fun ls2 hl2 => k H locs ls2 hP hD hS hl2)
theorem s_iadd {l : Launch} {D : va_G} {R : Room} {own : String} {cc : ByteArray} {nL : Nat} {Γ : GT} {ce sl pc : Nat} {lv : List (Nat × Value)} {st : List Value} {N : Nat} {adr : Nat → Nat} {G : Nat → va_E} {x y : Int32} (h : cx l D R own cc nL Γ) (d : decode cc pc = .ok (.iadd, 1)) (k : SX Γ ce sl (pc + 1) lv (.int (x + y) :: st) N adr G) : SX Γ ce sl pc lv (.int y :: .int x :: st) N adr G := by
  obtain ⟨p, l', e, R', s, m, args, below, meth, c, D', A, Q, nL'⟩ := Γ
  obtain ⟨rfl, rfl, rfl, rfl, hx, hb, hml, hown, hts, hnw, hK, hA, hlk⟩ := h
  intro H locs ls hP hD hS hl
  exact lv_iadd hx hb d (k H locs ls hP hD hS hl)
theorem s_isub {l : Launch} {D : va_G} {R : Room} {own : String} {cc : ByteArray} {nL : Nat} {Γ : GT} {ce sl pc : Nat} {lv : List (Nat × Value)} {st : List Value} {N : Nat} {adr : Nat → Nat} {G : Nat → va_E} {x y : Int32} (h : cx l D R own cc nL Γ) (d : decode cc pc = .ok (.isub, 1)) (k : SX Γ ce sl (pc + 1) lv (.int (x - y) :: st) N adr G) : SX Γ ce sl pc lv (.int y :: .int x :: st) N adr G := by
  obtain ⟨p, l', e, R', s, m, args, below, meth, c, D', A, Q, nL'⟩ := Γ
  obtain ⟨rfl, rfl, rfl, rfl, hx, hb, hml, hown, hts, hnw, hK, hA, hlk⟩ := h
  intro H locs ls hP hD hS hl
  exact lv_isub hx hb d (k H locs ls hP hD hS hl)
theorem s_imul {l : Launch} {D : va_G} {R : Room} {own : String} {cc : ByteArray} {nL : Nat} {Γ : GT} {ce sl pc : Nat} {lv : List (Nat × Value)} {st : List Value} {N : Nat} {adr : Nat → Nat} {G : Nat → va_E} {x y : Int32} (h : cx l D R own cc nL Γ) (d : decode cc pc = .ok (.imul, 1)) (k : SX Γ ce sl (pc + 1) lv (.int (x * y) :: st) N adr G) : SX Γ ce sl pc lv (.int y :: .int x :: st) N adr G := by
  obtain ⟨p, l', e, R', s, m, args, below, meth, c, D', A, Q, nL'⟩ := Γ
  obtain ⟨rfl, rfl, rfl, rfl, hx, hb, hml, hown, hts, hnw, hK, hA, hlk⟩ := h
  intro H locs ls hP hD hS hl
  exact lv_imul hx hb d (k H locs ls hP hD hS hl)
theorem s_iand {l : Launch} {D : va_G} {R : Room} {own : String} {cc : ByteArray} {nL : Nat} {Γ : GT} {ce sl pc : Nat} {lv : List (Nat × Value)} {st : List Value} {N : Nat} {adr : Nat → Nat} {G : Nat → va_E} {x y : Int32} (h : cx l D R own cc nL Γ) (d : decode cc pc = .ok (.iand, 1)) (k : SX Γ ce sl (pc + 1) lv (.int (x &&& y) :: st) N adr G) : SX Γ ce sl pc lv (.int y :: .int x :: st) N adr G := by
  obtain ⟨p, l', e, R', s, m, args, below, meth, c, D', A, Q, nL'⟩ := Γ
  obtain ⟨rfl, rfl, rfl, rfl, hx, hb, hml, hown, hts, hnw, hK, hA, hlk⟩ := h
  intro H locs ls hP hD hS hl
  exact lv_iand hx hb d (k H locs ls hP hD hS hl)
theorem s_ior {l : Launch} {D : va_G} {R : Room} {own : String} {cc : ByteArray} {nL : Nat} {Γ : GT} {ce sl pc : Nat} {lv : List (Nat × Value)} {st : List Value} {N : Nat} {adr : Nat → Nat} {G : Nat → va_E} {x y : Int32} (h : cx l D R own cc nL Γ) (d : decode cc pc = .ok (.ior, 1)) (k : SX Γ ce sl (pc + 1) lv (.int (x ||| y) :: st) N adr G) : SX Γ ce sl pc lv (.int y :: .int x :: st) N adr G := by
  obtain ⟨p, l', e, R', s, m, args, below, meth, c, D', A, Q, nL'⟩ := Γ
  obtain ⟨rfl, rfl, rfl, rfl, hx, hb, hml, hown, hts, hnw, hK, hA, hlk⟩ := h
  intro H locs ls hP hD hS hl
  exact lv_ior hx hb d (k H locs ls hP hD hS hl)
theorem s_ixor {l : Launch} {D : va_G} {R : Room} {own : String} {cc : ByteArray} {nL : Nat} {Γ : GT} {ce sl pc : Nat} {lv : List (Nat × Value)} {st : List Value} {N : Nat} {adr : Nat → Nat} {G : Nat → va_E} {x y : Int32} (h : cx l D R own cc nL Γ) (d : decode cc pc = .ok (.ixor, 1)) (k : SX Γ ce sl (pc + 1) lv (.int (x ^^^ y) :: st) N adr G) : SX Γ ce sl pc lv (.int y :: .int x :: st) N adr G := by
  obtain ⟨p, l', e, R', s, m, args, below, meth, c, D', A, Q, nL'⟩ := Γ
  obtain ⟨rfl, rfl, rfl, rfl, hx, hb, hml, hown, hts, hnw, hK, hA, hlk⟩ := h
  intro H locs ls hP hD hS hl
  exact lv_ixor hx hb d (k H locs ls hP hD hS hl)
theorem s_idiv {l : Launch} {D : va_G} {R : Room} {own : String} {cc : ByteArray} {nL : Nat} {Γ : GT} {ce sl pc : Nat} {lv : List (Nat × Value)} {st : List Value} {N : Nat} {adr : Nat → Nat} {G : Nat → va_E} {x y : Int32} (h : cx l D R own cc nL Γ) (d : decode cc pc = .ok (.idiv, 1)) (hne : ¬ y = 0) (k : SX Γ ce sl (pc + 1) lv (.int (x / y) :: st) N adr G) : SX Γ ce sl pc lv (.int y :: .int x :: st) N adr G := by
  obtain ⟨p, l', e, R', s, m, args, below, meth, c, D', A, Q, nL'⟩ := Γ
  obtain ⟨rfl, rfl, rfl, rfl, hx, hb, hml, hown, hts, hnw, hK, hA, hlk⟩ := h
  intro H locs ls hP hD hS hl
  exact lv_idiv hx hb d hne (k H locs ls hP hD hS hl)
theorem s_irem {l : Launch} {D : va_G} {R : Room} {own : String} {cc : ByteArray} {nL : Nat} {Γ : GT} {ce sl pc : Nat} {lv : List (Nat × Value)} {st : List Value} {N : Nat} {adr : Nat → Nat} {G : Nat → va_E} {x y : Int32} (h : cx l D R own cc nL Γ) (d : decode cc pc = .ok (.irem, 1)) (hne : ¬ y = 0) (k : SX Γ ce sl (pc + 1) lv (.int (x - x / y * y) :: st) N adr G) : SX Γ ce sl pc lv (.int y :: .int x :: st) N adr G := by
  obtain ⟨p, l', e, R', s, m, args, below, meth, c, D', A, Q, nL'⟩ := Γ
  obtain ⟨rfl, rfl, rfl, rfl, hx, hb, hml, hown, hts, hnw, hK, hA, hlk⟩ := h
  intro H locs ls hP hD hS hl
  exact lv_irem hx hb d hne (k H locs ls hP hD hS hl)
theorem s_ineg {l : Launch} {D : va_G} {R : Room} {own : String} {cc : ByteArray} {nL : Nat} {Γ : GT} {ce sl pc : Nat} {lv : List (Nat × Value)} {st : List Value} {N : Nat} {adr : Nat → Nat} {G : Nat → va_E} {x : Int32} (h : cx l D R own cc nL Γ) (d : decode cc pc = .ok (.ineg, 1)) (k : SX Γ ce sl (pc + 1) lv (.int (-x) :: st) N adr G) : SX Γ ce sl pc lv (.int x :: st) N adr G := by
  obtain ⟨p, l', e, R', s, m, args, below, meth, c, D', A, Q, nL'⟩ := Γ
  obtain ⟨rfl, rfl, rfl, rfl, hx, hb, hml, hown, hts, hnw, hK, hA, hlk⟩ := h
  intro H locs ls hP hD hS hl
  exact lv_ineg hx hb d (k H locs ls hP hD hS hl)
theorem s_ishl {l : Launch} {D : va_G} {R : Room} {own : String} {cc : ByteArray} {nL : Nat} {Γ : GT} {ce sl pc : Nat} {lv : List (Nat × Value)} {st : List Value} {N : Nat} {adr : Nat → Nat} {G : Nat → va_E} {x y : Int32} (h : cx l D R own cc nL Γ) (d : decode cc pc = .ok (.ishl, 1)) (k : SX Γ ce sl (pc + 1) lv (.int (x <<< (y &&& 31)) :: st) N adr G) : SX Γ ce sl pc lv (.int y :: .int x :: st) N adr G := by
  obtain ⟨p, l', e, R', s, m, args, below, meth, c, D', A, Q, nL'⟩ := Γ
  obtain ⟨rfl, rfl, rfl, rfl, hx, hb, hml, hown, hts, hnw, hK, hA, hlk⟩ := h
  intro H locs ls hP hD hS hl
  exact lv_ishl hx hb d (k H locs ls hP hD hS hl)
theorem s_ishr {l : Launch} {D : va_G} {R : Room} {own : String} {cc : ByteArray} {nL : Nat} {Γ : GT} {ce sl pc : Nat} {lv : List (Nat × Value)} {st : List Value} {N : Nat} {adr : Nat → Nat} {G : Nat → va_E} {x y : Int32} (h : cx l D R own cc nL Γ) (d : decode cc pc = .ok (.ishr, 1)) (k : SX Γ ce sl (pc + 1) lv (.int (x >>> (y &&& 31)) :: st) N adr G) : SX Γ ce sl pc lv (.int y :: .int x :: st) N adr G := by
  obtain ⟨p, l', e, R', s, m, args, below, meth, c, D', A, Q, nL'⟩ := Γ
  obtain ⟨rfl, rfl, rfl, rfl, hx, hb, hml, hown, hts, hnw, hK, hA, hlk⟩ := h
  intro H locs ls hP hD hS hl
  exact lv_ishr hx hb d (k H locs ls hP hD hS hl)
theorem s_iushr {l : Launch} {D : va_G} {R : Room} {own : String} {cc : ByteArray} {nL : Nat} {Γ : GT} {ce sl pc : Nat} {lv : List (Nat × Value)} {st : List Value} {N : Nat} {adr : Nat → Nat} {G : Nat → va_E} {x y : Int32} (h : cx l D R own cc nL Γ) (d : decode cc pc = .ok (.iushr, 1)) (k : SX Γ ce sl (pc + 1) lv (.int ((x.toUInt32 >>> (y.toUInt32 &&& Int32.toUInt32 31)).toInt32) :: st) N adr G) : SX Γ ce sl pc lv (.int y :: .int x :: st) N adr G := by
  obtain ⟨p, l', e, R', s, m, args, below, meth, c, D', A, Q, nL'⟩ := Γ
  obtain ⟨rfl, rfl, rfl, rfl, hx, hb, hml, hown, hts, hnw, hK, hA, hlk⟩ := h
  intro H locs ls hP hD hS hl
  exact lv_iushr hx hb d rfl (k H locs ls hP hD hS hl)
theorem s_ladd {l : Launch} {D : va_G} {R : Room} {own : String} {cc : ByteArray} {nL : Nat} {Γ : GT} {ce sl pc : Nat} {lv : List (Nat × Value)} {st : List Value} {N : Nat} {adr : Nat → Nat} {G : Nat → va_E} {x y : Int64} (h : cx l D R own cc nL Γ) (d : decode cc pc = .ok (.ladd, 1)) (k : SX Γ ce sl (pc + 1) lv (.long (x + y) :: st) N adr G) : SX Γ ce sl pc lv (.long y :: .long x :: st) N adr G := by
  obtain ⟨p, l', e, R', s, m, args, below, meth, c, D', A, Q, nL'⟩ := Γ
  obtain ⟨rfl, rfl, rfl, rfl, hx, hb, hml, hown, hts, hnw, hK, hA, hlk⟩ := h
  intro H locs ls hP hD hS hl
  exact lv_ladd hx hb d (k H locs ls hP hD hS hl)
theorem s_lsub {l : Launch} {D : va_G} {R : Room} {own : String} {cc : ByteArray} {nL : Nat} {Γ : GT} {ce sl pc : Nat} {lv : List (Nat × Value)} {st : List Value} {N : Nat} {adr : Nat → Nat} {G : Nat → va_E} {x y : Int64} (h : cx l D R own cc nL Γ) (d : decode cc pc = .ok (.lsub, 1)) (k : SX Γ ce sl (pc + 1) lv (.long (x - y) :: st) N adr G) : SX Γ ce sl pc lv (.long y :: .long x :: st) N adr G := by
  obtain ⟨p, l', e, R', s, m, args, below, meth, c, D', A, Q, nL'⟩ := Γ
  obtain ⟨rfl, rfl, rfl, rfl, hx, hb, hml, hown, hts, hnw, hK, hA, hlk⟩ := h
  intro H locs ls hP hD hS hl
  exact lv_lsub hx hb d (k H locs ls hP hD hS hl)
theorem s_lmul {l : Launch} {D : va_G} {R : Room} {own : String} {cc : ByteArray} {nL : Nat} {Γ : GT} {ce sl pc : Nat} {lv : List (Nat × Value)} {st : List Value} {N : Nat} {adr : Nat → Nat} {G : Nat → va_E} {x y : Int64} (h : cx l D R own cc nL Γ) (d : decode cc pc = .ok (.lmul, 1)) (k : SX Γ ce sl (pc + 1) lv (.long (x * y) :: st) N adr G) : SX Γ ce sl pc lv (.long y :: .long x :: st) N adr G := by
  obtain ⟨p, l', e, R', s, m, args, below, meth, c, D', A, Q, nL'⟩ := Γ
  obtain ⟨rfl, rfl, rfl, rfl, hx, hb, hml, hown, hts, hnw, hK, hA, hlk⟩ := h
  intro H locs ls hP hD hS hl
  exact lv_lmul hx hb d (k H locs ls hP hD hS hl)
theorem s_land {l : Launch} {D : va_G} {R : Room} {own : String} {cc : ByteArray} {nL : Nat} {Γ : GT} {ce sl pc : Nat} {lv : List (Nat × Value)} {st : List Value} {N : Nat} {adr : Nat → Nat} {G : Nat → va_E} {x y : Int64} (h : cx l D R own cc nL Γ) (d : decode cc pc = .ok (.land, 1)) (k : SX Γ ce sl (pc + 1) lv (.long (x &&& y) :: st) N adr G) : SX Γ ce sl pc lv (.long y :: .long x :: st) N adr G := by
  obtain ⟨p, l', e, R', s, m, args, below, meth, c, D', A, Q, nL'⟩ := Γ
  obtain ⟨rfl, rfl, rfl, rfl, hx, hb, hml, hown, hts, hnw, hK, hA, hlk⟩ := h
  intro H locs ls hP hD hS hl
  exact lv_land hx hb d (k H locs ls hP hD hS hl)
theorem s_lor {l : Launch} {D : va_G} {R : Room} {own : String} {cc : ByteArray} {nL : Nat} {Γ : GT} {ce sl pc : Nat} {lv : List (Nat × Value)} {st : List Value} {N : Nat} {adr : Nat → Nat} {G : Nat → va_E} {x y : Int64} (h : cx l D R own cc nL Γ) (d : decode cc pc = .ok (.lor, 1)) (k : SX Γ ce sl (pc + 1) lv (.long (x ||| y) :: st) N adr G) : SX Γ ce sl pc lv (.long y :: .long x :: st) N adr G := by
  obtain ⟨p, l', e, R', s, m, args, below, meth, c, D', A, Q, nL'⟩ := Γ
  obtain ⟨rfl, rfl, rfl, rfl, hx, hb, hml, hown, hts, hnw, hK, hA, hlk⟩ := h
  intro H locs ls hP hD hS hl
  exact lv_lor hx hb d (k H locs ls hP hD hS hl)
theorem s_ldiv {l : Launch} {D : va_G} {R : Room} {own : String} {cc : ByteArray} {nL : Nat} {Γ : GT} {ce sl pc : Nat} {lv : List (Nat × Value)} {st : List Value} {N : Nat} {adr : Nat → Nat} {G : Nat → va_E} {x y : Int64} (h : cx l D R own cc nL Γ) (d : decode cc pc = .ok (.ldiv, 1)) (hne : ¬ y = 0) (k : SX Γ ce sl (pc + 1) lv (.long (x / y) :: st) N adr G) : SX Γ ce sl pc lv (.long y :: .long x :: st) N adr G := by
  obtain ⟨p, l', e, R', s, m, args, below, meth, c, D', A, Q, nL'⟩ := Γ
  obtain ⟨rfl, rfl, rfl, rfl, hx, hb, hml, hown, hts, hnw, hK, hA, hlk⟩ := h
  intro H locs ls hP hD hS hl
  exact lv_ldiv hx hb d hne (k H locs ls hP hD hS hl)
theorem s_lrem {l : Launch} {D : va_G} {R : Room} {own : String} {cc : ByteArray} {nL : Nat} {Γ : GT} {ce sl pc : Nat} {lv : List (Nat × Value)} {st : List Value} {N : Nat} {adr : Nat → Nat} {G : Nat → va_E} {x y : Int64} (h : cx l D R own cc nL Γ) (d : decode cc pc = .ok (.lrem, 1)) (hne : ¬ y = 0) (k : SX Γ ce sl (pc + 1) lv (.long (x - x / y * y) :: st) N adr G) : SX Γ ce sl pc lv (.long y :: .long x :: st) N adr G := by
  obtain ⟨p, l', e, R', s, m, args, below, meth, c, D', A, Q, nL'⟩ := Γ
  obtain ⟨rfl, rfl, rfl, rfl, hx, hb, hml, hown, hts, hnw, hK, hA, hlk⟩ := h
  intro H locs ls hP hD hS hl
  exact lv_lrem hx hb d hne (k H locs ls hP hD hS hl)
theorem s_lshl {l : Launch} {D : va_G} {R : Room} {own : String} {cc : ByteArray} {nL : Nat} {Γ : GT} {ce sl pc : Nat} {lv : List (Nat × Value)} {st : List Value} {N : Nat} {adr : Nat → Nat} {G : Nat → va_E} {x : Int64} {y : Int32} (h : cx l D R own cc nL Γ) (d : decode cc pc = .ok (.lshl, 1)) (k : SX Γ ce sl (pc + 1) lv (.long (x <<< (y.toInt64 &&& 63)) :: st) N adr G) : SX Γ ce sl pc lv (.int y :: .long x :: st) N adr G := by
  obtain ⟨p, l', e, R', s, m, args, below, meth, c, D', A, Q, nL'⟩ := Γ
  obtain ⟨rfl, rfl, rfl, rfl, hx, hb, hml, hown, hts, hnw, hK, hA, hlk⟩ := h
  intro H locs ls hP hD hS hl
  exact lv_lshl hx hb d rfl (k H locs ls hP hD hS hl)
theorem s_lshr {l : Launch} {D : va_G} {R : Room} {own : String} {cc : ByteArray} {nL : Nat} {Γ : GT} {ce sl pc : Nat} {lv : List (Nat × Value)} {st : List Value} {N : Nat} {adr : Nat → Nat} {G : Nat → va_E} {x : Int64} {y : Int32} (h : cx l D R own cc nL Γ) (d : decode cc pc = .ok (.lshr, 1)) (k : SX Γ ce sl (pc + 1) lv (.long (x >>> (y.toInt64 &&& 63)) :: st) N adr G) : SX Γ ce sl pc lv (.int y :: .long x :: st) N adr G := by
  obtain ⟨p, l', e, R', s, m, args, below, meth, c, D', A, Q, nL'⟩ := Γ
  obtain ⟨rfl, rfl, rfl, rfl, hx, hb, hml, hown, hts, hnw, hK, hA, hlk⟩ := h
  intro H locs ls hP hD hS hl
  exact lv_lshr hx hb d rfl (k H locs ls hP hD hS hl)
theorem s_lushr {l : Launch} {D : va_G} {R : Room} {own : String} {cc : ByteArray} {nL : Nat} {Γ : GT} {ce sl pc : Nat} {lv : List (Nat × Value)} {st : List Value} {N : Nat} {adr : Nat → Nat} {G : Nat → va_E} {x : Int64} {y : Int32} (h : cx l D R own cc nL Γ) (d : decode cc pc = .ok (.lushr, 1)) (k : SX Γ ce sl (pc + 1) lv (.long ((x.toUInt64 >>> (y.toInt64.toUInt64 &&& Int64.toUInt64 63)).toInt64) :: st) N adr G) : SX Γ ce sl pc lv (.int y :: .long x :: st) N adr G := by
  obtain ⟨p, l', e, R', s, m, args, below, meth, c, D', A, Q, nL'⟩ := Γ
  obtain ⟨rfl, rfl, rfl, rfl, hx, hb, hml, hown, hts, hnw, hK, hA, hlk⟩ := h
  intro H locs ls hP hD hS hl
  exact lv_lushr hx hb d rfl (k H locs ls hP hD hS hl)
theorem s_i2l {l : Launch} {D : va_G} {R : Room} {own : String} {cc : ByteArray} {nL : Nat} {Γ : GT} {ce sl pc : Nat} {lv : List (Nat × Value)} {st : List Value} {N : Nat} {adr : Nat → Nat} {G : Nat → va_E} {x : Int32} (h : cx l D R own cc nL Γ) (d : decode cc pc = .ok (.i2l, 1)) (k : SX Γ ce sl (pc + 1) lv (.long x.toInt64 :: st) N adr G) : SX Γ ce sl pc lv (.int x :: st) N adr G := by
  obtain ⟨p, l', e, R', s, m, args, below, meth, c, D', A, Q, nL'⟩ := Γ
  obtain ⟨rfl, rfl, rfl, rfl, hx, hb, hml, hown, hts, hnw, hK, hA, hlk⟩ := h
  intro H locs ls hP hD hS hl
  exact lv_i2l hx hb d rfl (k H locs ls hP hD hS hl)
theorem s_l2i {l : Launch} {D : va_G} {R : Room} {own : String} {cc : ByteArray} {nL : Nat} {Γ : GT} {ce sl pc : Nat} {lv : List (Nat × Value)} {st : List Value} {N : Nat} {adr : Nat → Nat} {G : Nat → va_E} {x : Int64} (h : cx l D R own cc nL Γ) (d : decode cc pc = .ok (.l2i, 1)) (k : SX Γ ce sl (pc + 1) lv (.int x.toInt32 :: st) N adr G) : SX Γ ce sl pc lv (.long x :: st) N adr G := by
  obtain ⟨p, l', e, R', s, m, args, below, meth, c, D', A, Q, nL'⟩ := Γ
  obtain ⟨rfl, rfl, rfl, rfl, hx, hb, hml, hown, hts, hnw, hK, hA, hlk⟩ := h
  intro H locs ls hP hD hS hl
  exact lv_l2i hx hb d rfl (k H locs ls hP hD hS hl)
theorem s_dup {l : Launch} {D : va_G} {R : Room} {own : String} {cc : ByteArray} {nL : Nat} {Γ : GT} {ce sl pc : Nat} {lv : List (Nat × Value)} {st : List Value} {N : Nat} {adr : Nat → Nat} {G : Nat → va_E} {v : Value} (h : cx l D R own cc nL Γ) (d : decode cc pc = .ok (.dup, 1)) (hc : v.category = 1) (k : SX Γ ce sl (pc + 1) lv (v :: v :: st) N adr G) : SX Γ ce sl pc lv (v :: st) N adr G := by
  obtain ⟨p, l', e, R', s, m, args, below, meth, c, D', A, Q, nL'⟩ := Γ
  obtain ⟨rfl, rfl, rfl, rfl, hx, hb, hml, hown, hts, hnw, hK, hA, hlk⟩ := h
  intro H locs ls hP hD hS hl
  exact lv_dup hx hb d hc (k H locs ls hP hD hS hl)
theorem s_dup2 {l : Launch} {D : va_G} {R : Room} {own : String} {cc : ByteArray} {nL : Nat} {Γ : GT} {ce sl pc : Nat} {lv : List (Nat × Value)} {st : List Value} {N : Nat} {adr : Nat → Nat} {G : Nat → va_E} {v u : Value} (h : cx l D R own cc nL Γ) (d : decode cc pc = .ok (.dup2, 1)) (hc : v.category = 1) (hc2 : u.category = 1) (k : SX Γ ce sl (pc + 1) lv (v :: u :: v :: u :: st) N adr G) : SX Γ ce sl pc lv (v :: u :: st) N adr G := by
  obtain ⟨p, l', e, R', s, m, args, below, meth, c, D', A, Q, nL'⟩ := Γ
  obtain ⟨rfl, rfl, rfl, rfl, hx, hb, hml, hown, hts, hnw, hK, hA, hlk⟩ := h
  intro H locs ls hP hD hS hl
  exact lv_dup2_11 hx hb d hc hc2 (k H locs ls hP hD hS hl)
theorem s_topi {Γ : GT} {ce sl pc : Nat} {lv : List (Nat × Value)} {st : List Value} {N : Nat} {adr : Nat → Nat} {G : Nat → va_E} {x : Int32} (y : Int32) (e : x = y) (k : SX Γ ce sl pc lv (.int y :: st) N adr G) : SX Γ ce sl pc lv (.int x :: st) N adr G := e ▸ k
theorem s_topl {Γ : GT} {ce sl pc : Nat} {lv : List (Nat × Value)} {st : List Value} {N : Nat} {adr : Nat → Nat} {G : Nat → va_E} {x : Int64} (y : Int64) (e : x = y) (k : SX Γ ce sl pc lv (.long y :: st) N adr G) : SX Γ ce sl pc lv (.long x :: st) N adr G := e ▸ k
theorem s_if_eq {l : Launch} {D : va_G} {R : Room} {own : String} {cc : ByteArray} {nL : Nat} {Γ : GT} {ce sl pc : Nat} {lv : List (Nat × Value)} {st : List Value} {N : Nat} {adr : Nat → Nat} {G : Nat → va_E} {x : Int32} {off : Int} {tgt : Nat} (h : cx l D R own cc nL Γ) (d : decode cc pc = .ok (.ifCond .eq off, 3)) (ht : (pc : Int) + off = (tgt : Int)) (kt : x = 0 → SX Γ ce sl tgt lv st N adr G) (kf : ¬ x = 0 → SX Γ ce sl (pc + 3) lv st N adr G) : SX Γ ce sl pc lv (.int x :: st) N adr G := by
  obtain ⟨p, l', e, R', s, m, args, below, meth, c, D', A, Q, nL'⟩ := Γ
  obtain ⟨rfl, rfl, rfl, rfl, hx, hb, hml, hown, hts, hnw, hK, hA, hlk⟩ := h
  intro H locs ls hP hD hS hl
  exact lv_if_eq hx hb d ht (fun q => kt q H locs ls hP hD hS hl) (fun q => kf q H locs ls hP hD hS hl)
theorem s_icmp_eq {l : Launch} {D : va_G} {R : Room} {own : String} {cc : ByteArray} {nL : Nat} {Γ : GT} {ce sl pc : Nat} {lv : List (Nat × Value)} {st : List Value} {N : Nat} {adr : Nat → Nat} {G : Nat → va_E} {x y : Int32} {off : Int} {tgt : Nat} (h : cx l D R own cc nL Γ) (d : decode cc pc = .ok (.if_icmp .eq off, 3)) (ht : (pc : Int) + off = (tgt : Int)) (kt : x = y → SX Γ ce sl tgt lv st N adr G) (kf : ¬ x = y → SX Γ ce sl (pc + 3) lv st N adr G) : SX Γ ce sl pc lv (.int y :: .int x :: st) N adr G := by
  obtain ⟨p, l', e, R', s, m, args, below, meth, c, D', A, Q, nL'⟩ := Γ
  obtain ⟨rfl, rfl, rfl, rfl, hx, hb, hml, hown, hts, hnw, hK, hA, hlk⟩ := h
  intro H locs ls hP hD hS hl
  exact lv_icmp_eq hx hb d ht (fun q => kt q H locs ls hP hD hS hl) (fun q => kf q H locs ls hP hD hS hl)
theorem s_if_ne {l : Launch} {D : va_G} {R : Room} {own : String} {cc : ByteArray} {nL : Nat} {Γ : GT} {ce sl pc : Nat} {lv : List (Nat × Value)} {st : List Value} {N : Nat} {adr : Nat → Nat} {G : Nat → va_E} {x : Int32} {off : Int} {tgt : Nat} (h : cx l D R own cc nL Γ) (d : decode cc pc = .ok (.ifCond .ne off, 3)) (ht : (pc : Int) + off = (tgt : Int)) (kt : ¬ x = 0 → SX Γ ce sl tgt lv st N adr G) (kf : x = 0 → SX Γ ce sl (pc + 3) lv st N adr G) : SX Γ ce sl pc lv (.int x :: st) N adr G := by
  obtain ⟨p, l', e, R', s, m, args, below, meth, c, D', A, Q, nL'⟩ := Γ
  obtain ⟨rfl, rfl, rfl, rfl, hx, hb, hml, hown, hts, hnw, hK, hA, hlk⟩ := h
  intro H locs ls hP hD hS hl
  exact lv_if_ne hx hb d ht (fun q => kt q H locs ls hP hD hS hl) (fun q => kf q H locs ls hP hD hS hl)
theorem s_icmp_ne {l : Launch} {D : va_G} {R : Room} {own : String} {cc : ByteArray} {nL : Nat} {Γ : GT} {ce sl pc : Nat} {lv : List (Nat × Value)} {st : List Value} {N : Nat} {adr : Nat → Nat} {G : Nat → va_E} {x y : Int32} {off : Int} {tgt : Nat} (h : cx l D R own cc nL Γ) (d : decode cc pc = .ok (.if_icmp .ne off, 3)) (ht : (pc : Int) + off = (tgt : Int)) (kt : ¬ x = y → SX Γ ce sl tgt lv st N adr G) (kf : x = y → SX Γ ce sl (pc + 3) lv st N adr G) : SX Γ ce sl pc lv (.int y :: .int x :: st) N adr G := by
  obtain ⟨p, l', e, R', s, m, args, below, meth, c, D', A, Q, nL'⟩ := Γ
  obtain ⟨rfl, rfl, rfl, rfl, hx, hb, hml, hown, hts, hnw, hK, hA, hlk⟩ := h
  intro H locs ls hP hD hS hl
  exact lv_icmp_ne hx hb d ht (fun q => kt q H locs ls hP hD hS hl) (fun q => kf q H locs ls hP hD hS hl)
theorem s_if_lt {l : Launch} {D : va_G} {R : Room} {own : String} {cc : ByteArray} {nL : Nat} {Γ : GT} {ce sl pc : Nat} {lv : List (Nat × Value)} {st : List Value} {N : Nat} {adr : Nat → Nat} {G : Nat → va_E} {x : Int32} {off : Int} {tgt : Nat} (h : cx l D R own cc nL Γ) (d : decode cc pc = .ok (.ifCond .lt off, 3)) (ht : (pc : Int) + off = (tgt : Int)) (kt : x < 0 → SX Γ ce sl tgt lv st N adr G) (kf : ¬ x < 0 → SX Γ ce sl (pc + 3) lv st N adr G) : SX Γ ce sl pc lv (.int x :: st) N adr G := by
  obtain ⟨p, l', e, R', s, m, args, below, meth, c, D', A, Q, nL'⟩ := Γ
  obtain ⟨rfl, rfl, rfl, rfl, hx, hb, hml, hown, hts, hnw, hK, hA, hlk⟩ := h
  intro H locs ls hP hD hS hl
  exact lv_if_lt hx hb d ht (fun q => kt q H locs ls hP hD hS hl) (fun q => kf q H locs ls hP hD hS hl)
theorem s_icmp_lt {l : Launch} {D : va_G} {R : Room} {own : String} {cc : ByteArray} {nL : Nat} {Γ : GT} {ce sl pc : Nat} {lv : List (Nat × Value)} {st : List Value} {N : Nat} {adr : Nat → Nat} {G : Nat → va_E} {x y : Int32} {off : Int} {tgt : Nat} (h : cx l D R own cc nL Γ) (d : decode cc pc = .ok (.if_icmp .lt off, 3)) (ht : (pc : Int) + off = (tgt : Int)) (kt : x < y → SX Γ ce sl tgt lv st N adr G) (kf : ¬ x < y → SX Γ ce sl (pc + 3) lv st N adr G) : SX Γ ce sl pc lv (.int y :: .int x :: st) N adr G := by
  obtain ⟨p, l', e, R', s, m, args, below, meth, c, D', A, Q, nL'⟩ := Γ
  obtain ⟨rfl, rfl, rfl, rfl, hx, hb, hml, hown, hts, hnw, hK, hA, hlk⟩ := h
  intro H locs ls hP hD hS hl
  exact lv_icmp_lt hx hb d ht (fun q => kt q H locs ls hP hD hS hl) (fun q => kf q H locs ls hP hD hS hl)
theorem s_if_ge {l : Launch} {D : va_G} {R : Room} {own : String} {cc : ByteArray} {nL : Nat} {Γ : GT} {ce sl pc : Nat} {lv : List (Nat × Value)} {st : List Value} {N : Nat} {adr : Nat → Nat} {G : Nat → va_E} {x : Int32} {off : Int} {tgt : Nat} (h : cx l D R own cc nL Γ) (d : decode cc pc = .ok (.ifCond .ge off, 3)) (ht : (pc : Int) + off = (tgt : Int)) (kt : 0 ≤ x → SX Γ ce sl tgt lv st N adr G) (kf : ¬ 0 ≤ x → SX Γ ce sl (pc + 3) lv st N adr G) : SX Γ ce sl pc lv (.int x :: st) N adr G := by
  obtain ⟨p, l', e, R', s, m, args, below, meth, c, D', A, Q, nL'⟩ := Γ
  obtain ⟨rfl, rfl, rfl, rfl, hx, hb, hml, hown, hts, hnw, hK, hA, hlk⟩ := h
  intro H locs ls hP hD hS hl
  exact lv_if_ge hx hb d ht (fun q => kt q H locs ls hP hD hS hl) (fun q => kf q H locs ls hP hD hS hl)
theorem s_icmp_ge {l : Launch} {D : va_G} {R : Room} {own : String} {cc : ByteArray} {nL : Nat} {Γ : GT} {ce sl pc : Nat} {lv : List (Nat × Value)} {st : List Value} {N : Nat} {adr : Nat → Nat} {G : Nat → va_E} {x y : Int32} {off : Int} {tgt : Nat} (h : cx l D R own cc nL Γ) (d : decode cc pc = .ok (.if_icmp .ge off, 3)) (ht : (pc : Int) + off = (tgt : Int)) (kt : y ≤ x → SX Γ ce sl tgt lv st N adr G) (kf : ¬ y ≤ x → SX Γ ce sl (pc + 3) lv st N adr G) : SX Γ ce sl pc lv (.int y :: .int x :: st) N adr G := by
  obtain ⟨p, l', e, R', s, m, args, below, meth, c, D', A, Q, nL'⟩ := Γ
  obtain ⟨rfl, rfl, rfl, rfl, hx, hb, hml, hown, hts, hnw, hK, hA, hlk⟩ := h
  intro H locs ls hP hD hS hl
  exact lv_icmp_ge hx hb d ht (fun q => kt q H locs ls hP hD hS hl) (fun q => kf q H locs ls hP hD hS hl)
theorem s_if_gt {l : Launch} {D : va_G} {R : Room} {own : String} {cc : ByteArray} {nL : Nat} {Γ : GT} {ce sl pc : Nat} {lv : List (Nat × Value)} {st : List Value} {N : Nat} {adr : Nat → Nat} {G : Nat → va_E} {x : Int32} {off : Int} {tgt : Nat} (h : cx l D R own cc nL Γ) (d : decode cc pc = .ok (.ifCond .gt off, 3)) (ht : (pc : Int) + off = (tgt : Int)) (kt : 0 < x → SX Γ ce sl tgt lv st N adr G) (kf : ¬ 0 < x → SX Γ ce sl (pc + 3) lv st N adr G) : SX Γ ce sl pc lv (.int x :: st) N adr G := by
  obtain ⟨p, l', e, R', s, m, args, below, meth, c, D', A, Q, nL'⟩ := Γ
  obtain ⟨rfl, rfl, rfl, rfl, hx, hb, hml, hown, hts, hnw, hK, hA, hlk⟩ := h
  intro H locs ls hP hD hS hl
  exact lv_if_gt hx hb d ht (fun q => kt q H locs ls hP hD hS hl) (fun q => kf q H locs ls hP hD hS hl)
theorem s_icmp_gt {l : Launch} {D : va_G} {R : Room} {own : String} {cc : ByteArray} {nL : Nat} {Γ : GT} {ce sl pc : Nat} {lv : List (Nat × Value)} {st : List Value} {N : Nat} {adr : Nat → Nat} {G : Nat → va_E} {x y : Int32} {off : Int} {tgt : Nat} (h : cx l D R own cc nL Γ) (d : decode cc pc = .ok (.if_icmp .gt off, 3)) (ht : (pc : Int) + off = (tgt : Int)) (kt : y < x → SX Γ ce sl tgt lv st N adr G) (kf : ¬ y < x → SX Γ ce sl (pc + 3) lv st N adr G) : SX Γ ce sl pc lv (.int y :: .int x :: st) N adr G := by
  obtain ⟨p, l', e, R', s, m, args, below, meth, c, D', A, Q, nL'⟩ := Γ
  obtain ⟨rfl, rfl, rfl, rfl, hx, hb, hml, hown, hts, hnw, hK, hA, hlk⟩ := h
  intro H locs ls hP hD hS hl
  exact lv_icmp_gt hx hb d ht (fun q => kt q H locs ls hP hD hS hl) (fun q => kf q H locs ls hP hD hS hl)
theorem s_if_le {l : Launch} {D : va_G} {R : Room} {own : String} {cc : ByteArray} {nL : Nat} {Γ : GT} {ce sl pc : Nat} {lv : List (Nat × Value)} {st : List Value} {N : Nat} {adr : Nat → Nat} {G : Nat → va_E} {x : Int32} {off : Int} {tgt : Nat} (h : cx l D R own cc nL Γ) (d : decode cc pc = .ok (.ifCond .le off, 3)) (ht : (pc : Int) + off = (tgt : Int)) (kt : x ≤ 0 → SX Γ ce sl tgt lv st N adr G) (kf : ¬ x ≤ 0 → SX Γ ce sl (pc + 3) lv st N adr G) : SX Γ ce sl pc lv (.int x :: st) N adr G := by
  obtain ⟨p, l', e, R', s, m, args, below, meth, c, D', A, Q, nL'⟩ := Γ
  obtain ⟨rfl, rfl, rfl, rfl, hx, hb, hml, hown, hts, hnw, hK, hA, hlk⟩ := h
  intro H locs ls hP hD hS hl
  exact lv_if_le hx hb d ht (fun q => kt q H locs ls hP hD hS hl) (fun q => kf q H locs ls hP hD hS hl)
theorem s_icmp_le {l : Launch} {D : va_G} {R : Room} {own : String} {cc : ByteArray} {nL : Nat} {Γ : GT} {ce sl pc : Nat} {lv : List (Nat × Value)} {st : List Value} {N : Nat} {adr : Nat → Nat} {G : Nat → va_E} {x y : Int32} {off : Int} {tgt : Nat} (h : cx l D R own cc nL Γ) (d : decode cc pc = .ok (.if_icmp .le off, 3)) (ht : (pc : Int) + off = (tgt : Int)) (kt : x ≤ y → SX Γ ce sl tgt lv st N adr G) (kf : ¬ x ≤ y → SX Γ ce sl (pc + 3) lv st N adr G) : SX Γ ce sl pc lv (.int y :: .int x :: st) N adr G := by
  obtain ⟨p, l', e, R', s, m, args, below, meth, c, D', A, Q, nL'⟩ := Γ
  obtain ⟨rfl, rfl, rfl, rfl, hx, hb, hml, hown, hts, hnw, hK, hA, hlk⟩ := h
  intro H locs ls hP hD hS hl
  exact lv_icmp_le hx hb d ht (fun q => kt q H locs ls hP hD hS hl) (fun q => kf q H locs ls hP hD hS hl)
theorem s_goto {l : Launch} {D : va_G} {R : Room} {own : String} {cc : ByteArray} {nL : Nat} {Γ : GT} {ce sl pc : Nat} {lv : List (Nat × Value)} {st : List Value} {N : Nat} {adr : Nat → Nat} {G : Nat → va_E} {off : Int} {tgt : Nat} (h : cx l D R own cc nL Γ) (d : decode cc pc = .ok (.goto off, 3)) (ht : (pc : Int) + off = (tgt : Int)) (k : SX Γ ce sl tgt lv st N adr G) : SX Γ ce sl pc lv st N adr G := by
  obtain ⟨p, l', e, R', s, m, args, below, meth, c, D', A, Q, nL'⟩ := Γ
  obtain ⟨rfl, rfl, rfl, rfl, hx, hb, hml, hown, hts, hnw, hK, hA, hlk⟩ := h
  intro H locs ls hP hD hS hl
  exact lv_goto hx hb d ht (k H locs ls hP hD hS hl)
theorem s_ifnull {l : Launch} {D : va_G} {R : Room} {own : String} {cc : ByteArray} {nL : Nat} {Γ : GT} {ce sl pc : Nat} {lv : List (Nat × Value)} {st : List Value} {N : Nat} {adr : Nat → Nat} {G : Nat → va_E} {x : Nat} {off : Int} (h : cx l D R own cc nL Γ) (d : decode cc pc = .ok (.ifnull off, 3)) (k : SX Γ ce sl (pc + 3) lv st N adr G) : SX Γ ce sl pc lv (.ref x :: st) N adr G := by
  obtain ⟨p, l', e, R', s, m, args, below, meth, c, D', A, Q, nL'⟩ := Γ
  obtain ⟨rfl, rfl, rfl, rfl, hx, hb, hml, hown, hts, hnw, hK, hA, hlk⟩ := h
  intro H locs ls hP hD hS hl
  exact lv_ifnull hx hb d (k H locs ls hP hD hS hl)
theorem s_ifnullN {l : Launch} {D : va_G} {R : Room} {own : String} {cc : ByteArray} {nL : Nat} {Γ : GT} {ce sl pc : Nat} {lv : List (Nat × Value)} {st : List Value} {N : Nat} {adr : Nat → Nat} {G : Nat → va_E} {off : Int} {tgt : Nat} (h : cx l D R own cc nL Γ) (d : decode cc pc = .ok (.ifnull off, 3)) (ht : (pc : Int) + off = (tgt : Int)) (k : SX Γ ce sl tgt lv st N adr G) : SX Γ ce sl pc lv (.null :: st) N adr G := by
  obtain ⟨p, l', e, R', s, m, args, below, meth, c, D', A, Q, nL'⟩ := Γ
  obtain ⟨rfl, rfl, rfl, rfl, hx, hb, hml, hown, hts, hnw, hK, hA, hlk⟩ := h
  intro H locs ls hP hD hS hl
  exact lv_ifnullN hx hb d ht (k H locs ls hP hD hS hl)
theorem s_ifnonnull {l : Launch} {D : va_G} {R : Room} {own : String} {cc : ByteArray} {nL : Nat} {Γ : GT} {ce sl pc : Nat} {lv : List (Nat × Value)} {st : List Value} {N : Nat} {adr : Nat → Nat} {G : Nat → va_E} {x : Nat} {off : Int} {tgt : Nat} (h : cx l D R own cc nL Γ) (d : decode cc pc = .ok (.ifnonnull off, 3)) (ht : (pc : Int) + off = (tgt : Int)) (k : SX Γ ce sl tgt lv st N adr G) : SX Γ ce sl pc lv (.ref x :: st) N adr G := by
  obtain ⟨p, l', e, R', s, m, args, below, meth, c, D', A, Q, nL'⟩ := Γ
  obtain ⟨rfl, rfl, rfl, rfl, hx, hb, hml, hown, hts, hnw, hK, hA, hlk⟩ := h
  intro H locs ls hP hD hS hl
  exact lv_ifnonnull hx hb d ht (k H locs ls hP hD hS hl)
theorem s_ifnonnullN {l : Launch} {D : va_G} {R : Room} {own : String} {cc : ByteArray} {nL : Nat} {Γ : GT} {ce sl pc : Nat} {lv : List (Nat × Value)} {st : List Value} {N : Nat} {adr : Nat → Nat} {G : Nat → va_E} {off : Int} (h : cx l D R own cc nL Γ) (d : decode cc pc = .ok (.ifnonnull off, 3)) (k : SX Γ ce sl (pc + 3) lv st N adr G) : SX Γ ce sl pc lv (.null :: st) N adr G := by
  obtain ⟨p, l', e, R', s, m, args, below, meth, c, D', A, Q, nL'⟩ := Γ
  obtain ⟨rfl, rfl, rfl, rfl, hx, hb, hml, hown, hts, hnw, hK, hA, hlk⟩ := h
  intro H locs ls hP hD hS hl
  exact lv_ifnonnullN hx hb d (k H locs ls hP hD hS hl)
theorem s_tableOut {l : Launch} {D : va_G} {R : Room} {own : String} {cc : ByteArray} {nL : Nat} {Γ : GT} {ce sl pc : Nat} {lv : List (Nat × Value)} {st : List Value} {N : Nat} {adr : Nat → Nat} {G : Nat → va_E} {x : Int32} {dflt lo hi : Int} {offs : Array Int} {len tgt : Nat} (h : cx l D R own cc nL Γ) (d : decode cc pc = .ok (.tableswitch dflt lo hi offs, len)) (hx1 : x.toInt < lo ∨ hi < x.toInt) (ht : (pc : Int) + dflt = (tgt : Int)) (k : SX Γ ce sl tgt lv st N adr G) : SX Γ ce sl pc lv (.int x :: st) N adr G := by
  obtain ⟨p, l', e, R', s, m, args, below, meth, c, D', A, Q, nL'⟩ := Γ
  obtain ⟨rfl, rfl, rfl, rfl, hx, hb, hml, hown, hts, hnw, hK, hA, hlk⟩ := h
  intro H locs ls hP hD hS hl
  exact lv_tableOut hx hb d hx1 ht (k H locs ls hP hD hS hl)
theorem s_tableIn {l : Launch} {D : va_G} {R : Room} {own : String} {cc : ByteArray} {nL : Nat} {Γ : GT} {ce sl pc : Nat} {lv : List (Nat × Value)} {st : List Value} {N : Nat} {adr : Nat → Nat} {G : Nat → va_E} {x : Int32} {dflt lo hi : Int} {offs : Array Int} {len tgt : Nat} {off : Int} (h : cx l D R own cc nL Γ) (d : decode cc pc = .ok (.tableswitch dflt lo hi offs, len)) (h1 : ¬ x.toInt < lo) (h2 : ¬ hi < x.toInt) (ho : offs[(x.toInt - lo).toNat]? = some off) (ht : (pc : Int) + off = (tgt : Int)) (k : SX Γ ce sl tgt lv st N adr G) : SX Γ ce sl pc lv (.int x :: st) N adr G := by
  obtain ⟨p, l', e, R', s, m, args, below, meth, c, D', A, Q, nL'⟩ := Γ
  obtain ⟨rfl, rfl, rfl, rfl, hx, hb, hml, hown, hts, hnw, hK, hA, hlk⟩ := h
  intro H locs ls hP hD hS hl
  exact lv_tableIn hx hb d h1 h2 ho ht (k H locs ls hP hD hS hl)
theorem s_lcmp {l : Launch} {D : va_G} {R : Room} {own : String} {cc : ByteArray} {nL : Nat} {Γ : GT} {ce sl pc : Nat} {lv : List (Nat × Value)} {st : List Value} {N : Nat} {adr : Nat → Nat} {G : Nat → va_E} {x y : Int64} (h : cx l D R own cc nL Γ) (d : decode cc pc = .ok (.lcmp, 1)) (k : SX Γ ce sl (pc + 1) lv (.int (lg_cmp x y) :: st) N adr G) : SX Γ ce sl pc lv (.long y :: .long x :: st) N adr G := by
  obtain ⟨p, l', e, R', s, m, args, below, meth, c, D', A, Q, nL'⟩ := Γ
  obtain ⟨rfl, rfl, rfl, rfl, hx, hb, hml, hown, hts, hnw, hK, hA, hlk⟩ := h
  intro H locs ls hP hD hS hl
  exact W.lcmp hx hb d (k H locs ls hP hD hS hl)
abbrev aI (D : va_G) (n : Nat) (f : Nat → Int32) : va_E := .inl (D.1 100, n, .inl f)
abbrev aJ (D : va_G) (n : Nat) (f : Nat → Int64) : va_E := .inl (D.1 101, n, .inr (.inl f))
abbrev aZ (D : va_G) (n : Nat) (f : Nat → Int32) : va_E := .inl (D.1 102, n, .inl f)
abbrev aP (D : va_G) (n : Nat) (f : Nat → Option Nat) : va_E := .inl (D.1 103, n, .inr (.inr (.inr (.inr f))))
abbrev aS (D : va_G) (n : Nat) (f : Nat → Option Nat) : va_E := .inl (D.1 104, n, .inr (.inr (.inr (.inr f))))
abbrev aT (D : va_G) (n : Nat) (f : Nat → Option Nat) : va_E := .inl (D.1 105, n, .inr (.inr (.inr (.inr f))))
/-- the int i is the place j of a row of n -/
def ix (i : Int32) (j n : Nat) : Prop := ¬ i < 0 ∧ i.toNatClampNeg = j ∧ j < n
theorem ix_in {i : Int32} {j n : Nat} (h : ix i j n) : vp_in i n := by
  intro q
  rcases q with q | q
  · exact h.1 q
  · exact absurd h.2.2 (by rw [← h.2.1]; omega)
theorem s_iald {l : Launch} {D : va_G} {R : Room} {own : String} {cc : ByteArray} {nL : Nat} {Γ : GT} {ce sl pc : Nat} {lv : List (Nat × Value)} {st : List Value} {N : Nat} {adr : Nat → Nat} {G : Nat → va_E} {k n j : Nat} {f : Nat → Int32} {i : Int32} {v : Int32} (h : cx l D R own cc nL Γ) (d : decode cc pc = .ok (.iaload, 1)) (hk : k < N) (hg : G k = aI D n f) (hi : ix i j n) (hv : f j = v) (k_ : SX Γ ce sl (pc + 1) lv (.int v :: st) N adr G) : SX Γ ce sl pc lv (.int i :: .ref (adr k) :: st) N adr G := by
  obtain ⟨p, l', e, R', s, m, args, below, meth, c, D', A, Q, nL'⟩ := Γ
  obtain ⟨rfl, rfl, rfl, rfl, hx, hb, hml, hown, hts, hnw, hK, hA, hlk⟩ := h
  intro H locs ls hP hD hS hl
  have hj := hi.2.1
  subst hj
  subst hv
  exact va_iald hx hb hK hP k 0 (wl_get hk hg) rfl (ix_in hi) d (k_ H locs ls hP hD hS hl)
theorem s_lald {l : Launch} {D : va_G} {R : Room} {own : String} {cc : ByteArray} {nL : Nat} {Γ : GT} {ce sl pc : Nat} {lv : List (Nat × Value)} {st : List Value} {N : Nat} {adr : Nat → Nat} {G : Nat → va_E} {k n j : Nat} {f : Nat → Int64} {i : Int32} {v : Int64} (h : cx l D R own cc nL Γ) (d : decode cc pc = .ok (.laload, 1)) (hk : k < N) (hg : G k = aJ D n f) (hi : ix i j n) (hv : f j = v) (k_ : SX Γ ce sl (pc + 1) lv (.long v :: st) N adr G) : SX Γ ce sl pc lv (.int i :: .ref (adr k) :: st) N adr G := by
  obtain ⟨p, l', e, R', s, m, args, below, meth, c, D', A, Q, nL'⟩ := Γ
  obtain ⟨rfl, rfl, rfl, rfl, hx, hb, hml, hown, hts, hnw, hK, hA, hlk⟩ := h
  intro H locs ls hP hD hS hl
  have hj := hi.2.1
  subst hj
  subst hv
  exact va_lald hx hb hK hP k 1 (wl_get hk hg) rfl (ix_in hi) d (k_ H locs ls hP hD hS hl)
theorem s_zald {l : Launch} {D : va_G} {R : Room} {own : String} {cc : ByteArray} {nL : Nat} {Γ : GT} {ce sl pc : Nat} {lv : List (Nat × Value)} {st : List Value} {N : Nat} {adr : Nat → Nat} {G : Nat → va_E} {k n j : Nat} {f : Nat → Int32} {i : Int32} {v : Int32} (h : cx l D R own cc nL Γ) (d : decode cc pc = .ok (.baload, 1)) (hk : k < N) (hg : G k = aZ D n f) (hi : ix i j n) (hv : f j = v) (k_ : SX Γ ce sl (pc + 1) lv (.int v :: st) N adr G) : SX Γ ce sl pc lv (.int i :: .ref (adr k) :: st) N adr G := by
  obtain ⟨p, l', e, R', s, m, args, below, meth, c, D', A, Q, nL'⟩ := Γ
  obtain ⟨rfl, rfl, rfl, rfl, hx, hb, hml, hown, hts, hnw, hK, hA, hlk⟩ := h
  intro H locs ls hP hD hS hl
  have hj := hi.2.1
  subst hj
  subst hv
  exact va_zald hx hb hK hP k 2 (wl_get hk hg) rfl (ix_in hi) d (k_ H locs ls hP hD hS hl)
theorem s_aaldP {l : Launch} {D : va_G} {R : Room} {own : String} {cc : ByteArray} {nL : Nat} {Γ : GT} {ce sl pc : Nat} {lv : List (Nat × Value)} {st : List Value} {N : Nat} {adr : Nat → Nat} {G : Nat → va_E} {k n j : Nat} {f : Nat → Option Nat} {i : Int32} {v : Option Nat} (h : cx l D R own cc nL Γ) (d : decode cc pc = .ok (.aaload, 1)) (hk : k < N) (hg : G k = aP D n f) (hi : ix i j n) (hv : f j = v) (k_ : SX Γ ce sl (pc + 1) lv (va_rf v :: st) N adr G) : SX Γ ce sl pc lv (.int i :: .ref (adr k) :: st) N adr G := by
  obtain ⟨p, l', e, R', s, m, args, below, meth, c, D', A, Q, nL'⟩ := Γ
  obtain ⟨rfl, rfl, rfl, rfl, hx, hb, hml, hown, hts, hnw, hK, hA, hlk⟩ := h
  intro H locs ls hP hD hS hl
  have hj := hi.2.1
  subst hj
  subst hv
  exact va_aldq hx hb hK hP k 3 (wl_get hk hg) rfl (ix_in hi) d (k_ H locs ls hP hD hS hl)
theorem s_aaldS {l : Launch} {D : va_G} {R : Room} {own : String} {cc : ByteArray} {nL : Nat} {Γ : GT} {ce sl pc : Nat} {lv : List (Nat × Value)} {st : List Value} {N : Nat} {adr : Nat → Nat} {G : Nat → va_E} {k n j : Nat} {f : Nat → Option Nat} {i : Int32} {v : Option Nat} (h : cx l D R own cc nL Γ) (d : decode cc pc = .ok (.aaload, 1)) (hk : k < N) (hg : G k = aS D n f) (hi : ix i j n) (hv : f j = v) (k_ : SX Γ ce sl (pc + 1) lv (va_rf v :: st) N adr G) : SX Γ ce sl pc lv (.int i :: .ref (adr k) :: st) N adr G := by
  obtain ⟨p, l', e, R', s, m, args, below, meth, c, D', A, Q, nL'⟩ := Γ
  obtain ⟨rfl, rfl, rfl, rfl, hx, hb, hml, hown, hts, hnw, hK, hA, hlk⟩ := h
  intro H locs ls hP hD hS hl
  have hj := hi.2.1
  subst hj
  subst hv
  exact va_aldq hx hb hK hP k 4 (wl_get hk hg) rfl (ix_in hi) d (k_ H locs ls hP hD hS hl)
theorem s_aaldT {l : Launch} {D : va_G} {R : Room} {own : String} {cc : ByteArray} {nL : Nat} {Γ : GT} {ce sl pc : Nat} {lv : List (Nat × Value)} {st : List Value} {N : Nat} {adr : Nat → Nat} {G : Nat → va_E} {k n j : Nat} {f : Nat → Option Nat} {i : Int32} {v : Option Nat} (h : cx l D R own cc nL Γ) (d : decode cc pc = .ok (.aaload, 1)) (hk : k < N) (hg : G k = aT D n f) (hi : ix i j n) (hv : f j = v) (k_ : SX Γ ce sl (pc + 1) lv (va_rf v :: st) N adr G) : SX Γ ce sl pc lv (.int i :: .ref (adr k) :: st) N adr G := by
  obtain ⟨p, l', e, R', s, m, args, below, meth, c, D', A, Q, nL'⟩ := Γ
  obtain ⟨rfl, rfl, rfl, rfl, hx, hb, hml, hown, hts, hnw, hK, hA, hlk⟩ := h
  intro H locs ls hP hD hS hl
  have hj := hi.2.1
  subst hj
  subst hv
  exact va_aldq hx hb hK hP k 5 (wl_get hk hg) rfl (ix_in hi) d (k_ H locs ls hP hD hS hl)
theorem s_iast {l : Launch} {D : va_G} {R : Room} {own : String} {cc : ByteArray} {nL : Nat} {Γ : GT} {ce sl pc : Nat} {lv : List (Nat × Value)} {st : List Value} {N : Nat} {adr : Nat → Nat} {G : Nat → va_E} {k n j : Nat} {f : Nat → Int32} {i : Int32} {x : Int32} (h : cx l D R own cc nL Γ) (d : decode cc pc = .ok (.iastore, 1)) (hk : k < N) (hg : G k = aI D n f) (hi : ix i j n) (k_ : SX Γ ce sl (pc + 1) lv st N adr (va_up G k (aI D n (upd f j x)))) : SX Γ ce sl pc lv (.int x :: .int i :: .ref (adr k) :: st) N adr G := by
  obtain ⟨p, l', e, R', s, m, args, below, meth, c, D', A, Q, nL'⟩ := Γ
  obtain ⟨rfl, rfl, rfl, rfl, hx, hb, hml, hown, hts, hnw, hK, hA, hlk⟩ := h
  intro H locs ls hP hD hS hl
  have hj := hi.2.1
  subst hj
  refine va_iast hx hb hK hP hD hS k 0 (wl_get hk hg) rfl (ix_in hi) d (fun H1 locs1 hP1 hD1 hS1 => ?_)
  rw [wl_set] at hP1 hD1
  exact k_ H1 locs1 ls hP1 hD1 hS1 hl
theorem s_last {l : Launch} {D : va_G} {R : Room} {own : String} {cc : ByteArray} {nL : Nat} {Γ : GT} {ce sl pc : Nat} {lv : List (Nat × Value)} {st : List Value} {N : Nat} {adr : Nat → Nat} {G : Nat → va_E} {k n j : Nat} {f : Nat → Int64} {i : Int32} {x : Int64} (h : cx l D R own cc nL Γ) (d : decode cc pc = .ok (.lastore, 1)) (hk : k < N) (hg : G k = aJ D n f) (hi : ix i j n) (k_ : SX Γ ce sl (pc + 1) lv st N adr (va_up G k (aJ D n (vp_updL f j x)))) : SX Γ ce sl pc lv (.long x :: .int i :: .ref (adr k) :: st) N adr G := by
  obtain ⟨p, l', e, R', s, m, args, below, meth, c, D', A, Q, nL'⟩ := Γ
  obtain ⟨rfl, rfl, rfl, rfl, hx, hb, hml, hown, hts, hnw, hK, hA, hlk⟩ := h
  intro H locs ls hP hD hS hl
  have hj := hi.2.1
  subst hj
  refine va_last hx hb hK hP hD hS k 1 (wl_get hk hg) rfl (ix_in hi) d (fun H1 locs1 hP1 hD1 hS1 => ?_)
  rw [wl_set] at hP1 hD1
  exact k_ H1 locs1 ls hP1 hD1 hS1 hl
theorem s_zast {l : Launch} {D : va_G} {R : Room} {own : String} {cc : ByteArray} {nL : Nat} {Γ : GT} {ce sl pc : Nat} {lv : List (Nat × Value)} {st : List Value} {N : Nat} {adr : Nat → Nat} {G : Nat → va_E} {k n j : Nat} {f : Nat → Int32} {i : Int32} {x : Int32} (h : cx l D R own cc nL Γ) (d : decode cc pc = .ok (.bastore, 1)) (hk : k < N) (hg : G k = aZ D n f) (hi : ix i j n) (hx01 : vp_nar .boolean x = x) (k_ : SX Γ ce sl (pc + 1) lv st N adr (va_up G k (aZ D n (upd f j x)))) : SX Γ ce sl pc lv (.int x :: .int i :: .ref (adr k) :: st) N adr G := by
  obtain ⟨p, l', e, R', s, m, args, below, meth, c, D', A, Q, nL'⟩ := Γ
  obtain ⟨rfl, rfl, rfl, rfl, hx, hb, hml, hown, hts, hnw, hK, hA, hlk⟩ := h
  intro H locs ls hP hD hS hl
  have hj := hi.2.1
  subst hj
  refine va_zast hx hb hK hP hD hS k 2 (wl_get hk hg) rfl (ix_in hi) d (fun H1 locs1 hP1 hD1 hS1 => ?_)
  rw [hx01, wl_set] at hP1 hD1
  exact k_ H1 locs1 ls hP1 hD1 hS1 hl
theorem s_aastP {l : Launch} {D : va_G} {R : Room} {own : String} {cc : ByteArray} {nL : Nat} {Γ : GT} {ce sl pc : Nat} {lv : List (Nat × Value)} {st : List Value} {N : Nat} {adr : Nat → Nat} {G : Nat → va_E} {k k2 n j : Nat} {f : Nat → Option Nat} {i : Int32} {vs : List Value} (h : cx l D R own cc nL Γ) (d : decode cc pc = .ok (.aastore, 1)) (hk : k < N) (hg : G k = aP D n f) (hk2 : k2 < N) (hg2 : G k2 = .inr (2, vs)) (hi : ix i j n) (k_ : SX Γ ce sl (pc + 1) lv st N adr (va_up G k (aP D n (va_up f j (some (adr k2)))))) : SX Γ ce sl pc lv (.ref (adr k2) :: .int i :: .ref (adr k) :: st) N adr G := by
  obtain ⟨p, l', e, R', s, m, args, below, meth, c, D', A, Q, nL'⟩ := Γ
  obtain ⟨rfl, rfl, rfl, rfl, hx, hb, hml, hown, hts, hnw, hK, hA, hlk⟩ := h
  intro H locs ls hP hD hS hl
  have hj := hi.2.1
  subst hj
  refine va_astq hx hb hK hP hD hS k 3 k2 2 (r := (RX2, TX2, 2)) (wl_get hk hg) rfl (wl_get hk2 hg2) rfl (ix_in hi) d (fun H1 locs1 hP1 hD1 hS1 => ?_)
  rw [wl_set] at hP1 hD1
  exact k_ H1 locs1 ls hP1 hD1 hS1 hl
theorem s_aastS {l : Launch} {D : va_G} {R : Room} {own : String} {cc : ByteArray} {nL : Nat} {Γ : GT} {ce sl pc : Nat} {lv : List (Nat × Value)} {st : List Value} {N : Nat} {adr : Nat → Nat} {G : Nat → va_E} {k k2 n j : Nat} {f : Nat → Option Nat} {i : Int32} {vs : List Value} (h : cx l D R own cc nL Γ) (d : decode cc pc = .ok (.aastore, 1)) (hk : k < N) (hg : G k = aS D n f) (hk2 : k2 < N) (hg2 : G k2 = .inr (3, vs)) (hi : ix i j n) (k_ : SX Γ ce sl (pc + 1) lv st N adr (va_up G k (aS D n (va_up f j (some (adr k2)))))) : SX Γ ce sl pc lv (.ref (adr k2) :: .int i :: .ref (adr k) :: st) N adr G := by
  obtain ⟨p, l', e, R', s, m, args, below, meth, c, D', A, Q, nL'⟩ := Γ
  obtain ⟨rfl, rfl, rfl, rfl, hx, hb, hml, hown, hts, hnw, hK, hA, hlk⟩ := h
  intro H locs ls hP hD hS hl
  have hj := hi.2.1
  subst hj
  refine va_astq hx hb hK hP hD hS k 4 k2 3 (r := (RX3, TX3, 3)) (wl_get hk hg) rfl (wl_get hk2 hg2) rfl (ix_in hi) d (fun H1 locs1 hP1 hD1 hS1 => ?_)
  rw [wl_set] at hP1 hD1
  exact k_ H1 locs1 ls hP1 hD1 hS1 hl
theorem s_aastT {l : Launch} {D : va_G} {R : Room} {own : String} {cc : ByteArray} {nL : Nat} {Γ : GT} {ce sl pc : Nat} {lv : List (Nat × Value)} {st : List Value} {N : Nat} {adr : Nat → Nat} {G : Nat → va_E} {k k2 n j : Nat} {f : Nat → Option Nat} {i : Int32} {vs : List Value} (h : cx l D R own cc nL Γ) (d : decode cc pc = .ok (.aastore, 1)) (hk : k < N) (hg : G k = aT D n f) (hk2 : k2 < N) (hg2 : G k2 = .inr (5, vs)) (hi : ix i j n) (k_ : SX Γ ce sl (pc + 1) lv st N adr (va_up G k (aT D n (va_up f j (some (adr k2)))))) : SX Γ ce sl pc lv (.ref (adr k2) :: .int i :: .ref (adr k) :: st) N adr G := by
  obtain ⟨p, l', e, R', s, m, args, below, meth, c, D', A, Q, nL'⟩ := Γ
  obtain ⟨rfl, rfl, rfl, rfl, hx, hb, hml, hown, hts, hnw, hK, hA, hlk⟩ := h
  intro H locs ls hP hD hS hl
  have hj := hi.2.1
  subst hj
  refine va_astq hx hb hK hP hD hS k 5 k2 5 (r := (RX6, TX6, 4)) (wl_get hk hg) rfl (wl_get hk2 hg2) rfl (ix_in hi) d (fun H1 locs1 hP1 hD1 hS1 => ?_)
  rw [wl_set] at hP1 hD1
  exact k_ H1 locs1 ls hP1 hD1 hS1 hl
theorem s_alenI {l : Launch} {D : va_G} {R : Room} {own : String} {cc : ByteArray} {nL : Nat} {Γ : GT} {ce sl pc : Nat} {lv : List (Nat × Value)} {st : List Value} {N : Nat} {adr : Nat → Nat} {G : Nat → va_E} {k n : Nat} {f : Nat → Int32} {v : Int32} (h : cx l D R own cc nL Γ) (d : decode cc pc = .ok (.arraylength, 1)) (hk : k < N) (hg : G k = aI D n f) (hv : Int32.ofNat n = v) (k_ : SX Γ ce sl (pc + 1) lv (.int v :: st) N adr G) : SX Γ ce sl pc lv (.ref (adr k) :: st) N adr G := by
  obtain ⟨p, l', e, R', s, m, args, below, meth, c, D', A, Q, nL'⟩ := Γ
  obtain ⟨rfl, rfl, rfl, rfl, hx, hb, hml, hown, hts, hnw, hK, hA, hlk⟩ := h
  intro H locs ls hP hD hS hl
  exact va_alen hx hb hK hP k 0 (wl_get hk hg) rfl hv d (k_ H locs ls hP hD hS hl)
theorem s_alenJ {l : Launch} {D : va_G} {R : Room} {own : String} {cc : ByteArray} {nL : Nat} {Γ : GT} {ce sl pc : Nat} {lv : List (Nat × Value)} {st : List Value} {N : Nat} {adr : Nat → Nat} {G : Nat → va_E} {k n : Nat} {f : Nat → Int64} {v : Int32} (h : cx l D R own cc nL Γ) (d : decode cc pc = .ok (.arraylength, 1)) (hk : k < N) (hg : G k = aJ D n f) (hv : Int32.ofNat n = v) (k_ : SX Γ ce sl (pc + 1) lv (.int v :: st) N adr G) : SX Γ ce sl pc lv (.ref (adr k) :: st) N adr G := by
  obtain ⟨p, l', e, R', s, m, args, below, meth, c, D', A, Q, nL'⟩ := Γ
  obtain ⟨rfl, rfl, rfl, rfl, hx, hb, hml, hown, hts, hnw, hK, hA, hlk⟩ := h
  intro H locs ls hP hD hS hl
  exact va_alen hx hb hK hP k 1 (wl_get hk hg) rfl hv d (k_ H locs ls hP hD hS hl)
theorem s_alenZ {l : Launch} {D : va_G} {R : Room} {own : String} {cc : ByteArray} {nL : Nat} {Γ : GT} {ce sl pc : Nat} {lv : List (Nat × Value)} {st : List Value} {N : Nat} {adr : Nat → Nat} {G : Nat → va_E} {k n : Nat} {f : Nat → Int32} {v : Int32} (h : cx l D R own cc nL Γ) (d : decode cc pc = .ok (.arraylength, 1)) (hk : k < N) (hg : G k = aZ D n f) (hv : Int32.ofNat n = v) (k_ : SX Γ ce sl (pc + 1) lv (.int v :: st) N adr G) : SX Γ ce sl pc lv (.ref (adr k) :: st) N adr G := by
  obtain ⟨p, l', e, R', s, m, args, below, meth, c, D', A, Q, nL'⟩ := Γ
  obtain ⟨rfl, rfl, rfl, rfl, hx, hb, hml, hown, hts, hnw, hK, hA, hlk⟩ := h
  intro H locs ls hP hD hS hl
  exact va_alen hx hb hK hP k 2 (wl_get hk hg) rfl hv d (k_ H locs ls hP hD hS hl)
theorem s_alenP {l : Launch} {D : va_G} {R : Room} {own : String} {cc : ByteArray} {nL : Nat} {Γ : GT} {ce sl pc : Nat} {lv : List (Nat × Value)} {st : List Value} {N : Nat} {adr : Nat → Nat} {G : Nat → va_E} {k n : Nat} {f : Nat → Option Nat} {v : Int32} (h : cx l D R own cc nL Γ) (d : decode cc pc = .ok (.arraylength, 1)) (hk : k < N) (hg : G k = aP D n f) (hv : Int32.ofNat n = v) (k_ : SX Γ ce sl (pc + 1) lv (.int v :: st) N adr G) : SX Γ ce sl pc lv (.ref (adr k) :: st) N adr G := by
  obtain ⟨p, l', e, R', s, m, args, below, meth, c, D', A, Q, nL'⟩ := Γ
  obtain ⟨rfl, rfl, rfl, rfl, hx, hb, hml, hown, hts, hnw, hK, hA, hlk⟩ := h
  intro H locs ls hP hD hS hl
  exact va_alen hx hb hK hP k 3 (wl_get hk hg) rfl hv d (k_ H locs ls hP hD hS hl)
theorem s_alenS {l : Launch} {D : va_G} {R : Room} {own : String} {cc : ByteArray} {nL : Nat} {Γ : GT} {ce sl pc : Nat} {lv : List (Nat × Value)} {st : List Value} {N : Nat} {adr : Nat → Nat} {G : Nat → va_E} {k n : Nat} {f : Nat → Option Nat} {v : Int32} (h : cx l D R own cc nL Γ) (d : decode cc pc = .ok (.arraylength, 1)) (hk : k < N) (hg : G k = aS D n f) (hv : Int32.ofNat n = v) (k_ : SX Γ ce sl (pc + 1) lv (.int v :: st) N adr G) : SX Γ ce sl pc lv (.ref (adr k) :: st) N adr G := by
  obtain ⟨p, l', e, R', s, m, args, below, meth, c, D', A, Q, nL'⟩ := Γ
  obtain ⟨rfl, rfl, rfl, rfl, hx, hb, hml, hown, hts, hnw, hK, hA, hlk⟩ := h
  intro H locs ls hP hD hS hl
  exact va_alen hx hb hK hP k 4 (wl_get hk hg) rfl hv d (k_ H locs ls hP hD hS hl)
theorem s_alenT {l : Launch} {D : va_G} {R : Room} {own : String} {cc : ByteArray} {nL : Nat} {Γ : GT} {ce sl pc : Nat} {lv : List (Nat × Value)} {st : List Value} {N : Nat} {adr : Nat → Nat} {G : Nat → va_E} {k n : Nat} {f : Nat → Option Nat} {v : Int32} (h : cx l D R own cc nL Γ) (d : decode cc pc = .ok (.arraylength, 1)) (hk : k < N) (hg : G k = aT D n f) (hv : Int32.ofNat n = v) (k_ : SX Γ ce sl (pc + 1) lv (.int v :: st) N adr G) : SX Γ ce sl pc lv (.ref (adr k) :: st) N adr G := by
  obtain ⟨p, l', e, R', s, m, args, below, meth, c, D', A, Q, nL'⟩ := Γ
  obtain ⟨rfl, rfl, rfl, rfl, hx, hb, hml, hown, hts, hnw, hK, hA, hlk⟩ := h
  intro H locs ls hP hD hS hl
  exact va_alen hx hb hK hP k 5 (wl_get hk hg) rfl hv d (k_ H locs ls hP hD hS hl)
theorem s_get {l : Launch} {D : va_G} {R : Room} {own : String} {cc : ByteArray} {nL : Nat} {Γ : GT} {ce sl pc : Nat} {lv : List (Nat × Value)} {st : List Value} {N : Nat} {adr : Nat → Nat} {G : Nat → va_E} {ref C : String} {T : u_T} {Nf ci index k j : Nat} {fs : List Value} {v : Value} (h : cx l D R own cc nL Γ) (hin : ∀ w ∈ u_ws C T Nf, w ∈ TT) (hc : vwCl[ci]? = some (C, T, Nf)) (hj : j < Nf) (hlink : Cond.fieldLink own index ref (T j).2.1 (T j).2.2.1 ∈ TT) (href : (T j).1 = ref) (hk : k < N) (hg : G k = .inr (ci, fs)) (hv : fs[j]? = some v) (d : decode cc pc = .ok (.getfield index, 3)) (k_ : SX Γ ce sl (pc + 3) lv (v :: st) N adr G) : SX Γ ce sl pc lv (.ref (adr k) :: st) N adr G := by
  obtain ⟨p, l', e, R', s, m, args, below, meth, c, D', A, Q, nL'⟩ := Γ
  obtain ⟨rfl, rfl, rfl, rfl, hx, hb, hml, hown, hts, hnw, hK, hA, hlk⟩ := h
  intro H locs ls hP hD hS hl
  subst href
  exact va_get hx hb hts hin hown hK hP k (wl_get hk hg) hc j hj (hts _ hlink) (fun _ h9 => h9) hv d (k_ H locs ls hP hD hS hl)
theorem s_getN {l : Launch} {D : va_G} {R : Room} {own : String} {cc : ByteArray} {nL : Nat} {Γ : GT} {ce sl pc : Nat} {lv : List (Nat × Value)} {st : List Value} {N : Nat} {adr : Nat → Nat} {G : Nat → va_E} {ref host C : String} {T : u_T} {Nf ci index k j : Nat} {fs : List Value} {v : Value} (h : cx l D R own cc nL Γ) (hin : ∀ w ∈ u_ws C T Nf, w ∈ TT) (hc : vwCl[ci]? = some (C, T, Nf)) (hj : j < Nf) (hlink : Cond.fieldLinkNest own index ref (T j).2.1 (T j).2.2.1 host ∈ NW) (href : (T j).1 = ref) (hk : k < N) (hg : G k = .inr (ci, fs)) (hv : fs[j]? = some v) (d : decode cc pc = .ok (.getfield index, 3)) (k_ : SX Γ ce sl (pc + 3) lv (v :: st) N adr G) : SX Γ ce sl pc lv (.ref (adr k) :: st) N adr G := by
  obtain ⟨p, l', e, R', s, m, args, below, meth, c, D', A, Q, nL'⟩ := Γ
  obtain ⟨rfl, rfl, rfl, rfl, hx, hb, hml, hown, hts, hnw, hK, hA, hlk⟩ := h
  intro H locs ls hP hD hS hl
  subst href
  exact va_getN hx hb hts hin hown hK hP k (wl_get hk hg) hc j hj (va_Nw.use rfl (hnw _ hlink)) (fun _ h9 => h9) hv d (k_ H locs ls hP hD hS hl)
theorem s_put {l : Launch} {D : va_G} {R : Room} {own : String} {cc : ByteArray} {nL : Nat} {Γ : GT} {ce sl pc : Nat} {lv : List (Nat × Value)} {st : List Value} {N : Nat} {adr : Nat → Nat} {G : Nat → va_E} {ref C : String} {T : u_T} {Nf ci index k j : Nat} {fs : List Value} {v : Value} {ty0 : Nat → FieldType} {ty : FieldType} (h : cx l D R own cc nL Γ) (hin : ∀ w ∈ u_ws C T Nf, w ∈ TT) (hty : ∀ k, k < Nf → parseFieldDescriptor (T k).2.2.1 = some (ty0 k)) (hnm : ∀ a, a < Nf → ∀ b, b < Nf → a ≠ b → (T a).2.1 ≠ (T b).2.1) (hc : vwCl[ci]? = some (C, T, Nf)) (hj : j < Nf) (hlink : Cond.fieldLink own index ref (T j).2.1 (T j).2.2.1 ∈ TT) (href : (T j).1 = ref) (hfin : (T j).2.2.2 = false) (hd : parseFieldDescriptor (T j).2.2.1 = some ty) (hn : narrow ty v = v) (hfit : fits ty v = true) (hl9 : j < fs.length) (hk : k < N) (hg : G k = .inr (ci, fs)) (d : decode cc pc = .ok (.putfield index, 3)) (k_ : SX Γ ce sl (pc + 3) lv st N adr (va_up G k (.inr (ci, fs.set j v)))) : SX Γ ce sl pc lv (v :: .ref (adr k) :: st) N adr G := by
  obtain ⟨p, l', e, R', s, m, args, below, meth, c, D', A, Q, nL'⟩ := Γ
  obtain ⟨rfl, rfl, rfl, rfl, hx, hb, hml, hown, hts, hnw, hK, hA, hlk⟩ := h
  intro H locs ls hP hD hS hl
  subst href
  refine va_put hx hb hts hin ty0 hty hnm hown hK hP hD hS k (wl_get hk hg) hc j hj (hts _ hlink) (fun _ h9 => h9) hfin hd hn hfit hl9 d (fun H1 locs1 hP1 hD1 hS1 => ?_)
  rw [wl_set] at hP1 hD1
  exact k_ H1 locs1 ls hP1 hD1 hS1 hl
theorem s_putN {l : Launch} {D : va_G} {R : Room} {own : String} {cc : ByteArray} {nL : Nat} {Γ : GT} {ce sl pc : Nat} {lv : List (Nat × Value)} {st : List Value} {N : Nat} {adr : Nat → Nat} {G : Nat → va_E} {ref host C : String} {T : u_T} {Nf ci index k j : Nat} {fs : List Value} {v : Value} {ty0 : Nat → FieldType} {ty : FieldType} (h : cx l D R own cc nL Γ) (hin : ∀ w ∈ u_ws C T Nf, w ∈ TT) (hty : ∀ k, k < Nf → parseFieldDescriptor (T k).2.2.1 = some (ty0 k)) (hnm : ∀ a, a < Nf → ∀ b, b < Nf → a ≠ b → (T a).2.1 ≠ (T b).2.1) (hc : vwCl[ci]? = some (C, T, Nf)) (hj : j < Nf) (hlink : Cond.fieldLinkNest own index ref (T j).2.1 (T j).2.2.1 host ∈ NW) (href : (T j).1 = ref) (hfin : (T j).2.2.2 = false) (hd : parseFieldDescriptor (T j).2.2.1 = some ty) (hn : narrow ty v = v) (hfit : fits ty v = true) (hl9 : j < fs.length) (hk : k < N) (hg : G k = .inr (ci, fs)) (d : decode cc pc = .ok (.putfield index, 3)) (k_ : SX Γ ce sl (pc + 3) lv st N adr (va_up G k (.inr (ci, fs.set j v)))) : SX Γ ce sl pc lv (v :: .ref (adr k) :: st) N adr G := by
  obtain ⟨p, l', e, R', s, m, args, below, meth, c, D', A, Q, nL'⟩ := Γ
  obtain ⟨rfl, rfl, rfl, rfl, hx, hb, hml, hown, hts, hnw, hK, hA, hlk⟩ := h
  intro H locs ls hP hD hS hl
  subst href
  refine va_putN hx hb hts hin ty0 hty hnm hown hK hP hD hS k (wl_get hk hg) hc j hj (va_Nw.use rfl (hnw _ hlink)) (fun _ h9 => h9) hfin hd hn hfit hl9 d (fun H1 locs1 hP1 hD1 hS1 => ?_)
  rw [wl_set] at hP1 hD1
  exact k_ H1 locs1 ls hP1 hD1 hS1 hl
theorem s_putF {l : Launch} {D : va_G} {R : Room} {own : String} {cc : ByteArray} {nL : Nat} {Γ : GT} {ce sl pc : Nat} {lv : List (Nat × Value)} {st : List Value} {N : Nat} {adr : Nat → Nat} {G : Nat → va_E} {ref C : String} {T : u_T} {Nf ci index k j mc ms : Nat} {fs : List Value} {v : Value} {ty0 : Nat → FieldType} {ty : FieldType} {ret : Option FieldType} {P : PT} (h : cx l D R own cc nL Γ) (he : ex "<init>" ret P mc ms Γ) (hin : ∀ w ∈ u_ws C T Nf, w ∈ TT) (hty : ∀ k, k < Nf → parseFieldDescriptor (T k).2.2.1 = some (ty0 k)) (hnm : ∀ a, a < Nf → ∀ b, b < Nf → a ≠ b → (T a).2.1 ≠ (T b).2.1) (hc : vwCl[ci]? = some (C, T, Nf)) (hj : j < Nf) (hlink : Cond.fieldLink own index ref (T j).2.1 (T j).2.2.1 ∈ TT) (href : (T j).1 = ref) (hown2 : ref = own) (hfin : (T j).2.2.2 = true) (hd : parseFieldDescriptor (T j).2.2.1 = some ty) (hn : narrow ty v = v) (hfit : fits ty v = true) (hl9 : j < fs.length) (hk : k < N) (hg : G k = .inr (ci, fs)) (d : decode cc pc = .ok (.putfield index, 3)) (k_ : SX Γ ce sl (pc + 3) lv st N adr (va_up G k (.inr (ci, fs.set j v)))) : SX Γ ce sl pc lv (v :: .ref (adr k) :: st) N adr G := by
  obtain ⟨p, l', e, R', s, m, args, below, meth, c, D', A, Q, nL'⟩ := Γ
  obtain ⟨rfl, rfl, rfl, rfl, hx, hb, hml, hown, hts, hnw, hK, hA, hlk⟩ := h
  intro H locs ls hP hD hS hl
  subst href
  refine va_putF hx hb hts hin ty0 hty hnm hown hK hP hD hS k (wl_get hk hg) hc j hj (hts _ hlink) (fun _ h9 => h9) hfin he.1 hown2 hd hn hfit hl9 d (fun H1 locs1 hP1 hD1 hS1 => ?_)
  rw [wl_set] at hP1 hD1
  exact k_ H1 locs1 ls hP1 hD1 hS1 hl
theorem nw_same {w : Cond} (hi : isNW w = true) {u U : State} (hv : u.vm = U.vm) (h : va_Nw w u) : va_Nw w U := by
  unfold isNW at hi
  split at hi
  · exact va_Nw.same rfl hv h
  · exact va_Nw.same rfl hv h
  · exact va_AO.moved (by rw [hv]; exact Vm.Alike.refl _) h
  · cases hi
theorem blind {D : va_G} {av : List Value} {sz N : Nat} {adr : Nat → Nat} {G : Nat → va_E} : FrameBlind (va_Pc av (fun U => U.heap.size = sz ∧ va_P D vwCl (wl N adr G) U.heap ∧ kk D U ∧ va_D (fun _ => True) (wl N adr G))) := by
  intro a U g mk q
  obtain ⟨q0, q1, qP, qK, qD⟩ := q
  exact ⟨q0, q1, qP, ⟨va_K.moved (u := U) (U := U.calling g mk a) (Vm.Alike.refl U.vm) qK.1, fun w hw => nw_same (nw_is hw) (u := U) (U := U.calling g mk a) rfl (qK.2 w hw)⟩, qD⟩
theorem call_core {p : Program} {l : Launch} {e : Env} {R : Room} {s : State} {m : MethodId} {args : Array Value} {below : List Frame} {meth : Method} {c : Code} {D : va_G} {A : Nat → Prop} {Q : State → Prop} {H : Heap} {locs : List Loc} {ls : Array Slot} {ce sl mc ms pc nL : Nat} {st0 rest : List Value} {P : PT} {N : Nat} {adr : Nat → Nat} {G : Nat → va_E} {lv : List (Nat × Value)} {a : Array Value}
    (hr : va_Run p l e R s m args below meth c H locs ce sl mc ms (F0 m pc ls st0) rest (QP P D (va_A (wl N adr G) H.size) a) (va_A (wl N adr G) H.size)) (hD : va_D A (wl N adr G)) (hS : va_S A s.heap H locs) (hA : ∀ q, s.heap.size ≤ q → A q) (hl : lv_has ls nL lv)
    (k_ : ∀ v N' adr' G', P v N' adr' G' → SX (p, l, e, R, s, m, args, below, meth, c, D, A, Q, nL) (ce + mc) (sl + ms) (pc + 3) lv (v.toList ++ rest) N' adr' G') : W p l e R s m args below meth c H locs ce sl Q (F0 m pc ls st0) := by
  have hF : ∀ q, va_A (wl N adr G) H.size q → A q := by
    intro q h
    rcases h with ⟨k, e, h⟩ | h
    · exact hD.2 k (q, e) h
    · exact hA q (Nat.le_trans hS.1 h)
  intro T hT X
  obtain ⟨v, st₀, t, T', L, h0, X', hL, e1, e2, ⟨⟨v', N', adr', G', hv, hp, hP1, hD1⟩, hz, hk⟩, st⟩ := hr T hT X
  cases hv
  rw [h0] at hz hk
  have hS' : va_S A s.heap T'.heap (locs ++ L) := ⟨Nat.le_trans hS.1 (by rw [e1]; exact hz), fun q h1 h2 => by rw [e1, hk q (Nat.lt_of_lt_of_le h1 hS.1) (fun z => h2 (hF q z))]; exact hS.2.1 q h1 h2, fun q hq => by
      rcases List.mem_append.mp hq with h | h
      · exact hS.2.2 q h
      · exact hF _ (hL q h)⟩
  obtain ⟨t2, a1, b1⟩ := k_ v N' adr' G' hp T'.heap (locs ++ L) ls (by rw [e1]; exact hP1) (hD1.weaken (fun _ q _ h => hF q.1 h)) hS' hl T' rfl X'
  exact ⟨t2, st t2 a1, b1⟩
theorem s_callV {l : Launch} {D : va_G} {R : Room} {own : String} {cc : ByteArray} {nL : Nat} {Γ : GT} {ce sl pc : Nat} {lv : List (Nat × Value)} {st : List Value} {N : Nat} {adr : Nat → Nat} {G : Nat → va_E} {y : MethodName} {bs : ByteArray} {mL index n k ci : Nat} {ret : Option FieldType} {rm : Room} {P : PT} {av : List Value} {r : vw_C} {fs : List Value} (h : cx l D R own cc nL Γ) (C0 : CT l D y bs mL ret rm (.ref (adr k) :: av) N adr G P)
    (hw1 : Cond.methodLink own index y ∈ TT) (hw2 : Cond.instanceMethod y ∈ TT) (hw3 : Cond.selects y.cls y y ∈ TT) (hw4 : Cond.code y bs mL ret ∈ TT) (hw5 : Cond.initialized y.cls ∈ TT) (hd : y.cls ≠ "java/lang/invoke/MethodHandle" ∧ y.cls ≠ "java/lang/invoke/VarHandle" ∧ (parseMethodDescriptor y.desc).map (fun d => d.parameters.length) = some n) (hn : av.length = n)
    (hk : k < N) (hg : G k = .inr (ci, fs)) (hc : vwCl[ci]? = some r) (hcls : r.1 = y.cls) (hR : rm.frames + 1 ≤ R.frames ∧ 8 + (mL + 11) + rm.locals ≤ R.locals) (hf : ce + rm.cells ≤ R.cells ∧ sl + rm.slots ≤ R.slots) (hcat : (st.map fun v => v.category).sum ≤ 8) (d : decode cc pc = .ok (.invokevirtual index, 3))
    (k_ : ∀ v N' adr' G', P v N' adr' G' → SX Γ (ce + rm.cells) (sl + rm.slots) (pc + 3) lv (v.toList ++ st) N' adr' G') : SX Γ ce sl pc lv (av.reverse ++ .ref (adr k) :: st) N adr G := by
  obtain ⟨p, l', e, R', s, m, args, below, meth, c, D', A, Q, nL'⟩ := Γ
  obtain ⟨rfl, rfl, rfl, rfl, hx, hb, hml, hown, hts, hnw, hK, hA, hlk⟩ := h
  intro H locs ls hP hD hS hl
  refine call_core (mc := rm.cells) (ms := rm.slots) (rest := st) (va_runV (nL := nL') (own := own) (Ts := TT) (ret := ret) (bytes := bs) (maxL := mL) (C := y.cls) ⟨hx, hb, hml, hown, hts⟩ (C0 H.size) ⟨⟨rfl, rfl, hR.1, hR.2, pay_in hts (tt_good hw4), List.mem_cons_self, hts _ hw4, hts _ hw5, ⟨hd.1, hd.2.1⟩, fun sig h9 => ?_, hts _ hw1⟩, hts _ hw2, hts _ hw3⟩ ⟨blind, ?_, fun U hU hW => ⟨rfl, by rw [hU], by rw [hU]; exact hP, kk_warm hW hK hnw, hD.weaken (fun _ _ _ _ => trivial)⟩⟩ rfl hn hl.1 rfl (lv_room hcat) d hf) hD hS hA hl k_
  · have h2 := hd.2.2
    rw [h9] at h2
    exact (Option.some.inj h2).symm
  · obtain ⟨cell, g1, g2, g3⟩ := va_recv hK hP hc (wl_get hk hg)
    exact ⟨cell, g1, g2, by rw [← hcls]; exact g3⟩
theorem s_callVN {l : Launch} {D : va_G} {R : Room} {own : String} {cc : ByteArray} {nL : Nat} {Γ : GT} {ce sl pc : Nat} {lv : List (Nat × Value)} {st : List Value} {N : Nat} {adr : Nat → Nat} {G : Nat → va_E} {y : MethodName} {bs : ByteArray} {mL index n k ci : Nat} {host : String} {ret : Option FieldType} {rm : Room} {P : PT} {av : List Value} {r : vw_C} {fs : List Value} (h : cx l D R own cc nL Γ) (C0 : CT l D y bs mL ret rm (.ref (adr k) :: av) N adr G P)
    (hw1 : Cond.methodLinkNest own index y host ∈ NW) (hw2 : Cond.instanceMethod y ∈ TT) (hw3 : Cond.selects y.cls y y ∈ TT) (hw4 : Cond.code y bs mL ret ∈ TT) (hw5 : Cond.initialized y.cls ∈ TT) (hd : y.cls ≠ "java/lang/invoke/MethodHandle" ∧ y.cls ≠ "java/lang/invoke/VarHandle" ∧ (parseMethodDescriptor y.desc).map (fun d => d.parameters.length) = some n) (hn : av.length = n)
    (hk : k < N) (hg : G k = .inr (ci, fs)) (hc : vwCl[ci]? = some r) (hcls : r.1 = y.cls) (hR : rm.frames + 1 ≤ R.frames ∧ 8 + (mL + 11) + rm.locals ≤ R.locals) (hf : ce + rm.cells ≤ R.cells ∧ sl + rm.slots ≤ R.slots) (hcat : (st.map fun v => v.category).sum ≤ 8) (d : decode cc pc = .ok (.invokevirtual index, 3))
    (k_ : ∀ v N' adr' G', P v N' adr' G' → SX Γ (ce + rm.cells) (sl + rm.slots) (pc + 3) lv (v.toList ++ st) N' adr' G') : SX Γ ce sl pc lv (av.reverse ++ .ref (adr k) :: st) N adr G := by
  obtain ⟨p, l', e, R', s, m, args, below, meth, c, D', A, Q, nL'⟩ := Γ
  obtain ⟨rfl, rfl, rfl, rfl, hx, hb, hml, hown, hts, hnw, hK, hA, hlk⟩ := h
  intro H locs ls hP hD hS hl
  refine call_core (mc := rm.cells) (ms := rm.slots) (rest := st) (va_runVN (nL := nL') (own := own) (Ts := TT) (ret := ret) (bytes := bs) (maxL := mL) (C := y.cls) ⟨hx, hb, hml, hown, hts⟩ (C0 H.size) ⟨⟨⟨rfl, rfl, hR.1, hR.2, pay_in hts (tt_good hw4), List.mem_cons_self⟩, hts _ hw4, hts _ hw5, ⟨hd.1, hd.2.1⟩, fun sig h9 => ?_, va_Nw.use rfl (hnw _ hw1)⟩, hts _ hw2, hts _ hw3⟩ ⟨blind, ?_, fun U hU hW => ⟨rfl, by rw [hU], by rw [hU]; exact hP, kk_warm hW hK hnw, hD.weaken (fun _ _ _ _ => trivial)⟩⟩ rfl hn hl.1 rfl (lv_room hcat) d hf) hD hS hA hl k_
  · have h2 := hd.2.2
    rw [h9] at h2
    exact (Option.some.inj h2).symm
  · obtain ⟨cell, g1, g2, g3⟩ := va_recv hK hP hc (wl_get hk hg)
    exact ⟨cell, g1, g2, by rw [← hcls]; exact g3⟩
theorem s_callS {l : Launch} {D : va_G} {R : Room} {own : String} {cc : ByteArray} {nL : Nat} {Γ : GT} {ce sl pc : Nat} {lv : List (Nat × Value)} {st : List Value} {N : Nat} {adr : Nat → Nat} {G : Nat → va_E} {y : MethodName} {bs : ByteArray} {mL index n : Nat} {ret : Option FieldType} {rm : Room} {P : PT} {av : List Value} (h : cx l D R own cc nL Γ) (C0 : CT l D y bs mL ret rm av N adr G P)
    (hw1 : Cond.methodLink own index y ∈ TT) (hw2 : Cond.static y ∈ TT) (hw4 : Cond.code y bs mL ret ∈ TT) (hw5 : Cond.initialized y.cls ∈ TT) (hd : y.cls ≠ "java/lang/invoke/MethodHandle" ∧ y.cls ≠ "java/lang/invoke/VarHandle" ∧ (parseMethodDescriptor y.desc).map (fun d => d.parameters.length) = some n) (hn : av.length = n)
    (hR : rm.frames + 1 ≤ R.frames ∧ 8 + (mL + 11) + rm.locals ≤ R.locals) (hf : ce + rm.cells ≤ R.cells ∧ sl + rm.slots ≤ R.slots) (hcat : (st.map fun v => v.category).sum ≤ 8) (d : decode cc pc = .ok (.invokestatic index, 3))
    (k_ : ∀ v N' adr' G', P v N' adr' G' → SX Γ (ce + rm.cells) (sl + rm.slots) (pc + 3) lv (v.toList ++ st) N' adr' G') : SX Γ ce sl pc lv (av.reverse ++ st) N adr G := by
  obtain ⟨p, l', e, R', s, m, args, below, meth, c, D', A, Q, nL'⟩ := Γ
  obtain ⟨rfl, rfl, rfl, rfl, hx, hb, hml, hown, hts, hnw, hK, hA, hlk⟩ := h
  intro H locs ls hP hD hS hl
  refine call_core (mc := rm.cells) (ms := rm.slots) (rest := st) (va_runS (nL := nL') (own := own) (Ts := TT) (ret := ret) (bytes := bs) (maxL := mL) ⟨hx, hb, hml, hown, hts⟩ (C0 H.size) ⟨⟨rfl, rfl, hR.1, hR.2, pay_in hts (tt_good hw4), List.mem_cons_self, hts _ hw4, hts _ hw5, ⟨hd.1, hd.2.1⟩, fun sig h9 => ?_, hts _ hw1⟩, hts _ hw2⟩ ⟨blind, fun U hU hW => ⟨rfl, by rw [hU], by rw [hU]; exact hP, kk_warm hW hK hnw, hD.weaken (fun _ _ _ _ => trivial)⟩⟩ rfl hn hl.1 rfl (lv_room hcat) d hf) hD hS hA hl k_
  have h2 := hd.2.2
  rw [h9] at h2
  exact (Option.some.inj h2).symm
theorem s_callSN {l : Launch} {D : va_G} {R : Room} {own : String} {cc : ByteArray} {nL : Nat} {Γ : GT} {ce sl pc : Nat} {lv : List (Nat × Value)} {st : List Value} {N : Nat} {adr : Nat → Nat} {G : Nat → va_E} {y : MethodName} {bs : ByteArray} {mL index n : Nat} {host : String} {ret : Option FieldType} {rm : Room} {P : PT} {av : List Value} (h : cx l D R own cc nL Γ) (C0 : CT l D y bs mL ret rm av N adr G P)
    (hw1 : Cond.methodLinkNest own index y host ∈ NW) (hw2 : Cond.static y ∈ TT) (hw4 : Cond.code y bs mL ret ∈ TT) (hw5 : Cond.initialized y.cls ∈ TT) (hd : y.cls ≠ "java/lang/invoke/MethodHandle" ∧ y.cls ≠ "java/lang/invoke/VarHandle" ∧ (parseMethodDescriptor y.desc).map (fun d => d.parameters.length) = some n) (hn : av.length = n)
    (hR : rm.frames + 1 ≤ R.frames ∧ 8 + (mL + 11) + rm.locals ≤ R.locals) (hf : ce + rm.cells ≤ R.cells ∧ sl + rm.slots ≤ R.slots) (hcat : (st.map fun v => v.category).sum ≤ 8) (d : decode cc pc = .ok (.invokestatic index, 3))
    (k_ : ∀ v N' adr' G', P v N' adr' G' → SX Γ (ce + rm.cells) (sl + rm.slots) (pc + 3) lv (v.toList ++ st) N' adr' G') : SX Γ ce sl pc lv (av.reverse ++ st) N adr G := by
  obtain ⟨p, l', e, R', s, m, args, below, meth, c, D', A, Q, nL'⟩ := Γ
  obtain ⟨rfl, rfl, rfl, rfl, hx, hb, hml, hown, hts, hnw, hK, hA, hlk⟩ := h
  intro H locs ls hP hD hS hl
  refine call_core (mc := rm.cells) (ms := rm.slots) (rest := st) (va_runSN (nL := nL') (own := own) (Ts := TT) (ret := ret) (bytes := bs) (maxL := mL) ⟨hx, hb, hml, hown, hts⟩ (C0 H.size) ⟨⟨⟨rfl, rfl, hR.1, hR.2, pay_in hts (tt_good hw4), List.mem_cons_self⟩, hts _ hw4, hts _ hw5, ⟨hd.1, hd.2.1⟩, fun sig h9 => ?_, va_Nw.use rfl (hnw _ hw1)⟩, hts _ hw2, trivial⟩ ⟨blind, fun U hU hW => ⟨rfl, by rw [hU], by rw [hU]; exact hP, kk_warm hW hK hnw, hD.weaken (fun _ _ _ _ => trivial)⟩⟩ rfl hn hl.1 rfl (lv_room hcat) d hf) hD hS hA hl k_
  have h2 := hd.2.2
  rw [h9] at h2
  exact (Option.some.inj h2).symm
theorem s_callI {l : Launch} {D : va_G} {R : Room} {own : String} {cc : ByteArray} {nL : Nat} {Γ : GT} {ce sl pc : Nat} {lv : List (Nat × Value)} {st : List Value} {N : Nat} {adr : Nat → Nat} {G : Nat → va_E} {y : MethodName} {bs : ByteArray} {mL index n : Nat} {b : Nat} {rm : Room} {P : PT} {av : List Value} (h : cx l D R own cc nL Γ) (C0 : CT l D y bs mL none rm (.ref b :: av) N adr G P)
    (hw1 : Cond.methodLink own index y ∈ TT) (hw2 : Cond.instanceMethod y ∈ TT) (hw4 : Cond.code y bs mL none ∈ TT) (hw5 : Cond.initialized y.cls ∈ TT) (hy1 : y.name = "<init>") (hd : y.cls ≠ "java/lang/invoke/MethodHandle" ∧ y.cls ≠ "java/lang/invoke/VarHandle" ∧ (parseMethodDescriptor y.desc).map (fun d => d.parameters.length) = some n) (hn : av.length = n)
    (hR : rm.frames + 1 ≤ R.frames ∧ 8 + (mL + 11) + rm.locals ≤ R.locals) (hf : ce + rm.cells ≤ R.cells ∧ sl + rm.slots ≤ R.slots) (hcat : (st.map fun v => v.category).sum ≤ 8) (d : decode cc pc = .ok (.invokespecial index, 3))
    (k_ : ∀ v N' adr' G', P v N' adr' G' → SX Γ (ce + rm.cells) (sl + rm.slots) (pc + 3) lv (v.toList ++ st) N' adr' G') : SX Γ ce sl pc lv (av.reverse ++ .ref b :: st) N adr G := by
  obtain ⟨p, l', e, R', s, m, args, below, meth, c, D', A, Q, nL'⟩ := Γ
  obtain ⟨rfl, rfl, rfl, rfl, hx, hb, hml, hown, hts, hnw, hK, hA, hlk⟩ := h
  intro H locs ls hP hD hS hl
  refine call_core (mc := rm.cells) (ms := rm.slots) (rest := st) (va_runI (nL := nL') (own := own) (Ts := TT) (bytes := bs) (maxL := mL) ⟨hx, hb, hml, hown, hts⟩ (C0 H.size) ⟨⟨rfl, rfl, hR.1, hR.2, pay_in hts (tt_good hw4), List.mem_cons_self, hts _ hw4, hts _ hw5, ⟨hd.1, hd.2.1⟩, fun sig h9 => ?_, hts _ hw1⟩, hy1, hts _ hw2⟩ ⟨blind, fun U hU hW => ⟨rfl, by rw [hU], by rw [hU]; exact hP, kk_warm hW hK hnw, hD.weaken (fun _ _ _ _ => trivial)⟩⟩ rfl hn hl.1 rfl (lv_room hcat) d hf) hD hS hA hl k_
  have h2 := hd.2.2
  rw [h9] at h2
  exact (Option.some.inj h2).symm
theorem s_callIN {l : Launch} {D : va_G} {R : Room} {own : String} {cc : ByteArray} {nL : Nat} {Γ : GT} {ce sl pc : Nat} {lv : List (Nat × Value)} {st : List Value} {N : Nat} {adr : Nat → Nat} {G : Nat → va_E} {y : MethodName} {bs : ByteArray} {mL index n : Nat} {b : Nat} {host : String} {rm : Room} {P : PT} {av : List Value} (h : cx l D R own cc nL Γ) (C0 : CT l D y bs mL none rm (.ref b :: av) N adr G P)
    (hw1 : Cond.methodLinkNest own index y host ∈ NW) (hw2 : Cond.instanceMethod y ∈ TT) (hw4 : Cond.code y bs mL none ∈ TT) (hw5 : Cond.initialized y.cls ∈ TT) (hy1 : y.name = "<init>") (hd : y.cls ≠ "java/lang/invoke/MethodHandle" ∧ y.cls ≠ "java/lang/invoke/VarHandle" ∧ (parseMethodDescriptor y.desc).map (fun d => d.parameters.length) = some n) (hn : av.length = n)
    (hR : rm.frames + 1 ≤ R.frames ∧ 8 + (mL + 11) + rm.locals ≤ R.locals) (hf : ce + rm.cells ≤ R.cells ∧ sl + rm.slots ≤ R.slots) (hcat : (st.map fun v => v.category).sum ≤ 8) (d : decode cc pc = .ok (.invokespecial index, 3))
    (k_ : ∀ v N' adr' G', P v N' adr' G' → SX Γ (ce + rm.cells) (sl + rm.slots) (pc + 3) lv (v.toList ++ st) N' adr' G') : SX Γ ce sl pc lv (av.reverse ++ .ref b :: st) N adr G := by
  obtain ⟨p, l', e, R', s, m, args, below, meth, c, D', A, Q, nL'⟩ := Γ
  obtain ⟨rfl, rfl, rfl, rfl, hx, hb, hml, hown, hts, hnw, hK, hA, hlk⟩ := h
  intro H locs ls hP hD hS hl
  refine call_core (mc := rm.cells) (ms := rm.slots) (rest := st) (va_runIN (nL := nL') (own := own) (Ts := TT) (bytes := bs) (maxL := mL) ⟨hx, hb, hml, hown, hts⟩ (C0 H.size) ⟨⟨⟨rfl, rfl, hR.1, hR.2, pay_in hts (tt_good hw4), List.mem_cons_self⟩, hts _ hw4, hts _ hw5, ⟨hd.1, hd.2.1⟩, fun sig h9 => ?_, va_Nw.use rfl (hnw _ hw1)⟩, hy1, hts _ hw2⟩ ⟨blind, fun U hU hW => ⟨rfl, by rw [hU], by rw [hU]; exact hP, kk_warm hW hK hnw, hD.weaken (fun _ _ _ _ => trivial)⟩⟩ rfl hn hl.1 rfl (lv_room hcat) d hf) hD hS hA hl k_
  have h2 := hd.2.2
  rw [h9] at h2
  exact (Option.some.inj h2).symm
theorem s_iret {l : Launch} {D : va_G} {R : Room} {own : String} {cc : ByteArray} {nL : Nat} {Γ : GT} {ce sl pc : Nat} {lv : List (Nat × Value)} {st : List Value} {N : Nat} {adr : Nat → Nat} {G : Nat → va_E} {nm : String} {ty : FieldType} {P : PT} {mc ms : Nat} {v : Int32} (h : cx l D R own cc nL Γ) (he : ex nm (some ty) P mc ms Γ) (hn : narrow ty (.int v) = .int v) (d : decode cc pc = .ok (.ireturn, 1)) (hm : ce ≤ mc ∧ sl ≤ ms) (hp : P (some (.int v)) N adr G) : SX Γ ce sl pc lv [.int v] N adr G := by
  obtain ⟨p, l', e, R', s, m, args, below, meth, c, D', A, Q, nL'⟩ := Γ
  obtain ⟨rfl, rfl, rfl, rfl, hx, hb, hml, hown, hts, hnw, hK, hA, hlk⟩ := h
  intro H locs ls hP hD hS hl
  obtain ⟨-, hr, rfl⟩ := he
  exact W.widen hm.1 hm.2 (W.zret (v := v) hx hb hr hn (fun t ht hW => ⟨⟨_, N, adr, G, rfl, hp, by rw [ht]; exact hP, hD⟩, hS.F ht⟩) hS.2.2 d hlk)
theorem s_lret {l : Launch} {D : va_G} {R : Room} {own : String} {cc : ByteArray} {nL : Nat} {Γ : GT} {ce sl pc : Nat} {lv : List (Nat × Value)} {st : List Value} {N : Nat} {adr : Nat → Nat} {G : Nat → va_E} {nm : String} {P : PT} {mc ms : Nat} {v : Int64} (h : cx l D R own cc nL Γ) (he : ex nm (some .long) P mc ms Γ) (d : decode cc pc = .ok (.lreturn, 1)) (hm : ce ≤ mc ∧ sl ≤ ms) (hp : P (some (.long v)) N adr G) : SX Γ ce sl pc lv [.long v] N adr G := by
  obtain ⟨p, l', e, R', s, m, args, below, meth, c, D', A, Q, nL'⟩ := Γ
  obtain ⟨rfl, rfl, rfl, rfl, hx, hb, hml, hown, hts, hnw, hK, hA, hlk⟩ := h
  intro H locs ls hP hD hS hl
  obtain ⟨-, hr, rfl⟩ := he
  exact W.widen hm.1 hm.2 (W.lret (v := v) hx hb hr (fun t ht hW => ⟨⟨_, N, adr, G, rfl, hp, by rw [ht]; exact hP, hD⟩, hS.F ht⟩) hS.2.2 d hlk)
theorem s_aret {l : Launch} {D : va_G} {R : Room} {own : String} {cc : ByteArray} {nL : Nat} {Γ : GT} {ce sl pc : Nat} {lv : List (Nat × Value)} {st : List Value} {N : Nat} {adr : Nat → Nat} {G : Nat → va_E} {nm C : String} {P : PT} {mc ms : Nat} {v : Value} (h : cx l D R own cc nL Γ) (he : ex nm (some (.object C)) P mc ms Γ) (hv : v = .null ∨ ∃ a, v = .ref a) (d : decode cc pc = .ok (.areturn, 1)) (hm : ce ≤ mc ∧ sl ≤ ms) (hp : P (some v) N adr G) : SX Γ ce sl pc lv [v] N adr G := by
  obtain ⟨p, l', e, R', s, m, args, below, meth, c, D', A, Q, nL'⟩ := Γ
  obtain ⟨rfl, rfl, rfl, rfl, hx, hb, hml, hown, hts, hnw, hK, hA, hlk⟩ := h
  intro H locs ls hP hD hS hl
  obtain ⟨-, hr, rfl⟩ := he
  exact W.widen hm.1 hm.2 (W.aret (v := v) hx hb hr (Or.inl ⟨C, rfl⟩) hv (fun t ht hW => ⟨⟨_, N, adr, G, rfl, hp, by rw [ht]; exact hP, hD⟩, hS.F ht⟩) hS.2.2 d hlk)
theorem s_vret {l : Launch} {D : va_G} {R : Room} {own : String} {cc : ByteArray} {nL : Nat} {Γ : GT} {ce sl pc : Nat} {lv : List (Nat × Value)} {st : List Value} {N : Nat} {adr : Nat → Nat} {G : Nat → va_E} {nm : String} {P : PT} {mc ms : Nat} (h : cx l D R own cc nL Γ) (he : ex nm none P mc ms Γ) (d : decode cc pc = .ok (.return_, 1)) (hm : ce ≤ mc ∧ sl ≤ ms) (hp : P none N adr G) : SX Γ ce sl pc lv [] N adr G := by
  obtain ⟨p, l', e, R', s, m, args, below, meth, c, D', A, Q, nL'⟩ := Γ
  obtain ⟨rfl, rfl, rfl, rfl, hx, hb, hml, hown, hts, hnw, hK, hA, hlk⟩ := h
  intro H locs ls hP hD hS hl
  obtain ⟨-, hr, rfl⟩ := he
  exact W.widen hm.1 hm.2 (W.vret hx hb hr (fun t ht hW => ⟨⟨_, N, adr, G, rfl, hp, by rw [ht]; exact hP, hD⟩, hS.F ht⟩) hS.2.2 d hlk)
/-- what a method answers, and the world behind it, told exactly -/
def PE (r : Option Value) (N : Nat) (adr : Nat → Nat) (G : Nat → va_E) : PT := fun v N' adr' G' => v = r ∧ N' = N ∧ adr' = adr ∧ G' = G
theorem PE.go {Γ : GT} {ce sl pc : Nat} {lv : List (Nat × Value)} {st : List Value} {N : Nat} {adr : Nat → Nat} {G : Nat → va_E} {r : Value} (k : SX Γ ce sl pc lv (r :: st) N adr G) : ∀ v N' adr' G', PE (some r) N adr G v N' adr' G' → SX Γ ce sl pc lv (v.toList ++ st) N' adr' G' := by
  rintro _ _ _ _ ⟨rfl, rfl, rfl, rfl⟩
  exact k
theorem PE.go0 {Γ : GT} {ce sl pc : Nat} {lv : List (Nat × Value)} {st : List Value} {N : Nat} {adr : Nat → Nat} {G : Nat → va_E} (k : SX Γ ce sl pc lv st N adr G) : ∀ v N' adr' G', PE none N adr G v N' adr' G' → SX Γ ce sl pc lv (v.toList ++ st) N' adr' G' := by
  rintro _ _ _ _ ⟨rfl, rfl, rfl, rfl⟩
  exact k
theorem PE.is {r : Option Value} {N : Nat} {adr : Nat → Nat} {G : Nat → va_E} : PE r N adr G r N adr G := ⟨rfl, rfl, rfl, rfl⟩
theorem PE.eq {r q : Option Value} {N : Nat} {adr : Nat → Nat} {G G1 : Nat → va_E} (h : q = r) (hg : G1 = G) : PE r N adr G q N adr G1 := ⟨h, rfl, rfl, hg⟩
end
