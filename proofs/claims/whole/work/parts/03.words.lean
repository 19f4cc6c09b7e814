theorem tw0 : Cond.selects "StereoWar$Scene" (⟨"StereoWar$Scene", "putThing", "(IIII)V"⟩ : MethodName) (⟨"StereoWar$Scene", "putThing", "(IIII)V"⟩ : MethodName) ∈ TT := tt_at 0 (by decide +kernel) rfl
theorem tw1 : Cond.selects "StereoWar$Scene" (⟨"StereoWar$Scene", "thingBits", "()I"⟩ : MethodName) (⟨"StereoWar$Scene", "thingBits", "()I"⟩ : MethodName) ∈ TT := tt_at 1 (by decide +kernel) rfl
theorem tw2 : Cond.selects "StereoWar$Scene" (⟨"StereoWar$Scene", "thingAt", "(I)LStereoWar$Thing;"⟩ : MethodName) (⟨"StereoWar$Scene", "thingAt", "(I)LStereoWar$Thing;"⟩ : MethodName) ∈ TT := tt_at 2 (by decide +kernel) rfl
theorem tw3 : Cond.selects "StereoWar$Scene" (⟨"StereoWar$Scene", "takePicture", "(III)I"⟩ : MethodName) (⟨"StereoWar$Scene", "takePicture", "(III)I"⟩ : MethodName) ∈ TT := tt_at 3 (by decide +kernel) rfl
theorem tw4 : Cond.selects "StereoWar$Scene" (⟨"StereoWar$Scene", "expose", "(LStereoWar$Picture;II)V"⟩ : MethodName) (⟨"StereoWar$Scene", "expose", "(LStereoWar$Picture;II)V"⟩ : MethodName) ∈ TT := tt_at 4 (by decide +kernel) rfl
theorem tw5 : Cond.selects "StereoWar$Scene" (⟨"StereoWar$Scene", "columnOf", "(III)I"⟩ : MethodName) (⟨"StereoWar$Scene", "columnOf", "(III)I"⟩ : MethodName) ∈ TT := tt_at 5 (by decide +kernel) rfl
theorem tw6 : Cond.selects "StereoWar$Thing" (⟨"StereoWar$Thing", "columnFrom", "(III)I"⟩ : MethodName) (⟨"StereoWar$Thing", "columnFrom", "(III)I"⟩ : MethodName) ∈ TT := tt_at 6 (by decide +kernel) rfl
theorem tw7 : Cond.selects "StereoWar$Picture" (⟨"StereoWar$Picture", "putColumn", "(II)V"⟩ : MethodName) (⟨"StereoWar$Picture", "putColumn", "(II)V"⟩ : MethodName) ∈ TT := tt_at 7 (by decide +kernel) rfl
theorem tw8 : Cond.selects "StereoWar$Picture" (⟨"StereoWar$Picture", "shownBits", "()I"⟩ : MethodName) (⟨"StereoWar$Picture", "shownBits", "()I"⟩ : MethodName) ∈ TT := tt_at 8 (by decide +kernel) rfl
theorem tw9 : Cond.selects "StereoWar$Scene" (⟨"StereoWar$Scene", "pictureAt", "(I)LStereoWar$Picture;"⟩ : MethodName) (⟨"StereoWar$Scene", "pictureAt", "(I)LStereoWar$Picture;"⟩ : MethodName) ∈ TT := tt_at 9 (by decide +kernel) rfl
theorem tw10 : Cond.selects "StereoWar$Picture" (⟨"StereoWar$Picture", "columnOf", "(I)I"⟩ : MethodName) (⟨"StereoWar$Picture", "columnOf", "(I)I"⟩ : MethodName) ∈ TT := tt_at 10 (by decide +kernel) rfl
theorem tw11 : Cond.selects "StereoWar$Scene" (⟨"StereoWar$Scene", "pictureBits", "()I"⟩ : MethodName) (⟨"StereoWar$Scene", "pictureBits", "()I"⟩ : MethodName) ∈ TT := tt_at 11 (by decide +kernel) rfl
theorem tw12 : Cond.selects "StereoWar$Pad" (⟨"StereoWar$Pad", "addSign", "(I)Z"⟩ : MethodName) (⟨"StereoWar$Pad", "addSign", "(I)Z"⟩ : MethodName) ∈ TT := tt_at 12 (by decide +kernel) rfl
theorem tw13 : Cond.selects "StereoWar$Pad" (⟨"StereoWar$Pad", "read", "()I"⟩ : MethodName) (⟨"StereoWar$Pad", "read", "()I"⟩ : MethodName) ∈ TT := tt_at 13 (by decide +kernel) rfl
theorem tw14 : Cond.selects "StereoWar$Pad" (⟨"StereoWar$Pad", "addPair", "(II)V"⟩ : MethodName) (⟨"StereoWar$Pad", "addPair", "(II)V"⟩ : MethodName) ∈ TT := tt_at 14 (by decide +kernel) rfl
theorem tw15 : Cond.selects "StereoWar$Pad" (⟨"StereoWar$Pad", "firstWrongPair", "(LStereoWar$Scene;)I"⟩ : MethodName) (⟨"StereoWar$Pad", "firstWrongPair", "(LStereoWar$Scene;)I"⟩ : MethodName) ∈ TT := tt_at 15 (by decide +kernel) rfl
theorem tw16 : Cond.selects "StereoWar$Pad" (⟨"StereoWar$Pad", "whyNot", "(ILStereoWar$Scene;)I"⟩ : MethodName) (⟨"StereoWar$Pad", "whyNot", "(ILStereoWar$Scene;)I"⟩ : MethodName) ∈ TT := tt_at 16 (by decide +kernel) rfl
theorem tw17 : Cond.selects "StereoWar$Pad" (⟨"StereoWar$Pad", "leftOf", "(I)I"⟩ : MethodName) (⟨"StereoWar$Pad", "leftOf", "(I)I"⟩ : MethodName) ∈ TT := tt_at 17 (by decide +kernel) rfl
theorem tw18 : Cond.selects "StereoWar$Pad" (⟨"StereoWar$Pad", "rightOf", "(I)I"⟩ : MethodName) (⟨"StereoWar$Pad", "rightOf", "(I)I"⟩ : MethodName) ∈ TT := tt_at 18 (by decide +kernel) rfl
theorem tw19 : Cond.selects "StereoWar$Pad" (⟨"StereoWar$Pad", "isOf", "(II)Z"⟩ : MethodName) (⟨"StereoWar$Pad", "isOf", "(II)Z"⟩ : MethodName) ∈ TT := tt_at 19 (by decide +kernel) rfl
theorem tw20 : Cond.selects "StereoWar$Pad" (⟨"StereoWar$Pad", "firstNotGood", "(LStereoWar$Scene;)I"⟩ : MethodName) (⟨"StereoWar$Pad", "firstNotGood", "(LStereoWar$Scene;)I"⟩ : MethodName) ∈ TT := tt_at 20 (by decide +kernel) rfl
theorem tw21 : Cond.selects "StereoWar$Scene" (⟨"StereoWar$Scene", "kindOfPair", "(II)I"⟩ : MethodName) (⟨"StereoWar$Scene", "kindOfPair", "(II)I"⟩ : MethodName) ∈ TT := tt_at 21 (by decide +kernel) rfl
theorem tw22 : Cond.selects "StereoWar$Picture" (⟨"StereoWar$Picture", "kindWith", "(LStereoWar$Picture;)I"⟩ : MethodName) (⟨"StereoWar$Picture", "kindWith", "(LStereoWar$Picture;)I"⟩ : MethodName) ∈ TT := tt_at 22 (by decide +kernel) rfl
theorem tw23 : Cond.selects "StereoWar$Picture" (⟨"StereoWar$Picture", "sharesWith", "(LStereoWar$Picture;I)Z"⟩ : MethodName) (⟨"StereoWar$Picture", "sharesWith", "(LStereoWar$Picture;I)Z"⟩ : MethodName) ∈ TT := tt_at 23 (by decide +kernel) rfl
theorem tw24 : Cond.selects "StereoWar$Picture" (⟨"StereoWar$Picture", "shiftTo", "(LStereoWar$Picture;I)I"⟩ : MethodName) (⟨"StereoWar$Picture", "shiftTo", "(LStereoWar$Picture;I)I"⟩ : MethodName) ∈ TT := tt_at 24 (by decide +kernel) rfl
theorem tw25 : Cond.selects "StereoWar$Pad" (⟨"StereoWar$Pad", "countOfKind", "(ILStereoWar$Scene;)I"⟩ : MethodName) (⟨"StereoWar$Pad", "countOfKind", "(ILStereoWar$Scene;)I"⟩ : MethodName) ∈ TT := tt_at 25 (by decide +kernel) rfl
theorem tw26 : Cond.selects "StereoWar$Picture" (⟨"StereoWar$Picture", "countSharedWith", "(LStereoWar$Picture;)I"⟩ : MethodName) (⟨"StereoWar$Picture", "countSharedWith", "(LStereoWar$Picture;)I"⟩ : MethodName) ∈ TT := tt_at 26 (by decide +kernel) rfl
theorem tw27 : Cond.selects "StereoWar$Picture" (⟨"StereoWar$Picture", "nearestWith", "(LStereoWar$Picture;I)I"⟩ : MethodName) (⟨"StereoWar$Picture", "nearestWith", "(LStereoWar$Picture;I)I"⟩ : MethodName) ∈ TT := tt_at 27 (by decide +kernel) rfl
theorem tw28 : Cond.selects "StereoWar$Picture" (⟨"StereoWar$Picture", "countBefore", "(LStereoWar$Picture;I)I"⟩ : MethodName) (⟨"StereoWar$Picture", "countBefore", "(LStereoWar$Picture;I)I"⟩ : MethodName) ∈ TT := tt_at 28 (by decide +kernel) rfl
theorem tw29 : Cond.selects "StereoWar$Matcher" (⟨"StereoWar$Matcher", "prepare", "(LStereoWar$Scene;I)V"⟩ : MethodName) (⟨"StereoWar$Matcher", "prepare", "(LStereoWar$Scene;I)V"⟩ : MethodName) ∈ TT := tt_at 29 (by decide +kernel) rfl
theorem tw30 : Cond.selects "StereoWar$Matcher" (⟨"StereoWar$Matcher", "mostOf", "(I)I"⟩ : MethodName) (⟨"StereoWar$Matcher", "mostOf", "(I)I"⟩ : MethodName) ∈ TT := tt_at 30 (by decide +kernel) rfl
theorem tw31 : Cond.selects "StereoWar$Matcher" (⟨"StereoWar$Matcher", "mostPairs", "(I)I"⟩ : MethodName) (⟨"StereoWar$Matcher", "mostPairs", "(I)I"⟩ : MethodName) ∈ TT := tt_at 31 (by decide +kernel) rfl
theorem tw32 : Cond.selects "StereoWar$Matcher" (⟨"StereoWar$Matcher", "canPair", "(III)Z"⟩ : MethodName) (⟨"StereoWar$Matcher", "canPair", "(III)Z"⟩ : MethodName) ∈ TT := tt_at 32 (by decide +kernel) rfl
theorem tw33 : Cond.selects "StereoWar$Matcher" (⟨"StereoWar$Matcher", "partnerOf", "(II)I"⟩ : MethodName) (⟨"StereoWar$Matcher", "partnerOf", "(II)I"⟩ : MethodName) ∈ TT := tt_at 33 (by decide +kernel) rfl
theorem tw34 : Cond.selects "StereoWar$Matcher" (⟨"StereoWar$Matcher", "firstMate", "(II)I"⟩ : MethodName) (⟨"StereoWar$Matcher", "firstMate", "(II)I"⟩ : MethodName) ∈ TT := tt_at 34 (by decide +kernel) rfl
theorem tw35 : Cond.selects "StereoWar" (⟨"StereoWar", "rowsOfThree", "(I)I"⟩ : MethodName) (⟨"StereoWar", "rowsOfThree", "(I)I"⟩ : MethodName) ∈ TT := tt_at 35 (by decide +kernel) rfl
theorem tw36 : Cond.selects "StereoWar$Shutter" (⟨"StereoWar$Shutter", "setChances", "(II)V"⟩ : MethodName) (⟨"StereoWar$Shutter", "setChances", "(II)V"⟩ : MethodName) ∈ TT := tt_at 36 (by decide +kernel) rfl
theorem tw37 : Cond.selects "StereoWar$Shutter" (⟨"StereoWar$Shutter", "waysOf", "(I)J"⟩ : MethodName) (⟨"StereoWar$Shutter", "waysOf", "(I)J"⟩ : MethodName) ∈ TT := tt_at 37 (by decide +kernel) rfl
theorem tw38 : Cond.selects "StereoWar$Scene" (⟨"StereoWar$Scene", "countShown", "(II)I"⟩ : MethodName) (⟨"StereoWar$Scene", "countShown", "(II)I"⟩ : MethodName) ∈ TT := tt_at 38 (by decide +kernel) rfl
theorem tw39 : Cond.selects "StereoWar$Scene" (⟨"StereoWar$Scene", "copyFrom", "(LStereoWar$Scene;)V"⟩ : MethodName) (⟨"StereoWar$Scene", "copyFrom", "(LStereoWar$Scene;)V"⟩ : MethodName) ∈ TT := tt_at 39 (by decide +kernel) rfl
theorem tw40 : Cond.selects "StereoWar$Thing" (⟨"StereoWar$Thing", "copyFrom", "(LStereoWar$Thing;)V"⟩ : MethodName) (⟨"StereoWar$Thing", "copyFrom", "(LStereoWar$Thing;)V"⟩ : MethodName) ∈ TT := tt_at 40 (by decide +kernel) rfl
theorem tw41 : Cond.selects "StereoWar$Picture" (⟨"StereoWar$Picture", "copyFrom", "(LStereoWar$Picture;)V"⟩ : MethodName) (⟨"StereoWar$Picture", "copyFrom", "(LStereoWar$Picture;)V"⟩ : MethodName) ∈ TT := tt_at 41 (by decide +kernel) rfl
theorem tw42 : Cond.selects "StereoWar" (⟨"StereoWar", "toldOfThing", "(II)I"⟩ : MethodName) (⟨"StereoWar", "toldOfThing", "(II)I"⟩ : MethodName) ∈ TT := tt_at 42 (by decide +kernel) rfl
theorem tw43 : Cond.selects "StereoWar" (⟨"StereoWar", "toldOfPicture", "(II)I"⟩ : MethodName) (⟨"StereoWar", "toldOfPicture", "(II)I"⟩ : MethodName) ∈ TT := tt_at 43 (by decide +kernel) rfl
theorem tw44 : Cond.selects "StereoWarModel" (⟨"StereoWarModel", "isThing", "(I)Z"⟩ : MethodName) (⟨"StereoWarModel", "isThing", "(I)Z"⟩ : MethodName) ∈ TT := tt_at 44 (by decide +kernel) rfl
theorem tw45 : Cond.selects "StereoWarModel" (⟨"StereoWarModel", "columnOf", "(III)I"⟩ : MethodName) (⟨"StereoWarModel", "columnOf", "(III)I"⟩ : MethodName) ∈ TT := tt_at 45 (by decide +kernel) rfl
theorem tw46 : Cond.selects "StereoWarModel" (⟨"StereoWarModel", "isPicture", "(I)Z"⟩ : MethodName) (⟨"StereoWarModel", "isPicture", "(I)Z"⟩ : MethodName) ∈ TT := tt_at 46 (by decide +kernel) rfl
theorem tw47 : Cond.selects "StereoWarModel" (⟨"StereoWarModel", "keepLeft", "(Z)V"⟩ : MethodName) (⟨"StereoWarModel", "keepLeft", "(Z)V"⟩ : MethodName) ∈ TT := tt_at 47 (by decide +kernel) rfl
theorem tw48 : Cond.selects "StereoWarModel" (⟨"StereoWarModel", "refusal", "()I"⟩ : MethodName) (⟨"StereoWarModel", "refusal", "()I"⟩ : MethodName) ∈ TT := tt_at 48 (by decide +kernel) rfl
theorem tw49 : Cond.selects "StereoWarModel" (⟨"StereoWarModel", "whyNot", "(I)I"⟩ : MethodName) (⟨"StereoWarModel", "whyNot", "(I)I"⟩ : MethodName) ∈ TT := tt_at 49 (by decide +kernel) rfl
theorem tw50 : Cond.selects "StereoWarModel" (⟨"StereoWarModel", "kindOf", "(II)I"⟩ : MethodName) (⟨"StereoWarModel", "kindOf", "(II)I"⟩ : MethodName) ∈ TT := tt_at 50 (by decide +kernel) rfl
theorem tw51 : Cond.selects "StereoWarModel" (⟨"StereoWarModel", "areBoth", "(III)Z"⟩ : MethodName) (⟨"StereoWarModel", "areBoth", "(III)Z"⟩ : MethodName) ∈ TT := tt_at 51 (by decide +kernel) rfl
theorem tw52 : Cond.selects "StereoWarModel" (⟨"StereoWarModel", "shiftOf", "(III)I"⟩ : MethodName) (⟨"StereoWarModel", "shiftOf", "(III)I"⟩ : MethodName) ∈ TT := tt_at 52 (by decide +kernel) rfl
theorem tw53 : Cond.selects "StereoWarModel" (⟨"StereoWarModel", "areTwo", "(II)Z"⟩ : MethodName) (⟨"StereoWarModel", "areTwo", "(II)Z"⟩ : MethodName) ∈ TT := tt_at 53 (by decide +kernel) rfl
theorem tw54 : Cond.selects "StereoWarModel" (⟨"StereoWarModel", "findMost", "(I)V"⟩ : MethodName) (⟨"StereoWarModel", "findMost", "(I)V"⟩ : MethodName) ∈ TT := tt_at 54 (by decide +kernel) rfl
theorem tw55 : Cond.selects "StereoWarModel" (⟨"StereoWarModel", "canPair", "(II)Z"⟩ : MethodName) (⟨"StereoWarModel", "canPair", "(II)Z"⟩ : MethodName) ∈ TT := tt_at 55 (by decide +kernel) rfl
theorem tw56 : Cond.selects "StereoWarModel" (⟨"StereoWarModel", "mateOf", "(I)I"⟩ : MethodName) (⟨"StereoWarModel", "mateOf", "(I)I"⟩ : MethodName) ∈ TT := tt_at 56 (by decide +kernel) rfl
theorem tw57 : Cond.selects "StereoWarModel" (⟨"StereoWarModel", "unlike", "(III)I"⟩ : MethodName) (⟨"StereoWarModel", "unlike", "(III)I"⟩ : MethodName) ∈ TT := tt_at 57 (by decide +kernel) rfl
theorem tw58 : Cond.selects "StereoWarModel" (⟨"StereoWarModel", "findMinutes", "(I)V"⟩ : MethodName) (⟨"StereoWarModel", "findMinutes", "(I)V"⟩ : MethodName) ∈ TT := tt_at 58 (by decide +kernel) rfl
theorem tw59 : Cond.selects "StereoWarModel" (⟨"StereoWarModel", "lateKind", "(IIII)I"⟩ : MethodName) (⟨"StereoWarModel", "lateKind", "(IIII)I"⟩ : MethodName) ∈ TT := tt_at 59 (by decide +kernel) rfl
theorem tw60 : Cond.selects "StereoWarModel" (⟨"StereoWarModel", "shownFrom", "(II)I"⟩ : MethodName) (⟨"StereoWarModel", "shownFrom", "(II)I"⟩ : MethodName) ∈ TT := tt_at 60 (by decide +kernel) rfl
theorem tw61 : Cond.selects "StereoWarModel" (⟨"StereoWarModel", "passAll", "()V"⟩ : MethodName) (⟨"StereoWarModel", "passAll", "()V"⟩ : MethodName) ∈ TT := tt_at 61 (by decide +kernel) rfl
theorem tw62 : Cond.selects "StereoWarModel" (⟨"StereoWarModel", "pass", "(I)I"⟩ : MethodName) (⟨"StereoWarModel", "pass", "(I)I"⟩ : MethodName) ∈ TT := tt_at 62 (by decide +kernel) rfl
theorem tw63 : Cond.selects "StereoWarModel" (⟨"StereoWarModel", "toldOfThing", "(II)I"⟩ : MethodName) (⟨"StereoWarModel", "toldOfThing", "(II)I"⟩ : MethodName) ∈ TT := tt_at 63 (by decide +kernel) rfl
theorem tw64 : Cond.initialized "StereoWarLaw" ∈ TT := tt_at 64 (by decide +kernel) rfl
theorem tw65 : Cond.initialized "StereoWar" ∈ TT := tt_at 65 (by decide +kernel) rfl
theorem tw66 : Cond.initialized "StereoWar$Scene" ∈ TT := tt_at 66 (by decide +kernel) rfl
theorem tw67 : Cond.initialized "StereoWar$Thing" ∈ TT := tt_at 67 (by decide +kernel) rfl
theorem tw68 : Cond.initialized "StereoWar$Picture" ∈ TT := tt_at 68 (by decide +kernel) rfl
theorem tw69 : Cond.initialized "StereoWar$Pad" ∈ TT := tt_at 69 (by decide +kernel) rfl
theorem tw70 : Cond.initialized "StereoWar$Matcher" ∈ TT := tt_at 70 (by decide +kernel) rfl
theorem tw71 : Cond.initialized "StereoWar$Shutter" ∈ TT := tt_at 71 (by decide +kernel) rfl
theorem tw72 : Cond.initialized "StereoWarModel" ∈ TT := tt_at 72 (by decide +kernel) rfl
theorem tw73 : Cond.initialized "java/lang/Integer" ∈ TT := tt_at 73 (by decide +kernel) rfl
theorem tw74 : Cond.initialized "java/lang/Math" ∈ TT := tt_at 74 (by decide +kernel) rfl
theorem tw75 : Cond.initialized "StereoWar$Search" ∈ TT := tt_at 75 (by decide +kernel) rfl
theorem tw76 : Cond.initialized "java/lang/Long" ∈ TT := tt_at 76 (by decide +kernel) rfl
theorem tw77 : Cond.classLink "StereoWarLaw" (7 : Nat) "StereoWar" ∈ TT := tt_at 77 (by decide +kernel) rfl
theorem tw78 : Cond.instantiable "StereoWar" (8 : Nat) ∈ TT := tt_at 78 (by decide +kernel) rfl
theorem tw79 : Cond.methodLink "StereoWarLaw" (9 : Nat) ({ cls := "StereoWar", name := "<init>", desc := "()V" } : Jvm.MethodName) ∈ TT := tt_at 79 (by decide +kernel) rfl
theorem tw80 : Cond.instanceMethod ({ cls := "StereoWar", name := "<init>", desc := "()V" } : Jvm.MethodName) ∈ TT := tt_at 80 (by decide +kernel) rfl
theorem tw81 : Cond.code ({ cls := "StereoWar", name := "<init>", desc := "()V" } : Jvm.MethodName) prog_1_method_1_code (2 : Nat) (none) ∈ TT := tt_at 81 (by decide +kernel) rfl
theorem tw82 : Cond.methodLink "StereoWar" (1 : Nat) ({ cls := "java/lang/Object", name := "<init>", desc := "()V" } : Jvm.MethodName) ∈ TT := tt_at 82 (by decide +kernel) rfl
theorem tw83 : Cond.instanceMethod ({ cls := "java/lang/Object", name := "<init>", desc := "()V" } : Jvm.MethodName) ∈ TT := tt_at 83 (by decide +kernel) rfl
theorem tw84 : Cond.code ({ cls := "java/lang/Object", name := "<init>", desc := "()V" } : Jvm.MethodName) object_method_1_code (1 : Nat) (none) ∈ TT := tt_at 84 (by decide +kernel) rfl
theorem tw85 : Cond.classLink "StereoWar" (7 : Nat) "StereoWar$Scene" ∈ TT := tt_at 85 (by decide +kernel) rfl
theorem tw86 : Cond.instantiable "StereoWar$Scene" (3 : Nat) ∈ TT := tt_at 86 (by decide +kernel) rfl
theorem tw87 : Cond.methodLinkNest "StereoWar" (9 : Nat) ({ cls := "StereoWar$Scene", name := "<init>", desc := "()V" } : Jvm.MethodName) "StereoWar" ∈ NW := nw_at 87 (by decide +kernel) rfl
theorem tw88 : Cond.instanceMethod ({ cls := "StereoWar$Scene", name := "<init>", desc := "()V" } : Jvm.MethodName) ∈ TT := tt_at 88 (by decide +kernel) rfl
theorem tw89 : Cond.code ({ cls := "StereoWar$Scene", name := "<init>", desc := "()V" } : Jvm.MethodName) prog_5_method_1_code (2 : Nat) (none) ∈ TT := tt_at 89 (by decide +kernel) rfl
theorem tw90 : Cond.methodLink "StereoWar$Scene" (3 : Nat) ({ cls := "java/lang/Object", name := "<init>", desc := "()V" } : Jvm.MethodName) ∈ TT := tt_at 90 (by decide +kernel) rfl
theorem tw91 : Cond.classLink "StereoWar$Scene" (9 : Nat) "StereoWar$Thing" ∈ TT := tt_at 91 (by decide +kernel) rfl
theorem tw92 : Cond.arrayOver (FieldType.object "StereoWar$Thing") ∈ NW := nw_at 92 (by decide +kernel) rfl
theorem tw93 : Cond.classLink "StereoWar$Scene" (17 : Nat) "StereoWar$Picture" ∈ TT := tt_at 93 (by decide +kernel) rfl
theorem tw94 : Cond.arrayOver (FieldType.object "StereoWar$Picture") ∈ NW := nw_at 94 (by decide +kernel) rfl
theorem tw95 : Cond.instantiable "StereoWar$Thing" (4 : Nat) ∈ TT := tt_at 95 (by decide +kernel) rfl
theorem tw96 : Cond.methodLinkNest "StereoWar$Scene" (27 : Nat) ({ cls := "StereoWar$Thing", name := "<init>", desc := "()V" } : Jvm.MethodName) "StereoWar" ∈ NW := nw_at 96 (by decide +kernel) rfl
theorem tw97 : Cond.instanceMethod ({ cls := "StereoWar$Thing", name := "<init>", desc := "()V" } : Jvm.MethodName) ∈ TT := tt_at 97 (by decide +kernel) rfl
theorem tw98 : Cond.code ({ cls := "StereoWar$Thing", name := "<init>", desc := "()V" } : Jvm.MethodName) prog_8_method_1_code (1 : Nat) (none) ∈ TT := tt_at 98 (by decide +kernel) rfl
theorem tw99 : Cond.methodLink "StereoWar$Thing" (3 : Nat) ({ cls := "java/lang/Object", name := "<init>", desc := "()V" } : Jvm.MethodName) ∈ TT := tt_at 99 (by decide +kernel) rfl
theorem tw100 : Cond.fieldLink "StereoWar$Thing" (25 : Nat) "StereoWar$Thing" "there" "Z" ∈ TT := tt_at 100 (by decide +kernel) rfl
theorem tw101 : Cond.fieldLinkNest "StereoWar" (77 : Nat) "StereoWar$Thing" "there" "Z" "StereoWar" ∈ NW := nw_at 101 (by decide +kernel) rfl
theorem tw102 : Cond.fieldLinkNest "StereoWar$Scene" (40 : Nat) "StereoWar$Thing" "there" "Z" "StereoWar" ∈ NW := nw_at 102 (by decide +kernel) rfl
theorem tw103 : Cond.fieldLink "StereoWar$Thing" (15 : Nat) "StereoWar$Thing" "place" "I" ∈ TT := tt_at 103 (by decide +kernel) rfl
theorem tw104 : Cond.fieldLinkNest "StereoWar$Scene" (45 : Nat) "StereoWar$Thing" "place" "I" "StereoWar" ∈ NW := nw_at 104 (by decide +kernel) rfl
theorem tw105 : Cond.fieldLinkNest "StereoWar" (252 : Nat) "StereoWar$Thing" "place" "I" "StereoWar" ∈ NW := nw_at 105 (by decide +kernel) rfl
theorem tw106 : Cond.fieldLink "StereoWar$Thing" (18 : Nat) "StereoWar$Thing" "pace" "I" ∈ TT := tt_at 106 (by decide +kernel) rfl
theorem tw107 : Cond.fieldLinkNest "StereoWar$Scene" (48 : Nat) "StereoWar$Thing" "pace" "I" "StereoWar" ∈ NW := nw_at 107 (by decide +kernel) rfl
theorem tw108 : Cond.fieldLinkNest "StereoWar" (255 : Nat) "StereoWar$Thing" "pace" "I" "StereoWar" ∈ NW := nw_at 108 (by decide +kernel) rfl
theorem tw109 : Cond.fieldLink "StereoWar$Thing" (9 : Nat) "StereoWar$Thing" "deep" "I" ∈ TT := tt_at 109 (by decide +kernel) rfl
theorem tw110 : Cond.fieldLinkNest "StereoWar$Scene" (51 : Nat) "StereoWar$Thing" "deep" "I" "StereoWar" ∈ NW := nw_at 110 (by decide +kernel) rfl
theorem tw111 : Cond.fieldLinkNest "StereoWar" (258 : Nat) "StereoWar$Thing" "deep" "I" "StereoWar" ∈ NW := nw_at 111 (by decide +kernel) rfl
theorem tw112 : Cond.lays "StereoWar$Thing" "StereoWar$Thing" "there" "Z" ∈ TT := tt_at 112 (by decide +kernel) rfl
theorem tw113 : Cond.soleField "StereoWar$Thing" "there" ∈ TT := tt_at 113 (by decide +kernel) rfl
theorem tw114 : Cond.lays "StereoWar$Thing" "StereoWar$Thing" "place" "I" ∈ TT := tt_at 114 (by decide +kernel) rfl
theorem tw115 : Cond.soleField "StereoWar$Thing" "place" ∈ TT := tt_at 115 (by decide +kernel) rfl
theorem tw116 : Cond.lays "StereoWar$Thing" "StereoWar$Thing" "pace" "I" ∈ TT := tt_at 116 (by decide +kernel) rfl
theorem tw117 : Cond.soleField "StereoWar$Thing" "pace" ∈ TT := tt_at 117 (by decide +kernel) rfl
theorem tw118 : Cond.lays "StereoWar$Thing" "StereoWar$Thing" "deep" "I" ∈ TT := tt_at 118 (by decide +kernel) rfl
theorem tw119 : Cond.soleField "StereoWar$Thing" "deep" ∈ TT := tt_at 119 (by decide +kernel) rfl
theorem tw120 : Cond.superclass "StereoWar$Thing" "java/lang/Object" ∈ TT := tt_at 120 (by decide +kernel) rfl
theorem tw121 : Cond.instantiable "StereoWar$Picture" (2 : Nat) ∈ TT := tt_at 121 (by decide +kernel) rfl
theorem tw122 : Cond.methodLinkNest "StereoWar$Scene" (28 : Nat) ({ cls := "StereoWar$Picture", name := "<init>", desc := "()V" } : Jvm.MethodName) "StereoWar" ∈ NW := nw_at 122 (by decide +kernel) rfl
theorem tw123 : Cond.instanceMethod ({ cls := "StereoWar$Picture", name := "<init>", desc := "()V" } : Jvm.MethodName) ∈ TT := tt_at 123 (by decide +kernel) rfl
theorem tw124 : Cond.code ({ cls := "StereoWar$Picture", name := "<init>", desc := "()V" } : Jvm.MethodName) prog_4_method_1_code (1 : Nat) (none) ∈ TT := tt_at 124 (by decide +kernel) rfl
theorem tw125 : Cond.methodLink "StereoWar$Picture" (3 : Nat) ({ cls := "java/lang/Object", name := "<init>", desc := "()V" } : Jvm.MethodName) ∈ TT := tt_at 125 (by decide +kernel) rfl
theorem tw126 : Cond.fieldLinkNest "StereoWar$Scene" (44 : Nat) "StereoWar$Picture" "there" "Z" "StereoWar" ∈ NW := nw_at 126 (by decide +kernel) rfl
theorem tw127 : Cond.fieldLink "StereoWar$Picture" (19 : Nat) "StereoWar$Picture" "there" "Z" ∈ TT := tt_at 127 (by decide +kernel) rfl
theorem tw128 : Cond.fieldLinkNest "StereoWar" (109 : Nat) "StereoWar$Picture" "there" "Z" "StereoWar" ∈ NW := nw_at 128 (by decide +kernel) rfl
theorem tw129 : Cond.fieldLink "StereoWar$Picture" (9 : Nat) "StereoWar$Picture" "columns" "[I" ∈ TT := tt_at 129 (by decide +kernel) rfl
theorem tw130 : Cond.lays "StereoWar$Picture" "StereoWar$Picture" "there" "Z" ∈ TT := tt_at 130 (by decide +kernel) rfl
theorem tw131 : Cond.soleField "StereoWar$Picture" "there" ∈ TT := tt_at 131 (by decide +kernel) rfl
theorem tw132 : Cond.laysFinal "StereoWar$Picture" "StereoWar$Picture" "columns" "[I" ∈ TT := tt_at 132 (by decide +kernel) rfl
theorem tw133 : Cond.soleField "StereoWar$Picture" "columns" ∈ TT := tt_at 133 (by decide +kernel) rfl
theorem tw134 : Cond.superclass "StereoWar$Picture" "java/lang/Object" ∈ TT := tt_at 134 (by decide +kernel) rfl
theorem tw135 : Cond.arrayClass FieldType.int ∈ TT := tt_at 135 (by decide +kernel) rfl
theorem tw136 : Cond.fieldLink "StereoWar$Scene" (11 : Nat) "StereoWar$Scene" "things" "[LStereoWar$Thing;" ∈ TT := tt_at 136 (by decide +kernel) rfl
theorem tw137 : Cond.fieldLink "StereoWar$Scene" (19 : Nat) "StereoWar$Scene" "pictures" "[LStereoWar$Picture;" ∈ TT := tt_at 137 (by decide +kernel) rfl
theorem tw138 : Cond.fieldLink "StereoWar$Scene" (23 : Nat) "StereoWar$Scene" "focus" "I" ∈ TT := tt_at 138 (by decide +kernel) rfl
theorem tw139 : Cond.fieldLinkNest "StereoWar" (83 : Nat) "StereoWar$Scene" "focus" "I" "StereoWar" ∈ NW := nw_at 139 (by decide +kernel) rfl
theorem tw140 : Cond.laysFinal "StereoWar$Scene" "StereoWar$Scene" "things" "[LStereoWar$Thing;" ∈ TT := tt_at 140 (by decide +kernel) rfl
theorem tw141 : Cond.soleField "StereoWar$Scene" "things" ∈ TT := tt_at 141 (by decide +kernel) rfl
theorem tw142 : Cond.laysFinal "StereoWar$Scene" "StereoWar$Scene" "pictures" "[LStereoWar$Picture;" ∈ TT := tt_at 142 (by decide +kernel) rfl
theorem tw143 : Cond.soleField "StereoWar$Scene" "pictures" ∈ TT := tt_at 143 (by decide +kernel) rfl
theorem tw144 : Cond.lays "StereoWar$Scene" "StereoWar$Scene" "focus" "I" ∈ TT := tt_at 144 (by decide +kernel) rfl
theorem tw145 : Cond.soleField "StereoWar$Scene" "focus" ∈ TT := tt_at 145 (by decide +kernel) rfl
theorem tw146 : Cond.superclass "StereoWar$Scene" "java/lang/Object" ∈ TT := tt_at 146 (by decide +kernel) rfl
theorem tw147 : Cond.arrayOver (FieldType.object "StereoWar$Scene") ∈ NW := nw_at 147 (by decide +kernel) rfl
theorem tw148 : Cond.classLink "StereoWar" (24 : Nat) "StereoWar$Pad" ∈ TT := tt_at 148 (by decide +kernel) rfl
theorem tw149 : Cond.instantiable "StereoWar$Pad" (6 : Nat) ∈ TT := tt_at 149 (by decide +kernel) rfl
theorem tw150 : Cond.methodLinkNest "StereoWar" (26 : Nat) ({ cls := "StereoWar$Pad", name := "<init>", desc := "()V" } : Jvm.MethodName) "StereoWar" ∈ NW := nw_at 150 (by decide +kernel) rfl
theorem tw151 : Cond.instanceMethod ({ cls := "StereoWar$Pad", name := "<init>", desc := "()V" } : Jvm.MethodName) ∈ TT := tt_at 151 (by decide +kernel) rfl
theorem tw152 : Cond.code ({ cls := "StereoWar$Pad", name := "<init>", desc := "()V" } : Jvm.MethodName) prog_3_method_1_code (1 : Nat) (none) ∈ TT := tt_at 152 (by decide +kernel) rfl
theorem tw153 : Cond.methodLink "StereoWar$Pad" (3 : Nat) ({ cls := "java/lang/Object", name := "<init>", desc := "()V" } : Jvm.MethodName) ∈ TT := tt_at 153 (by decide +kernel) rfl
theorem tw154 : Cond.fieldLink "StereoWar$Pad" (9 : Nat) "StereoWar$Pad" "signs" "[I" ∈ TT := tt_at 154 (by decide +kernel) rfl
theorem tw155 : Cond.fieldLink "StereoWar$Pad" (21 : Nat) "StereoWar$Pad" "count" "I" ∈ TT := tt_at 155 (by decide +kernel) rfl
theorem tw156 : Cond.fieldLinkNest "StereoWar" (116 : Nat) "StereoWar$Pad" "count" "I" "StereoWar" ∈ NW := nw_at 156 (by decide +kernel) rfl
theorem tw157 : Cond.fieldLink "StereoWar$Pad" (15 : Nat) "StereoWar$Pad" "lefts" "[I" ∈ TT := tt_at 157 (by decide +kernel) rfl
theorem tw158 : Cond.fieldLink "StereoWar$Pad" (18 : Nat) "StereoWar$Pad" "rights" "[I" ∈ TT := tt_at 158 (by decide +kernel) rfl
theorem tw159 : Cond.fieldLink "StereoWar$Pad" (29 : Nat) "StereoWar$Pad" "pairs" "I" ∈ TT := tt_at 159 (by decide +kernel) rfl
theorem tw160 : Cond.fieldLinkNest "StereoWar" (130 : Nat) "StereoWar$Pad" "pairs" "I" "StereoWar" ∈ NW := nw_at 160 (by decide +kernel) rfl
theorem tw161 : Cond.fieldLink "StereoWar$Pad" (32 : Nat) "StereoWar$Pad" "turns" "I" ∈ TT := tt_at 161 (by decide +kernel) rfl
theorem tw162 : Cond.fieldLinkNest "StereoWar" (133 : Nat) "StereoWar$Pad" "turns" "I" "StereoWar" ∈ NW := nw_at 162 (by decide +kernel) rfl
theorem tw163 : Cond.laysFinal "StereoWar$Pad" "StereoWar$Pad" "signs" "[I" ∈ TT := tt_at 163 (by decide +kernel) rfl
theorem tw164 : Cond.soleField "StereoWar$Pad" "signs" ∈ TT := tt_at 164 (by decide +kernel) rfl
theorem tw165 : Cond.lays "StereoWar$Pad" "StereoWar$Pad" "count" "I" ∈ TT := tt_at 165 (by decide +kernel) rfl
theorem tw166 : Cond.soleField "StereoWar$Pad" "count" ∈ TT := tt_at 166 (by decide +kernel) rfl
theorem tw167 : Cond.laysFinal "StereoWar$Pad" "StereoWar$Pad" "lefts" "[I" ∈ TT := tt_at 167 (by decide +kernel) rfl
theorem tw168 : Cond.soleField "StereoWar$Pad" "lefts" ∈ TT := tt_at 168 (by decide +kernel) rfl
theorem tw169 : Cond.laysFinal "StereoWar$Pad" "StereoWar$Pad" "rights" "[I" ∈ TT := tt_at 169 (by decide +kernel) rfl
theorem tw170 : Cond.soleField "StereoWar$Pad" "rights" ∈ TT := tt_at 170 (by decide +kernel) rfl
theorem tw171 : Cond.lays "StereoWar$Pad" "StereoWar$Pad" "pairs" "I" ∈ TT := tt_at 171 (by decide +kernel) rfl
theorem tw172 : Cond.soleField "StereoWar$Pad" "pairs" ∈ TT := tt_at 172 (by decide +kernel) rfl
theorem tw173 : Cond.lays "StereoWar$Pad" "StereoWar$Pad" "turns" "I" ∈ TT := tt_at 173 (by decide +kernel) rfl
theorem tw174 : Cond.soleField "StereoWar$Pad" "turns" ∈ TT := tt_at 174 (by decide +kernel) rfl
theorem tw175 : Cond.superclass "StereoWar$Pad" "java/lang/Object" ∈ TT := tt_at 175 (by decide +kernel) rfl
theorem tw176 : Cond.arrayClass FieldType.boolean ∈ TT := tt_at 176 (by decide +kernel) rfl
theorem tw177 : Cond.classLink "StereoWar" (31 : Nat) "StereoWar$Matcher" ∈ TT := tt_at 177 (by decide +kernel) rfl
theorem tw178 : Cond.instantiable "StereoWar$Matcher" (2 : Nat) ∈ TT := tt_at 178 (by decide +kernel) rfl
theorem tw179 : Cond.methodLinkNest "StereoWar" (33 : Nat) ({ cls := "StereoWar$Matcher", name := "<init>", desc := "()V" } : Jvm.MethodName) "StereoWar" ∈ NW := nw_at 179 (by decide +kernel) rfl
theorem tw180 : Cond.instanceMethod ({ cls := "StereoWar$Matcher", name := "<init>", desc := "()V" } : Jvm.MethodName) ∈ TT := tt_at 180 (by decide +kernel) rfl
theorem tw181 : Cond.code ({ cls := "StereoWar$Matcher", name := "<init>", desc := "()V" } : Jvm.MethodName) prog_2_method_1_code (1 : Nat) (none) ∈ TT := tt_at 181 (by decide +kernel) rfl
theorem tw182 : Cond.methodLink "StereoWar$Matcher" (3 : Nat) ({ cls := "java/lang/Object", name := "<init>", desc := "()V" } : Jvm.MethodName) ∈ TT := tt_at 182 (by decide +kernel) rfl
theorem tw183 : Cond.fieldLink "StereoWar$Matcher" (9 : Nat) "StereoWar$Matcher" "friends" "[I" ∈ TT := tt_at 183 (by decide +kernel) rfl
theorem tw184 : Cond.fieldLink "StereoWar$Matcher" (15 : Nat) "StereoWar$Matcher" "most" "[I" ∈ TT := tt_at 184 (by decide +kernel) rfl
theorem tw185 : Cond.laysFinal "StereoWar$Matcher" "StereoWar$Matcher" "friends" "[I" ∈ TT := tt_at 185 (by decide +kernel) rfl
theorem tw186 : Cond.soleField "StereoWar$Matcher" "friends" ∈ TT := tt_at 186 (by decide +kernel) rfl
theorem tw187 : Cond.laysFinal "StereoWar$Matcher" "StereoWar$Matcher" "most" "[I" ∈ TT := tt_at 187 (by decide +kernel) rfl
theorem tw188 : Cond.soleField "StereoWar$Matcher" "most" ∈ TT := tt_at 188 (by decide +kernel) rfl
theorem tw189 : Cond.superclass "StereoWar$Matcher" "java/lang/Object" ∈ TT := tt_at 189 (by decide +kernel) rfl
theorem tw190 : Cond.classLink "StereoWar" (38 : Nat) "StereoWar$Shutter" ∈ TT := tt_at 190 (by decide +kernel) rfl
theorem tw191 : Cond.instantiable "StereoWar$Shutter" (1 : Nat) ∈ TT := tt_at 191 (by decide +kernel) rfl
theorem tw192 : Cond.methodLinkNest "StereoWar" (40 : Nat) ({ cls := "StereoWar$Shutter", name := "<init>", desc := "()V" } : Jvm.MethodName) "StereoWar" ∈ NW := nw_at 192 (by decide +kernel) rfl
theorem tw193 : Cond.instanceMethod ({ cls := "StereoWar$Shutter", name := "<init>", desc := "()V" } : Jvm.MethodName) ∈ TT := tt_at 193 (by decide +kernel) rfl
theorem tw194 : Cond.code ({ cls := "StereoWar$Shutter", name := "<init>", desc := "()V" } : Jvm.MethodName) prog_7_method_1_code (1 : Nat) (none) ∈ TT := tt_at 194 (by decide +kernel) rfl
theorem tw195 : Cond.methodLink "StereoWar$Shutter" (3 : Nat) ({ cls := "java/lang/Object", name := "<init>", desc := "()V" } : Jvm.MethodName) ∈ TT := tt_at 195 (by decide +kernel) rfl
theorem tw196 : Cond.fieldLink "StereoWar$Shutter" (9 : Nat) "StereoWar$Shutter" "ways" "[J" ∈ TT := tt_at 196 (by decide +kernel) rfl
theorem tw197 : Cond.laysFinal "StereoWar$Shutter" "StereoWar$Shutter" "ways" "[J" ∈ TT := tt_at 197 (by decide +kernel) rfl
theorem tw198 : Cond.soleField "StereoWar$Shutter" "ways" ∈ TT := tt_at 198 (by decide +kernel) rfl
theorem tw199 : Cond.superclass "StereoWar$Shutter" "java/lang/Object" ∈ TT := tt_at 199 (by decide +kernel) rfl
theorem tw200 : Cond.arrayClass FieldType.long ∈ TT := tt_at 200 (by decide +kernel) rfl
theorem tw201 : Cond.classLink "StereoWar" (45 : Nat) "StereoWar$Picture" ∈ TT := tt_at 201 (by decide +kernel) rfl
theorem tw202 : Cond.methodLinkNest "StereoWar" (47 : Nat) ({ cls := "StereoWar$Picture", name := "<init>", desc := "()V" } : Jvm.MethodName) "StereoWar" ∈ NW := nw_at 202 (by decide +kernel) rfl
theorem tw203 : Cond.fieldLink "StereoWar" (10 : Nat) "StereoWar" "now" "LStereoWar$Scene;" ∈ TT := tt_at 203 (by decide +kernel) rfl
theorem tw204 : Cond.fieldLink "StereoWar" (16 : Nat) "StereoWar" "images" "[LStereoWar$Scene;" ∈ TT := tt_at 204 (by decide +kernel) rfl
theorem tw205 : Cond.fieldLink "StereoWar" (20 : Nat) "StereoWar" "imageKept" "[Z" ∈ TT := tt_at 205 (by decide +kernel) rfl
theorem tw206 : Cond.fieldLink "StereoWar" (27 : Nat) "StereoWar" "pad" "LStereoWar$Pad;" ∈ TT := tt_at 206 (by decide +kernel) rfl
theorem tw207 : Cond.fieldLink "StereoWar" (34 : Nat) "StereoWar" "matcher" "LStereoWar$Matcher;" ∈ TT := tt_at 207 (by decide +kernel) rfl
theorem tw208 : Cond.fieldLink "StereoWar" (41 : Nat) "StereoWar" "shutter" "LStereoWar$Shutter;" ∈ TT := tt_at 208 (by decide +kernel) rfl
theorem tw209 : Cond.fieldLink "StereoWar" (48 : Nat) "StereoWar" "leftPlate" "LStereoWar$Picture;" ∈ TT := tt_at 209 (by decide +kernel) rfl
theorem tw210 : Cond.fieldLink "StereoWar" (52 : Nat) "StereoWar" "rightPlate" "LStereoWar$Picture;" ∈ TT := tt_at 210 (by decide +kernel) rfl
theorem tw211 : Cond.laysFinal "StereoWar" "StereoWar" "now" "LStereoWar$Scene;" ∈ TT := tt_at 211 (by decide +kernel) rfl
theorem tw212 : Cond.soleField "StereoWar" "now" ∈ TT := tt_at 212 (by decide +kernel) rfl
theorem tw213 : Cond.laysFinal "StereoWar" "StereoWar" "images" "[LStereoWar$Scene;" ∈ TT := tt_at 213 (by decide +kernel) rfl
theorem tw214 : Cond.soleField "StereoWar" "images" ∈ TT := tt_at 214 (by decide +kernel) rfl
theorem tw215 : Cond.laysFinal "StereoWar" "StereoWar" "imageKept" "[Z" ∈ TT := tt_at 215 (by decide +kernel) rfl
theorem tw216 : Cond.soleField "StereoWar" "imageKept" ∈ TT := tt_at 216 (by decide +kernel) rfl
theorem tw217 : Cond.laysFinal "StereoWar" "StereoWar" "pad" "LStereoWar$Pad;" ∈ TT := tt_at 217 (by decide +kernel) rfl
theorem tw218 : Cond.soleField "StereoWar" "pad" ∈ TT := tt_at 218 (by decide +kernel) rfl
theorem tw219 : Cond.laysFinal "StereoWar" "StereoWar" "matcher" "LStereoWar$Matcher;" ∈ TT := tt_at 219 (by decide +kernel) rfl
theorem tw220 : Cond.soleField "StereoWar" "matcher" ∈ TT := tt_at 220 (by decide +kernel) rfl
theorem tw221 : Cond.laysFinal "StereoWar" "StereoWar" "shutter" "LStereoWar$Shutter;" ∈ TT := tt_at 221 (by decide +kernel) rfl
theorem tw222 : Cond.soleField "StereoWar" "shutter" ∈ TT := tt_at 222 (by decide +kernel) rfl
theorem tw223 : Cond.laysFinal "StereoWar" "StereoWar" "leftPlate" "LStereoWar$Picture;" ∈ TT := tt_at 223 (by decide +kernel) rfl
theorem tw224 : Cond.soleField "StereoWar" "leftPlate" ∈ TT := tt_at 224 (by decide +kernel) rfl
theorem tw225 : Cond.laysFinal "StereoWar" "StereoWar" "rightPlate" "LStereoWar$Picture;" ∈ TT := tt_at 225 (by decide +kernel) rfl
theorem tw226 : Cond.soleField "StereoWar" "rightPlate" ∈ TT := tt_at 226 (by decide +kernel) rfl
theorem tw227 : Cond.superclass "StereoWar" "java/lang/Object" ∈ TT := tt_at 227 (by decide +kernel) rfl
theorem tw228 : Cond.methodLink "StereoWarLaw" (13 : Nat) ({ cls := "StereoWar", name := "thing", desc := "(IIII)I" } : Jvm.MethodName) ∈ TT := tt_at 228 (by decide +kernel) rfl
theorem tw229 : Cond.instanceMethod ({ cls := "StereoWar", name := "thing", desc := "(IIII)I" } : Jvm.MethodName) ∈ TT := tt_at 229 (by decide +kernel) rfl
theorem tw230 : Cond.selects "StereoWar" ({ cls := "StereoWar", name := "thing", desc := "(IIII)I" } : Jvm.MethodName) ({ cls := "StereoWar", name := "thing", desc := "(IIII)I" } : Jvm.MethodName) ∈ TT := tt_at 230 (by decide +kernel) rfl
theorem tw231 : Cond.code ({ cls := "StereoWar", name := "thing", desc := "(IIII)I" } : Jvm.MethodName) prog_1_method_2_code (5 : Nat) (Option.some FieldType.int) ∈ TT := tt_at 231 (by decide +kernel) rfl
theorem tw232 : Cond.methodLink "StereoWar" (55 : Nat) ({ cls := "StereoWar", name := "within", desc := "(III)Z" } : Jvm.MethodName) ∈ TT := tt_at 232 (by decide +kernel) rfl
theorem tw233 : Cond.static ({ cls := "StereoWar", name := "within", desc := "(III)Z" } : Jvm.MethodName) ∈ TT := tt_at 233 (by decide +kernel) rfl
theorem tw234 : Cond.code ({ cls := "StereoWar", name := "within", desc := "(III)Z" } : Jvm.MethodName) prog_1_method_32_code (3 : Nat) (Option.some FieldType.boolean) ∈ TT := tt_at 234 (by decide +kernel) rfl
theorem tw235 : Cond.methodLinkNest "StereoWar" (59 : Nat) ({ cls := "StereoWar$Scene", name := "putThing", desc := "(IIII)V" } : Jvm.MethodName) "StereoWar" ∈ NW := nw_at 235 (by decide +kernel) rfl
theorem tw237 : Cond.instanceMethod ({ cls := "StereoWar$Scene", name := "putThing", desc := "(IIII)V" } : Jvm.MethodName) ∈ TT := tt_at 237 (by decide +kernel) rfl
theorem tw238 : Cond.code ({ cls := "StereoWar$Scene", name := "putThing", desc := "(IIII)V" } : Jvm.MethodName) prog_5_method_5_code (6 : Nat) (none) ∈ TT := tt_at 238 (by decide +kernel) rfl
theorem tw239 : Cond.methodLinkNest "StereoWar$Scene" (36 : Nat) ({ cls := "StereoWar", name := "within", desc := "(III)Z" } : Jvm.MethodName) "StereoWar" ∈ NW := nw_at 239 (by decide +kernel) rfl
theorem tw240 : Cond.methodLinkNest "StereoWar" (63 : Nat) ({ cls := "StereoWar$Scene", name := "thingBits", desc := "()I" } : Jvm.MethodName) "StereoWar" ∈ NW := nw_at 240 (by decide +kernel) rfl
theorem tw242 : Cond.instanceMethod ({ cls := "StereoWar$Scene", name := "thingBits", desc := "()I" } : Jvm.MethodName) ∈ TT := tt_at 242 (by decide +kernel) rfl
theorem tw243 : Cond.code ({ cls := "StereoWar$Scene", name := "thingBits", desc := "()I" } : Jvm.MethodName) prog_5_method_10_code (3 : Nat) (Option.some FieldType.int) ∈ TT := tt_at 243 (by decide +kernel) rfl
theorem tw244 : Cond.methodLink "StereoWar" (67 : Nat) ({ cls := "java/lang/Integer", name := "bitCount", desc := "(I)I" } : Jvm.MethodName) ∈ TT := tt_at 244 (by decide +kernel) rfl
theorem tw245 : Cond.static ({ cls := "java/lang/Integer", name := "bitCount", desc := "(I)I" } : Jvm.MethodName) ∈ TT := tt_at 245 (by decide +kernel) rfl
theorem tw246 : Cond.code ({ cls := "java/lang/Integer", name := "bitCount", desc := "(I)I" } : Jvm.MethodName) prog_11_method_49_code (1 : Nat) (Option.some FieldType.int) ∈ TT := tt_at 246 (by decide +kernel) rfl
theorem tw247 : Cond.constant "java/lang/Integer" (265 : Nat) (1431655765 : Int32) ∈ TT := tt_at 247 (by decide +kernel) rfl
theorem tw248 : Cond.constant "java/lang/Integer" (266 : Nat) (858993459 : Int32) ∈ TT := tt_at 248 (by decide +kernel) rfl
theorem tw249 : Cond.constant "java/lang/Integer" (267 : Nat) (252645135 : Int32) ∈ TT := tt_at 249 (by decide +kernel) rfl
theorem tw250 : Cond.methodLink "StereoWarLaw" (18 : Nat) ({ cls := "StereoWar", name := "leave", desc := "(I)I" } : Jvm.MethodName) ∈ TT := tt_at 250 (by decide +kernel) rfl
theorem tw251 : Cond.instanceMethod ({ cls := "StereoWar", name := "leave", desc := "(I)I" } : Jvm.MethodName) ∈ TT := tt_at 251 (by decide +kernel) rfl
theorem tw252 : Cond.selects "StereoWar" ({ cls := "StereoWar", name := "leave", desc := "(I)I" } : Jvm.MethodName) ({ cls := "StereoWar", name := "leave", desc := "(I)I" } : Jvm.MethodName) ∈ TT := tt_at 252 (by decide +kernel) rfl
theorem tw253 : Cond.code ({ cls := "StereoWar", name := "leave", desc := "(I)I" } : Jvm.MethodName) prog_1_method_3_code (3 : Nat) (Option.some FieldType.int) ∈ TT := tt_at 253 (by decide +kernel) rfl
theorem tw254 : Cond.methodLinkNest "StereoWar" (73 : Nat) ({ cls := "StereoWar$Scene", name := "thingAt", desc := "(I)LStereoWar$Thing;" } : Jvm.MethodName) "StereoWar" ∈ NW := nw_at 254 (by decide +kernel) rfl
theorem tw256 : Cond.instanceMethod ({ cls := "StereoWar$Scene", name := "thingAt", desc := "(I)LStereoWar$Thing;" } : Jvm.MethodName) ∈ TT := tt_at 256 (by decide +kernel) rfl
theorem tw257 : Cond.code ({ cls := "StereoWar$Scene", name := "thingAt", desc := "(I)LStereoWar$Thing;" } : Jvm.MethodName) prog_5_method_3_code (2 : Nat) (Option.some (FieldType.object "StereoWar$Thing")) ∈ TT := tt_at 257 (by decide +kernel) rfl
theorem tw258 : Cond.methodLink "StereoWarLaw" (23 : Nat) ({ cls := "StereoWar", name := "focus", desc := "(I)I" } : Jvm.MethodName) ∈ TT := tt_at 258 (by decide +kernel) rfl
theorem tw259 : Cond.instanceMethod ({ cls := "StereoWar", name := "focus", desc := "(I)I" } : Jvm.MethodName) ∈ TT := tt_at 259 (by decide +kernel) rfl
theorem tw260 : Cond.selects "StereoWar" ({ cls := "StereoWar", name := "focus", desc := "(I)I" } : Jvm.MethodName) ({ cls := "StereoWar", name := "focus", desc := "(I)I" } : Jvm.MethodName) ∈ TT := tt_at 260 (by decide +kernel) rfl
theorem tw261 : Cond.code ({ cls := "StereoWar", name := "focus", desc := "(I)I" } : Jvm.MethodName) prog_1_method_4_code (3 : Nat) (Option.some FieldType.int) ∈ TT := tt_at 261 (by decide +kernel) rfl
theorem tw262 : Cond.methodLink "StereoWarLaw" (27 : Nat) ({ cls := "StereoWar", name := "take", desc := "(III)I" } : Jvm.MethodName) ∈ TT := tt_at 262 (by decide +kernel) rfl
theorem tw263 : Cond.instanceMethod ({ cls := "StereoWar", name := "take", desc := "(III)I" } : Jvm.MethodName) ∈ TT := tt_at 263 (by decide +kernel) rfl
theorem tw264 : Cond.selects "StereoWar" ({ cls := "StereoWar", name := "take", desc := "(III)I" } : Jvm.MethodName) ({ cls := "StereoWar", name := "take", desc := "(III)I" } : Jvm.MethodName) ∈ TT := tt_at 264 (by decide +kernel) rfl
theorem tw265 : Cond.code ({ cls := "StereoWar", name := "take", desc := "(III)I" } : Jvm.MethodName) prog_1_method_5_code (4 : Nat) (Option.some FieldType.int) ∈ TT := tt_at 265 (by decide +kernel) rfl
theorem tw266 : Cond.methodLink "StereoWar" (87 : Nat) ({ cls := "StereoWar", name := "isStand", desc := "(I)Z" } : Jvm.MethodName) ∈ TT := tt_at 266 (by decide +kernel) rfl
theorem tw267 : Cond.static ({ cls := "StereoWar", name := "isStand", desc := "(I)Z" } : Jvm.MethodName) ∈ TT := tt_at 267 (by decide +kernel) rfl
theorem tw268 : Cond.code ({ cls := "StereoWar", name := "isStand", desc := "(I)Z" } : Jvm.MethodName) prog_1_method_33_code (1 : Nat) (Option.some FieldType.boolean) ∈ TT := tt_at 268 (by decide +kernel) rfl
theorem tw269 : Cond.methodLink "StereoWar" (91 : Nat) ({ cls := "StereoWar", name := "isMinute", desc := "(I)Z" } : Jvm.MethodName) ∈ TT := tt_at 269 (by decide +kernel) rfl
theorem tw270 : Cond.static ({ cls := "StereoWar", name := "isMinute", desc := "(I)Z" } : Jvm.MethodName) ∈ TT := tt_at 270 (by decide +kernel) rfl
theorem tw271 : Cond.code ({ cls := "StereoWar", name := "isMinute", desc := "(I)Z" } : Jvm.MethodName) prog_1_method_34_code (1 : Nat) (Option.some FieldType.boolean) ∈ TT := tt_at 271 (by decide +kernel) rfl
theorem tw272 : Cond.methodLinkNest "StereoWar" (94 : Nat) ({ cls := "StereoWar$Scene", name := "takePicture", desc := "(III)I" } : Jvm.MethodName) "StereoWar" ∈ NW := nw_at 272 (by decide +kernel) rfl
theorem tw274 : Cond.instanceMethod ({ cls := "StereoWar$Scene", name := "takePicture", desc := "(III)I" } : Jvm.MethodName) ∈ TT := tt_at 274 (by decide +kernel) rfl
theorem tw275 : Cond.code ({ cls := "StereoWar$Scene", name := "takePicture", desc := "(III)I" } : Jvm.MethodName) prog_5_method_6_code (5 : Nat) (Option.some FieldType.int) ∈ TT := tt_at 275 (by decide +kernel) rfl
theorem tw276 : Cond.methodLink "StereoWar$Scene" (54 : Nat) ({ cls := "StereoWar$Scene", name := "expose", desc := "(LStereoWar$Picture;II)V" } : Jvm.MethodName) ∈ TT := tt_at 276 (by decide +kernel) rfl
theorem tw278 : Cond.instanceMethod ({ cls := "StereoWar$Scene", name := "expose", desc := "(LStereoWar$Picture;II)V" } : Jvm.MethodName) ∈ TT := tt_at 278 (by decide +kernel) rfl
theorem tw279 : Cond.code ({ cls := "StereoWar$Scene", name := "expose", desc := "(LStereoWar$Picture;II)V" } : Jvm.MethodName) prog_5_method_7_code (5 : Nat) (none) ∈ TT := tt_at 279 (by decide +kernel) rfl
theorem tw280 : Cond.methodLink "StereoWar$Scene" (62 : Nat) ({ cls := "StereoWar$Scene", name := "columnOf", desc := "(III)I" } : Jvm.MethodName) ∈ TT := tt_at 280 (by decide +kernel) rfl
theorem tw282 : Cond.instanceMethod ({ cls := "StereoWar$Scene", name := "columnOf", desc := "(III)I" } : Jvm.MethodName) ∈ TT := tt_at 282 (by decide +kernel) rfl
theorem tw283 : Cond.code ({ cls := "StereoWar$Scene", name := "columnOf", desc := "(III)I" } : Jvm.MethodName) prog_5_method_8_code (5 : Nat) (Option.some FieldType.int) ∈ TT := tt_at 283 (by decide +kernel) rfl
theorem tw284 : Cond.methodLink "StereoWar$Scene" (70 : Nat) ({ cls := "StereoWar$Scene", name := "thingAt", desc := "(I)LStereoWar$Thing;" } : Jvm.MethodName) ∈ TT := tt_at 284 (by decide +kernel) rfl
theorem tw285 : Cond.methodLinkNest "StereoWar$Scene" (74 : Nat) ({ cls := "StereoWar$Thing", name := "columnFrom", desc := "(III)I" } : Jvm.MethodName) "StereoWar" ∈ NW := nw_at 285 (by decide +kernel) rfl
theorem tw287 : Cond.instanceMethod ({ cls := "StereoWar$Thing", name := "columnFrom", desc := "(III)I" } : Jvm.MethodName) ∈ TT := tt_at 287 (by decide +kernel) rfl
theorem tw288 : Cond.code ({ cls := "StereoWar$Thing", name := "columnFrom", desc := "(III)I" } : Jvm.MethodName) prog_8_method_2_code (5 : Nat) (Option.some FieldType.int) ∈ TT := tt_at 288 (by decide +kernel) rfl
theorem tw289 : Cond.methodLinkNest "StereoWar$Thing" (21 : Nat) ({ cls := "StereoWar", name := "within", desc := "(III)Z" } : Jvm.MethodName) "StereoWar" ∈ NW := nw_at 289 (by decide +kernel) rfl
theorem tw290 : Cond.methodLinkNest "StereoWar$Scene" (66 : Nat) ({ cls := "StereoWar$Picture", name := "putColumn", desc := "(II)V" } : Jvm.MethodName) "StereoWar" ∈ NW := nw_at 290 (by decide +kernel) rfl
theorem tw292 : Cond.instanceMethod ({ cls := "StereoWar$Picture", name := "putColumn", desc := "(II)V" } : Jvm.MethodName) ∈ TT := tt_at 292 (by decide +kernel) rfl
theorem tw293 : Cond.code ({ cls := "StereoWar$Picture", name := "putColumn", desc := "(II)V" } : Jvm.MethodName) prog_4_method_3_code (3 : Nat) (none) ∈ TT := tt_at 293 (by decide +kernel) rfl
theorem tw294 : Cond.methodLinkNest "StereoWar$Picture" (15 : Nat) ({ cls := "StereoWar", name := "within", desc := "(III)Z" } : Jvm.MethodName) "StereoWar" ∈ NW := nw_at 294 (by decide +kernel) rfl
theorem tw295 : Cond.methodLinkNest "StereoWar$Scene" (58 : Nat) ({ cls := "StereoWar$Picture", name := "shownBits", desc := "()I" } : Jvm.MethodName) "StereoWar" ∈ NW := nw_at 295 (by decide +kernel) rfl
theorem tw297 : Cond.instanceMethod ({ cls := "StereoWar$Picture", name := "shownBits", desc := "()I" } : Jvm.MethodName) ∈ TT := tt_at 297 (by decide +kernel) rfl
theorem tw298 : Cond.code ({ cls := "StereoWar$Picture", name := "shownBits", desc := "()I" } : Jvm.MethodName) prog_4_method_4_code (3 : Nat) (Option.some FieldType.int) ∈ TT := tt_at 298 (by decide +kernel) rfl
theorem tw299 : Cond.methodLink "StereoWarLaw" (32 : Nat) ({ cls := "StereoWar", name := "retouch", desc := "(III)I" } : Jvm.MethodName) ∈ TT := tt_at 299 (by decide +kernel) rfl
theorem tw300 : Cond.instanceMethod ({ cls := "StereoWar", name := "retouch", desc := "(III)I" } : Jvm.MethodName) ∈ TT := tt_at 300 (by decide +kernel) rfl
theorem tw301 : Cond.selects "StereoWar" ({ cls := "StereoWar", name := "retouch", desc := "(III)I" } : Jvm.MethodName) ({ cls := "StereoWar", name := "retouch", desc := "(III)I" } : Jvm.MethodName) ∈ TT := tt_at 301 (by decide +kernel) rfl
theorem tw302 : Cond.code ({ cls := "StereoWar", name := "retouch", desc := "(III)I" } : Jvm.MethodName) prog_1_method_6_code (6 : Nat) (Option.some FieldType.int) ∈ TT := tt_at 302 (by decide +kernel) rfl
theorem tw303 : Cond.methodLinkNest "StereoWar" (98 : Nat) ({ cls := "StereoWar$Scene", name := "pictureAt", desc := "(I)LStereoWar$Picture;" } : Jvm.MethodName) "StereoWar" ∈ NW := nw_at 303 (by decide +kernel) rfl
theorem tw305 : Cond.instanceMethod ({ cls := "StereoWar$Scene", name := "pictureAt", desc := "(I)LStereoWar$Picture;" } : Jvm.MethodName) ∈ TT := tt_at 305 (by decide +kernel) rfl
theorem tw306 : Cond.code ({ cls := "StereoWar$Scene", name := "pictureAt", desc := "(I)LStereoWar$Picture;" } : Jvm.MethodName) prog_5_method_4_code (2 : Nat) (Option.some (FieldType.object "StereoWar$Picture")) ∈ TT := tt_at 306 (by decide +kernel) rfl
theorem tw307 : Cond.methodLinkNest "StereoWar" (102 : Nat) ({ cls := "StereoWar$Picture", name := "columnOf", desc := "(I)I" } : Jvm.MethodName) "StereoWar" ∈ NW := nw_at 307 (by decide +kernel) rfl
theorem tw309 : Cond.instanceMethod ({ cls := "StereoWar$Picture", name := "columnOf", desc := "(I)I" } : Jvm.MethodName) ∈ TT := tt_at 309 (by decide +kernel) rfl
theorem tw310 : Cond.code ({ cls := "StereoWar$Picture", name := "columnOf", desc := "(I)I" } : Jvm.MethodName) prog_4_method_2_code (2 : Nat) (Option.some FieldType.int) ∈ TT := tt_at 310 (by decide +kernel) rfl
theorem tw311 : Cond.methodLinkNest "StereoWar" (105 : Nat) ({ cls := "StereoWar$Picture", name := "putColumn", desc := "(II)V" } : Jvm.MethodName) "StereoWar" ∈ NW := nw_at 311 (by decide +kernel) rfl
theorem tw312 : Cond.methodLink "StereoWarLaw" (36 : Nat) ({ cls := "StereoWar", name := "burn", desc := "(I)I" } : Jvm.MethodName) ∈ TT := tt_at 312 (by decide +kernel) rfl
theorem tw313 : Cond.instanceMethod ({ cls := "StereoWar", name := "burn", desc := "(I)I" } : Jvm.MethodName) ∈ TT := tt_at 313 (by decide +kernel) rfl
theorem tw314 : Cond.selects "StereoWar" ({ cls := "StereoWar", name := "burn", desc := "(I)I" } : Jvm.MethodName) ({ cls := "StereoWar", name := "burn", desc := "(I)I" } : Jvm.MethodName) ∈ TT := tt_at 314 (by decide +kernel) rfl
theorem tw315 : Cond.code ({ cls := "StereoWar", name := "burn", desc := "(I)I" } : Jvm.MethodName) prog_1_method_7_code (3 : Nat) (Option.some FieldType.int) ∈ TT := tt_at 315 (by decide +kernel) rfl
theorem tw316 : Cond.methodLinkNest "StereoWar" (110 : Nat) ({ cls := "StereoWar$Scene", name := "pictureBits", desc := "()I" } : Jvm.MethodName) "StereoWar" ∈ NW := nw_at 316 (by decide +kernel) rfl
theorem tw318 : Cond.instanceMethod ({ cls := "StereoWar$Scene", name := "pictureBits", desc := "()I" } : Jvm.MethodName) ∈ TT := tt_at 318 (by decide +kernel) rfl
theorem tw319 : Cond.code ({ cls := "StereoWar$Scene", name := "pictureBits", desc := "()I" } : Jvm.MethodName) prog_5_method_11_code (3 : Nat) (Option.some FieldType.int) ∈ TT := tt_at 319 (by decide +kernel) rfl
theorem tw320 : Cond.methodLink "StereoWarLaw" (40 : Nat) ({ cls := "StereoWar", name := "say", desc := "(I)I" } : Jvm.MethodName) ∈ TT := tt_at 320 (by decide +kernel) rfl
theorem tw321 : Cond.instanceMethod ({ cls := "StereoWar", name := "say", desc := "(I)I" } : Jvm.MethodName) ∈ TT := tt_at 321 (by decide +kernel) rfl
theorem tw322 : Cond.selects "StereoWar" ({ cls := "StereoWar", name := "say", desc := "(I)I" } : Jvm.MethodName) ({ cls := "StereoWar", name := "say", desc := "(I)I" } : Jvm.MethodName) ∈ TT := tt_at 322 (by decide +kernel) rfl
theorem tw323 : Cond.code ({ cls := "StereoWar", name := "say", desc := "(I)I" } : Jvm.MethodName) prog_1_method_8_code (2 : Nat) (Option.some FieldType.int) ∈ TT := tt_at 323 (by decide +kernel) rfl
theorem tw324 : Cond.methodLinkNest "StereoWar" (113 : Nat) ({ cls := "StereoWar$Pad", name := "addSign", desc := "(I)Z" } : Jvm.MethodName) "StereoWar" ∈ NW := nw_at 324 (by decide +kernel) rfl
theorem tw326 : Cond.instanceMethod ({ cls := "StereoWar$Pad", name := "addSign", desc := "(I)Z" } : Jvm.MethodName) ∈ TT := tt_at 326 (by decide +kernel) rfl
theorem tw327 : Cond.code ({ cls := "StereoWar$Pad", name := "addSign", desc := "(I)Z" } : Jvm.MethodName) prog_3_method_2_code (2 : Nat) (Option.some FieldType.boolean) ∈ TT := tt_at 327 (by decide +kernel) rfl
theorem tw328 : Cond.methodLinkNest "StereoWar$Pad" (25 : Nat) ({ cls := "StereoWar", name := "within", desc := "(III)Z" } : Jvm.MethodName) "StereoWar" ∈ NW := nw_at 328 (by decide +kernel) rfl
theorem tw329 : Cond.methodLink "StereoWarLaw" (44 : Nat) ({ cls := "StereoWar", name := "wipe", desc := "()I" } : Jvm.MethodName) ∈ TT := tt_at 329 (by decide +kernel) rfl
theorem tw330 : Cond.instanceMethod ({ cls := "StereoWar", name := "wipe", desc := "()I" } : Jvm.MethodName) ∈ TT := tt_at 330 (by decide +kernel) rfl
theorem tw331 : Cond.selects "StereoWar" ({ cls := "StereoWar", name := "wipe", desc := "()I" } : Jvm.MethodName) ({ cls := "StereoWar", name := "wipe", desc := "()I" } : Jvm.MethodName) ∈ TT := tt_at 331 (by decide +kernel) rfl
theorem tw332 : Cond.code ({ cls := "StereoWar", name := "wipe", desc := "()I" } : Jvm.MethodName) prog_1_method_9_code (2 : Nat) (Option.some FieldType.int) ∈ TT := tt_at 332 (by decide +kernel) rfl
theorem tw333 : Cond.methodLink "StereoWarLaw" (49 : Nat) ({ cls := "StereoWar", name := "fault", desc := "()I" } : Jvm.MethodName) ∈ TT := tt_at 333 (by decide +kernel) rfl
theorem tw334 : Cond.instanceMethod ({ cls := "StereoWar", name := "fault", desc := "()I" } : Jvm.MethodName) ∈ TT := tt_at 334 (by decide +kernel) rfl
theorem tw335 : Cond.selects "StereoWar" ({ cls := "StereoWar", name := "fault", desc := "()I" } : Jvm.MethodName) ({ cls := "StereoWar", name := "fault", desc := "()I" } : Jvm.MethodName) ∈ TT := tt_at 335 (by decide +kernel) rfl
theorem tw336 : Cond.code ({ cls := "StereoWar", name := "fault", desc := "()I" } : Jvm.MethodName) prog_1_method_10_code (1 : Nat) (Option.some FieldType.int) ∈ TT := tt_at 336 (by decide +kernel) rfl
theorem tw337 : Cond.methodLinkNest "StereoWar" (119 : Nat) ({ cls := "StereoWar$Pad", name := "read", desc := "()I" } : Jvm.MethodName) "StereoWar" ∈ NW := nw_at 337 (by decide +kernel) rfl
theorem tw339 : Cond.instanceMethod ({ cls := "StereoWar$Pad", name := "read", desc := "()I" } : Jvm.MethodName) ∈ TT := tt_at 339 (by decide +kernel) rfl
theorem tw340 : Cond.code ({ cls := "StereoWar$Pad", name := "read", desc := "()I" } : Jvm.MethodName) prog_3_method_3_code (4 : Nat) (Option.some FieldType.int) ∈ TT := tt_at 340 (by decide +kernel) rfl
theorem tw341 : Cond.methodLink "StereoWar$Pad" (35 : Nat) ({ cls := "StereoWar$Pad", name := "addPair", desc := "(II)V" } : Jvm.MethodName) ∈ TT := tt_at 341 (by decide +kernel) rfl
theorem tw343 : Cond.instanceMethod ({ cls := "StereoWar$Pad", name := "addPair", desc := "(II)V" } : Jvm.MethodName) ∈ TT := tt_at 343 (by decide +kernel) rfl
theorem tw344 : Cond.code ({ cls := "StereoWar$Pad", name := "addPair", desc := "(II)V" } : Jvm.MethodName) prog_3_method_4_code (3 : Nat) (none) ∈ TT := tt_at 344 (by decide +kernel) rfl
theorem tw345 : Cond.methodLink "StereoWarLaw" (53 : Nat) ({ cls := "StereoWar", name := "judge", desc := "(I)I" } : Jvm.MethodName) ∈ TT := tt_at 345 (by decide +kernel) rfl
theorem tw346 : Cond.instanceMethod ({ cls := "StereoWar", name := "judge", desc := "(I)I" } : Jvm.MethodName) ∈ TT := tt_at 346 (by decide +kernel) rfl
theorem tw347 : Cond.selects "StereoWar" ({ cls := "StereoWar", name := "judge", desc := "(I)I" } : Jvm.MethodName) ({ cls := "StereoWar", name := "judge", desc := "(I)I" } : Jvm.MethodName) ∈ TT := tt_at 347 (by decide +kernel) rfl
theorem tw348 : Cond.code ({ cls := "StereoWar", name := "judge", desc := "(I)I" } : Jvm.MethodName) prog_1_method_11_code (3 : Nat) (Option.some FieldType.int) ∈ TT := tt_at 348 (by decide +kernel) rfl
theorem tw349 : Cond.methodLinkNest "StereoWar" (122 : Nat) ({ cls := "StereoWar$Pad", name := "firstWrongPair", desc := "(LStereoWar$Scene;)I" } : Jvm.MethodName) "StereoWar" ∈ NW := nw_at 349 (by decide +kernel) rfl
theorem tw351 : Cond.instanceMethod ({ cls := "StereoWar$Pad", name := "firstWrongPair", desc := "(LStereoWar$Scene;)I" } : Jvm.MethodName) ∈ TT := tt_at 351 (by decide +kernel) rfl
theorem tw352 : Cond.code ({ cls := "StereoWar$Pad", name := "firstWrongPair", desc := "(LStereoWar$Scene;)I" } : Jvm.MethodName) prog_3_method_7_code (3 : Nat) (Option.some FieldType.int) ∈ TT := tt_at 352 (by decide +kernel) rfl
theorem tw353 : Cond.methodLink "StereoWar$Pad" (39 : Nat) ({ cls := "StereoWar$Pad", name := "whyNot", desc := "(ILStereoWar$Scene;)I" } : Jvm.MethodName) ∈ TT := tt_at 353 (by decide +kernel) rfl
theorem tw355 : Cond.instanceMethod ({ cls := "StereoWar$Pad", name := "whyNot", desc := "(ILStereoWar$Scene;)I" } : Jvm.MethodName) ∈ TT := tt_at 355 (by decide +kernel) rfl
theorem tw356 : Cond.code ({ cls := "StereoWar$Pad", name := "whyNot", desc := "(ILStereoWar$Scene;)I" } : Jvm.MethodName) prog_3_method_8_code (6 : Nat) (Option.some FieldType.int) ∈ TT := tt_at 356 (by decide +kernel) rfl
theorem tw357 : Cond.methodLink "StereoWar$Pad" (43 : Nat) ({ cls := "StereoWar$Pad", name := "leftOf", desc := "(I)I" } : Jvm.MethodName) ∈ TT := tt_at 357 (by decide +kernel) rfl
theorem tw359 : Cond.instanceMethod ({ cls := "StereoWar$Pad", name := "leftOf", desc := "(I)I" } : Jvm.MethodName) ∈ TT := tt_at 359 (by decide +kernel) rfl
theorem tw360 : Cond.code ({ cls := "StereoWar$Pad", name := "leftOf", desc := "(I)I" } : Jvm.MethodName) prog_3_method_5_code (2 : Nat) (Option.some FieldType.int) ∈ TT := tt_at 360 (by decide +kernel) rfl
theorem tw361 : Cond.methodLink "StereoWar$Pad" (47 : Nat) ({ cls := "StereoWar$Pad", name := "rightOf", desc := "(I)I" } : Jvm.MethodName) ∈ TT := tt_at 361 (by decide +kernel) rfl
theorem tw363 : Cond.instanceMethod ({ cls := "StereoWar$Pad", name := "rightOf", desc := "(I)I" } : Jvm.MethodName) ∈ TT := tt_at 363 (by decide +kernel) rfl
theorem tw364 : Cond.code ({ cls := "StereoWar$Pad", name := "rightOf", desc := "(I)I" } : Jvm.MethodName) prog_3_method_6_code (2 : Nat) (Option.some FieldType.int) ∈ TT := tt_at 364 (by decide +kernel) rfl
theorem tw365 : Cond.methodLinkNest "StereoWar$Pad" (50 : Nat) ({ cls := "StereoWar$Scene", name := "pictureAt", desc := "(I)LStereoWar$Picture;" } : Jvm.MethodName) "StereoWar" ∈ NW := nw_at 365 (by decide +kernel) rfl
theorem tw366 : Cond.methodLink "StereoWar$Pad" (56 : Nat) ({ cls := "StereoWar$Pad", name := "isOf", desc := "(II)Z" } : Jvm.MethodName) ∈ TT := tt_at 366 (by decide +kernel) rfl
theorem tw368 : Cond.instanceMethod ({ cls := "StereoWar$Pad", name := "isOf", desc := "(II)Z" } : Jvm.MethodName) ∈ TT := tt_at 368 (by decide +kernel) rfl
theorem tw369 : Cond.code ({ cls := "StereoWar$Pad", name := "isOf", desc := "(II)Z" } : Jvm.MethodName) prog_3_method_9_code (3 : Nat) (Option.some FieldType.boolean) ∈ TT := tt_at 369 (by decide +kernel) rfl
theorem tw370 : Cond.methodLinkNest "StereoWar" (126 : Nat) ({ cls := "StereoWar$Pad", name := "whyNot", desc := "(ILStereoWar$Scene;)I" } : Jvm.MethodName) "StereoWar" ∈ NW := nw_at 370 (by decide +kernel) rfl
theorem tw371 : Cond.methodLink "StereoWarLaw" (57 : Nat) ({ cls := "StereoWar", name := "kinds", desc := "(I)I" } : Jvm.MethodName) ∈ TT := tt_at 371 (by decide +kernel) rfl
theorem tw372 : Cond.instanceMethod ({ cls := "StereoWar", name := "kinds", desc := "(I)I" } : Jvm.MethodName) ∈ TT := tt_at 372 (by decide +kernel) rfl
theorem tw373 : Cond.selects "StereoWar" ({ cls := "StereoWar", name := "kinds", desc := "(I)I" } : Jvm.MethodName) ({ cls := "StereoWar", name := "kinds", desc := "(I)I" } : Jvm.MethodName) ∈ TT := tt_at 373 (by decide +kernel) rfl
theorem tw374 : Cond.code ({ cls := "StereoWar", name := "kinds", desc := "(I)I" } : Jvm.MethodName) prog_1_method_12_code (2 : Nat) (Option.some FieldType.int) ∈ TT := tt_at 374 (by decide +kernel) rfl
theorem tw375 : Cond.methodLinkNest "StereoWar" (136 : Nat) ({ cls := "StereoWar$Pad", name := "firstNotGood", desc := "(LStereoWar$Scene;)I" } : Jvm.MethodName) "StereoWar" ∈ NW := nw_at 375 (by decide +kernel) rfl
theorem tw377 : Cond.instanceMethod ({ cls := "StereoWar$Pad", name := "firstNotGood", desc := "(LStereoWar$Scene;)I" } : Jvm.MethodName) ∈ TT := tt_at 377 (by decide +kernel) rfl
theorem tw378 : Cond.code ({ cls := "StereoWar$Pad", name := "firstNotGood", desc := "(LStereoWar$Scene;)I" } : Jvm.MethodName) prog_3_method_11_code (3 : Nat) (Option.some FieldType.int) ∈ TT := tt_at 378 (by decide +kernel) rfl
theorem tw379 : Cond.methodLinkNest "StereoWar$Pad" (60 : Nat) ({ cls := "StereoWar$Scene", name := "kindOfPair", desc := "(II)I" } : Jvm.MethodName) "StereoWar" ∈ NW := nw_at 379 (by decide +kernel) rfl
theorem tw381 : Cond.instanceMethod ({ cls := "StereoWar$Scene", name := "kindOfPair", desc := "(II)I" } : Jvm.MethodName) ∈ TT := tt_at 381 (by decide +kernel) rfl
theorem tw382 : Cond.code ({ cls := "StereoWar$Scene", name := "kindOfPair", desc := "(II)I" } : Jvm.MethodName) prog_5_method_12_code (5 : Nat) (Option.some FieldType.int) ∈ TT := tt_at 382 (by decide +kernel) rfl
theorem tw383 : Cond.methodLink "StereoWar$Scene" (77 : Nat) ({ cls := "StereoWar$Scene", name := "pictureAt", desc := "(I)LStereoWar$Picture;" } : Jvm.MethodName) ∈ TT := tt_at 383 (by decide +kernel) rfl
theorem tw384 : Cond.methodLinkNest "StereoWar$Scene" (81 : Nat) ({ cls := "StereoWar$Picture", name := "kindWith", desc := "(LStereoWar$Picture;)I" } : Jvm.MethodName) "StereoWar" ∈ NW := nw_at 384 (by decide +kernel) rfl
theorem tw386 : Cond.instanceMethod ({ cls := "StereoWar$Picture", name := "kindWith", desc := "(LStereoWar$Picture;)I" } : Jvm.MethodName) ∈ TT := tt_at 386 (by decide +kernel) rfl
theorem tw387 : Cond.code ({ cls := "StereoWar$Picture", name := "kindWith", desc := "(LStereoWar$Picture;)I" } : Jvm.MethodName) prog_4_method_8_code (5 : Nat) (Option.some FieldType.int) ∈ TT := tt_at 387 (by decide +kernel) rfl
theorem tw388 : Cond.methodLink "StereoWar$Picture" (27 : Nat) ({ cls := "StereoWar$Picture", name := "sharesWith", desc := "(LStereoWar$Picture;I)Z" } : Jvm.MethodName) ∈ TT := tt_at 388 (by decide +kernel) rfl
theorem tw390 : Cond.instanceMethod ({ cls := "StereoWar$Picture", name := "sharesWith", desc := "(LStereoWar$Picture;I)Z" } : Jvm.MethodName) ∈ TT := tt_at 390 (by decide +kernel) rfl
theorem tw391 : Cond.code ({ cls := "StereoWar$Picture", name := "sharesWith", desc := "(LStereoWar$Picture;I)Z" } : Jvm.MethodName) prog_4_method_6_code (3 : Nat) (Option.some FieldType.boolean) ∈ TT := tt_at 391 (by decide +kernel) rfl
theorem tw392 : Cond.methodLink "StereoWar$Picture" (23 : Nat) ({ cls := "StereoWar$Picture", name := "columnOf", desc := "(I)I" } : Jvm.MethodName) ∈ TT := tt_at 392 (by decide +kernel) rfl
theorem tw393 : Cond.methodLink "StereoWar$Picture" (31 : Nat) ({ cls := "StereoWar$Picture", name := "shiftTo", desc := "(LStereoWar$Picture;I)I" } : Jvm.MethodName) ∈ TT := tt_at 393 (by decide +kernel) rfl
theorem tw395 : Cond.instanceMethod ({ cls := "StereoWar$Picture", name := "shiftTo", desc := "(LStereoWar$Picture;I)I" } : Jvm.MethodName) ∈ TT := tt_at 395 (by decide +kernel) rfl
theorem tw396 : Cond.code ({ cls := "StereoWar$Picture", name := "shiftTo", desc := "(LStereoWar$Picture;I)I" } : Jvm.MethodName) prog_4_method_7_code (3 : Nat) (Option.some FieldType.int) ∈ TT := tt_at 396 (by decide +kernel) rfl
theorem tw397 : Cond.methodLinkNest "StereoWar" (139 : Nat) ({ cls := "StereoWar$Pad", name := "countOfKind", desc := "(ILStereoWar$Scene;)I" } : Jvm.MethodName) "StereoWar" ∈ NW := nw_at 397 (by decide +kernel) rfl
theorem tw399 : Cond.instanceMethod ({ cls := "StereoWar$Pad", name := "countOfKind", desc := "(ILStereoWar$Scene;)I" } : Jvm.MethodName) ∈ TT := tt_at 399 (by decide +kernel) rfl
theorem tw400 : Cond.code ({ cls := "StereoWar$Pad", name := "countOfKind", desc := "(ILStereoWar$Scene;)I" } : Jvm.MethodName) prog_3_method_10_code (5 : Nat) (Option.some FieldType.int) ∈ TT := tt_at 400 (by decide +kernel) rfl
theorem tw401 : Cond.methodLink "StereoWarLaw" (61 : Nat) ({ cls := "StereoWar", name := "kind", desc := "(II)I" } : Jvm.MethodName) ∈ TT := tt_at 401 (by decide +kernel) rfl
theorem tw402 : Cond.instanceMethod ({ cls := "StereoWar", name := "kind", desc := "(II)I" } : Jvm.MethodName) ∈ TT := tt_at 402 (by decide +kernel) rfl
theorem tw403 : Cond.selects "StereoWar" ({ cls := "StereoWar", name := "kind", desc := "(II)I" } : Jvm.MethodName) ({ cls := "StereoWar", name := "kind", desc := "(II)I" } : Jvm.MethodName) ∈ TT := tt_at 403 (by decide +kernel) rfl
theorem tw404 : Cond.code ({ cls := "StereoWar", name := "kind", desc := "(II)I" } : Jvm.MethodName) prog_1_method_13_code (3 : Nat) (Option.some FieldType.int) ∈ TT := tt_at 404 (by decide +kernel) rfl
theorem tw405 : Cond.methodLinkNest "StereoWar" (142 : Nat) ({ cls := "StereoWar$Scene", name := "kindOfPair", desc := "(II)I" } : Jvm.MethodName) "StereoWar" ∈ NW := nw_at 405 (by decide +kernel) rfl
theorem tw406 : Cond.methodLink "StereoWarLaw" (66 : Nat) ({ cls := "StereoWar", name := "shift", desc := "(III)I" } : Jvm.MethodName) ∈ TT := tt_at 406 (by decide +kernel) rfl
theorem tw407 : Cond.instanceMethod ({ cls := "StereoWar", name := "shift", desc := "(III)I" } : Jvm.MethodName) ∈ TT := tt_at 407 (by decide +kernel) rfl
theorem tw408 : Cond.selects "StereoWar" ({ cls := "StereoWar", name := "shift", desc := "(III)I" } : Jvm.MethodName) ({ cls := "StereoWar", name := "shift", desc := "(III)I" } : Jvm.MethodName) ∈ TT := tt_at 408 (by decide +kernel) rfl
theorem tw409 : Cond.code ({ cls := "StereoWar", name := "shift", desc := "(III)I" } : Jvm.MethodName) prog_1_method_14_code (6 : Nat) (Option.some FieldType.int) ∈ TT := tt_at 409 (by decide +kernel) rfl
theorem tw410 : Cond.methodLinkNest "StereoWar" (146 : Nat) ({ cls := "StereoWar$Picture", name := "sharesWith", desc := "(LStereoWar$Picture;I)Z" } : Jvm.MethodName) "StereoWar" ∈ NW := nw_at 410 (by decide +kernel) rfl
theorem tw411 : Cond.methodLinkNest "StereoWar" (150 : Nat) ({ cls := "StereoWar$Picture", name := "shiftTo", desc := "(LStereoWar$Picture;I)I" } : Jvm.MethodName) "StereoWar" ∈ NW := nw_at 411 (by decide +kernel) rfl
theorem tw412 : Cond.methodLink "StereoWarLaw" (70 : Nat) ({ cls := "StereoWar", name := "near", desc := "(III)I" } : Jvm.MethodName) ∈ TT := tt_at 412 (by decide +kernel) rfl
theorem tw413 : Cond.instanceMethod ({ cls := "StereoWar", name := "near", desc := "(III)I" } : Jvm.MethodName) ∈ TT := tt_at 413 (by decide +kernel) rfl
theorem tw414 : Cond.selects "StereoWar" ({ cls := "StereoWar", name := "near", desc := "(III)I" } : Jvm.MethodName) ({ cls := "StereoWar", name := "near", desc := "(III)I" } : Jvm.MethodName) ∈ TT := tt_at 414 (by decide +kernel) rfl
theorem tw415 : Cond.code ({ cls := "StereoWar", name := "near", desc := "(III)I" } : Jvm.MethodName) prog_1_method_15_code (6 : Nat) (Option.some FieldType.int) ∈ TT := tt_at 415 (by decide +kernel) rfl
theorem tw416 : Cond.methodLinkNest "StereoWar" (154 : Nat) ({ cls := "StereoWar$Picture", name := "countSharedWith", desc := "(LStereoWar$Picture;)I" } : Jvm.MethodName) "StereoWar" ∈ NW := nw_at 416 (by decide +kernel) rfl
theorem tw418 : Cond.instanceMethod ({ cls := "StereoWar$Picture", name := "countSharedWith", desc := "(LStereoWar$Picture;)I" } : Jvm.MethodName) ∈ TT := tt_at 418 (by decide +kernel) rfl
theorem tw419 : Cond.code ({ cls := "StereoWar$Picture", name := "countSharedWith", desc := "(LStereoWar$Picture;)I" } : Jvm.MethodName) prog_4_method_9_code (2 : Nat) (Option.some FieldType.int) ∈ TT := tt_at 419 (by decide +kernel) rfl
theorem tw420 : Cond.methodLink "StereoWar$Picture" (35 : Nat) ({ cls := "StereoWar$Picture", name := "shownBits", desc := "()I" } : Jvm.MethodName) ∈ TT := tt_at 420 (by decide +kernel) rfl
theorem tw421 : Cond.methodLink "StereoWar$Picture" (39 : Nat) ({ cls := "java/lang/Integer", name := "bitCount", desc := "(I)I" } : Jvm.MethodName) ∈ TT := tt_at 421 (by decide +kernel) rfl
theorem tw422 : Cond.methodLinkNest "StereoWar" (158 : Nat) ({ cls := "StereoWar$Picture", name := "nearestWith", desc := "(LStereoWar$Picture;I)I" } : Jvm.MethodName) "StereoWar" ∈ NW := nw_at 422 (by decide +kernel) rfl
theorem tw424 : Cond.instanceMethod ({ cls := "StereoWar$Picture", name := "nearestWith", desc := "(LStereoWar$Picture;I)I" } : Jvm.MethodName) ∈ TT := tt_at 424 (by decide +kernel) rfl
theorem tw425 : Cond.code ({ cls := "StereoWar$Picture", name := "nearestWith", desc := "(LStereoWar$Picture;I)I" } : Jvm.MethodName) prog_4_method_10_code (4 : Nat) (Option.some FieldType.int) ∈ TT := tt_at 425 (by decide +kernel) rfl
theorem tw426 : Cond.methodLink "StereoWar$Picture" (44 : Nat) ({ cls := "StereoWar$Picture", name := "countBefore", desc := "(LStereoWar$Picture;I)I" } : Jvm.MethodName) ∈ TT := tt_at 426 (by decide +kernel) rfl
theorem tw428 : Cond.instanceMethod ({ cls := "StereoWar$Picture", name := "countBefore", desc := "(LStereoWar$Picture;I)I" } : Jvm.MethodName) ∈ TT := tt_at 428 (by decide +kernel) rfl
theorem tw429 : Cond.code ({ cls := "StereoWar$Picture", name := "countBefore", desc := "(LStereoWar$Picture;I)I" } : Jvm.MethodName) prog_4_method_11_code (7 : Nat) (Option.some FieldType.int) ∈ TT := tt_at 429 (by decide +kernel) rfl
theorem tw430 : Cond.methodLink "StereoWarLaw" (74 : Nat) ({ cls := "StereoWar", name := "match", desc := "(II)I" } : Jvm.MethodName) ∈ TT := tt_at 430 (by decide +kernel) rfl
theorem tw431 : Cond.instanceMethod ({ cls := "StereoWar", name := "match", desc := "(II)I" } : Jvm.MethodName) ∈ TT := tt_at 431 (by decide +kernel) rfl
theorem tw432 : Cond.selects "StereoWar" ({ cls := "StereoWar", name := "match", desc := "(II)I" } : Jvm.MethodName) ({ cls := "StereoWar", name := "match", desc := "(II)I" } : Jvm.MethodName) ∈ TT := tt_at 432 (by decide +kernel) rfl
theorem tw433 : Cond.code ({ cls := "StereoWar", name := "match", desc := "(II)I" } : Jvm.MethodName) prog_1_method_16_code (3 : Nat) (Option.some FieldType.int) ∈ TT := tt_at 433 (by decide +kernel) rfl
theorem tw434 : Cond.methodLink "StereoWar" (161 : Nat) ({ cls := "StereoWar", name := "hasBit", desc := "(II)Z" } : Jvm.MethodName) ∈ TT := tt_at 434 (by decide +kernel) rfl
theorem tw435 : Cond.static ({ cls := "StereoWar", name := "hasBit", desc := "(II)Z" } : Jvm.MethodName) ∈ TT := tt_at 435 (by decide +kernel) rfl
theorem tw436 : Cond.code ({ cls := "StereoWar", name := "hasBit", desc := "(II)Z" } : Jvm.MethodName) prog_1_method_36_code (2 : Nat) (Option.some FieldType.boolean) ∈ TT := tt_at 436 (by decide +kernel) rfl
theorem tw437 : Cond.methodLinkNest "StereoWar" (165 : Nat) ({ cls := "StereoWar$Matcher", name := "prepare", desc := "(LStereoWar$Scene;I)V" } : Jvm.MethodName) "StereoWar" ∈ NW := nw_at 437 (by decide +kernel) rfl
theorem tw439 : Cond.instanceMethod ({ cls := "StereoWar$Matcher", name := "prepare", desc := "(LStereoWar$Scene;I)V" } : Jvm.MethodName) ∈ TT := tt_at 439 (by decide +kernel) rfl
theorem tw440 : Cond.code ({ cls := "StereoWar$Matcher", name := "prepare", desc := "(LStereoWar$Scene;I)V" } : Jvm.MethodName) prog_2_method_2_code (4 : Nat) (none) ∈ TT := tt_at 440 (by decide +kernel) rfl
theorem tw441 : Cond.methodLink "StereoWar$Matcher" (18 : Nat) ({ cls := "StereoWar$Matcher", name := "friendsOf", desc := "(ILStereoWar$Scene;)I" } : Jvm.MethodName) ∈ TT := tt_at 441 (by decide +kernel) rfl
theorem tw442 : Cond.static ({ cls := "StereoWar$Matcher", name := "friendsOf", desc := "(ILStereoWar$Scene;)I" } : Jvm.MethodName) ∈ TT := tt_at 442 (by decide +kernel) rfl
theorem tw443 : Cond.code ({ cls := "StereoWar$Matcher", name := "friendsOf", desc := "(ILStereoWar$Scene;)I" } : Jvm.MethodName) prog_2_method_3_code (5 : Nat) (Option.some FieldType.int) ∈ TT := tt_at 443 (by decide +kernel) rfl
theorem tw444 : Cond.methodLinkNest "StereoWar$Matcher" (26 : Nat) ({ cls := "StereoWar$Scene", name := "kindOfPair", desc := "(II)I" } : Jvm.MethodName) "StereoWar" ∈ NW := nw_at 444 (by decide +kernel) rfl
theorem tw445 : Cond.methodLink "StereoWar$Matcher" (22 : Nat) ({ cls := "StereoWar$Matcher", name := "mostOf", desc := "(I)I" } : Jvm.MethodName) ∈ TT := tt_at 445 (by decide +kernel) rfl
theorem tw447 : Cond.instanceMethod ({ cls := "StereoWar$Matcher", name := "mostOf", desc := "(I)I" } : Jvm.MethodName) ∈ TT := tt_at 447 (by decide +kernel) rfl
theorem tw448 : Cond.code ({ cls := "StereoWar$Matcher", name := "mostOf", desc := "(I)I" } : Jvm.MethodName) prog_2_method_4_code (6 : Nat) (Option.some FieldType.int) ∈ TT := tt_at 448 (by decide +kernel) rfl
theorem tw449 : Cond.methodLink "StereoWar$Matcher" (32 : Nat) ({ cls := "StereoWar$Matcher", name := "leastOf", desc := "(I)I" } : Jvm.MethodName) ∈ TT := tt_at 449 (by decide +kernel) rfl
theorem tw450 : Cond.static ({ cls := "StereoWar$Matcher", name := "leastOf", desc := "(I)I" } : Jvm.MethodName) ∈ TT := tt_at 450 (by decide +kernel) rfl
theorem tw451 : Cond.code ({ cls := "StereoWar$Matcher", name := "leastOf", desc := "(I)I" } : Jvm.MethodName) prog_2_method_5_code (1 : Nat) (Option.some FieldType.int) ∈ TT := tt_at 451 (by decide +kernel) rfl
theorem tw452 : Cond.methodLink "StereoWar$Matcher" (47 : Nat) ({ cls := "java/lang/Integer", name := "bitCount", desc := "(I)I" } : Jvm.MethodName) ∈ TT := tt_at 452 (by decide +kernel) rfl
theorem tw453 : Cond.methodLink "StereoWar$Matcher" (35 : Nat) ({ cls := "StereoWar$Matcher", name := "mostPairs", desc := "(I)I" } : Jvm.MethodName) ∈ TT := tt_at 453 (by decide +kernel) rfl
theorem tw455 : Cond.instanceMethod ({ cls := "StereoWar$Matcher", name := "mostPairs", desc := "(I)I" } : Jvm.MethodName) ∈ TT := tt_at 455 (by decide +kernel) rfl
theorem tw456 : Cond.code ({ cls := "StereoWar$Matcher", name := "mostPairs", desc := "(I)I" } : Jvm.MethodName) prog_2_method_7_code (2 : Nat) (Option.some FieldType.int) ∈ TT := tt_at 456 (by decide +kernel) rfl
theorem tw457 : Cond.methodLinkNest "StereoWar$Matcher" (52 : Nat) ({ cls := "StereoWar", name := "within", desc := "(III)Z" } : Jvm.MethodName) "StereoWar" ∈ NW := nw_at 457 (by decide +kernel) rfl
theorem tw458 : Cond.methodLink "StereoWar$Matcher" (38 : Nat) ({ cls := "StereoWar$Matcher", name := "canPair", desc := "(III)Z" } : Jvm.MethodName) ∈ TT := tt_at 458 (by decide +kernel) rfl
theorem tw460 : Cond.instanceMethod ({ cls := "StereoWar$Matcher", name := "canPair", desc := "(III)Z" } : Jvm.MethodName) ∈ TT := tt_at 460 (by decide +kernel) rfl
theorem tw461 : Cond.code ({ cls := "StereoWar$Matcher", name := "canPair", desc := "(III)Z" } : Jvm.MethodName) prog_2_method_6_code (4 : Nat) (Option.some FieldType.boolean) ∈ TT := tt_at 461 (by decide +kernel) rfl
theorem tw462 : Cond.methodLinkNest "StereoWar$Matcher" (55 : Nat) ({ cls := "StereoWar", name := "hasBit", desc := "(II)Z" } : Jvm.MethodName) "StereoWar" ∈ NW := nw_at 462 (by decide +kernel) rfl
theorem tw463 : Cond.methodLink "StereoWar$Matcher" (42 : Nat) ({ cls := "java/lang/Math", name := "max", desc := "(II)I" } : Jvm.MethodName) ∈ TT := tt_at 463 (by decide +kernel) rfl
theorem tw464 : Cond.static ({ cls := "java/lang/Math", name := "max", desc := "(II)I" } : Jvm.MethodName) ∈ TT := tt_at 464 (by decide +kernel) rfl
theorem tw465 : Cond.code ({ cls := "java/lang/Math", name := "max", desc := "(II)I" } : Jvm.MethodName) prog_13_method_65_code (2 : Nat) (Option.some FieldType.int) ∈ TT := tt_at 465 (by decide +kernel) rfl
theorem tw466 : Cond.methodLinkNest "StereoWar" (169 : Nat) ({ cls := "StereoWar$Matcher", name := "mostPairs", desc := "(I)I" } : Jvm.MethodName) "StereoWar" ∈ NW := nw_at 466 (by decide +kernel) rfl
theorem tw467 : Cond.methodLinkNest "StereoWar" (172 : Nat) ({ cls := "StereoWar$Matcher", name := "partnerOf", desc := "(II)I" } : Jvm.MethodName) "StereoWar" ∈ NW := nw_at 467 (by decide +kernel) rfl
theorem tw469 : Cond.instanceMethod ({ cls := "StereoWar$Matcher", name := "partnerOf", desc := "(II)I" } : Jvm.MethodName) ∈ TT := tt_at 469 (by decide +kernel) rfl
theorem tw470 : Cond.code ({ cls := "StereoWar$Matcher", name := "partnerOf", desc := "(II)I" } : Jvm.MethodName) prog_2_method_8_code (6 : Nat) (Option.some FieldType.int) ∈ TT := tt_at 470 (by decide +kernel) rfl
theorem tw471 : Cond.methodLink "StereoWar$Matcher" (59 : Nat) ({ cls := "StereoWar$Matcher", name := "firstMate", desc := "(II)I" } : Jvm.MethodName) ∈ TT := tt_at 471 (by decide +kernel) rfl
theorem tw473 : Cond.instanceMethod ({ cls := "StereoWar$Matcher", name := "firstMate", desc := "(II)I" } : Jvm.MethodName) ∈ TT := tt_at 473 (by decide +kernel) rfl
theorem tw474 : Cond.code ({ cls := "StereoWar$Matcher", name := "firstMate", desc := "(II)I" } : Jvm.MethodName) prog_2_method_9_code (5 : Nat) (Option.some FieldType.int) ∈ TT := tt_at 474 (by decide +kernel) rfl
theorem tw475 : Cond.methodLink "StereoWarLaw" (78 : Nat) ({ cls := "StereoWar", name := "stood", desc := "(II)I" } : Jvm.MethodName) ∈ TT := tt_at 475 (by decide +kernel) rfl
theorem tw476 : Cond.instanceMethod ({ cls := "StereoWar", name := "stood", desc := "(II)I" } : Jvm.MethodName) ∈ TT := tt_at 476 (by decide +kernel) rfl
theorem tw477 : Cond.selects "StereoWar" ({ cls := "StereoWar", name := "stood", desc := "(II)I" } : Jvm.MethodName) ({ cls := "StereoWar", name := "stood", desc := "(II)I" } : Jvm.MethodName) ∈ TT := tt_at 477 (by decide +kernel) rfl
theorem tw478 : Cond.code ({ cls := "StereoWar", name := "stood", desc := "(II)I" } : Jvm.MethodName) prog_1_method_17_code (4 : Nat) (Option.some FieldType.int) ∈ TT := tt_at 478 (by decide +kernel) rfl
theorem tw479 : Cond.methodLinkNest "StereoWar" (175 : Nat) ({ cls := "StereoWar$Search", name := "countStands", desc := "(LStereoWar$Scene;LStereoWar$Picture;)I" } : Jvm.MethodName) "StereoWar" ∈ NW := nw_at 479 (by decide +kernel) rfl
theorem tw480 : Cond.static ({ cls := "StereoWar$Search", name := "countStands", desc := "(LStereoWar$Scene;LStereoWar$Picture;)I" } : Jvm.MethodName) ∈ TT := tt_at 480 (by decide +kernel) rfl
theorem tw481 : Cond.code ({ cls := "StereoWar$Search", name := "countStands", desc := "(LStereoWar$Scene;LStereoWar$Picture;)I" } : Jvm.MethodName) prog_6_method_3_code (4 : Nat) (Option.some FieldType.int) ∈ TT := tt_at 481 (by decide +kernel) rfl
theorem tw482 : Cond.methodLink "StereoWar$Search" (20 : Nat) ({ cls := "StereoWar$Search", name := "countStandsIn", desc := "(LStereoWar$Scene;LStereoWar$Picture;I)I" } : Jvm.MethodName) ∈ TT := tt_at 482 (by decide +kernel) rfl
theorem tw483 : Cond.static ({ cls := "StereoWar$Search", name := "countStandsIn", desc := "(LStereoWar$Scene;LStereoWar$Picture;I)I" } : Jvm.MethodName) ∈ TT := tt_at 483 (by decide +kernel) rfl
theorem tw484 : Cond.code ({ cls := "StereoWar$Search", name := "countStandsIn", desc := "(LStereoWar$Scene;LStereoWar$Picture;I)I" } : Jvm.MethodName) prog_6_method_4_code (5 : Nat) (Option.some FieldType.int) ∈ TT := tt_at 484 (by decide +kernel) rfl
theorem tw485 : Cond.methodLink "StereoWar$Search" (26 : Nat) ({ cls := "StereoWar$Search", name := "fits", desc := "(LStereoWar$Scene;LStereoWar$Picture;III)Z" } : Jvm.MethodName) ∈ TT := tt_at 485 (by decide +kernel) rfl
theorem tw486 : Cond.static ({ cls := "StereoWar$Search", name := "fits", desc := "(LStereoWar$Scene;LStereoWar$Picture;III)Z" } : Jvm.MethodName) ∈ TT := tt_at 486 (by decide +kernel) rfl
theorem tw487 : Cond.code ({ cls := "StereoWar$Search", name := "fits", desc := "(LStereoWar$Scene;LStereoWar$Picture;III)Z" } : Jvm.MethodName) prog_6_method_2_code (6 : Nat) (Option.some FieldType.boolean) ∈ TT := tt_at 487 (by decide +kernel) rfl
theorem tw488 : Cond.methodLinkNest "StereoWar$Search" (9 : Nat) ({ cls := "StereoWar$Scene", name := "columnOf", desc := "(III)I" } : Jvm.MethodName) "StereoWar" ∈ NW := nw_at 488 (by decide +kernel) rfl
theorem tw489 : Cond.methodLinkNest "StereoWar$Search" (15 : Nat) ({ cls := "StereoWar$Picture", name := "columnOf", desc := "(I)I" } : Jvm.MethodName) "StereoWar" ∈ NW := nw_at 489 (by decide +kernel) rfl
theorem tw490 : Cond.methodLinkNest "StereoWar" (181 : Nat) ({ cls := "StereoWar$Search", name := "standAt", desc := "(LStereoWar$Scene;LStereoWar$Picture;I)I" } : Jvm.MethodName) "StereoWar" ∈ NW := nw_at 490 (by decide +kernel) rfl
theorem tw491 : Cond.static ({ cls := "StereoWar$Search", name := "standAt", desc := "(LStereoWar$Scene;LStereoWar$Picture;I)I" } : Jvm.MethodName) ∈ TT := tt_at 491 (by decide +kernel) rfl
theorem tw492 : Cond.code ({ cls := "StereoWar$Search", name := "standAt", desc := "(LStereoWar$Scene;LStereoWar$Picture;I)I" } : Jvm.MethodName) prog_6_method_5_code (6 : Nat) (Option.some FieldType.int) ∈ TT := tt_at 492 (by decide +kernel) rfl
theorem tw493 : Cond.methodLinkNest "StereoWar$Search" (30 : Nat) ({ cls := "StereoWar", name := "within", desc := "(III)Z" } : Jvm.MethodName) "StereoWar" ∈ NW := nw_at 493 (by decide +kernel) rfl
theorem tw494 : Cond.methodLink "StereoWarLaw" (82 : Nat) ({ cls := "StereoWar", name := "forged", desc := "(II)I" } : Jvm.MethodName) ∈ TT := tt_at 494 (by decide +kernel) rfl
theorem tw495 : Cond.instanceMethod ({ cls := "StereoWar", name := "forged", desc := "(II)I" } : Jvm.MethodName) ∈ TT := tt_at 495 (by decide +kernel) rfl
theorem tw496 : Cond.selects "StereoWar" ({ cls := "StereoWar", name := "forged", desc := "(II)I" } : Jvm.MethodName) ({ cls := "StereoWar", name := "forged", desc := "(II)I" } : Jvm.MethodName) ∈ TT := tt_at 496 (by decide +kernel) rfl
theorem tw497 : Cond.code ({ cls := "StereoWar", name := "forged", desc := "(II)I" } : Jvm.MethodName) prog_1_method_18_code (5 : Nat) (Option.some FieldType.int) ∈ TT := tt_at 497 (by decide +kernel) rfl
theorem tw498 : Cond.methodLinkNest "StereoWar" (185 : Nat) ({ cls := "StereoWar$Search", name := "fewestForged", desc := "(LStereoWar$Scene;LStereoWar$Picture;)I" } : Jvm.MethodName) "StereoWar" ∈ NW := nw_at 498 (by decide +kernel) rfl
theorem tw499 : Cond.static ({ cls := "StereoWar$Search", name := "fewestForged", desc := "(LStereoWar$Scene;LStereoWar$Picture;)I" } : Jvm.MethodName) ∈ TT := tt_at 499 (by decide +kernel) rfl
theorem tw500 : Cond.code ({ cls := "StereoWar$Search", name := "fewestForged", desc := "(LStereoWar$Scene;LStereoWar$Picture;)I" } : Jvm.MethodName) prog_6_method_8_code (7 : Nat) (Option.some FieldType.int) ∈ TT := tt_at 500 (by decide +kernel) rfl
theorem tw501 : Cond.methodLink "StereoWar$Search" (34 : Nat) ({ cls := "StereoWar$Search", name := "differing", desc := "(LStereoWar$Scene;LStereoWar$Picture;II)I" } : Jvm.MethodName) ∈ TT := tt_at 501 (by decide +kernel) rfl
theorem tw502 : Cond.static ({ cls := "StereoWar$Search", name := "differing", desc := "(LStereoWar$Scene;LStereoWar$Picture;II)I" } : Jvm.MethodName) ∈ TT := tt_at 502 (by decide +kernel) rfl
theorem tw503 : Cond.code ({ cls := "StereoWar$Search", name := "differing", desc := "(LStereoWar$Scene;LStereoWar$Picture;II)I" } : Jvm.MethodName) prog_6_method_9_code (6 : Nat) (Option.some FieldType.int) ∈ TT := tt_at 503 (by decide +kernel) rfl
theorem tw504 : Cond.methodLink "StereoWar$Search" (38 : Nat) ({ cls := "java/lang/Integer", name := "bitCount", desc := "(I)I" } : Jvm.MethodName) ∈ TT := tt_at 504 (by decide +kernel) rfl
theorem tw505 : Cond.methodLink "StereoWarLaw" (86 : Nat) ({ cls := "StereoWar", name := "ahead", desc := "(II)I" } : Jvm.MethodName) ∈ TT := tt_at 505 (by decide +kernel) rfl
theorem tw506 : Cond.instanceMethod ({ cls := "StereoWar", name := "ahead", desc := "(II)I" } : Jvm.MethodName) ∈ TT := tt_at 506 (by decide +kernel) rfl
theorem tw507 : Cond.selects "StereoWar" ({ cls := "StereoWar", name := "ahead", desc := "(II)I" } : Jvm.MethodName) ({ cls := "StereoWar", name := "ahead", desc := "(II)I" } : Jvm.MethodName) ∈ TT := tt_at 507 (by decide +kernel) rfl
theorem tw508 : Cond.code ({ cls := "StereoWar", name := "ahead", desc := "(II)I" } : Jvm.MethodName) prog_1_method_19_code (7 : Nat) (Option.some FieldType.int) ∈ TT := tt_at 508 (by decide +kernel) rfl
theorem tw509 : Cond.methodLinkNest "StereoWar" (188 : Nat) ({ cls := "StereoWar$Search", name := "firstMinute", desc := "(LStereoWar$Scene;LStereoWar$Picture;)I" } : Jvm.MethodName) "StereoWar" ∈ NW := nw_at 509 (by decide +kernel) rfl
theorem tw510 : Cond.static ({ cls := "StereoWar$Search", name := "firstMinute", desc := "(LStereoWar$Scene;LStereoWar$Picture;)I" } : Jvm.MethodName) ∈ TT := tt_at 510 (by decide +kernel) rfl
theorem tw511 : Cond.code ({ cls := "StereoWar$Search", name := "firstMinute", desc := "(LStereoWar$Scene;LStereoWar$Picture;)I" } : Jvm.MethodName) prog_6_method_6_code (3 : Nat) (Option.some FieldType.int) ∈ TT := tt_at 511 (by decide +kernel) rfl
theorem tw512 : Cond.methodLinkNest "StereoWar" (191 : Nat) ({ cls := "StereoWar$Search", name := "lastMinute", desc := "(LStereoWar$Scene;LStereoWar$Picture;)I" } : Jvm.MethodName) "StereoWar" ∈ NW := nw_at 512 (by decide +kernel) rfl
theorem tw513 : Cond.static ({ cls := "StereoWar$Search", name := "lastMinute", desc := "(LStereoWar$Scene;LStereoWar$Picture;)I" } : Jvm.MethodName) ∈ TT := tt_at 513 (by decide +kernel) rfl
theorem tw514 : Cond.code ({ cls := "StereoWar$Search", name := "lastMinute", desc := "(LStereoWar$Scene;LStereoWar$Picture;)I" } : Jvm.MethodName) prog_6_method_7_code (3 : Nat) (Option.some FieldType.int) ∈ TT := tt_at 514 (by decide +kernel) rfl
theorem tw515 : Cond.methodLink "StereoWarLaw" (90 : Nat) ({ cls := "StereoWar", name := "missing", desc := "(III)I" } : Jvm.MethodName) ∈ TT := tt_at 515 (by decide +kernel) rfl
theorem tw516 : Cond.instanceMethod ({ cls := "StereoWar", name := "missing", desc := "(III)I" } : Jvm.MethodName) ∈ TT := tt_at 516 (by decide +kernel) rfl
theorem tw517 : Cond.selects "StereoWar" ({ cls := "StereoWar", name := "missing", desc := "(III)I" } : Jvm.MethodName) ({ cls := "StereoWar", name := "missing", desc := "(III)I" } : Jvm.MethodName) ∈ TT := tt_at 517 (by decide +kernel) rfl
theorem tw518 : Cond.code ({ cls := "StereoWar", name := "missing", desc := "(III)I" } : Jvm.MethodName) prog_1_method_20_code (7 : Nat) (Option.some FieldType.int) ∈ TT := tt_at 518 (by decide +kernel) rfl
theorem tw519 : Cond.methodLinkNest "StereoWar" (194 : Nat) ({ cls := "StereoWar$Search", name := "columnsWithout", desc := "(LStereoWar$Scene;LStereoWar$Picture;I)J" } : Jvm.MethodName) "StereoWar" ∈ NW := nw_at 519 (by decide +kernel) rfl
theorem tw520 : Cond.static ({ cls := "StereoWar$Search", name := "columnsWithout", desc := "(LStereoWar$Scene;LStereoWar$Picture;I)J" } : Jvm.MethodName) ∈ TT := tt_at 520 (by decide +kernel) rfl
theorem tw521 : Cond.code ({ cls := "StereoWar$Search", name := "columnsWithout", desc := "(LStereoWar$Scene;LStereoWar$Picture;I)J" } : Jvm.MethodName) prog_6_method_10_code (8 : Nat) (Option.some FieldType.long) ∈ TT := tt_at 521 (by decide +kernel) rfl
theorem tw522 : Cond.methodLink "StereoWar" (198 : Nat) ({ cls := "java/lang/Long", name := "bitCount", desc := "(J)I" } : Jvm.MethodName) ∈ TT := tt_at 522 (by decide +kernel) rfl
theorem tw523 : Cond.static ({ cls := "java/lang/Long", name := "bitCount", desc := "(J)I" } : Jvm.MethodName) ∈ TT := tt_at 523 (by decide +kernel) rfl
theorem tw524 : Cond.code ({ cls := "java/lang/Long", name := "bitCount", desc := "(J)I" } : Jvm.MethodName) prog_12_method_50_code (2 : Nat) (Option.some FieldType.int) ∈ TT := tt_at 524 (by decide +kernel) rfl
theorem tw525 : Cond.constantLong "java/lang/Long" (314 : Nat) (6148914691236517205 : Int64) ∈ TT := tt_at 525 (by decide +kernel) rfl
theorem tw526 : Cond.constantLong "java/lang/Long" (316 : Nat) (3689348814741910323 : Int64) ∈ TT := tt_at 526 (by decide +kernel) rfl
theorem tw527 : Cond.constantLong "java/lang/Long" (318 : Nat) (1085102592571150095 : Int64) ∈ TT := tt_at 527 (by decide +kernel) rfl
theorem tw528 : Cond.methodLinkNest "StereoWar" (203 : Nat) ({ cls := "StereoWar$Search", name := "leastShown", desc := "(J)I" } : Jvm.MethodName) "StereoWar" ∈ NW := nw_at 528 (by decide +kernel) rfl
theorem tw529 : Cond.static ({ cls := "StereoWar$Search", name := "leastShown", desc := "(J)I" } : Jvm.MethodName) ∈ TT := tt_at 529 (by decide +kernel) rfl
theorem tw530 : Cond.code ({ cls := "StereoWar$Search", name := "leastShown", desc := "(J)I" } : Jvm.MethodName) prog_6_method_11_code (3 : Nat) (Option.some FieldType.int) ∈ TT := tt_at 530 (by decide +kernel) rfl
theorem tw531 : Cond.methodLinkNest "StereoWar" (206 : Nat) ({ cls := "StereoWar$Search", name := "greatestShown", desc := "(J)I" } : Jvm.MethodName) "StereoWar" ∈ NW := nw_at 531 (by decide +kernel) rfl
theorem tw532 : Cond.static ({ cls := "StereoWar$Search", name := "greatestShown", desc := "(J)I" } : Jvm.MethodName) ∈ TT := tt_at 532 (by decide +kernel) rfl
theorem tw533 : Cond.code ({ cls := "StereoWar$Search", name := "greatestShown", desc := "(J)I" } : Jvm.MethodName) prog_6_method_12_code (3 : Nat) (Option.some FieldType.int) ∈ TT := tt_at 533 (by decide +kernel) rfl
theorem tw534 : Cond.methodLink "StereoWarLaw" (94 : Nat) ({ cls := "StereoWar", name := "eyes", desc := "()I" } : Jvm.MethodName) ∈ TT := tt_at 534 (by decide +kernel) rfl
theorem tw535 : Cond.instanceMethod ({ cls := "StereoWar", name := "eyes", desc := "()I" } : Jvm.MethodName) ∈ TT := tt_at 535 (by decide +kernel) rfl
theorem tw536 : Cond.selects "StereoWar" ({ cls := "StereoWar", name := "eyes", desc := "()I" } : Jvm.MethodName) ({ cls := "StereoWar", name := "eyes", desc := "()I" } : Jvm.MethodName) ∈ TT := tt_at 536 (by decide +kernel) rfl
theorem tw537 : Cond.code ({ cls := "StereoWar", name := "eyes", desc := "()I" } : Jvm.MethodName) prog_1_method_21_code (3 : Nat) (Option.some FieldType.int) ∈ TT := tt_at 537 (by decide +kernel) rfl
theorem tw538 : Cond.methodLink "StereoWar" (209 : Nat) ({ cls := "StereoWar", name := "rowsOfThree", desc := "(I)I" } : Jvm.MethodName) ∈ TT := tt_at 538 (by decide +kernel) rfl
theorem tw540 : Cond.instanceMethod ({ cls := "StereoWar", name := "rowsOfThree", desc := "(I)I" } : Jvm.MethodName) ∈ TT := tt_at 540 (by decide +kernel) rfl
theorem tw541 : Cond.code ({ cls := "StereoWar", name := "rowsOfThree", desc := "(I)I" } : Jvm.MethodName) prog_1_method_31_code (5 : Nat) (Option.some FieldType.int) ∈ TT := tt_at 541 (by decide +kernel) rfl
theorem tw542 : Cond.methodLink "StereoWarLaw" (98 : Nat) ({ cls := "StereoWar", name := "late", desc := "(IIIIIII)J" } : Jvm.MethodName) ∈ TT := tt_at 542 (by decide +kernel) rfl
theorem tw543 : Cond.instanceMethod ({ cls := "StereoWar", name := "late", desc := "(IIIIIII)J" } : Jvm.MethodName) ∈ TT := tt_at 543 (by decide +kernel) rfl
theorem tw544 : Cond.selects "StereoWar" ({ cls := "StereoWar", name := "late", desc := "(IIIIIII)J" } : Jvm.MethodName) ({ cls := "StereoWar", name := "late", desc := "(IIIIIII)J" } : Jvm.MethodName) ∈ TT := tt_at 544 (by decide +kernel) rfl
theorem tw545 : Cond.code ({ cls := "StereoWar", name := "late", desc := "(IIIIIII)J" } : Jvm.MethodName) prog_1_method_22_code (14 : Nat) (Option.some FieldType.long) ∈ TT := tt_at 545 (by decide +kernel) rfl
theorem tw546 : Cond.constantLong "StereoWar" (212 : Nat) (-1000000000000000002 : Int64) ∈ TT := tt_at 546 (by decide +kernel) rfl
theorem tw547 : Cond.methodLink "StereoWar" (214 : Nat) ({ cls := "StereoWar", name := "isKind", desc := "(I)Z" } : Jvm.MethodName) ∈ TT := tt_at 547 (by decide +kernel) rfl
theorem tw548 : Cond.static ({ cls := "StereoWar", name := "isKind", desc := "(I)Z" } : Jvm.MethodName) ∈ TT := tt_at 548 (by decide +kernel) rfl
theorem tw549 : Cond.code ({ cls := "StereoWar", name := "isKind", desc := "(I)Z" } : Jvm.MethodName) prog_1_method_35_code (1 : Nat) (Option.some FieldType.boolean) ∈ TT := tt_at 549 (by decide +kernel) rfl
theorem tw550 : Cond.methodLinkNest "StereoWar" (217 : Nat) ({ cls := "StereoWar$Shutter", name := "setChances", desc := "(II)V" } : Jvm.MethodName) "StereoWar" ∈ NW := nw_at 550 (by decide +kernel) rfl
theorem tw552 : Cond.instanceMethod ({ cls := "StereoWar$Shutter", name := "setChances", desc := "(II)V" } : Jvm.MethodName) ∈ TT := tt_at 552 (by decide +kernel) rfl
theorem tw553 : Cond.code ({ cls := "StereoWar$Shutter", name := "setChances", desc := "(II)V" } : Jvm.MethodName) prog_7_method_2_code (5 : Nat) (none) ∈ TT := tt_at 553 (by decide +kernel) rfl
theorem tw554 : Cond.methodLinkNest "StereoWar" (220 : Nat) ({ cls := "StereoWar$Scene", name := "expose", desc := "(LStereoWar$Picture;II)V" } : Jvm.MethodName) "StereoWar" ∈ NW := nw_at 554 (by decide +kernel) rfl
theorem tw555 : Cond.methodLinkNest "StereoWar" (224 : Nat) ({ cls := "StereoWar$Shutter", name := "waysOf", desc := "(I)J" } : Jvm.MethodName) "StereoWar" ∈ NW := nw_at 555 (by decide +kernel) rfl
theorem tw557 : Cond.instanceMethod ({ cls := "StereoWar$Shutter", name := "waysOf", desc := "(I)J" } : Jvm.MethodName) ∈ TT := tt_at 557 (by decide +kernel) rfl
theorem tw558 : Cond.code ({ cls := "StereoWar$Shutter", name := "waysOf", desc := "(I)J" } : Jvm.MethodName) prog_7_method_3_code (2 : Nat) (Option.some FieldType.long) ∈ TT := tt_at 558 (by decide +kernel) rfl
theorem tw559 : Cond.methodLinkNest "StereoWar$Shutter" (15 : Nat) ({ cls := "StereoWar", name := "within", desc := "(III)Z" } : Jvm.MethodName) "StereoWar" ∈ NW := nw_at 559 (by decide +kernel) rfl
theorem tw560 : Cond.methodLinkNest "StereoWar" (228 : Nat) ({ cls := "StereoWar$Picture", name := "kindWith", desc := "(LStereoWar$Picture;)I" } : Jvm.MethodName) "StereoWar" ∈ NW := nw_at 560 (by decide +kernel) rfl
theorem tw561 : Cond.methodLink "StereoWar" (231 : Nat) ({ cls := "StereoWar", name := "greatestDivisor", desc := "(JJ)J" } : Jvm.MethodName) ∈ TT := tt_at 561 (by decide +kernel) rfl
theorem tw562 : Cond.static ({ cls := "StereoWar", name := "greatestDivisor", desc := "(JJ)J" } : Jvm.MethodName) ∈ TT := tt_at 562 (by decide +kernel) rfl
theorem tw563 : Cond.code ({ cls := "StereoWar", name := "greatestDivisor", desc := "(JJ)J" } : Jvm.MethodName) prog_1_method_37_code (11 : Nat) (Option.some FieldType.long) ∈ TT := tt_at 563 (by decide +kernel) rfl
theorem tw564 : Cond.methodLink "StereoWarLaw" (103 : Nat) ({ cls := "StereoWar", name := "past", desc := "(III)I" } : Jvm.MethodName) ∈ TT := tt_at 564 (by decide +kernel) rfl
theorem tw565 : Cond.instanceMethod ({ cls := "StereoWar", name := "past", desc := "(III)I" } : Jvm.MethodName) ∈ TT := tt_at 565 (by decide +kernel) rfl
theorem tw566 : Cond.selects "StereoWar" ({ cls := "StereoWar", name := "past", desc := "(III)I" } : Jvm.MethodName) ({ cls := "StereoWar", name := "past", desc := "(III)I" } : Jvm.MethodName) ∈ TT := tt_at 566 (by decide +kernel) rfl
theorem tw567 : Cond.code ({ cls := "StereoWar", name := "past", desc := "(III)I" } : Jvm.MethodName) prog_1_method_23_code (8 : Nat) (Option.some FieldType.int) ∈ TT := tt_at 567 (by decide +kernel) rfl
theorem tw568 : Cond.methodLinkNest "StereoWar" (235 : Nat) ({ cls := "StereoWar$Thing", name := "columnFrom", desc := "(III)I" } : Jvm.MethodName) "StereoWar" ∈ NW := nw_at 568 (by decide +kernel) rfl
theorem tw569 : Cond.methodLink "StereoWarLaw" (107 : Nat) ({ cls := "StereoWar", name := "best", desc := "(II)I" } : Jvm.MethodName) ∈ TT := tt_at 569 (by decide +kernel) rfl
theorem tw570 : Cond.instanceMethod ({ cls := "StereoWar", name := "best", desc := "(II)I" } : Jvm.MethodName) ∈ TT := tt_at 570 (by decide +kernel) rfl
theorem tw571 : Cond.selects "StereoWar" ({ cls := "StereoWar", name := "best", desc := "(II)I" } : Jvm.MethodName) ({ cls := "StereoWar", name := "best", desc := "(II)I" } : Jvm.MethodName) ∈ TT := tt_at 571 (by decide +kernel) rfl
theorem tw572 : Cond.code ({ cls := "StereoWar", name := "best", desc := "(II)I" } : Jvm.MethodName) prog_1_method_24_code (7 : Nat) (Option.some FieldType.int) ∈ TT := tt_at 572 (by decide +kernel) rfl
theorem tw573 : Cond.methodLinkNest "StereoWar" (238 : Nat) ({ cls := "StereoWar$Scene", name := "countShown", desc := "(II)I" } : Jvm.MethodName) "StereoWar" ∈ NW := nw_at 573 (by decide +kernel) rfl
theorem tw575 : Cond.instanceMethod ({ cls := "StereoWar$Scene", name := "countShown", desc := "(II)I" } : Jvm.MethodName) ∈ TT := tt_at 575 (by decide +kernel) rfl
theorem tw576 : Cond.code ({ cls := "StereoWar$Scene", name := "countShown", desc := "(II)I" } : Jvm.MethodName) prog_5_method_9_code (5 : Nat) (Option.some FieldType.int) ∈ TT := tt_at 576 (by decide +kernel) rfl
theorem tw577 : Cond.methodLink "StereoWarLaw" (111 : Nat) ({ cls := "StereoWar", name := "year", desc := "(III)I" } : Jvm.MethodName) ∈ TT := tt_at 577 (by decide +kernel) rfl
theorem tw578 : Cond.instanceMethod ({ cls := "StereoWar", name := "year", desc := "(III)I" } : Jvm.MethodName) ∈ TT := tt_at 578 (by decide +kernel) rfl
theorem tw579 : Cond.selects "StereoWar" ({ cls := "StereoWar", name := "year", desc := "(III)I" } : Jvm.MethodName) ({ cls := "StereoWar", name := "year", desc := "(III)I" } : Jvm.MethodName) ∈ TT := tt_at 579 (by decide +kernel) rfl
theorem tw580 : Cond.code ({ cls := "StereoWar", name := "year", desc := "(III)I" } : Jvm.MethodName) prog_1_method_25_code (7 : Nat) (Option.some FieldType.int) ∈ TT := tt_at 580 (by decide +kernel) rfl
theorem tw581 : Cond.constant "StereoWar" (241 : Nat) (65537 : Int32) ∈ TT := tt_at 581 (by decide +kernel) rfl
theorem tw582 : Cond.methodLink "StereoWarLaw" (115 : Nat) ({ cls := "StereoWar", name := "image", desc := "(I)I" } : Jvm.MethodName) ∈ TT := tt_at 582 (by decide +kernel) rfl
theorem tw583 : Cond.instanceMethod ({ cls := "StereoWar", name := "image", desc := "(I)I" } : Jvm.MethodName) ∈ TT := tt_at 583 (by decide +kernel) rfl
theorem tw584 : Cond.selects "StereoWar" ({ cls := "StereoWar", name := "image", desc := "(I)I" } : Jvm.MethodName) ({ cls := "StereoWar", name := "image", desc := "(I)I" } : Jvm.MethodName) ∈ TT := tt_at 584 (by decide +kernel) rfl
theorem tw585 : Cond.code ({ cls := "StereoWar", name := "image", desc := "(I)I" } : Jvm.MethodName) prog_1_method_26_code (2 : Nat) (Option.some FieldType.int) ∈ TT := tt_at 585 (by decide +kernel) rfl
theorem tw586 : Cond.methodLinkNest "StereoWar" (242 : Nat) ({ cls := "StereoWar$Scene", name := "copyFrom", desc := "(LStereoWar$Scene;)V" } : Jvm.MethodName) "StereoWar" ∈ NW := nw_at 586 (by decide +kernel) rfl
theorem tw588 : Cond.instanceMethod ({ cls := "StereoWar$Scene", name := "copyFrom", desc := "(LStereoWar$Scene;)V" } : Jvm.MethodName) ∈ TT := tt_at 588 (by decide +kernel) rfl
theorem tw589 : Cond.code ({ cls := "StereoWar$Scene", name := "copyFrom", desc := "(LStereoWar$Scene;)V" } : Jvm.MethodName) prog_5_method_2_code (3 : Nat) (none) ∈ TT := tt_at 589 (by decide +kernel) rfl
theorem tw590 : Cond.methodLinkNest "StereoWar$Scene" (29 : Nat) ({ cls := "StereoWar$Thing", name := "copyFrom", desc := "(LStereoWar$Thing;)V" } : Jvm.MethodName) "StereoWar" ∈ NW := nw_at 590 (by decide +kernel) rfl
theorem tw592 : Cond.instanceMethod ({ cls := "StereoWar$Thing", name := "copyFrom", desc := "(LStereoWar$Thing;)V" } : Jvm.MethodName) ∈ TT := tt_at 592 (by decide +kernel) rfl
theorem tw593 : Cond.code ({ cls := "StereoWar$Thing", name := "copyFrom", desc := "(LStereoWar$Thing;)V" } : Jvm.MethodName) prog_8_method_3_code (2 : Nat) (none) ∈ TT := tt_at 593 (by decide +kernel) rfl
theorem tw594 : Cond.methodLinkNest "StereoWar$Scene" (33 : Nat) ({ cls := "StereoWar$Picture", name := "copyFrom", desc := "(LStereoWar$Picture;)V" } : Jvm.MethodName) "StereoWar" ∈ NW := nw_at 594 (by decide +kernel) rfl
theorem tw596 : Cond.instanceMethod ({ cls := "StereoWar$Picture", name := "copyFrom", desc := "(LStereoWar$Picture;)V" } : Jvm.MethodName) ∈ TT := tt_at 596 (by decide +kernel) rfl
theorem tw597 : Cond.code ({ cls := "StereoWar$Picture", name := "copyFrom", desc := "(LStereoWar$Picture;)V" } : Jvm.MethodName) prog_4_method_5_code (3 : Nat) (none) ∈ TT := tt_at 597 (by decide +kernel) rfl
theorem tw598 : Cond.methodLink "StereoWarLaw" (119 : Nat) ({ cls := "StereoWar", name := "restore", desc := "(I)I" } : Jvm.MethodName) ∈ TT := tt_at 598 (by decide +kernel) rfl
theorem tw599 : Cond.instanceMethod ({ cls := "StereoWar", name := "restore", desc := "(I)I" } : Jvm.MethodName) ∈ TT := tt_at 599 (by decide +kernel) rfl
theorem tw600 : Cond.selects "StereoWar" ({ cls := "StereoWar", name := "restore", desc := "(I)I" } : Jvm.MethodName) ({ cls := "StereoWar", name := "restore", desc := "(I)I" } : Jvm.MethodName) ∈ TT := tt_at 600 (by decide +kernel) rfl
theorem tw601 : Cond.code ({ cls := "StereoWar", name := "restore", desc := "(I)I" } : Jvm.MethodName) prog_1_method_27_code (2 : Nat) (Option.some FieldType.int) ∈ TT := tt_at 601 (by decide +kernel) rfl
theorem tw602 : Cond.methodLink "StereoWarLaw" (123 : Nat) ({ cls := "StereoWar", name := "told", desc := "(I)I" } : Jvm.MethodName) ∈ TT := tt_at 602 (by decide +kernel) rfl
theorem tw603 : Cond.instanceMethod ({ cls := "StereoWar", name := "told", desc := "(I)I" } : Jvm.MethodName) ∈ TT := tt_at 603 (by decide +kernel) rfl
theorem tw604 : Cond.selects "StereoWar" ({ cls := "StereoWar", name := "told", desc := "(I)I" } : Jvm.MethodName) ({ cls := "StereoWar", name := "told", desc := "(I)I" } : Jvm.MethodName) ∈ TT := tt_at 604 (by decide +kernel) rfl
theorem tw605 : Cond.code ({ cls := "StereoWar", name := "told", desc := "(I)I" } : Jvm.MethodName) prog_1_method_28_code (2 : Nat) (Option.some FieldType.int) ∈ TT := tt_at 605 (by decide +kernel) rfl
theorem tw606 : Cond.methodLink "StereoWar" (246 : Nat) ({ cls := "StereoWar", name := "toldOfThing", desc := "(II)I" } : Jvm.MethodName) ∈ TT := tt_at 606 (by decide +kernel) rfl
theorem tw608 : Cond.instanceMethod ({ cls := "StereoWar", name := "toldOfThing", desc := "(II)I" } : Jvm.MethodName) ∈ TT := tt_at 608 (by decide +kernel) rfl
theorem tw609 : Cond.code ({ cls := "StereoWar", name := "toldOfThing", desc := "(II)I" } : Jvm.MethodName) prog_1_method_29_code (4 : Nat) (Option.some FieldType.int) ∈ TT := tt_at 609 (by decide +kernel) rfl
theorem tw610 : Cond.methodLink "StereoWar" (249 : Nat) ({ cls := "StereoWar", name := "toldOfPicture", desc := "(II)I" } : Jvm.MethodName) ∈ TT := tt_at 610 (by decide +kernel) rfl
theorem tw612 : Cond.instanceMethod ({ cls := "StereoWar", name := "toldOfPicture", desc := "(II)I" } : Jvm.MethodName) ∈ TT := tt_at 612 (by decide +kernel) rfl
theorem tw613 : Cond.code ({ cls := "StereoWar", name := "toldOfPicture", desc := "(II)I" } : Jvm.MethodName) prog_1_method_30_code (4 : Nat) (Option.some FieldType.int) ∈ TT := tt_at 613 (by decide +kernel) rfl
theorem tw614 : Cond.classLink "StereoWarLaw" (10 : Nat) "StereoWarModel" ∈ TT := tt_at 614 (by decide +kernel) rfl
theorem tw615 : Cond.instantiable "StereoWarModel" (24 : Nat) ∈ TT := tt_at 615 (by decide +kernel) rfl
theorem tw616 : Cond.methodLink "StereoWarLaw" (12 : Nat) ({ cls := "StereoWarModel", name := "<init>", desc := "()V" } : Jvm.MethodName) ∈ TT := tt_at 616 (by decide +kernel) rfl
theorem tw617 : Cond.instanceMethod ({ cls := "StereoWarModel", name := "<init>", desc := "()V" } : Jvm.MethodName) ∈ TT := tt_at 617 (by decide +kernel) rfl
theorem tw618 : Cond.code ({ cls := "StereoWarModel", name := "<init>", desc := "()V" } : Jvm.MethodName) prog_10_method_1_code (1 : Nat) (none) ∈ TT := tt_at 618 (by decide +kernel) rfl
theorem tw619 : Cond.methodLink "StereoWarModel" (1 : Nat) ({ cls := "java/lang/Object", name := "<init>", desc := "()V" } : Jvm.MethodName) ∈ TT := tt_at 619 (by decide +kernel) rfl
theorem tw620 : Cond.fieldLink "StereoWarModel" (56 : Nat) "StereoWarModel" "things" "I" ∈ TT := tt_at 620 (by decide +kernel) rfl
theorem tw621 : Cond.fieldLink "StereoWarModel" (7 : Nat) "StereoWarModel" "place" "[I" ∈ TT := tt_at 621 (by decide +kernel) rfl
theorem tw622 : Cond.fieldLink "StereoWarModel" (13 : Nat) "StereoWarModel" "pace" "[I" ∈ TT := tt_at 622 (by decide +kernel) rfl
theorem tw623 : Cond.fieldLink "StereoWarModel" (16 : Nat) "StereoWarModel" "deep" "[I" ∈ TT := tt_at 623 (by decide +kernel) rfl
theorem tw624 : Cond.fieldLink "StereoWarModel" (44 : Nat) "StereoWarModel" "focus" "I" ∈ TT := tt_at 624 (by decide +kernel) rfl
theorem tw625 : Cond.fieldLink "StereoWarModel" (61 : Nat) "StereoWarModel" "pictures" "I" ∈ TT := tt_at 625 (by decide +kernel) rfl
theorem tw626 : Cond.fieldLink "StereoWarModel" (19 : Nat) "StereoWarModel" "column" "[I" ∈ TT := tt_at 626 (by decide +kernel) rfl
theorem tw627 : Cond.fieldLink "StereoWarModel" (22 : Nat) "StereoWarModel" "pad" "[I" ∈ TT := tt_at 627 (by decide +kernel) rfl
theorem tw628 : Cond.fieldLink "StereoWarModel" (94 : Nat) "StereoWarModel" "padMany" "I" ∈ TT := tt_at 628 (by decide +kernel) rfl
theorem tw629 : Cond.fieldLink "StereoWarModel" (25 : Nat) "StereoWarModel" "left" "[I" ∈ TT := tt_at 629 (by decide +kernel) rfl
theorem tw630 : Cond.fieldLink "StereoWarModel" (28 : Nat) "StereoWarModel" "right" "[I" ∈ TT := tt_at 630 (by decide +kernel) rfl
theorem tw631 : Cond.fieldLink "StereoWarModel" (97 : Nat) "StereoWarModel" "pairs" "I" ∈ TT := tt_at 631 (by decide +kernel) rfl
theorem tw632 : Cond.fieldLink "StereoWarModel" (100 : Nat) "StereoWarModel" "turns" "I" ∈ TT := tt_at 632 (by decide +kernel) rfl
theorem tw633 : Cond.fieldLink "StereoWarModel" (103 : Nat) "StereoWarModel" "lone" "I" ∈ TT := tt_at 633 (by decide +kernel) rfl
theorem tw634 : Cond.fieldLink "StereoWarModel" (125 : Nat) "StereoWarModel" "badPair" "I" ∈ TT := tt_at 634 (by decide +kernel) rfl
theorem tw635 : Cond.fieldLink "StereoWarModel" (128 : Nat) "StereoWarModel" "badWhy" "I" ∈ TT := tt_at 635 (by decide +kernel) rfl
theorem tw636 : Cond.fieldLink "StereoWarModel" (31 : Nat) "StereoWarModel" "mostOf" "[I" ∈ TT := tt_at 636 (by decide +kernel) rfl
theorem tw637 : Cond.fieldLink "StereoWarModel" (165 : Nat) "StereoWarModel" "firstMinute" "I" ∈ TT := tt_at 637 (by decide +kernel) rfl
theorem tw638 : Cond.fieldLink "StereoWarModel" (168 : Nat) "StereoWarModel" "lastMinute" "I" ∈ TT := tt_at 638 (by decide +kernel) rfl
theorem tw639 : Cond.fieldLink "StereoWarModel" (34 : Nat) "StereoWarModel" "could" "[I" ∈ TT := tt_at 639 (by decide +kernel) rfl
theorem tw640 : Cond.fieldLink "StereoWarModel" (37 : Nat) "StereoWarModel" "kept" "[I" ∈ TT := tt_at 640 (by decide +kernel) rfl
theorem tw641 : Cond.fieldLink "StereoWarModel" (40 : Nat) "StereoWarModel" "isKept" "[Z" ∈ TT := tt_at 641 (by decide +kernel) rfl
theorem tw642 : Cond.fieldLink "StereoWarModel" (205 : Nat) "StereoWarModel" "keptAt" "I" ∈ TT := tt_at 642 (by decide +kernel) rfl
theorem tw643 : Cond.fieldLink "StereoWarModel" (201 : Nat) "StereoWarModel" "isWriting" "Z" ∈ TT := tt_at 643 (by decide +kernel) rfl
theorem tw644 : Cond.lays "StereoWarModel" "StereoWarModel" "things" "I" ∈ TT := tt_at 644 (by decide +kernel) rfl
theorem tw645 : Cond.soleField "StereoWarModel" "things" ∈ TT := tt_at 645 (by decide +kernel) rfl
theorem tw646 : Cond.laysFinal "StereoWarModel" "StereoWarModel" "place" "[I" ∈ TT := tt_at 646 (by decide +kernel) rfl
theorem tw647 : Cond.soleField "StereoWarModel" "place" ∈ TT := tt_at 647 (by decide +kernel) rfl
theorem tw648 : Cond.laysFinal "StereoWarModel" "StereoWarModel" "pace" "[I" ∈ TT := tt_at 648 (by decide +kernel) rfl
theorem tw649 : Cond.soleField "StereoWarModel" "pace" ∈ TT := tt_at 649 (by decide +kernel) rfl
theorem tw650 : Cond.laysFinal "StereoWarModel" "StereoWarModel" "deep" "[I" ∈ TT := tt_at 650 (by decide +kernel) rfl
theorem tw651 : Cond.soleField "StereoWarModel" "deep" ∈ TT := tt_at 651 (by decide +kernel) rfl
theorem tw652 : Cond.lays "StereoWarModel" "StereoWarModel" "focus" "I" ∈ TT := tt_at 652 (by decide +kernel) rfl
theorem tw653 : Cond.soleField "StereoWarModel" "focus" ∈ TT := tt_at 653 (by decide +kernel) rfl
theorem tw654 : Cond.lays "StereoWarModel" "StereoWarModel" "pictures" "I" ∈ TT := tt_at 654 (by decide +kernel) rfl
theorem tw655 : Cond.soleField "StereoWarModel" "pictures" ∈ TT := tt_at 655 (by decide +kernel) rfl
theorem tw656 : Cond.laysFinal "StereoWarModel" "StereoWarModel" "column" "[I" ∈ TT := tt_at 656 (by decide +kernel) rfl
theorem tw657 : Cond.soleField "StereoWarModel" "column" ∈ TT := tt_at 657 (by decide +kernel) rfl
theorem tw658 : Cond.laysFinal "StereoWarModel" "StereoWarModel" "pad" "[I" ∈ TT := tt_at 658 (by decide +kernel) rfl
theorem tw659 : Cond.soleField "StereoWarModel" "pad" ∈ TT := tt_at 659 (by decide +kernel) rfl
theorem tw660 : Cond.lays "StereoWarModel" "StereoWarModel" "padMany" "I" ∈ TT := tt_at 660 (by decide +kernel) rfl
theorem tw661 : Cond.soleField "StereoWarModel" "padMany" ∈ TT := tt_at 661 (by decide +kernel) rfl
theorem tw662 : Cond.laysFinal "StereoWarModel" "StereoWarModel" "left" "[I" ∈ TT := tt_at 662 (by decide +kernel) rfl
theorem tw663 : Cond.soleField "StereoWarModel" "left" ∈ TT := tt_at 663 (by decide +kernel) rfl
theorem tw664 : Cond.laysFinal "StereoWarModel" "StereoWarModel" "right" "[I" ∈ TT := tt_at 664 (by decide +kernel) rfl
theorem tw665 : Cond.soleField "StereoWarModel" "right" ∈ TT := tt_at 665 (by decide +kernel) rfl
theorem tw666 : Cond.lays "StereoWarModel" "StereoWarModel" "pairs" "I" ∈ TT := tt_at 666 (by decide +kernel) rfl
theorem tw667 : Cond.soleField "StereoWarModel" "pairs" ∈ TT := tt_at 667 (by decide +kernel) rfl
theorem tw668 : Cond.lays "StereoWarModel" "StereoWarModel" "turns" "I" ∈ TT := tt_at 668 (by decide +kernel) rfl
theorem tw669 : Cond.soleField "StereoWarModel" "turns" ∈ TT := tt_at 669 (by decide +kernel) rfl
theorem tw670 : Cond.lays "StereoWarModel" "StereoWarModel" "lone" "I" ∈ TT := tt_at 670 (by decide +kernel) rfl
theorem tw671 : Cond.soleField "StereoWarModel" "lone" ∈ TT := tt_at 671 (by decide +kernel) rfl
theorem tw672 : Cond.lays "StereoWarModel" "StereoWarModel" "badPair" "I" ∈ TT := tt_at 672 (by decide +kernel) rfl
theorem tw673 : Cond.soleField "StereoWarModel" "badPair" ∈ TT := tt_at 673 (by decide +kernel) rfl
theorem tw674 : Cond.lays "StereoWarModel" "StereoWarModel" "badWhy" "I" ∈ TT := tt_at 674 (by decide +kernel) rfl
theorem tw675 : Cond.soleField "StereoWarModel" "badWhy" ∈ TT := tt_at 675 (by decide +kernel) rfl
theorem tw676 : Cond.laysFinal "StereoWarModel" "StereoWarModel" "mostOf" "[I" ∈ TT := tt_at 676 (by decide +kernel) rfl
theorem tw677 : Cond.soleField "StereoWarModel" "mostOf" ∈ TT := tt_at 677 (by decide +kernel) rfl
theorem tw678 : Cond.lays "StereoWarModel" "StereoWarModel" "firstMinute" "I" ∈ TT := tt_at 678 (by decide +kernel) rfl
theorem tw679 : Cond.soleField "StereoWarModel" "firstMinute" ∈ TT := tt_at 679 (by decide +kernel) rfl
theorem tw680 : Cond.lays "StereoWarModel" "StereoWarModel" "lastMinute" "I" ∈ TT := tt_at 680 (by decide +kernel) rfl
theorem tw681 : Cond.soleField "StereoWarModel" "lastMinute" ∈ TT := tt_at 681 (by decide +kernel) rfl
theorem tw682 : Cond.laysFinal "StereoWarModel" "StereoWarModel" "could" "[I" ∈ TT := tt_at 682 (by decide +kernel) rfl
theorem tw683 : Cond.soleField "StereoWarModel" "could" ∈ TT := tt_at 683 (by decide +kernel) rfl
theorem tw684 : Cond.laysFinal "StereoWarModel" "StereoWarModel" "kept" "[I" ∈ TT := tt_at 684 (by decide +kernel) rfl
theorem tw685 : Cond.soleField "StereoWarModel" "kept" ∈ TT := tt_at 685 (by decide +kernel) rfl
theorem tw686 : Cond.laysFinal "StereoWarModel" "StereoWarModel" "isKept" "[Z" ∈ TT := tt_at 686 (by decide +kernel) rfl
theorem tw687 : Cond.soleField "StereoWarModel" "isKept" ∈ TT := tt_at 687 (by decide +kernel) rfl
theorem tw688 : Cond.lays "StereoWarModel" "StereoWarModel" "keptAt" "I" ∈ TT := tt_at 688 (by decide +kernel) rfl
theorem tw689 : Cond.soleField "StereoWarModel" "keptAt" ∈ TT := tt_at 689 (by decide +kernel) rfl
theorem tw690 : Cond.lays "StereoWarModel" "StereoWarModel" "isWriting" "Z" ∈ TT := tt_at 690 (by decide +kernel) rfl
theorem tw691 : Cond.soleField "StereoWarModel" "isWriting" ∈ TT := tt_at 691 (by decide +kernel) rfl
theorem tw692 : Cond.superclass "StereoWarModel" "java/lang/Object" ∈ TT := tt_at 692 (by decide +kernel) rfl
theorem tw693 : Cond.methodLink "StereoWarLaw" (17 : Nat) ({ cls := "StereoWarModel", name := "thing", desc := "(IIII)I" } : Jvm.MethodName) ∈ TT := tt_at 693 (by decide +kernel) rfl
theorem tw694 : Cond.instanceMethod ({ cls := "StereoWarModel", name := "thing", desc := "(IIII)I" } : Jvm.MethodName) ∈ TT := tt_at 694 (by decide +kernel) rfl
theorem tw695 : Cond.selects "StereoWarModel" ({ cls := "StereoWarModel", name := "thing", desc := "(IIII)I" } : Jvm.MethodName) ({ cls := "StereoWarModel", name := "thing", desc := "(IIII)I" } : Jvm.MethodName) ∈ TT := tt_at 695 (by decide +kernel) rfl
theorem tw696 : Cond.code ({ cls := "StereoWarModel", name := "thing", desc := "(IIII)I" } : Jvm.MethodName) prog_10_method_9_code (5 : Nat) (Option.some FieldType.int) ∈ TT := tt_at 696 (by decide +kernel) rfl
theorem tw697 : Cond.constantLong "StereoWarModel" (54 : Nat) (5 : Int64) ∈ TT := tt_at 697 (by decide +kernel) rfl
theorem tw698 : Cond.methodLink "StereoWarModel" (50 : Nat) ({ cls := "StereoWarModel", name := "in", desc := "(JJJ)Z" } : Jvm.MethodName) ∈ TT := tt_at 698 (by decide +kernel) rfl
theorem tw699 : Cond.static ({ cls := "StereoWarModel", name := "in", desc := "(JJJ)Z" } : Jvm.MethodName) ∈ TT := tt_at 699 (by decide +kernel) rfl
theorem tw700 : Cond.code ({ cls := "StereoWarModel", name := "in", desc := "(JJJ)Z" } : Jvm.MethodName) prog_10_method_3_code (6 : Nat) (Option.some FieldType.boolean) ∈ TT := tt_at 700 (by decide +kernel) rfl
theorem tw701 : Cond.methodLink "StereoWarModel" (68 : Nat) ({ cls := "StereoWarModel", name := "isHundred", desc := "(I)Z" } : Jvm.MethodName) ∈ TT := tt_at 701 (by decide +kernel) rfl
theorem tw702 : Cond.static ({ cls := "StereoWarModel", name := "isHundred", desc := "(I)Z" } : Jvm.MethodName) ∈ TT := tt_at 702 (by decide +kernel) rfl
theorem tw703 : Cond.code ({ cls := "StereoWarModel", name := "isHundred", desc := "(I)Z" } : Jvm.MethodName) prog_10_method_5_code (1 : Nat) (Option.some FieldType.boolean) ∈ TT := tt_at 703 (by decide +kernel) rfl
theorem tw704 : Cond.constantLong "StereoWarModel" (48 : Nat) (99 : Int64) ∈ TT := tt_at 704 (by decide +kernel) rfl
theorem tw705 : Cond.constantLong "StereoWarModel" (71 : Nat) (-9 : Int64) ∈ TT := tt_at 705 (by decide +kernel) rfl
theorem tw706 : Cond.constantLong "StereoWarModel" (59 : Nat) (9 : Int64) ∈ TT := tt_at 706 (by decide +kernel) rfl
theorem tw707 : Cond.constantLong "StereoWarModel" (73 : Nat) (20 : Int64) ∈ TT := tt_at 707 (by decide +kernel) rfl
theorem tw708 : Cond.methodLink "StereoWarModel" (75 : Nat) ({ cls := "StereoWarModel", name := "ones", desc := "(I)I" } : Jvm.MethodName) ∈ TT := tt_at 708 (by decide +kernel) rfl
theorem tw709 : Cond.static ({ cls := "StereoWarModel", name := "ones", desc := "(I)I" } : Jvm.MethodName) ∈ TT := tt_at 709 (by decide +kernel) rfl
theorem tw710 : Cond.code ({ cls := "StereoWarModel", name := "ones", desc := "(I)I" } : Jvm.MethodName) prog_10_method_4_code (3 : Nat) (Option.some FieldType.int) ∈ TT := tt_at 710 (by decide +kernel) rfl
theorem tw711 : Cond.methodLink "StereoWarLaw" (22 : Nat) ({ cls := "StereoWarModel", name := "leave", desc := "(I)I" } : Jvm.MethodName) ∈ TT := tt_at 711 (by decide +kernel) rfl
theorem tw712 : Cond.instanceMethod ({ cls := "StereoWarModel", name := "leave", desc := "(I)I" } : Jvm.MethodName) ∈ TT := tt_at 712 (by decide +kernel) rfl
theorem tw713 : Cond.selects "StereoWarModel" ({ cls := "StereoWarModel", name := "leave", desc := "(I)I" } : Jvm.MethodName) ({ cls := "StereoWarModel", name := "leave", desc := "(I)I" } : Jvm.MethodName) ∈ TT := tt_at 713 (by decide +kernel) rfl
theorem tw714 : Cond.code ({ cls := "StereoWarModel", name := "leave", desc := "(I)I" } : Jvm.MethodName) prog_10_method_10_code (2 : Nat) (Option.some FieldType.int) ∈ TT := tt_at 714 (by decide +kernel) rfl
theorem tw715 : Cond.methodLink "StereoWarModel" (79 : Nat) ({ cls := "StereoWarModel", name := "isThing", desc := "(I)Z" } : Jvm.MethodName) ∈ TT := tt_at 715 (by decide +kernel) rfl
theorem tw717 : Cond.instanceMethod ({ cls := "StereoWarModel", name := "isThing", desc := "(I)Z" } : Jvm.MethodName) ∈ TT := tt_at 717 (by decide +kernel) rfl
theorem tw718 : Cond.code ({ cls := "StereoWarModel", name := "isThing", desc := "(I)Z" } : Jvm.MethodName) prog_10_method_6_code (2 : Nat) (Option.some FieldType.boolean) ∈ TT := tt_at 718 (by decide +kernel) rfl
theorem tw719 : Cond.methodLink "StereoWarLaw" (26 : Nat) ({ cls := "StereoWarModel", name := "focus", desc := "(I)I" } : Jvm.MethodName) ∈ TT := tt_at 719 (by decide +kernel) rfl
theorem tw720 : Cond.instanceMethod ({ cls := "StereoWarModel", name := "focus", desc := "(I)I" } : Jvm.MethodName) ∈ TT := tt_at 720 (by decide +kernel) rfl
theorem tw721 : Cond.selects "StereoWarModel" ({ cls := "StereoWarModel", name := "focus", desc := "(I)I" } : Jvm.MethodName) ({ cls := "StereoWarModel", name := "focus", desc := "(I)I" } : Jvm.MethodName) ∈ TT := tt_at 721 (by decide +kernel) rfl
theorem tw722 : Cond.code ({ cls := "StereoWarModel", name := "focus", desc := "(I)I" } : Jvm.MethodName) prog_10_method_11_code (3 : Nat) (Option.some FieldType.int) ∈ TT := tt_at 722 (by decide +kernel) rfl
theorem tw723 : Cond.constantLong "StereoWarModel" (82 : Nat) (40 : Int64) ∈ TT := tt_at 723 (by decide +kernel) rfl
theorem tw724 : Cond.methodLink "StereoWarLaw" (31 : Nat) ({ cls := "StereoWarModel", name := "take", desc := "(III)I" } : Jvm.MethodName) ∈ TT := tt_at 724 (by decide +kernel) rfl
theorem tw725 : Cond.instanceMethod ({ cls := "StereoWarModel", name := "take", desc := "(III)I" } : Jvm.MethodName) ∈ TT := tt_at 725 (by decide +kernel) rfl
theorem tw726 : Cond.selects "StereoWarModel" ({ cls := "StereoWarModel", name := "take", desc := "(III)I" } : Jvm.MethodName) ({ cls := "StereoWarModel", name := "take", desc := "(III)I" } : Jvm.MethodName) ∈ TT := tt_at 726 (by decide +kernel) rfl
theorem tw727 : Cond.code ({ cls := "StereoWarModel", name := "take", desc := "(III)I" } : Jvm.MethodName) prog_10_method_13_code (7 : Nat) (Option.some FieldType.int) ∈ TT := tt_at 727 (by decide +kernel) rfl
theorem tw728 : Cond.methodLink "StereoWarModel" (86 : Nat) ({ cls := "StereoWarModel", name := "columnOf", desc := "(III)I" } : Jvm.MethodName) ∈ TT := tt_at 728 (by decide +kernel) rfl
theorem tw730 : Cond.instanceMethod ({ cls := "StereoWarModel", name := "columnOf", desc := "(III)I" } : Jvm.MethodName) ∈ TT := tt_at 730 (by decide +kernel) rfl
theorem tw731 : Cond.code ({ cls := "StereoWarModel", name := "columnOf", desc := "(III)I" } : Jvm.MethodName) prog_10_method_12_code (5 : Nat) (Option.some FieldType.int) ∈ TT := tt_at 731 (by decide +kernel) rfl
theorem tw732 : Cond.constantLong "StereoWarModel" (84 : Nat) (60 : Int64) ∈ TT := tt_at 732 (by decide +kernel) rfl
theorem tw733 : Cond.methodLink "StereoWarLaw" (35 : Nat) ({ cls := "StereoWarModel", name := "retouch", desc := "(III)I" } : Jvm.MethodName) ∈ TT := tt_at 733 (by decide +kernel) rfl
theorem tw734 : Cond.instanceMethod ({ cls := "StereoWarModel", name := "retouch", desc := "(III)I" } : Jvm.MethodName) ∈ TT := tt_at 734 (by decide +kernel) rfl
theorem tw735 : Cond.selects "StereoWarModel" ({ cls := "StereoWarModel", name := "retouch", desc := "(III)I" } : Jvm.MethodName) ({ cls := "StereoWarModel", name := "retouch", desc := "(III)I" } : Jvm.MethodName) ∈ TT := tt_at 735 (by decide +kernel) rfl
theorem tw736 : Cond.code ({ cls := "StereoWarModel", name := "retouch", desc := "(III)I" } : Jvm.MethodName) prog_10_method_14_code (5 : Nat) (Option.some FieldType.int) ∈ TT := tt_at 736 (by decide +kernel) rfl
theorem tw737 : Cond.methodLink "StereoWarModel" (64 : Nat) ({ cls := "StereoWarModel", name := "isPicture", desc := "(I)Z" } : Jvm.MethodName) ∈ TT := tt_at 737 (by decide +kernel) rfl
theorem tw739 : Cond.instanceMethod ({ cls := "StereoWarModel", name := "isPicture", desc := "(I)Z" } : Jvm.MethodName) ∈ TT := tt_at 739 (by decide +kernel) rfl
theorem tw740 : Cond.code ({ cls := "StereoWarModel", name := "isPicture", desc := "(I)Z" } : Jvm.MethodName) prog_10_method_7_code (2 : Nat) (Option.some FieldType.boolean) ∈ TT := tt_at 740 (by decide +kernel) rfl
theorem tw741 : Cond.methodLink "StereoWarLaw" (39 : Nat) ({ cls := "StereoWarModel", name := "burn", desc := "(I)I" } : Jvm.MethodName) ∈ TT := tt_at 741 (by decide +kernel) rfl
theorem tw742 : Cond.instanceMethod ({ cls := "StereoWarModel", name := "burn", desc := "(I)I" } : Jvm.MethodName) ∈ TT := tt_at 742 (by decide +kernel) rfl
theorem tw743 : Cond.selects "StereoWarModel" ({ cls := "StereoWarModel", name := "burn", desc := "(I)I" } : Jvm.MethodName) ({ cls := "StereoWarModel", name := "burn", desc := "(I)I" } : Jvm.MethodName) ∈ TT := tt_at 743 (by decide +kernel) rfl
theorem tw744 : Cond.code ({ cls := "StereoWarModel", name := "burn", desc := "(I)I" } : Jvm.MethodName) prog_10_method_15_code (2 : Nat) (Option.some FieldType.int) ∈ TT := tt_at 744 (by decide +kernel) rfl
theorem tw745 : Cond.methodLink "StereoWarLaw" (43 : Nat) ({ cls := "StereoWarModel", name := "say", desc := "(I)I" } : Jvm.MethodName) ∈ TT := tt_at 745 (by decide +kernel) rfl
theorem tw746 : Cond.instanceMethod ({ cls := "StereoWarModel", name := "say", desc := "(I)I" } : Jvm.MethodName) ∈ TT := tt_at 746 (by decide +kernel) rfl
theorem tw747 : Cond.selects "StereoWarModel" ({ cls := "StereoWarModel", name := "say", desc := "(I)I" } : Jvm.MethodName) ({ cls := "StereoWarModel", name := "say", desc := "(I)I" } : Jvm.MethodName) ∈ TT := tt_at 747 (by decide +kernel) rfl
theorem tw748 : Cond.code ({ cls := "StereoWarModel", name := "say", desc := "(I)I" } : Jvm.MethodName) prog_10_method_16_code (2 : Nat) (Option.some FieldType.int) ∈ TT := tt_at 748 (by decide +kernel) rfl
theorem tw749 : Cond.constantLong "StereoWarModel" (90 : Nat) (33 : Int64) ∈ TT := tt_at 749 (by decide +kernel) rfl
theorem tw750 : Cond.constantLong "StereoWarModel" (92 : Nat) (126 : Int64) ∈ TT := tt_at 750 (by decide +kernel) rfl
theorem tw751 : Cond.methodLink "StereoWarLaw" (48 : Nat) ({ cls := "StereoWarModel", name := "wipe", desc := "()I" } : Jvm.MethodName) ∈ TT := tt_at 751 (by decide +kernel) rfl
theorem tw752 : Cond.instanceMethod ({ cls := "StereoWarModel", name := "wipe", desc := "()I" } : Jvm.MethodName) ∈ TT := tt_at 752 (by decide +kernel) rfl
theorem tw753 : Cond.selects "StereoWarModel" ({ cls := "StereoWarModel", name := "wipe", desc := "()I" } : Jvm.MethodName) ({ cls := "StereoWarModel", name := "wipe", desc := "()I" } : Jvm.MethodName) ∈ TT := tt_at 753 (by decide +kernel) rfl
theorem tw754 : Cond.code ({ cls := "StereoWarModel", name := "wipe", desc := "()I" } : Jvm.MethodName) prog_10_method_17_code (2 : Nat) (Option.some FieldType.int) ∈ TT := tt_at 754 (by decide +kernel) rfl
theorem tw755 : Cond.methodLink "StereoWarLaw" (52 : Nat) ({ cls := "StereoWarModel", name := "fault", desc := "()I" } : Jvm.MethodName) ∈ TT := tt_at 755 (by decide +kernel) rfl
theorem tw756 : Cond.instanceMethod ({ cls := "StereoWarModel", name := "fault", desc := "()I" } : Jvm.MethodName) ∈ TT := tt_at 756 (by decide +kernel) rfl
theorem tw757 : Cond.selects "StereoWarModel" ({ cls := "StereoWarModel", name := "fault", desc := "()I" } : Jvm.MethodName) ({ cls := "StereoWarModel", name := "fault", desc := "()I" } : Jvm.MethodName) ∈ TT := tt_at 757 (by decide +kernel) rfl
theorem tw758 : Cond.code ({ cls := "StereoWarModel", name := "fault", desc := "()I" } : Jvm.MethodName) prog_10_method_18_code (5 : Nat) (Option.some FieldType.int) ∈ TT := tt_at 758 (by decide +kernel) rfl
theorem tw759 : Cond.methodLink "StereoWarModel" (106 : Nat) ({ cls := "StereoWarModel", name := "keepLeft", desc := "(Z)V" } : Jvm.MethodName) ∈ TT := tt_at 759 (by decide +kernel) rfl
theorem tw761 : Cond.instanceMethod ({ cls := "StereoWarModel", name := "keepLeft", desc := "(Z)V" } : Jvm.MethodName) ∈ TT := tt_at 761 (by decide +kernel) rfl
theorem tw762 : Cond.code ({ cls := "StereoWarModel", name := "keepLeft", desc := "(Z)V" } : Jvm.MethodName) prog_10_method_19_code (2 : Nat) (none) ∈ TT := tt_at 762 (by decide +kernel) rfl
theorem tw763 : Cond.methodLink "StereoWarLaw" (56 : Nat) ({ cls := "StereoWarModel", name := "judge", desc := "(I)I" } : Jvm.MethodName) ∈ TT := tt_at 763 (by decide +kernel) rfl
theorem tw764 : Cond.instanceMethod ({ cls := "StereoWarModel", name := "judge", desc := "(I)I" } : Jvm.MethodName) ∈ TT := tt_at 764 (by decide +kernel) rfl
theorem tw765 : Cond.selects "StereoWarModel" ({ cls := "StereoWarModel", name := "judge", desc := "(I)I" } : Jvm.MethodName) ({ cls := "StereoWarModel", name := "judge", desc := "(I)I" } : Jvm.MethodName) ∈ TT := tt_at 765 (by decide +kernel) rfl
theorem tw766 : Cond.code ({ cls := "StereoWarModel", name := "judge", desc := "(I)I" } : Jvm.MethodName) prog_10_method_26_code (3 : Nat) (Option.some FieldType.int) ∈ TT := tt_at 766 (by decide +kernel) rfl
theorem tw767 : Cond.constantLong "StereoWarModel" (134 : Nat) (3 : Int64) ∈ TT := tt_at 767 (by decide +kernel) rfl
theorem tw768 : Cond.methodLink "StereoWarModel" (136 : Nat) ({ cls := "StereoWarModel", name := "refusal", desc := "()I" } : Jvm.MethodName) ∈ TT := tt_at 768 (by decide +kernel) rfl
theorem tw770 : Cond.instanceMethod ({ cls := "StereoWarModel", name := "refusal", desc := "()I" } : Jvm.MethodName) ∈ TT := tt_at 770 (by decide +kernel) rfl
theorem tw771 : Cond.code ({ cls := "StereoWarModel", name := "refusal", desc := "()I" } : Jvm.MethodName) prog_10_method_25_code (3 : Nat) (Option.some FieldType.int) ∈ TT := tt_at 771 (by decide +kernel) rfl
theorem tw772 : Cond.methodLink "StereoWarModel" (121 : Nat) ({ cls := "StereoWarModel", name := "fault", desc := "()I" } : Jvm.MethodName) ∈ TT := tt_at 772 (by decide +kernel) rfl
theorem tw773 : Cond.methodLink "StereoWarModel" (131 : Nat) ({ cls := "StereoWarModel", name := "whyNot", desc := "(I)I" } : Jvm.MethodName) ∈ TT := tt_at 773 (by decide +kernel) rfl
theorem tw775 : Cond.instanceMethod ({ cls := "StereoWarModel", name := "whyNot", desc := "(I)I" } : Jvm.MethodName) ∈ TT := tt_at 775 (by decide +kernel) rfl
theorem tw776 : Cond.code ({ cls := "StereoWarModel", name := "whyNot", desc := "(I)I" } : Jvm.MethodName) prog_10_method_24_code (4 : Nat) (Option.some FieldType.int) ∈ TT := tt_at 776 (by decide +kernel) rfl
theorem tw777 : Cond.methodLink "StereoWarLaw" (60 : Nat) ({ cls := "StereoWarModel", name := "kinds", desc := "(I)I" } : Jvm.MethodName) ∈ TT := tt_at 777 (by decide +kernel) rfl
theorem tw778 : Cond.instanceMethod ({ cls := "StereoWarModel", name := "kinds", desc := "(I)I" } : Jvm.MethodName) ∈ TT := tt_at 778 (by decide +kernel) rfl
theorem tw779 : Cond.selects "StereoWarModel" ({ cls := "StereoWarModel", name := "kinds", desc := "(I)I" } : Jvm.MethodName) ({ cls := "StereoWarModel", name := "kinds", desc := "(I)I" } : Jvm.MethodName) ∈ TT := tt_at 779 (by decide +kernel) rfl
theorem tw780 : Cond.code ({ cls := "StereoWarModel", name := "kinds", desc := "(I)I" } : Jvm.MethodName) prog_10_method_27_code (8 : Nat) (Option.some FieldType.int) ∈ TT := tt_at 780 (by decide +kernel) rfl
theorem tw781 : Cond.methodLink "StereoWarModel" (139 : Nat) ({ cls := "StereoWarModel", name := "kindOf", desc := "(II)I" } : Jvm.MethodName) ∈ TT := tt_at 781 (by decide +kernel) rfl
theorem tw783 : Cond.instanceMethod ({ cls := "StereoWarModel", name := "kindOf", desc := "(II)I" } : Jvm.MethodName) ∈ TT := tt_at 783 (by decide +kernel) rfl
theorem tw784 : Cond.code ({ cls := "StereoWarModel", name := "kindOf", desc := "(II)I" } : Jvm.MethodName) prog_10_method_23_code (7 : Nat) (Option.some FieldType.int) ∈ TT := tt_at 784 (by decide +kernel) rfl
theorem tw785 : Cond.methodLink "StereoWarModel" (110 : Nat) ({ cls := "StereoWarModel", name := "areBoth", desc := "(III)Z" } : Jvm.MethodName) ∈ TT := tt_at 785 (by decide +kernel) rfl
theorem tw787 : Cond.instanceMethod ({ cls := "StereoWarModel", name := "areBoth", desc := "(III)Z" } : Jvm.MethodName) ∈ TT := tt_at 787 (by decide +kernel) rfl
theorem tw788 : Cond.code ({ cls := "StereoWarModel", name := "areBoth", desc := "(III)Z" } : Jvm.MethodName) prog_10_method_21_code (4 : Nat) (Option.some FieldType.boolean) ∈ TT := tt_at 788 (by decide +kernel) rfl
theorem tw789 : Cond.methodLink "StereoWarModel" (114 : Nat) ({ cls := "StereoWarModel", name := "shiftOf", desc := "(III)I" } : Jvm.MethodName) ∈ TT := tt_at 789 (by decide +kernel) rfl
theorem tw791 : Cond.instanceMethod ({ cls := "StereoWarModel", name := "shiftOf", desc := "(III)I" } : Jvm.MethodName) ∈ TT := tt_at 791 (by decide +kernel) rfl
theorem tw792 : Cond.code ({ cls := "StereoWarModel", name := "shiftOf", desc := "(III)I" } : Jvm.MethodName) prog_10_method_20_code (4 : Nat) (Option.some FieldType.int) ∈ TT := tt_at 792 (by decide +kernel) rfl
theorem tw793 : Cond.methodLink "StereoWarModel" (117 : Nat) ({ cls := "StereoWarModel", name := "kindBy", desc := "(ZZ)I" } : Jvm.MethodName) ∈ TT := tt_at 793 (by decide +kernel) rfl
theorem tw794 : Cond.static ({ cls := "StereoWarModel", name := "kindBy", desc := "(ZZ)I" } : Jvm.MethodName) ∈ TT := tt_at 794 (by decide +kernel) rfl
theorem tw795 : Cond.code ({ cls := "StereoWarModel", name := "kindBy", desc := "(ZZ)I" } : Jvm.MethodName) prog_10_method_22_code (2 : Nat) (Option.some FieldType.int) ∈ TT := tt_at 795 (by decide +kernel) rfl
theorem tw796 : Cond.methodLink "StereoWarLaw" (65 : Nat) ({ cls := "StereoWarModel", name := "kind", desc := "(II)I" } : Jvm.MethodName) ∈ TT := tt_at 796 (by decide +kernel) rfl
theorem tw797 : Cond.instanceMethod ({ cls := "StereoWarModel", name := "kind", desc := "(II)I" } : Jvm.MethodName) ∈ TT := tt_at 797 (by decide +kernel) rfl
theorem tw798 : Cond.selects "StereoWarModel" ({ cls := "StereoWarModel", name := "kind", desc := "(II)I" } : Jvm.MethodName) ({ cls := "StereoWarModel", name := "kind", desc := "(II)I" } : Jvm.MethodName) ∈ TT := tt_at 798 (by decide +kernel) rfl
theorem tw799 : Cond.code ({ cls := "StereoWarModel", name := "kind", desc := "(II)I" } : Jvm.MethodName) prog_10_method_28_code (3 : Nat) (Option.some FieldType.int) ∈ TT := tt_at 799 (by decide +kernel) rfl
theorem tw800 : Cond.methodLink "StereoWarModel" (143 : Nat) ({ cls := "StereoWarModel", name := "areTwo", desc := "(II)Z" } : Jvm.MethodName) ∈ TT := tt_at 800 (by decide +kernel) rfl
theorem tw802 : Cond.instanceMethod ({ cls := "StereoWarModel", name := "areTwo", desc := "(II)Z" } : Jvm.MethodName) ∈ TT := tt_at 802 (by decide +kernel) rfl
theorem tw803 : Cond.code ({ cls := "StereoWarModel", name := "areTwo", desc := "(II)Z" } : Jvm.MethodName) prog_10_method_8_code (3 : Nat) (Option.some FieldType.boolean) ∈ TT := tt_at 803 (by decide +kernel) rfl
theorem tw804 : Cond.methodLink "StereoWarLaw" (69 : Nat) ({ cls := "StereoWarModel", name := "shift", desc := "(III)I" } : Jvm.MethodName) ∈ TT := tt_at 804 (by decide +kernel) rfl
theorem tw805 : Cond.instanceMethod ({ cls := "StereoWarModel", name := "shift", desc := "(III)I" } : Jvm.MethodName) ∈ TT := tt_at 805 (by decide +kernel) rfl
theorem tw806 : Cond.selects "StereoWarModel" ({ cls := "StereoWarModel", name := "shift", desc := "(III)I" } : Jvm.MethodName) ({ cls := "StereoWarModel", name := "shift", desc := "(III)I" } : Jvm.MethodName) ∈ TT := tt_at 806 (by decide +kernel) rfl
theorem tw807 : Cond.code ({ cls := "StereoWarModel", name := "shift", desc := "(III)I" } : Jvm.MethodName) prog_10_method_29_code (4 : Nat) (Option.some FieldType.int) ∈ TT := tt_at 807 (by decide +kernel) rfl
theorem tw808 : Cond.methodLink "StereoWarLaw" (73 : Nat) ({ cls := "StereoWarModel", name := "near", desc := "(III)I" } : Jvm.MethodName) ∈ TT := tt_at 808 (by decide +kernel) rfl
theorem tw809 : Cond.instanceMethod ({ cls := "StereoWarModel", name := "near", desc := "(III)I" } : Jvm.MethodName) ∈ TT := tt_at 809 (by decide +kernel) rfl
theorem tw810 : Cond.selects "StereoWarModel" ({ cls := "StereoWarModel", name := "near", desc := "(III)I" } : Jvm.MethodName) ({ cls := "StereoWarModel", name := "near", desc := "(III)I" } : Jvm.MethodName) ∈ TT := tt_at 810 (by decide +kernel) rfl
theorem tw811 : Cond.code ({ cls := "StereoWarModel", name := "near", desc := "(III)I" } : Jvm.MethodName) prog_10_method_30_code (7 : Nat) (Option.some FieldType.int) ∈ TT := tt_at 811 (by decide +kernel) rfl
theorem tw812 : Cond.methodLink "StereoWarLaw" (77 : Nat) ({ cls := "StereoWarModel", name := "match", desc := "(II)I" } : Jvm.MethodName) ∈ TT := tt_at 812 (by decide +kernel) rfl
theorem tw813 : Cond.instanceMethod ({ cls := "StereoWarModel", name := "match", desc := "(II)I" } : Jvm.MethodName) ∈ TT := tt_at 813 (by decide +kernel) rfl
theorem tw814 : Cond.selects "StereoWarModel" ({ cls := "StereoWarModel", name := "match", desc := "(II)I" } : Jvm.MethodName) ({ cls := "StereoWarModel", name := "match", desc := "(II)I" } : Jvm.MethodName) ∈ TT := tt_at 814 (by decide +kernel) rfl
theorem tw815 : Cond.code ({ cls := "StereoWarModel", name := "match", desc := "(II)I" } : Jvm.MethodName) prog_10_method_35_code (7 : Nat) (Option.some FieldType.int) ∈ TT := tt_at 815 (by decide +kernel) rfl
theorem tw816 : Cond.constantLong "StereoWarModel" (153 : Nat) (1023 : Int64) ∈ TT := tt_at 816 (by decide +kernel) rfl
theorem tw817 : Cond.methodLink "StereoWarModel" (155 : Nat) ({ cls := "StereoWarModel", name := "findMost", desc := "(I)V" } : Jvm.MethodName) ∈ TT := tt_at 817 (by decide +kernel) rfl
theorem tw819 : Cond.instanceMethod ({ cls := "StereoWarModel", name := "findMost", desc := "(I)V" } : Jvm.MethodName) ∈ TT := tt_at 819 (by decide +kernel) rfl
theorem tw820 : Cond.code ({ cls := "StereoWarModel", name := "findMost", desc := "(I)V" } : Jvm.MethodName) prog_10_method_33_code (9 : Nat) (none) ∈ TT := tt_at 820 (by decide +kernel) rfl
theorem tw821 : Cond.methodLink "StereoWarModel" (147 : Nat) ({ cls := "StereoWarModel", name := "leastIn", desc := "(I)I" } : Jvm.MethodName) ∈ TT := tt_at 821 (by decide +kernel) rfl
theorem tw822 : Cond.static ({ cls := "StereoWarModel", name := "leastIn", desc := "(I)I" } : Jvm.MethodName) ∈ TT := tt_at 822 (by decide +kernel) rfl
theorem tw823 : Cond.code ({ cls := "StereoWarModel", name := "leastIn", desc := "(I)I" } : Jvm.MethodName) prog_10_method_32_code (2 : Nat) (Option.some FieldType.int) ∈ TT := tt_at 823 (by decide +kernel) rfl
theorem tw824 : Cond.methodLink "StereoWarModel" (150 : Nat) ({ cls := "StereoWarModel", name := "canPair", desc := "(II)Z" } : Jvm.MethodName) ∈ TT := tt_at 824 (by decide +kernel) rfl
theorem tw826 : Cond.instanceMethod ({ cls := "StereoWarModel", name := "canPair", desc := "(II)Z" } : Jvm.MethodName) ∈ TT := tt_at 826 (by decide +kernel) rfl
theorem tw827 : Cond.code ({ cls := "StereoWarModel", name := "canPair", desc := "(II)Z" } : Jvm.MethodName) prog_10_method_31_code (4 : Nat) (Option.some FieldType.boolean) ∈ TT := tt_at 827 (by decide +kernel) rfl
theorem tw828 : Cond.methodLink "StereoWarModel" (159 : Nat) ({ cls := "StereoWarModel", name := "mateOf", desc := "(I)I" } : Jvm.MethodName) ∈ TT := tt_at 828 (by decide +kernel) rfl
theorem tw830 : Cond.instanceMethod ({ cls := "StereoWarModel", name := "mateOf", desc := "(I)I" } : Jvm.MethodName) ∈ TT := tt_at 830 (by decide +kernel) rfl
theorem tw831 : Cond.code ({ cls := "StereoWarModel", name := "mateOf", desc := "(I)I" } : Jvm.MethodName) prog_10_method_34_code (6 : Nat) (Option.some FieldType.int) ∈ TT := tt_at 831 (by decide +kernel) rfl
theorem tw832 : Cond.methodLink "StereoWarLaw" (81 : Nat) ({ cls := "StereoWarModel", name := "stood", desc := "(II)I" } : Jvm.MethodName) ∈ TT := tt_at 832 (by decide +kernel) rfl
theorem tw833 : Cond.instanceMethod ({ cls := "StereoWarModel", name := "stood", desc := "(II)I" } : Jvm.MethodName) ∈ TT := tt_at 833 (by decide +kernel) rfl
theorem tw834 : Cond.selects "StereoWarModel" ({ cls := "StereoWarModel", name := "stood", desc := "(II)I" } : Jvm.MethodName) ({ cls := "StereoWarModel", name := "stood", desc := "(II)I" } : Jvm.MethodName) ∈ TT := tt_at 834 (by decide +kernel) rfl
theorem tw835 : Cond.code ({ cls := "StereoWarModel", name := "stood", desc := "(II)I" } : Jvm.MethodName) prog_10_method_37_code (5 : Nat) (Option.some FieldType.int) ∈ TT := tt_at 835 (by decide +kernel) rfl
theorem tw836 : Cond.methodLink "StereoWarModel" (162 : Nat) ({ cls := "StereoWarModel", name := "unlike", desc := "(III)I" } : Jvm.MethodName) ∈ TT := tt_at 836 (by decide +kernel) rfl
theorem tw838 : Cond.instanceMethod ({ cls := "StereoWarModel", name := "unlike", desc := "(III)I" } : Jvm.MethodName) ∈ TT := tt_at 838 (by decide +kernel) rfl
theorem tw839 : Cond.code ({ cls := "StereoWarModel", name := "unlike", desc := "(III)I" } : Jvm.MethodName) prog_10_method_36_code (6 : Nat) (Option.some FieldType.int) ∈ TT := tt_at 839 (by decide +kernel) rfl
theorem tw840 : Cond.methodLink "StereoWarLaw" (85 : Nat) ({ cls := "StereoWarModel", name := "forged", desc := "(II)I" } : Jvm.MethodName) ∈ TT := tt_at 840 (by decide +kernel) rfl
theorem tw841 : Cond.instanceMethod ({ cls := "StereoWarModel", name := "forged", desc := "(II)I" } : Jvm.MethodName) ∈ TT := tt_at 841 (by decide +kernel) rfl
theorem tw842 : Cond.selects "StereoWarModel" ({ cls := "StereoWarModel", name := "forged", desc := "(II)I" } : Jvm.MethodName) ({ cls := "StereoWarModel", name := "forged", desc := "(II)I" } : Jvm.MethodName) ∈ TT := tt_at 842 (by decide +kernel) rfl
theorem tw843 : Cond.code ({ cls := "StereoWarModel", name := "forged", desc := "(II)I" } : Jvm.MethodName) prog_10_method_38_code (7 : Nat) (Option.some FieldType.int) ∈ TT := tt_at 843 (by decide +kernel) rfl
theorem tw844 : Cond.methodLink "StereoWarLaw" (89 : Nat) ({ cls := "StereoWarModel", name := "ahead", desc := "(II)I" } : Jvm.MethodName) ∈ TT := tt_at 844 (by decide +kernel) rfl
theorem tw845 : Cond.instanceMethod ({ cls := "StereoWarModel", name := "ahead", desc := "(II)I" } : Jvm.MethodName) ∈ TT := tt_at 845 (by decide +kernel) rfl
theorem tw846 : Cond.selects "StereoWarModel" ({ cls := "StereoWarModel", name := "ahead", desc := "(II)I" } : Jvm.MethodName) ({ cls := "StereoWarModel", name := "ahead", desc := "(II)I" } : Jvm.MethodName) ∈ TT := tt_at 846 (by decide +kernel) rfl
theorem tw847 : Cond.code ({ cls := "StereoWarModel", name := "ahead", desc := "(II)I" } : Jvm.MethodName) prog_10_method_40_code (5 : Nat) (Option.some FieldType.int) ∈ TT := tt_at 847 (by decide +kernel) rfl
theorem tw848 : Cond.methodLink "StereoWarModel" (171 : Nat) ({ cls := "StereoWarModel", name := "findMinutes", desc := "(I)V" } : Jvm.MethodName) ∈ TT := tt_at 848 (by decide +kernel) rfl
theorem tw850 : Cond.instanceMethod ({ cls := "StereoWarModel", name := "findMinutes", desc := "(I)V" } : Jvm.MethodName) ∈ TT := tt_at 850 (by decide +kernel) rfl
theorem tw851 : Cond.code ({ cls := "StereoWarModel", name := "findMinutes", desc := "(I)V" } : Jvm.MethodName) prog_10_method_39_code (3 : Nat) (none) ∈ TT := tt_at 851 (by decide +kernel) rfl
theorem tw852 : Cond.methodLink "StereoWarLaw" (93 : Nat) ({ cls := "StereoWarModel", name := "missing", desc := "(III)I" } : Jvm.MethodName) ∈ TT := tt_at 852 (by decide +kernel) rfl
theorem tw853 : Cond.instanceMethod ({ cls := "StereoWarModel", name := "missing", desc := "(III)I" } : Jvm.MethodName) ∈ TT := tt_at 853 (by decide +kernel) rfl
theorem tw854 : Cond.selects "StereoWarModel" ({ cls := "StereoWarModel", name := "missing", desc := "(III)I" } : Jvm.MethodName) ({ cls := "StereoWarModel", name := "missing", desc := "(III)I" } : Jvm.MethodName) ∈ TT := tt_at 854 (by decide +kernel) rfl
theorem tw855 : Cond.code ({ cls := "StereoWarModel", name := "missing", desc := "(III)I" } : Jvm.MethodName) prog_10_method_41_code (8 : Nat) (Option.some FieldType.int) ∈ TT := tt_at 855 (by decide +kernel) rfl
theorem tw856 : Cond.constantLong "StereoWarModel" (174 : Nat) (2 : Int64) ∈ TT := tt_at 856 (by decide +kernel) rfl
theorem tw857 : Cond.methodLink "StereoWarLaw" (97 : Nat) ({ cls := "StereoWarModel", name := "eyes", desc := "()I" } : Jvm.MethodName) ∈ TT := tt_at 857 (by decide +kernel) rfl
theorem tw858 : Cond.instanceMethod ({ cls := "StereoWarModel", name := "eyes", desc := "()I" } : Jvm.MethodName) ∈ TT := tt_at 858 (by decide +kernel) rfl
theorem tw859 : Cond.selects "StereoWarModel" ({ cls := "StereoWarModel", name := "eyes", desc := "()I" } : Jvm.MethodName) ({ cls := "StereoWarModel", name := "eyes", desc := "()I" } : Jvm.MethodName) ∈ TT := tt_at 859 (by decide +kernel) rfl
theorem tw860 : Cond.code ({ cls := "StereoWarModel", name := "eyes", desc := "()I" } : Jvm.MethodName) prog_10_method_42_code (7 : Nat) (Option.some FieldType.int) ∈ TT := tt_at 860 (by decide +kernel) rfl
theorem tw861 : Cond.methodLink "StereoWarLaw" (102 : Nat) ({ cls := "StereoWarModel", name := "late", desc := "(IIIIIII)J" } : Jvm.MethodName) ∈ TT := tt_at 861 (by decide +kernel) rfl
theorem tw862 : Cond.instanceMethod ({ cls := "StereoWarModel", name := "late", desc := "(IIIIIII)J" } : Jvm.MethodName) ∈ TT := tt_at 862 (by decide +kernel) rfl
theorem tw863 : Cond.selects "StereoWarModel" ({ cls := "StereoWarModel", name := "late", desc := "(IIIIIII)J" } : Jvm.MethodName) ({ cls := "StereoWarModel", name := "late", desc := "(IIIIIII)J" } : Jvm.MethodName) ∈ TT := tt_at 863 (by decide +kernel) rfl
theorem tw864 : Cond.code ({ cls := "StereoWarModel", name := "late", desc := "(IIIIIII)J" } : Jvm.MethodName) prog_10_method_45_code (16 : Nat) (Option.some FieldType.long) ∈ TT := tt_at 864 (by decide +kernel) rfl
theorem tw865 : Cond.constantLong "StereoWarModel" (176 : Nat) (8 : Int64) ∈ TT := tt_at 865 (by decide +kernel) rfl
theorem tw866 : Cond.constantLong "StereoWarModel" (178 : Nat) (10 : Int64) ∈ TT := tt_at 866 (by decide +kernel) rfl
theorem tw867 : Cond.constantLong "StereoWarModel" (180 : Nat) (-1000000000000000002 : Int64) ∈ TT := tt_at 867 (by decide +kernel) rfl
theorem tw868 : Cond.methodLink "StereoWarModel" (182 : Nat) ({ cls := "StereoWarModel", name := "lateKind", desc := "(IIII)I" } : Jvm.MethodName) ∈ TT := tt_at 868 (by decide +kernel) rfl
theorem tw870 : Cond.instanceMethod ({ cls := "StereoWarModel", name := "lateKind", desc := "(IIII)I" } : Jvm.MethodName) ∈ TT := tt_at 870 (by decide +kernel) rfl
theorem tw871 : Cond.code ({ cls := "StereoWarModel", name := "lateKind", desc := "(IIII)I" } : Jvm.MethodName) prog_10_method_44_code (11 : Nat) (Option.some FieldType.int) ∈ TT := tt_at 871 (by decide +kernel) rfl
theorem tw872 : Cond.methodLink "StereoWarModel" (186 : Nat) ({ cls := "StereoWarModel", name := "lowest", desc := "(JJI)J" } : Jvm.MethodName) ∈ TT := tt_at 872 (by decide +kernel) rfl
theorem tw873 : Cond.static ({ cls := "StereoWarModel", name := "lowest", desc := "(JJI)J" } : Jvm.MethodName) ∈ TT := tt_at 873 (by decide +kernel) rfl
theorem tw874 : Cond.code ({ cls := "StereoWarModel", name := "lowest", desc := "(JJI)J" } : Jvm.MethodName) prog_10_method_43_code (11 : Nat) (Option.some FieldType.long) ∈ TT := tt_at 874 (by decide +kernel) rfl
theorem tw875 : Cond.methodLink "StereoWarLaw" (106 : Nat) ({ cls := "StereoWarModel", name := "past", desc := "(III)I" } : Jvm.MethodName) ∈ TT := tt_at 875 (by decide +kernel) rfl
theorem tw876 : Cond.instanceMethod ({ cls := "StereoWarModel", name := "past", desc := "(III)I" } : Jvm.MethodName) ∈ TT := tt_at 876 (by decide +kernel) rfl
theorem tw877 : Cond.selects "StereoWarModel" ({ cls := "StereoWarModel", name := "past", desc := "(III)I" } : Jvm.MethodName) ({ cls := "StereoWarModel", name := "past", desc := "(III)I" } : Jvm.MethodName) ∈ TT := tt_at 877 (by decide +kernel) rfl
theorem tw878 : Cond.code ({ cls := "StereoWarModel", name := "past", desc := "(III)I" } : Jvm.MethodName) prog_10_method_46_code (8 : Nat) (Option.some FieldType.int) ∈ TT := tt_at 878 (by decide +kernel) rfl
theorem tw879 : Cond.methodLink "StereoWarLaw" (110 : Nat) ({ cls := "StereoWarModel", name := "best", desc := "(II)I" } : Jvm.MethodName) ∈ TT := tt_at 879 (by decide +kernel) rfl
theorem tw880 : Cond.instanceMethod ({ cls := "StereoWarModel", name := "best", desc := "(II)I" } : Jvm.MethodName) ∈ TT := tt_at 880 (by decide +kernel) rfl
theorem tw881 : Cond.selects "StereoWarModel" ({ cls := "StereoWarModel", name := "best", desc := "(II)I" } : Jvm.MethodName) ({ cls := "StereoWarModel", name := "best", desc := "(II)I" } : Jvm.MethodName) ∈ TT := tt_at 881 (by decide +kernel) rfl
theorem tw882 : Cond.code ({ cls := "StereoWarModel", name := "best", desc := "(II)I" } : Jvm.MethodName) prog_10_method_48_code (5 : Nat) (Option.some FieldType.int) ∈ TT := tt_at 882 (by decide +kernel) rfl
theorem tw883 : Cond.methodLink "StereoWarModel" (190 : Nat) ({ cls := "StereoWarModel", name := "shownFrom", desc := "(II)I" } : Jvm.MethodName) ∈ TT := tt_at 883 (by decide +kernel) rfl
theorem tw885 : Cond.instanceMethod ({ cls := "StereoWarModel", name := "shownFrom", desc := "(II)I" } : Jvm.MethodName) ∈ TT := tt_at 885 (by decide +kernel) rfl
theorem tw886 : Cond.code ({ cls := "StereoWarModel", name := "shownFrom", desc := "(II)I" } : Jvm.MethodName) prog_10_method_47_code (5 : Nat) (Option.some FieldType.int) ∈ TT := tt_at 886 (by decide +kernel) rfl
theorem tw887 : Cond.methodLink "StereoWarLaw" (114 : Nat) ({ cls := "StereoWarModel", name := "year", desc := "(III)I" } : Jvm.MethodName) ∈ TT := tt_at 887 (by decide +kernel) rfl
theorem tw888 : Cond.instanceMethod ({ cls := "StereoWarModel", name := "year", desc := "(III)I" } : Jvm.MethodName) ∈ TT := tt_at 888 (by decide +kernel) rfl
theorem tw889 : Cond.selects "StereoWarModel" ({ cls := "StereoWarModel", name := "year", desc := "(III)I" } : Jvm.MethodName) ({ cls := "StereoWarModel", name := "year", desc := "(III)I" } : Jvm.MethodName) ∈ TT := tt_at 889 (by decide +kernel) rfl
theorem tw890 : Cond.code ({ cls := "StereoWarModel", name := "year", desc := "(III)I" } : Jvm.MethodName) prog_10_method_49_code (9 : Nat) (Option.some FieldType.int) ∈ TT := tt_at 890 (by decide +kernel) rfl
theorem tw891 : Cond.constantLong "StereoWarModel" (193 : Nat) (9999 : Int64) ∈ TT := tt_at 891 (by decide +kernel) rfl
theorem tw892 : Cond.constantLong "StereoWarModel" (195 : Nat) (75 : Int64) ∈ TT := tt_at 892 (by decide +kernel) rfl
theorem tw893 : Cond.constantLong "StereoWarModel" (197 : Nat) (74 : Int64) ∈ TT := tt_at 893 (by decide +kernel) rfl
theorem tw894 : Cond.constantLong "StereoWarModel" (199 : Nat) (65537 : Int64) ∈ TT := tt_at 894 (by decide +kernel) rfl
theorem tw895 : Cond.methodLink "StereoWarLaw" (118 : Nat) ({ cls := "StereoWarModel", name := "image", desc := "(I)I" } : Jvm.MethodName) ∈ TT := tt_at 895 (by decide +kernel) rfl
theorem tw896 : Cond.instanceMethod ({ cls := "StereoWarModel", name := "image", desc := "(I)I" } : Jvm.MethodName) ∈ TT := tt_at 896 (by decide +kernel) rfl
theorem tw897 : Cond.selects "StereoWarModel" ({ cls := "StereoWarModel", name := "image", desc := "(I)I" } : Jvm.MethodName) ({ cls := "StereoWarModel", name := "image", desc := "(I)I" } : Jvm.MethodName) ∈ TT := tt_at 897 (by decide +kernel) rfl
theorem tw898 : Cond.code ({ cls := "StereoWarModel", name := "image", desc := "(I)I" } : Jvm.MethodName) prog_10_method_52_code (2 : Nat) (Option.some FieldType.int) ∈ TT := tt_at 898 (by decide +kernel) rfl
theorem tw899 : Cond.methodLink "StereoWarModel" (211 : Nat) ({ cls := "StereoWarModel", name := "passAll", desc := "()V" } : Jvm.MethodName) ∈ TT := tt_at 899 (by decide +kernel) rfl
theorem tw901 : Cond.instanceMethod ({ cls := "StereoWarModel", name := "passAll", desc := "()V" } : Jvm.MethodName) ∈ TT := tt_at 901 (by decide +kernel) rfl
theorem tw902 : Cond.code ({ cls := "StereoWarModel", name := "passAll", desc := "()V" } : Jvm.MethodName) prog_10_method_51_code (2 : Nat) (none) ∈ TT := tt_at 902 (by decide +kernel) rfl
theorem tw903 : Cond.methodLink "StereoWarModel" (208 : Nat) ({ cls := "StereoWarModel", name := "pass", desc := "(I)I" } : Jvm.MethodName) ∈ TT := tt_at 903 (by decide +kernel) rfl
theorem tw905 : Cond.instanceMethod ({ cls := "StereoWarModel", name := "pass", desc := "(I)I" } : Jvm.MethodName) ∈ TT := tt_at 905 (by decide +kernel) rfl
theorem tw906 : Cond.code ({ cls := "StereoWarModel", name := "pass", desc := "(I)I" } : Jvm.MethodName) prog_10_method_50_code (3 : Nat) (Option.some FieldType.int) ∈ TT := tt_at 906 (by decide +kernel) rfl
theorem tw907 : Cond.methodLink "StereoWarLaw" (122 : Nat) ({ cls := "StereoWarModel", name := "restore", desc := "(I)I" } : Jvm.MethodName) ∈ TT := tt_at 907 (by decide +kernel) rfl
theorem tw908 : Cond.instanceMethod ({ cls := "StereoWarModel", name := "restore", desc := "(I)I" } : Jvm.MethodName) ∈ TT := tt_at 908 (by decide +kernel) rfl
theorem tw909 : Cond.selects "StereoWarModel" ({ cls := "StereoWarModel", name := "restore", desc := "(I)I" } : Jvm.MethodName) ({ cls := "StereoWarModel", name := "restore", desc := "(I)I" } : Jvm.MethodName) ∈ TT := tt_at 909 (by decide +kernel) rfl
theorem tw910 : Cond.code ({ cls := "StereoWarModel", name := "restore", desc := "(I)I" } : Jvm.MethodName) prog_10_method_53_code (2 : Nat) (Option.some FieldType.int) ∈ TT := tt_at 910 (by decide +kernel) rfl
theorem tw911 : Cond.methodLink "StereoWarLaw" (126 : Nat) ({ cls := "StereoWarModel", name := "told", desc := "(I)I" } : Jvm.MethodName) ∈ TT := tt_at 911 (by decide +kernel) rfl
theorem tw912 : Cond.instanceMethod ({ cls := "StereoWarModel", name := "told", desc := "(I)I" } : Jvm.MethodName) ∈ TT := tt_at 912 (by decide +kernel) rfl
theorem tw913 : Cond.selects "StereoWarModel" ({ cls := "StereoWarModel", name := "told", desc := "(I)I" } : Jvm.MethodName) ({ cls := "StereoWarModel", name := "told", desc := "(I)I" } : Jvm.MethodName) ∈ TT := tt_at 913 (by decide +kernel) rfl
theorem tw914 : Cond.code ({ cls := "StereoWarModel", name := "told", desc := "(I)I" } : Jvm.MethodName) prog_10_method_55_code (4 : Nat) (Option.some FieldType.int) ∈ TT := tt_at 914 (by decide +kernel) rfl
theorem tw915 : Cond.constantLong "StereoWarModel" (214 : Nat) (100 : Int64) ∈ TT := tt_at 915 (by decide +kernel) rfl
theorem tw916 : Cond.constantLong "StereoWarModel" (216 : Nat) (1099 : Int64) ∈ TT := tt_at 916 (by decide +kernel) rfl
theorem tw917 : Cond.constantLong "StereoWarModel" (218 : Nat) (69 : Int64) ∈ TT := tt_at 917 (by decide +kernel) rfl
theorem tw918 : Cond.methodLink "StereoWarModel" (220 : Nat) ({ cls := "StereoWarModel", name := "toldOfThing", desc := "(II)I" } : Jvm.MethodName) ∈ TT := tt_at 918 (by decide +kernel) rfl
theorem tw920 : Cond.instanceMethod ({ cls := "StereoWarModel", name := "toldOfThing", desc := "(II)I" } : Jvm.MethodName) ∈ TT := tt_at 920 (by decide +kernel) rfl
theorem tw921 : Cond.code ({ cls := "StereoWarModel", name := "toldOfThing", desc := "(II)I" } : Jvm.MethodName) prog_10_method_54_code (3 : Nat) (Option.some FieldType.int) ∈ TT := tt_at 921 (by decide +kernel) rfl
theorem inX0 : ∀ w ∈ u_ws RX0 TX0 2, w ∈ TT := fun w h => List.mem_filter.mpr ⟨(by decide +kernel : ∀ w ∈ u_ws RX0 TX0 2, w ∈ lw_tbl) w h, List.all_eq_true.mp (by decide +kernel : (u_ws RX0 TX0 2).all goodWord = true) w h⟩
theorem inX1 : ∀ w ∈ u_ws RX1 TX1 6, w ∈ TT := fun w h => List.mem_filter.mpr ⟨(by decide +kernel : ∀ w ∈ u_ws RX1 TX1 6, w ∈ lw_tbl) w h, List.all_eq_true.mp (by decide +kernel : (u_ws RX1 TX1 6).all goodWord = true) w h⟩
theorem inX2 : ∀ w ∈ u_ws RX2 TX2 2, w ∈ TT := fun w h => List.mem_filter.mpr ⟨(by decide +kernel : ∀ w ∈ u_ws RX2 TX2 2, w ∈ lw_tbl) w h, List.all_eq_true.mp (by decide +kernel : (u_ws RX2 TX2 2).all goodWord = true) w h⟩
theorem inX3 : ∀ w ∈ u_ws RX3 TX3 3, w ∈ TT := fun w h => List.mem_filter.mpr ⟨(by decide +kernel : ∀ w ∈ u_ws RX3 TX3 3, w ∈ lw_tbl) w h, List.all_eq_true.mp (by decide +kernel : (u_ws RX3 TX3 3).all goodWord = true) w h⟩
theorem inX5 : ∀ w ∈ u_ws RX5 TX5 1, w ∈ TT := fun w h => List.mem_filter.mpr ⟨(by decide +kernel : ∀ w ∈ u_ws RX5 TX5 1, w ∈ lw_tbl) w h, List.all_eq_true.mp (by decide +kernel : (u_ws RX5 TX5 1).all goodWord = true) w h⟩
theorem inX6 : ∀ w ∈ u_ws RX6 TX6 4, w ∈ TT := fun w h => List.mem_filter.mpr ⟨(by decide +kernel : ∀ w ∈ u_ws RX6 TX6 4, w ∈ lw_tbl) w h, List.all_eq_true.mp (by decide +kernel : (u_ws RX6 TX6 4).all goodWord = true) w h⟩
theorem inX7 : ∀ w ∈ u_ws RX7 TX7 8, w ∈ TT := fun w h => List.mem_filter.mpr ⟨(by decide +kernel : ∀ w ∈ u_ws RX7 TX7 8, w ∈ lw_tbl) w h, List.all_eq_true.mp (by decide +kernel : (u_ws RX7 TX7 8).all goodWord = true) w h⟩
theorem inX8 : ∀ w ∈ u_ws RX8 TX8 24, w ∈ TT := fun w h => List.mem_filter.mpr ⟨(by decide +kernel : ∀ w ∈ u_ws RX8 TX8 24, w ∈ lw_tbl) w h, List.all_eq_true.mp (by decide +kernel : (u_ws RX8 TX8 24).all goodWord = true) w h⟩
