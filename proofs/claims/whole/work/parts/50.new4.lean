def m0 : Nat → Int32 := fun i => if i = 4 then 20 else 0
theorem c_X8_init {l : Launch} {D : va_G} {adr : Nat → Nat} {G : Nat → va_E} (hg : G 103 = .inr (7, [.int 0, .null, .null, .null, .int 0, .int 0, .null, .null, .int 0, .null, .null, .int 0, .int 0, .int 0, .int 0, .int 0, .null, .int 0, .int 0, .null, .null, .null, .int 0, .int 0])) :
    CT l D yX8_init cX8_init 1 none (rc 1 11 1486) [.ref (adr 103)] 104 adr G (PN 103 11 104 adr G (fun adr2 G2 => isM D adr2 G2 m0 (fun _ _ => 0))) := by
  refine CT.of (by decide +kernel) (Nat.le_of_ble_eq_true rfl) (fun Γ h he => ?_)
  have h : cx l D (rc 1 11 1486) RX8 cX8_init 1 Γ := h
  have he : ex "<init>" none (PN 103 11 104 adr G (fun adr2 G2 => isM D adr2 G2 m0 (fun _ _ => 0))) 11 1486 Γ := he
  show SX Γ 0 0 0 [(0, .ref (adr 103))] [] 104 adr G
  refine s_aload_n h dX8_init_0 rfl <|
    s_oinit h tw619 dX8_init_1 ⟨(by decide), (by decide)⟩ <|
    ?_
  have hb0 : ∀ j, j < 103 → G j = G j := fun _ _ => rfl
  have hz0 : ∀ j, j < 104 → adr j = adr j := fun _ _ => rfl
  have hg0 := hg
  refine s_aload_n h dX8_init_4 rfl <|
    s_bipush h dX8_init_5 bp_6 <|
    s_newI (n := 6) h dX8_init_7 rfl (by decide) (by decide) (by decide) (fun adr1 ha1 => ?_)
  rw [← ha1 103 (by omega)]
  refine pF_X8_7 h he dX8_init_9 (k := 103) (by omega) (by rw [up_ne _ _ (by omega)]; exact hg0) <|
    SX.gen (fun G1 hG1 => ?_)
  have hg1 : G1 103 = .inr (7, [.int 0, .ref (adr1 104), .null, .null, .int 0, .int 0, .null, .null, .int 0, .null, .null, .int 0, .int 0, .int 0, .int 0, .int 0, .null, .int 0, .int 0, .null, .null, .null, .int 0, .int 0]) := by rw [hG1, up_eq]
  have hc1 : G1 104 = aI D 6 (fun _ => 0) := by rw [hG1, up_ne _ _ (by omega), up_eq]
  have hb1 : ∀ j, j < 103 → G1 j = G j := fun j hj => by rw [hG1, up_ne _ _ (by omega), up_ne _ _ (by omega)]
  have hz1 : ∀ j, j < 104 → adr1 j = adr j := fun j hj => (ha1 j (by omega)).trans (hz0 j hj)
  clear hG1 hg0 hb0 hz0
  refine s_aload_n h dX8_init_12 rfl <|
    s_bipush h dX8_init_13 bp_6 <|
    s_newI (n := 6) h dX8_init_15 rfl (by decide) (by decide) (by decide) (fun adr2 ha2 => ?_)
  rw [← ha2 103 (by omega)]
  refine pF_X8_13 h he dX8_init_17 (k := 103) (by omega) (by rw [up_ne _ _ (by omega)]; exact hg1) <|
    SX.gen (fun G2 hG2 => ?_)
  have hg2 : G2 103 = .inr (7, [.int 0, .ref (adr1 104), .ref (adr2 105), .null, .int 0, .int 0, .null, .null, .int 0, .null, .null, .int 0, .int 0, .int 0, .int 0, .int 0, .null, .int 0, .int 0, .null, .null, .null, .int 0, .int 0]) := by rw [hG2, up_eq]
  rw [← ha2 104 (by omega)] at hg2
  have hc2 : G2 105 = aI D 6 (fun _ => 0) := by rw [hG2, up_ne _ _ (by omega), up_eq]
  replace hc1 : G2 104 = aI D 6 (fun _ => 0) := by rw [hG2, up_ne _ _ (by omega), up_ne _ _ (by omega)]; exact hc1
  have hb2 : ∀ j, j < 103 → G2 j = G j := fun j hj => by rw [hG2, up_ne _ _ (by omega), up_ne _ _ (by omega)]; exact hb1 j hj
  have hz2 : ∀ j, j < 104 → adr2 j = adr j := fun j hj => (ha2 j (by omega)).trans (hz1 j hj)
  clear hG2 hg1 hb1 hz1
  refine s_aload_n h dX8_init_20 rfl <|
    s_bipush h dX8_init_21 bp_6 <|
    s_newI (n := 6) h dX8_init_23 rfl (by decide) (by decide) (by decide) (fun adr3 ha3 => ?_)
  rw [← ha3 103 (by omega)]
  refine pF_X8_16 h he dX8_init_25 (k := 103) (by omega) (by rw [up_ne _ _ (by omega)]; exact hg2) <|
    SX.gen (fun G3 hG3 => ?_)
  have hg3 : G3 103 = .inr (7, [.int 0, .ref (adr2 104), .ref (adr2 105), .ref (adr3 106), .int 0, .int 0, .null, .null, .int 0, .null, .null, .int 0, .int 0, .int 0, .int 0, .int 0, .null, .int 0, .int 0, .null, .null, .null, .int 0, .int 0]) := by rw [hG3, up_eq]
  rw [← ha3 104 (by omega), ← ha3 105 (by omega)] at hg3
  have hc3 : G3 106 = aI D 6 (fun _ => 0) := by rw [hG3, up_ne _ _ (by omega), up_eq]
  replace hc1 : G3 104 = aI D 6 (fun _ => 0) := by rw [hG3, up_ne _ _ (by omega), up_ne _ _ (by omega)]; exact hc1
  replace hc2 : G3 105 = aI D 6 (fun _ => 0) := by rw [hG3, up_ne _ _ (by omega), up_ne _ _ (by omega)]; exact hc2
  have hb3 : ∀ j, j < 103 → G3 j = G j := fun j hj => by rw [hG3, up_ne _ _ (by omega), up_ne _ _ (by omega)]; exact hb2 j hj
  have hz3 : ∀ j, j < 104 → adr3 j = adr j := fun j hj => (ha3 j (by omega)).trans (hz2 j hj)
  clear hG3 hg2 hb2 hz2
  refine s_aload_n h dX8_init_28 rfl <|
    s_bipush h dX8_init_29 bp_60 <|
    s_newI (n := 60) h dX8_init_31 rfl (by decide) (by decide) (by decide) (fun adr4 ha4 => ?_)
  rw [← ha4 103 (by omega)]
  refine pF_X8_19 h he dX8_init_33 (k := 103) (by omega) (by rw [up_ne _ _ (by omega)]; exact hg3) <|
    SX.gen (fun G4 hG4 => ?_)
  have hg4 : G4 103 = .inr (7, [.int 0, .ref (adr3 104), .ref (adr3 105), .ref (adr3 106), .int 0, .int 0, .ref (adr4 107), .null, .int 0, .null, .null, .int 0, .int 0, .int 0, .int 0, .int 0, .null, .int 0, .int 0, .null, .null, .null, .int 0, .int 0]) := by rw [hG4, up_eq]
  rw [← ha4 104 (by omega), ← ha4 105 (by omega), ← ha4 106 (by omega)] at hg4
  have hc4 : G4 107 = aI D 60 (fun _ => 0) := by rw [hG4, up_ne _ _ (by omega), up_eq]
  replace hc1 : G4 104 = aI D 6 (fun _ => 0) := by rw [hG4, up_ne _ _ (by omega), up_ne _ _ (by omega)]; exact hc1
  replace hc2 : G4 105 = aI D 6 (fun _ => 0) := by rw [hG4, up_ne _ _ (by omega), up_ne _ _ (by omega)]; exact hc2
  replace hc3 : G4 106 = aI D 6 (fun _ => 0) := by rw [hG4, up_ne _ _ (by omega), up_ne _ _ (by omega)]; exact hc3
  have hb4 : ∀ j, j < 103 → G4 j = G j := fun j hj => by rw [hG4, up_ne _ _ (by omega), up_ne _ _ (by omega)]; exact hb3 j hj
  have hz4 : ∀ j, j < 104 → adr4 j = adr j := fun j hj => (ha4 j (by omega)).trans (hz3 j hj)
  clear hG4 hg3 hb3 hz3
  refine s_aload_n h dX8_init_36 rfl <|
    s_bipush h dX8_init_37 bp_60 <|
    s_newI (n := 60) h dX8_init_39 rfl (by decide) (by decide) (by decide) (fun adr5 ha5 => ?_)
  rw [← ha5 103 (by omega)]
  refine pF_X8_22 h he dX8_init_41 (k := 103) (by omega) (by rw [up_ne _ _ (by omega)]; exact hg4) <|
    SX.gen (fun G5 hG5 => ?_)
  have hg5 : G5 103 = .inr (7, [.int 0, .ref (adr4 104), .ref (adr4 105), .ref (adr4 106), .int 0, .int 0, .ref (adr4 107), .ref (adr5 108), .int 0, .null, .null, .int 0, .int 0, .int 0, .int 0, .int 0, .null, .int 0, .int 0, .null, .null, .null, .int 0, .int 0]) := by rw [hG5, up_eq]
  rw [← ha5 104 (by omega), ← ha5 105 (by omega), ← ha5 106 (by omega), ← ha5 107 (by omega)] at hg5
  have hc5 : G5 108 = aI D 60 (fun _ => 0) := by rw [hG5, up_ne _ _ (by omega), up_eq]
  replace hc1 : G5 104 = aI D 6 (fun _ => 0) := by rw [hG5, up_ne _ _ (by omega), up_ne _ _ (by omega)]; exact hc1
  replace hc2 : G5 105 = aI D 6 (fun _ => 0) := by rw [hG5, up_ne _ _ (by omega), up_ne _ _ (by omega)]; exact hc2
  replace hc3 : G5 106 = aI D 6 (fun _ => 0) := by rw [hG5, up_ne _ _ (by omega), up_ne _ _ (by omega)]; exact hc3
  replace hc4 : G5 107 = aI D 60 (fun _ => 0) := by rw [hG5, up_ne _ _ (by omega), up_ne _ _ (by omega)]; exact hc4
  have hb5 : ∀ j, j < 103 → G5 j = G j := fun j hj => by rw [hG5, up_ne _ _ (by omega), up_ne _ _ (by omega)]; exact hb4 j hj
  have hz5 : ∀ j, j < 104 → adr5 j = adr j := fun j hj => (ha5 j (by omega)).trans (hz4 j hj)
  clear hG5 hg4 hb4 hz4
  refine s_aload_n h dX8_init_44 rfl <|
    s_bipush h dX8_init_45 bp_30 <|
    s_newI (n := 30) h dX8_init_47 rfl (by decide) (by decide) (by decide) (fun adr6 ha6 => ?_)
  rw [← ha6 103 (by omega)]
  refine pF_X8_25 h he dX8_init_49 (k := 103) (by omega) (by rw [up_ne _ _ (by omega)]; exact hg5) <|
    SX.gen (fun G6 hG6 => ?_)
  have hg6 : G6 103 = .inr (7, [.int 0, .ref (adr5 104), .ref (adr5 105), .ref (adr5 106), .int 0, .int 0, .ref (adr5 107), .ref (adr5 108), .int 0, .ref (adr6 109), .null, .int 0, .int 0, .int 0, .int 0, .int 0, .null, .int 0, .int 0, .null, .null, .null, .int 0, .int 0]) := by rw [hG6, up_eq]
  rw [← ha6 104 (by omega), ← ha6 105 (by omega), ← ha6 106 (by omega), ← ha6 107 (by omega), ← ha6 108 (by omega)] at hg6
  have hc6 : G6 109 = aI D 30 (fun _ => 0) := by rw [hG6, up_ne _ _ (by omega), up_eq]
  replace hc1 : G6 104 = aI D 6 (fun _ => 0) := by rw [hG6, up_ne _ _ (by omega), up_ne _ _ (by omega)]; exact hc1
  replace hc2 : G6 105 = aI D 6 (fun _ => 0) := by rw [hG6, up_ne _ _ (by omega), up_ne _ _ (by omega)]; exact hc2
  replace hc3 : G6 106 = aI D 6 (fun _ => 0) := by rw [hG6, up_ne _ _ (by omega), up_ne _ _ (by omega)]; exact hc3
  replace hc4 : G6 107 = aI D 60 (fun _ => 0) := by rw [hG6, up_ne _ _ (by omega), up_ne _ _ (by omega)]; exact hc4
  replace hc5 : G6 108 = aI D 60 (fun _ => 0) := by rw [hG6, up_ne _ _ (by omega), up_ne _ _ (by omega)]; exact hc5
  have hb6 : ∀ j, j < 103 → G6 j = G j := fun j hj => by rw [hG6, up_ne _ _ (by omega), up_ne _ _ (by omega)]; exact hb5 j hj
  have hz6 : ∀ j, j < 104 → adr6 j = adr j := fun j hj => (ha6 j (by omega)).trans (hz5 j hj)
  clear hG6 hg5 hb5 hz5
  refine s_aload_n h dX8_init_52 rfl <|
    s_bipush h dX8_init_53 bp_30 <|
    s_newI (n := 30) h dX8_init_55 rfl (by decide) (by decide) (by decide) (fun adr7 ha7 => ?_)
  rw [← ha7 103 (by omega)]
  refine pF_X8_28 h he dX8_init_57 (k := 103) (by omega) (by rw [up_ne _ _ (by omega)]; exact hg6) <|
    SX.gen (fun G7 hG7 => ?_)
  have hg7 : G7 103 = .inr (7, [.int 0, .ref (adr6 104), .ref (adr6 105), .ref (adr6 106), .int 0, .int 0, .ref (adr6 107), .ref (adr6 108), .int 0, .ref (adr6 109), .ref (adr7 110), .int 0, .int 0, .int 0, .int 0, .int 0, .null, .int 0, .int 0, .null, .null, .null, .int 0, .int 0]) := by rw [hG7, up_eq]
  rw [← ha7 104 (by omega), ← ha7 105 (by omega), ← ha7 106 (by omega), ← ha7 107 (by omega), ← ha7 108 (by omega), ← ha7 109 (by omega)] at hg7
  have hc7 : G7 110 = aI D 30 (fun _ => 0) := by rw [hG7, up_ne _ _ (by omega), up_eq]
  replace hc1 : G7 104 = aI D 6 (fun _ => 0) := by rw [hG7, up_ne _ _ (by omega), up_ne _ _ (by omega)]; exact hc1
  replace hc2 : G7 105 = aI D 6 (fun _ => 0) := by rw [hG7, up_ne _ _ (by omega), up_ne _ _ (by omega)]; exact hc2
  replace hc3 : G7 106 = aI D 6 (fun _ => 0) := by rw [hG7, up_ne _ _ (by omega), up_ne _ _ (by omega)]; exact hc3
  replace hc4 : G7 107 = aI D 60 (fun _ => 0) := by rw [hG7, up_ne _ _ (by omega), up_ne _ _ (by omega)]; exact hc4
  replace hc5 : G7 108 = aI D 60 (fun _ => 0) := by rw [hG7, up_ne _ _ (by omega), up_ne _ _ (by omega)]; exact hc5
  replace hc6 : G7 109 = aI D 30 (fun _ => 0) := by rw [hG7, up_ne _ _ (by omega), up_ne _ _ (by omega)]; exact hc6
  have hb7 : ∀ j, j < 103 → G7 j = G j := fun j hj => by rw [hG7, up_ne _ _ (by omega), up_ne _ _ (by omega)]; exact hb6 j hj
  have hz7 : ∀ j, j < 104 → adr7 j = adr j := fun j hj => (ha7 j (by omega)).trans (hz6 j hj)
  clear hG7 hg6 hb6 hz6
  refine s_aload_n h dX8_init_60 rfl <|
    s_sipush h dX8_init_61 sp_1024 <|
    s_newI (n := 1024) h dX8_init_64 rfl (by decide) (by decide) (by decide) (fun adr8 ha8 => ?_)
  rw [← ha8 103 (by omega)]
  refine pF_X8_31 h he dX8_init_66 (k := 103) (by omega) (by rw [up_ne _ _ (by omega)]; exact hg7) <|
    SX.gen (fun G8 hG8 => ?_)
  have hg8 : G8 103 = .inr (7, [.int 0, .ref (adr7 104), .ref (adr7 105), .ref (adr7 106), .int 0, .int 0, .ref (adr7 107), .ref (adr7 108), .int 0, .ref (adr7 109), .ref (adr7 110), .int 0, .int 0, .int 0, .int 0, .int 0, .ref (adr8 111), .int 0, .int 0, .null, .null, .null, .int 0, .int 0]) := by rw [hG8, up_eq]
  rw [← ha8 104 (by omega), ← ha8 105 (by omega), ← ha8 106 (by omega), ← ha8 107 (by omega), ← ha8 108 (by omega), ← ha8 109 (by omega), ← ha8 110 (by omega)] at hg8
  have hc8 : G8 111 = aI D 1024 (fun _ => 0) := by rw [hG8, up_ne _ _ (by omega), up_eq]
  replace hc1 : G8 104 = aI D 6 (fun _ => 0) := by rw [hG8, up_ne _ _ (by omega), up_ne _ _ (by omega)]; exact hc1
  replace hc2 : G8 105 = aI D 6 (fun _ => 0) := by rw [hG8, up_ne _ _ (by omega), up_ne _ _ (by omega)]; exact hc2
  replace hc3 : G8 106 = aI D 6 (fun _ => 0) := by rw [hG8, up_ne _ _ (by omega), up_ne _ _ (by omega)]; exact hc3
  replace hc4 : G8 107 = aI D 60 (fun _ => 0) := by rw [hG8, up_ne _ _ (by omega), up_ne _ _ (by omega)]; exact hc4
  replace hc5 : G8 108 = aI D 60 (fun _ => 0) := by rw [hG8, up_ne _ _ (by omega), up_ne _ _ (by omega)]; exact hc5
  replace hc6 : G8 109 = aI D 30 (fun _ => 0) := by rw [hG8, up_ne _ _ (by omega), up_ne _ _ (by omega)]; exact hc6
  replace hc7 : G8 110 = aI D 30 (fun _ => 0) := by rw [hG8, up_ne _ _ (by omega), up_ne _ _ (by omega)]; exact hc7
  have hb8 : ∀ j, j < 103 → G8 j = G j := fun j hj => by rw [hG8, up_ne _ _ (by omega), up_ne _ _ (by omega)]; exact hb7 j hj
  have hz8 : ∀ j, j < 104 → adr8 j = adr j := fun j hj => (ha8 j (by omega)).trans (hz7 j hj)
  clear hG8 hg7 hb7 hz7
  refine s_aload_n h dX8_init_69 rfl <|
    s_bipush h dX8_init_70 bp_62 <|
    s_newI (n := 62) h dX8_init_72 rfl (by decide) (by decide) (by decide) (fun adr9 ha9 => ?_)
  rw [← ha9 103 (by omega)]
  refine pF_X8_34 h he dX8_init_74 (k := 103) (by omega) (by rw [up_ne _ _ (by omega)]; exact hg8) <|
    SX.gen (fun G9 hG9 => ?_)
  have hg9 : G9 103 = .inr (7, [.int 0, .ref (adr8 104), .ref (adr8 105), .ref (adr8 106), .int 0, .int 0, .ref (adr8 107), .ref (adr8 108), .int 0, .ref (adr8 109), .ref (adr8 110), .int 0, .int 0, .int 0, .int 0, .int 0, .ref (adr8 111), .int 0, .int 0, .ref (adr9 112), .null, .null, .int 0, .int 0]) := by rw [hG9, up_eq]
  rw [← ha9 104 (by omega), ← ha9 105 (by omega), ← ha9 106 (by omega), ← ha9 107 (by omega), ← ha9 108 (by omega), ← ha9 109 (by omega), ← ha9 110 (by omega), ← ha9 111 (by omega)] at hg9
  have hc9 : G9 112 = aI D 62 (fun _ => 0) := by rw [hG9, up_ne _ _ (by omega), up_eq]
  replace hc1 : G9 104 = aI D 6 (fun _ => 0) := by rw [hG9, up_ne _ _ (by omega), up_ne _ _ (by omega)]; exact hc1
  replace hc2 : G9 105 = aI D 6 (fun _ => 0) := by rw [hG9, up_ne _ _ (by omega), up_ne _ _ (by omega)]; exact hc2
  replace hc3 : G9 106 = aI D 6 (fun _ => 0) := by rw [hG9, up_ne _ _ (by omega), up_ne _ _ (by omega)]; exact hc3
  replace hc4 : G9 107 = aI D 60 (fun _ => 0) := by rw [hG9, up_ne _ _ (by omega), up_ne _ _ (by omega)]; exact hc4
  replace hc5 : G9 108 = aI D 60 (fun _ => 0) := by rw [hG9, up_ne _ _ (by omega), up_ne _ _ (by omega)]; exact hc5
  replace hc6 : G9 109 = aI D 30 (fun _ => 0) := by rw [hG9, up_ne _ _ (by omega), up_ne _ _ (by omega)]; exact hc6
  replace hc7 : G9 110 = aI D 30 (fun _ => 0) := by rw [hG9, up_ne _ _ (by omega), up_ne _ _ (by omega)]; exact hc7
  replace hc8 : G9 111 = aI D 1024 (fun _ => 0) := by rw [hG9, up_ne _ _ (by omega), up_ne _ _ (by omega)]; exact hc8
  have hb9 : ∀ j, j < 103 → G9 j = G j := fun j hj => by rw [hG9, up_ne _ _ (by omega), up_ne _ _ (by omega)]; exact hb8 j hj
  have hz9 : ∀ j, j < 104 → adr9 j = adr j := fun j hj => (ha9 j (by omega)).trans (hz8 j hj)
  clear hG9 hg8 hb8 hz8
  refine s_aload_n h dX8_init_77 rfl <|
    s_sipush h dX8_init_78 sp_200 <|
    s_newI (n := 200) h dX8_init_81 rfl (by decide) (by decide) (by decide) (fun adr10 ha10 => ?_)
  rw [← ha10 103 (by omega)]
  refine pF_X8_37 h he dX8_init_83 (k := 103) (by omega) (by rw [up_ne _ _ (by omega)]; exact hg9) <|
    SX.gen (fun G10 hG10 => ?_)
  have hg10 : G10 103 = .inr (7, [.int 0, .ref (adr9 104), .ref (adr9 105), .ref (adr9 106), .int 0, .int 0, .ref (adr9 107), .ref (adr9 108), .int 0, .ref (adr9 109), .ref (adr9 110), .int 0, .int 0, .int 0, .int 0, .int 0, .ref (adr9 111), .int 0, .int 0, .ref (adr9 112), .ref (adr10 113), .null, .int 0, .int 0]) := by rw [hG10, up_eq]
  rw [← ha10 104 (by omega), ← ha10 105 (by omega), ← ha10 106 (by omega), ← ha10 107 (by omega), ← ha10 108 (by omega), ← ha10 109 (by omega), ← ha10 110 (by omega), ← ha10 111 (by omega), ← ha10 112 (by omega)] at hg10
  have hc10 : G10 113 = aI D 200 (fun _ => 0) := by rw [hG10, up_ne _ _ (by omega), up_eq]
  replace hc1 : G10 104 = aI D 6 (fun _ => 0) := by rw [hG10, up_ne _ _ (by omega), up_ne _ _ (by omega)]; exact hc1
  replace hc2 : G10 105 = aI D 6 (fun _ => 0) := by rw [hG10, up_ne _ _ (by omega), up_ne _ _ (by omega)]; exact hc2
  replace hc3 : G10 106 = aI D 6 (fun _ => 0) := by rw [hG10, up_ne _ _ (by omega), up_ne _ _ (by omega)]; exact hc3
  replace hc4 : G10 107 = aI D 60 (fun _ => 0) := by rw [hG10, up_ne _ _ (by omega), up_ne _ _ (by omega)]; exact hc4
  replace hc5 : G10 108 = aI D 60 (fun _ => 0) := by rw [hG10, up_ne _ _ (by omega), up_ne _ _ (by omega)]; exact hc5
  replace hc6 : G10 109 = aI D 30 (fun _ => 0) := by rw [hG10, up_ne _ _ (by omega), up_ne _ _ (by omega)]; exact hc6
  replace hc7 : G10 110 = aI D 30 (fun _ => 0) := by rw [hG10, up_ne _ _ (by omega), up_ne _ _ (by omega)]; exact hc7
  replace hc8 : G10 111 = aI D 1024 (fun _ => 0) := by rw [hG10, up_ne _ _ (by omega), up_ne _ _ (by omega)]; exact hc8
  replace hc9 : G10 112 = aI D 62 (fun _ => 0) := by rw [hG10, up_ne _ _ (by omega), up_ne _ _ (by omega)]; exact hc9
  have hb10 : ∀ j, j < 103 → G10 j = G j := fun j hj => by rw [hG10, up_ne _ _ (by omega), up_ne _ _ (by omega)]; exact hb9 j hj
  have hz10 : ∀ j, j < 104 → adr10 j = adr j := fun j hj => (ha10 j (by omega)).trans (hz9 j hj)
  clear hG10 hg9 hb9 hz9
  refine s_aload_n h dX8_init_86 rfl <|
    s_iconst h dX8_init_87 ic_2 <|
    s_newZ (n := 2) h dX8_init_88 rfl (by decide) (by decide) (by decide) (fun adr11 ha11 => ?_)
  rw [← ha11 103 (by omega)]
  refine pF_X8_40 h he dX8_init_90 (k := 103) (by omega) (by rw [up_ne _ _ (by omega)]; exact hg10) <|
    SX.gen (fun G11 hG11 => ?_)
  have hg11 : G11 103 = .inr (7, [.int 0, .ref (adr10 104), .ref (adr10 105), .ref (adr10 106), .int 0, .int 0, .ref (adr10 107), .ref (adr10 108), .int 0, .ref (adr10 109), .ref (adr10 110), .int 0, .int 0, .int 0, .int 0, .int 0, .ref (adr10 111), .int 0, .int 0, .ref (adr10 112), .ref (adr10 113), .ref (adr11 114), .int 0, .int 0]) := by rw [hG11, up_eq]
  rw [← ha11 104 (by omega), ← ha11 105 (by omega), ← ha11 106 (by omega), ← ha11 107 (by omega), ← ha11 108 (by omega), ← ha11 109 (by omega), ← ha11 110 (by omega), ← ha11 111 (by omega), ← ha11 112 (by omega), ← ha11 113 (by omega)] at hg11
  have hc11 : G11 114 = aZ D 2 (fun _ => 0) := by rw [hG11, up_ne _ _ (by omega), up_eq]
  replace hc1 : G11 104 = aI D 6 (fun _ => 0) := by rw [hG11, up_ne _ _ (by omega), up_ne _ _ (by omega)]; exact hc1
  replace hc2 : G11 105 = aI D 6 (fun _ => 0) := by rw [hG11, up_ne _ _ (by omega), up_ne _ _ (by omega)]; exact hc2
  replace hc3 : G11 106 = aI D 6 (fun _ => 0) := by rw [hG11, up_ne _ _ (by omega), up_ne _ _ (by omega)]; exact hc3
  replace hc4 : G11 107 = aI D 60 (fun _ => 0) := by rw [hG11, up_ne _ _ (by omega), up_ne _ _ (by omega)]; exact hc4
  replace hc5 : G11 108 = aI D 60 (fun _ => 0) := by rw [hG11, up_ne _ _ (by omega), up_ne _ _ (by omega)]; exact hc5
  replace hc6 : G11 109 = aI D 30 (fun _ => 0) := by rw [hG11, up_ne _ _ (by omega), up_ne _ _ (by omega)]; exact hc6
  replace hc7 : G11 110 = aI D 30 (fun _ => 0) := by rw [hG11, up_ne _ _ (by omega), up_ne _ _ (by omega)]; exact hc7
  replace hc8 : G11 111 = aI D 1024 (fun _ => 0) := by rw [hG11, up_ne _ _ (by omega), up_ne _ _ (by omega)]; exact hc8
  replace hc9 : G11 112 = aI D 62 (fun _ => 0) := by rw [hG11, up_ne _ _ (by omega), up_ne _ _ (by omega)]; exact hc9
  replace hc10 : G11 113 = aI D 200 (fun _ => 0) := by rw [hG11, up_ne _ _ (by omega), up_ne _ _ (by omega)]; exact hc10
  have hb11 : ∀ j, j < 103 → G11 j = G j := fun j hj => by rw [hG11, up_ne _ _ (by omega), up_ne _ _ (by omega)]; exact hb10 j hj
  have hz11 : ∀ j, j < 104 → adr11 j = adr j := fun j hj => (ha11 j (by omega)).trans (hz10 j hj)
  clear hG11 hg10 hb10 hz10
  refine s_aload_n h dX8_init_93 rfl <|
    s_bipush h dX8_init_94 bp_20 <|
    p_X8_44 h dX8_init_96 (k := 103) (by omega) hg11 <|
    SX.gen (fun G12 hG12 => ?_)
  replace hc1 : G12 104 = aI D 6 (fun _ => 0) := by rw [hG12, up_ne _ _ (by omega)]; exact hc1
  replace hc2 : G12 105 = aI D 6 (fun _ => 0) := by rw [hG12, up_ne _ _ (by omega)]; exact hc2
  replace hc3 : G12 106 = aI D 6 (fun _ => 0) := by rw [hG12, up_ne _ _ (by omega)]; exact hc3
  replace hc4 : G12 107 = aI D 60 (fun _ => 0) := by rw [hG12, up_ne _ _ (by omega)]; exact hc4
  replace hc5 : G12 108 = aI D 60 (fun _ => 0) := by rw [hG12, up_ne _ _ (by omega)]; exact hc5
  replace hc6 : G12 109 = aI D 30 (fun _ => 0) := by rw [hG12, up_ne _ _ (by omega)]; exact hc6
  replace hc7 : G12 110 = aI D 30 (fun _ => 0) := by rw [hG12, up_ne _ _ (by omega)]; exact hc7
  replace hc8 : G12 111 = aI D 1024 (fun _ => 0) := by rw [hG12, up_ne _ _ (by omega)]; exact hc8
  replace hc9 : G12 112 = aI D 62 (fun _ => 0) := by rw [hG12, up_ne _ _ (by omega)]; exact hc9
  replace hc10 : G12 113 = aI D 200 (fun _ => 0) := by rw [hG12, up_ne _ _ (by omega)]; exact hc10
  replace hc11 : G12 114 = aZ D 2 (fun _ => 0) := by rw [hG12, up_ne _ _ (by omega)]; exact hc11
  have hg12 : G12 103 = .inr (7, [.int 0, .ref (adr11 104), .ref (adr11 105), .ref (adr11 106), .int 20, .int 0, .ref (adr11 107), .ref (adr11 108), .int 0, .ref (adr11 109), .ref (adr11 110), .int 0, .int 0, .int 0, .int 0, .int 0, .ref (adr11 111), .int 0, .int 0, .ref (adr11 112), .ref (adr11 113), .ref (adr11 114), .int 0, .int 0]) := by rw [hG12, up_eq]
  refine s_vret h he dX8_init_99 ⟨(by decide), (by decide)⟩ ?_
  exact ⟨rfl, rfl, hz11, fun j hj => by rw [hG12, up_ne _ _ (by omega)]; exact hb11 j hj, hg12, hc1, hc2, hc3, hc4, hc5, hc6, hc7, hc8, hc9, hc10, hc11⟩
