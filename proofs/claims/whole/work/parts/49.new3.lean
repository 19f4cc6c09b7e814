theorem isTh.mv {D : va_G} {adr adr2 : Nat → Nat} {G G2 : Nat → va_E} {k : Nat} {sc : Nat → Nat → Int32} (h : isTh D adr G k sc) (ea : ∀ j, k ≤ j → j < k + 29 → adr2 j = adr j) (eg : ∀ j, k ≤ j → j < k + 29 → G2 j = G j) : isTh D adr2 G2 k sc := by
  obtain ⟨a, ⟨f, b1, b2⟩, c⟩ := h
  refine ⟨?_, ⟨f, (eg _ (by omega) (by omega)).trans b1, fun i hi => by rw [ea _ (by omega) (by omega)]; exact b2 i hi⟩, fun i hi => (eg _ (by omega) (by omega)).trans (c i hi)⟩
  rw [eg k (by omega) (by omega), ea _ (by omega) (by omega), ea _ (by omega) (by omega)]; exact a
theorem isPs.mv {D : va_G} {adr adr2 : Nat → Nat} {G G2 : Nat → va_E} {k : Nat} {sc : Nat → Nat → Int32} (h : isPs D adr G k sc) (ea : ∀ j, k ≤ j → j < k + 29 → adr2 j = adr j) (eg : ∀ j, k ≤ j → j < k + 29 → G2 j = G j) : isPs D adr2 G2 k sc := by
  obtain ⟨⟨f, b1, b2⟩, c⟩ := h
  exact ⟨⟨f, (eg _ (by omega) (by omega)).trans b1, fun i hi => by rw [ea _ (by omega) (by omega)]; exact b2 i hi⟩, fun i hi => (c i hi).mv (ea _ (by omega) (by omega)) (eg _ (by omega) (by omega)) (eg _ (by omega) (by omega))⟩
theorem isSc.mv {D : va_G} {adr adr2 : Nat → Nat} {G G2 : Nat → va_E} {k : Nat} {sc : Nat → Nat → Int32} (h : isSc D adr G k sc) (ea : ∀ j, k ≤ j → j < k + 29 → adr2 j = adr j) (eg : ∀ j, k ≤ j → j < k + 29 → G2 j = G j) : isSc D adr2 G2 k sc := ⟨h.1.mv ea eg, h.2.mv ea eg⟩
theorem isPad.mv {D : va_G} {adr adr2 : Nat → Nat} {G G2 : Nat → va_E} {k : Nat} {sg : Nat → Int32} {cnt pa tu : Int32} {lf rg : Nat → Int32} (h : isPad D adr G k sg cnt pa tu lf rg) (ea : ∀ j, k ≤ j → j < k + 4 → adr2 j = adr j) (eg : ∀ j, k ≤ j → j < k + 4 → G2 j = G j) : isPad D adr2 G2 k sg cnt pa tu lf rg := by
  refine ⟨?_, (eg _ (by omega) (by omega)).trans h.2.1, (eg _ (by omega) (by omega)).trans h.2.2.1, (eg _ (by omega) (by omega)).trans h.2.2.2⟩
  rw [eg k (by omega) (by omega), ea _ (by omega) (by omega), ea _ (by omega) (by omega), ea _ (by omega) (by omega)]; exact h.1
theorem isMt.mv {D : va_G} {adr adr2 : Nat → Nat} {G G2 : Nat → va_E} {k : Nat} {fr mo : Nat → Int32} (h : isMt D adr G k fr mo) (ea : ∀ j, k ≤ j → j < k + 3 → adr2 j = adr j) (eg : ∀ j, k ≤ j → j < k + 3 → G2 j = G j) : isMt D adr2 G2 k fr mo := by
  refine ⟨?_, (eg _ (by omega) (by omega)).trans h.2.1, (eg _ (by omega) (by omega)).trans h.2.2⟩
  rw [eg k (by omega) (by omega), ea _ (by omega) (by omega), ea _ (by omega) (by omega)]; exact h.1
theorem c_X7_init {l : Launch} {D : va_G} {adr : Nat → Nat} {G : Nat → va_E} (hg : G 0 = .inr (6, [.null, .null, .null, .null, .null, .null, .null, .null])) :
    CT l D yX7_init cX7_init 2 none (rc 3 102 1561) [.ref (adr 0)] 1 adr G (PN 0 102 1 adr G (fun adr2 G2 => isSW D adr2 G2 sc0 sc0 sc0 (fun _ => 0) (fun _ => 0) 0)) := by
  refine CT.of (by decide +kernel) (Nat.le_of_ble_eq_true rfl) (fun Γ h he => ?_)
  have h : cx l D (rc 3 102 1561) RX7 cX7_init 2 Γ := h
  have he : ex "<init>" none (PN 0 102 1 adr G (fun adr2 G2 => isSW D adr2 G2 sc0 sc0 sc0 (fun _ => 0) (fun _ => 0) 0)) 102 1561 Γ := he
  show SX Γ 0 0 0 [(0, .ref (adr 0))] [] 1 adr G
  refine s_aload_n h dX7_init_0 rfl <|
    s_oinit h tw82 dX7_init_1 ⟨(by decide), (by decide)⟩ <|
    ?_
  have hg0 := hg
  refine s_aload_n h dX7_init_4 rfl <|
    s_new (ci := 3) (fs := [.null, .null, .int 0]) (ty0 := tyX3) h inX3 tyX3_ok rfl tw85 tw86 tw66 (fun j hj => match j, hj with | 0, _ => rfl | 1, _ => rfl | 2, _ => rfl) dX7_init_5 (by decide) (by decide) (fun adrA1 haA1 => ?_)
  refine s_dup h dX7_init_8 rfl <|
    i_X7_9 h (c_X3_init (k := 1) rfl (by rw [up_eq])) (by decide) (by decide) rfl dX7_init_9 (PN.go (fun adr1 GB1 haB1 hbB1 hr1 => ?_))
  have hz1 : ∀ j, j < 1 → adr1 j = adr j := fun j hj => (haB1 j (by omega)).trans (haA1 j hj)
  have hB1 : ∀ j, j < 1 → GB1 j = G j := fun j hj => (hbB1 j hj).trans (up_ne _ _ (by omega))
  rw [← haB1 1 (by omega), ← hz1 0 (by omega)]
  refine pF_X7_10 h he dX7_init_12 (k := 0) (by omega) ((hB1 0 (by omega)).trans hg0) <|
    SX.gen (fun G1 hG1 => ?_)
  have hN1 : ∀ j, 1 ≤ j → G1 j = GB1 j := fun j hj => by rw [hG1, up_ne _ _ (by omega)]
  have hM1 : ∀ j, 1 ≤ j → j < 1 → G1 j = G j := fun j h1 h2 => (hN1 j h1).trans (hB1 j h2)
  have hg1 : G1 0 = .inr (6, [.ref (adr1 1), .null, .null, .null, .null, .null, .null, .null]) := by rw [hG1, up_eq]
  replace hr1 := hr1.mv (adr2 := adr1) (G2 := G1) (fun _ _ _ => rfl) (fun j h1 _ => hN1 j (by omega))
  refine s_aload_n h dX7_init_15 rfl <|
    s_iconst h dX7_init_16 ic_2 <|
    s_anewS (n := 2) h tw85 dX7_init_17 rfl (by decide) (by decide) (by decide) (fun adr2 hz2 => ?_)
  refine SX.gen (fun GB2 hGB2 => ?_)
  have hr2 : GB2 30 = aS D 2 (fun _ => none) := by rw [hGB2, up_eq]
  have hB2 : ∀ j, j < 30 → GB2 j = G1 j := fun j hj => by rw [hGB2, up_ne _ _ (by omega)]
  rw [← hz2 0 (by omega)]
  refine pF_X7_16 h he dX7_init_20 (k := 0) (by omega) ((hB2 0 (by omega)).trans hg1) <|
    SX.gen (fun G2 hG2 => ?_)
  have hN2 : ∀ j, 1 ≤ j → G2 j = GB2 j := fun j hj => by rw [hG2, up_ne _ _ (by omega)]
  have hM2 : ∀ j, 1 ≤ j → j < 30 → G2 j = G1 j := fun j h1 h2 => (hN2 j h1).trans (hB2 j h2)
  replace hr1 := hr1.mv (adr2 := adr2) (G2 := G2) (fun j h1 h2 => hz2 j (by omega)) (fun j h1 h2 => hM2 j (by omega) (by omega))
  have hg2 : G2 0 = .inr (6, [.ref (adr2 1), .ref (adr2 30), .null, .null, .null, .null, .null, .null]) := by rw [hG2, up_eq, hz2 1 (by omega)]
  replace hr2 : G2 30 = aS D 2 (fun _ => none) := (hN2 _ (by omega)).trans hr2
  refine s_aload_n h dX7_init_23 rfl <|
    s_iconst h dX7_init_24 ic_2 <|
    s_newZ (n := 2) h dX7_init_25 rfl (by decide) (by decide) (by decide) (fun adr3 hz3 => ?_)
  refine SX.gen (fun GB3 hGB3 => ?_)
  have hr3 : GB3 31 = aZ D 2 (fun _ => 0) := by rw [hGB3, up_eq]
  have hB3 : ∀ j, j < 31 → GB3 j = G2 j := fun j hj => by rw [hGB3, up_ne _ _ (by omega)]
  rw [← hz3 0 (by omega)]
  refine pF_X7_20 h he dX7_init_27 (k := 0) (by omega) ((hB3 0 (by omega)).trans hg2) <|
    SX.gen (fun G3 hG3 => ?_)
  have hN3 : ∀ j, 1 ≤ j → G3 j = GB3 j := fun j hj => by rw [hG3, up_ne _ _ (by omega)]
  have hM3 : ∀ j, 1 ≤ j → j < 31 → G3 j = G2 j := fun j h1 h2 => (hN3 j h1).trans (hB3 j h2)
  replace hr1 := hr1.mv (adr2 := adr3) (G2 := G3) (fun j h1 h2 => hz3 j (by omega)) (fun j h1 h2 => hM3 j (by omega) (by omega))
  replace hr2 : G3 30 = aS D 2 (fun _ => none) := (hM3 _ (by omega) (by omega)).trans hr2
  have hg3 : G3 0 = .inr (6, [.ref (adr3 1), .ref (adr3 30), .ref (adr3 31), .null, .null, .null, .null, .null]) := by rw [hG3, up_eq, hz3 1 (by omega), hz3 30 (by omega)]
  replace hr3 : G3 31 = aZ D 2 (fun _ => 0) := (hN3 _ (by omega)).trans hr3
  refine s_aload_n h dX7_init_30 rfl <|
    s_new (ci := 1) (fs := [.null, .int 0, .null, .null, .int 0, .int 0]) (ty0 := tyX1) h inX1 tyX1_ok rfl tw148 tw149 tw69 (fun j hj => match j, hj with | 0, _ => rfl | 1, _ => rfl | 2, _ => rfl | 3, _ => rfl | 4, _ => rfl | 5, _ => rfl) dX7_init_31 (by decide) (by decide) (fun adrA4 haA4 => ?_)
  refine s_dup h dX7_init_34 rfl <|
    i_X7_26 h (c_X1_init (k := 32) rfl (by rw [up_eq])) (by decide) (by decide) rfl dX7_init_35 (PN.go (fun adr4 GB4 haB4 hbB4 hr4 => ?_))
  have hz4 : ∀ j, j < 32 → adr4 j = adr3 j := fun j hj => (haB4 j (by omega)).trans (haA4 j hj)
  have hB4 : ∀ j, j < 32 → GB4 j = G3 j := fun j hj => (hbB4 j hj).trans (up_ne _ _ (by omega))
  rw [← haB4 32 (by omega), ← hz4 0 (by omega)]
  refine pF_X7_27 h he dX7_init_38 (k := 0) (by omega) ((hB4 0 (by omega)).trans hg3) <|
    SX.gen (fun G4 hG4 => ?_)
  have hN4 : ∀ j, 1 ≤ j → G4 j = GB4 j := fun j hj => by rw [hG4, up_ne _ _ (by omega)]
  have hM4 : ∀ j, 1 ≤ j → j < 32 → G4 j = G3 j := fun j h1 h2 => (hN4 j h1).trans (hB4 j h2)
  replace hr1 := hr1.mv (adr2 := adr4) (G2 := G4) (fun j h1 h2 => hz4 j (by omega)) (fun j h1 h2 => hM4 j (by omega) (by omega))
  replace hr2 : G4 30 = aS D 2 (fun _ => none) := (hM4 _ (by omega) (by omega)).trans hr2
  replace hr3 : G4 31 = aZ D 2 (fun _ => 0) := (hM4 _ (by omega) (by omega)).trans hr3
  have hg4 : G4 0 = .inr (6, [.ref (adr4 1), .ref (adr4 30), .ref (adr4 31), .ref (adr4 32), .null, .null, .null, .null]) := by rw [hG4, up_eq, hz4 1 (by omega), hz4 30 (by omega), hz4 31 (by omega)]
  replace hr4 := hr4.mv (adr2 := adr4) (G2 := G4) (fun _ _ _ => rfl) (fun j h1 _ => hN4 j (by omega))
  refine s_aload_n h dX7_init_41 rfl <|
    s_new (ci := 0) (fs := [.null, .null]) (ty0 := tyX0) h inX0 tyX0_ok rfl tw177 tw178 tw70 (fun j hj => match j, hj with | 0, _ => rfl | 1, _ => rfl) dX7_init_42 (by decide) (by decide) (fun adrA5 haA5 => ?_)
  refine s_dup h dX7_init_45 rfl <|
    i_X7_33 h (c_X0_init (k := 36) rfl (by rw [up_eq])) (by decide) (by decide) rfl dX7_init_46 (PN.go (fun adr5 GB5 haB5 hbB5 hr5 => ?_))
  have hz5 : ∀ j, j < 36 → adr5 j = adr4 j := fun j hj => (haB5 j (by omega)).trans (haA5 j hj)
  have hB5 : ∀ j, j < 36 → GB5 j = G4 j := fun j hj => (hbB5 j hj).trans (up_ne _ _ (by omega))
  rw [← haB5 36 (by omega), ← hz5 0 (by omega)]
  refine pF_X7_34 h he dX7_init_49 (k := 0) (by omega) ((hB5 0 (by omega)).trans hg4) <|
    SX.gen (fun G5 hG5 => ?_)
  have hN5 : ∀ j, 1 ≤ j → G5 j = GB5 j := fun j hj => by rw [hG5, up_ne _ _ (by omega)]
  have hM5 : ∀ j, 1 ≤ j → j < 36 → G5 j = G4 j := fun j h1 h2 => (hN5 j h1).trans (hB5 j h2)
  replace hr1 := hr1.mv (adr2 := adr5) (G2 := G5) (fun j h1 h2 => hz5 j (by omega)) (fun j h1 h2 => hM5 j (by omega) (by omega))
  replace hr2 : G5 30 = aS D 2 (fun _ => none) := (hM5 _ (by omega) (by omega)).trans hr2
  replace hr3 : G5 31 = aZ D 2 (fun _ => 0) := (hM5 _ (by omega) (by omega)).trans hr3
  replace hr4 := hr4.mv (adr2 := adr5) (G2 := G5) (fun j h1 h2 => hz5 j (by omega)) (fun j h1 h2 => hM5 j (by omega) (by omega))
  have hg5 : G5 0 = .inr (6, [.ref (adr5 1), .ref (adr5 30), .ref (adr5 31), .ref (adr5 32), .ref (adr5 36), .null, .null, .null]) := by rw [hG5, up_eq, hz5 1 (by omega), hz5 30 (by omega), hz5 31 (by omega), hz5 32 (by omega)]
  replace hr5 := hr5.mv (adr2 := adr5) (G2 := G5) (fun _ _ _ => rfl) (fun j h1 _ => hN5 j (by omega))
  refine s_aload_n h dX7_init_52 rfl <|
    s_new (ci := 4) (fs := [.null]) (ty0 := tyX5) h inX5 tyX5_ok rfl tw190 tw191 tw71 (fun j hj => match j, hj with | 0, _ => rfl) dX7_init_53 (by decide) (by decide) (fun adrA6 haA6 => ?_)
  refine s_dup h dX7_init_56 rfl <|
    i_X7_40 h (c_X5_init (k := 39) rfl (by rw [up_eq])) (by decide) (by decide) rfl dX7_init_57 (PN.go (fun adr6 GB6 haB6 hbB6 hr6 => ?_))
  have hz6 : ∀ j, j < 39 → adr6 j = adr5 j := fun j hj => (haB6 j (by omega)).trans (haA6 j hj)
  have hB6 : ∀ j, j < 39 → GB6 j = G5 j := fun j hj => (hbB6 j hj).trans (up_ne _ _ (by omega))
  rw [← haB6 39 (by omega), ← hz6 0 (by omega)]
  refine pF_X7_41 h he dX7_init_60 (k := 0) (by omega) ((hB6 0 (by omega)).trans hg5) <|
    SX.gen (fun G6 hG6 => ?_)
  have hN6 : ∀ j, 1 ≤ j → G6 j = GB6 j := fun j hj => by rw [hG6, up_ne _ _ (by omega)]
  have hM6 : ∀ j, 1 ≤ j → j < 39 → G6 j = G5 j := fun j h1 h2 => (hN6 j h1).trans (hB6 j h2)
  replace hr1 := hr1.mv (adr2 := adr6) (G2 := G6) (fun j h1 h2 => hz6 j (by omega)) (fun j h1 h2 => hM6 j (by omega) (by omega))
  replace hr2 : G6 30 = aS D 2 (fun _ => none) := (hM6 _ (by omega) (by omega)).trans hr2
  replace hr3 : G6 31 = aZ D 2 (fun _ => 0) := (hM6 _ (by omega) (by omega)).trans hr3
  replace hr4 := hr4.mv (adr2 := adr6) (G2 := G6) (fun j h1 h2 => hz6 j (by omega)) (fun j h1 h2 => hM6 j (by omega) (by omega))
  replace hr5 := hr5.mv (adr2 := adr6) (G2 := G6) (fun j h1 h2 => hz6 j (by omega)) (fun j h1 h2 => hM6 j (by omega) (by omega))
  have hg6 : G6 0 = .inr (6, [.ref (adr6 1), .ref (adr6 30), .ref (adr6 31), .ref (adr6 32), .ref (adr6 36), .ref (adr6 39), .null, .null]) := by rw [hG6, up_eq, hz6 1 (by omega), hz6 30 (by omega), hz6 31 (by omega), hz6 32 (by omega), hz6 36 (by omega)]
  replace hr6 : G6 39 = .inr (4, [.ref (adr6 40)]) ∧ G6 40 = aJ D 9 (fun _ => 0) := ⟨(hN6 _ (by omega)).trans hr6.1, (hN6 _ (by omega)).trans hr6.2⟩
  refine s_aload_n h dX7_init_63 rfl <|
    s_new (ci := 2) (fs := [.int 0, .null]) (ty0 := tyX2) h inX2 tyX2_ok rfl tw201 tw121 tw68 (fun j hj => match j, hj with | 0, _ => rfl | 1, _ => rfl) dX7_init_64 (by decide) (by decide) (fun adrA7 haA7 => ?_)
  refine s_dup h dX7_init_67 rfl <|
    i_X7_47 h (c_X2_init (k := 41) rfl (by rw [up_eq])) (by decide) (by decide) rfl dX7_init_68 (PN.go (fun adr7 GB7 haB7 hbB7 hr7 => ?_))
  have hz7 : ∀ j, j < 41 → adr7 j = adr6 j := fun j hj => (haB7 j (by omega)).trans (haA7 j hj)
  have hB7 : ∀ j, j < 41 → GB7 j = G6 j := fun j hj => (hbB7 j hj).trans (up_ne _ _ (by omega))
  rw [← haB7 41 (by omega), ← hz7 0 (by omega)]
  refine pF_X7_48 h he dX7_init_71 (k := 0) (by omega) ((hB7 0 (by omega)).trans hg6) <|
    SX.gen (fun G7 hG7 => ?_)
  have hN7 : ∀ j, 1 ≤ j → G7 j = GB7 j := fun j hj => by rw [hG7, up_ne _ _ (by omega)]
  have hM7 : ∀ j, 1 ≤ j → j < 41 → G7 j = G6 j := fun j h1 h2 => (hN7 j h1).trans (hB7 j h2)
  replace hr1 := hr1.mv (adr2 := adr7) (G2 := G7) (fun j h1 h2 => hz7 j (by omega)) (fun j h1 h2 => hM7 j (by omega) (by omega))
  replace hr2 : G7 30 = aS D 2 (fun _ => none) := (hM7 _ (by omega) (by omega)).trans hr2
  replace hr3 : G7 31 = aZ D 2 (fun _ => 0) := (hM7 _ (by omega) (by omega)).trans hr3
  replace hr4 := hr4.mv (adr2 := adr7) (G2 := G7) (fun j h1 h2 => hz7 j (by omega)) (fun j h1 h2 => hM7 j (by omega) (by omega))
  replace hr5 := hr5.mv (adr2 := adr7) (G2 := G7) (fun j h1 h2 => hz7 j (by omega)) (fun j h1 h2 => hM7 j (by omega) (by omega))
  replace hr6 : G7 39 = .inr (4, [.ref (adr7 40)]) ∧ G7 40 = aJ D 9 (fun _ => 0) := ⟨by rw [hM7 _ (by omega) (by omega), hz7 _ (by omega)]; exact hr6.1, (hM7 _ (by omega) (by omega)).trans hr6.2⟩
  have hg7 : G7 0 = .inr (6, [.ref (adr7 1), .ref (adr7 30), .ref (adr7 31), .ref (adr7 32), .ref (adr7 36), .ref (adr7 39), .ref (adr7 41), .null]) := by rw [hG7, up_eq, hz7 1 (by omega), hz7 30 (by omega), hz7 31 (by omega), hz7 32 (by omega), hz7 36 (by omega), hz7 39 (by omega)]
  replace hr7 := hr7.mv (adr2 := adr7) (G2 := G7) rfl (hN7 _ (by omega)) (hN7 _ (by omega))
  refine s_aload_n h dX7_init_74 rfl <|
    s_new (ci := 2) (fs := [.int 0, .null]) (ty0 := tyX2) h inX2 tyX2_ok rfl tw201 tw121 tw68 (fun j hj => match j, hj with | 0, _ => rfl | 1, _ => rfl) dX7_init_75 (by decide) (by decide) (fun adrA8 haA8 => ?_)
  refine s_dup h dX7_init_78 rfl <|
    i_X7_47 h (c_X2_init (k := 43) rfl (by rw [up_eq])) (by decide) (by decide) rfl dX7_init_79 (PN.go (fun adr8 GB8 haB8 hbB8 hr8 => ?_))
  have hz8 : ∀ j, j < 43 → adr8 j = adr7 j := fun j hj => (haB8 j (by omega)).trans (haA8 j hj)
  have hB8 : ∀ j, j < 43 → GB8 j = G7 j := fun j hj => (hbB8 j hj).trans (up_ne _ _ (by omega))
  rw [← haB8 43 (by omega), ← hz8 0 (by omega)]
  refine pF_X7_52 h he dX7_init_82 (k := 0) (by omega) ((hB8 0 (by omega)).trans hg7) <|
    SX.gen (fun G8 hG8 => ?_)
  have hN8 : ∀ j, 1 ≤ j → G8 j = GB8 j := fun j hj => by rw [hG8, up_ne _ _ (by omega)]
  have hM8 : ∀ j, 1 ≤ j → j < 43 → G8 j = G7 j := fun j h1 h2 => (hN8 j h1).trans (hB8 j h2)
  replace hr1 := hr1.mv (adr2 := adr8) (G2 := G8) (fun j h1 h2 => hz8 j (by omega)) (fun j h1 h2 => hM8 j (by omega) (by omega))
  replace hr2 : G8 30 = aS D 2 (fun _ => none) := (hM8 _ (by omega) (by omega)).trans hr2
  replace hr3 : G8 31 = aZ D 2 (fun _ => 0) := (hM8 _ (by omega) (by omega)).trans hr3
  replace hr4 := hr4.mv (adr2 := adr8) (G2 := G8) (fun j h1 h2 => hz8 j (by omega)) (fun j h1 h2 => hM8 j (by omega) (by omega))
  replace hr5 := hr5.mv (adr2 := adr8) (G2 := G8) (fun j h1 h2 => hz8 j (by omega)) (fun j h1 h2 => hM8 j (by omega) (by omega))
  replace hr6 : G8 39 = .inr (4, [.ref (adr8 40)]) ∧ G8 40 = aJ D 9 (fun _ => 0) := ⟨by rw [hM8 _ (by omega) (by omega), hz8 _ (by omega)]; exact hr6.1, (hM8 _ (by omega) (by omega)).trans hr6.2⟩
  replace hr7 := hr7.mv (adr2 := adr8) (G2 := G8) (hz8 _ (by omega)) (hM8 _ (by omega) (by omega)) (hM8 _ (by omega) (by omega))
  have hg8 : G8 0 = .inr (6, [.ref (adr8 1), .ref (adr8 30), .ref (adr8 31), .ref (adr8 32), .ref (adr8 36), .ref (adr8 39), .ref (adr8 41), .ref (adr8 43)]) := by rw [hG8, up_eq, hz8 1 (by omega), hz8 30 (by omega), hz8 31 (by omega), hz8 32 (by omega), hz8 36 (by omega), hz8 39 (by omega), hz8 41 (by omega)]
  replace hr8 := hr8.mv (adr2 := adr8) (G2 := G8) rfl (hN8 _ (by omega)) (hN8 _ (by omega))
  have hzz : ∀ j, j < 1 → adr8 j = adr j := fun j hj => (hz8 j (by omega)).trans ((hz7 j (by omega)).trans ((hz6 j (by omega)).trans ((hz5 j (by omega)).trans ((hz4 j (by omega)).trans ((hz3 j (by omega)).trans ((hz2 j (by omega)).trans (hz1 j (by omega))))))))
  refine s_iconst h dX7_init_85 ic_0 <|
    s_istore_n h dX7_init_86 rfl <|
    ?_
  refine s_iload_n h dX7_init_87 rfl <|
    s_aload_n h dX7_init_88 rfl <|
    g_X7_16 h dX7_init_89 (by omega) hg8 <|
    s_alenS h dX7_init_92 (by omega) hr2 rfl <|
    s_icmp_ge (tgt := 115) h dX7_init_93 (by decide) (kt := fun qx => absurd qx (by decide)) (kf := fun _ => ?_)
  refine s_aload_n h dX7_init_96 rfl <|
    g_X7_16 h dX7_init_97 (by omega) hg8 <|
    s_iload_n h dX7_init_100 rfl <|
    s_new (ci := 3) (fs := [.null, .null, .int 0]) (ty0 := tyX3) h inX3 tyX3_ok rfl tw85 tw86 tw66 (fun j hj => match j, hj with | 0, _ => rfl | 1, _ => rfl | 2, _ => rfl) dX7_init_101 (by decide) (by decide) (fun adrA9 haA9 => ?_)
  refine s_dup h dX7_init_104 rfl <|
    i_X7_9 h (c_X3_init (k := 45) rfl (by rw [up_eq])) (by decide) (by decide) rfl dX7_init_105 (PN.go (fun adr9 GB9 haB9 hbB9 hr9 => ?_))
  have hz9 : ∀ j, j < 45 → adr9 j = adr8 j := fun j hj => (haB9 j (by omega)).trans (haA9 j hj)
  have hB9 : ∀ j, j < 45 → GB9 j = G8 j := fun j hj => (hbB9 j hj).trans (up_ne _ _ (by omega))
  rw [← haB9 45 (by omega), ← hz9 30 (by omega), ← hz9 0 (by omega)]
  refine s_aastS h dX7_init_108 (k := 30) (k2 := 45) (j := 0) (by omega) ((hB9 30 (by omega)).trans hr2) (by omega) hr9.1.1 ⟨by decide, by decide, by decide⟩ <|
    SX.gen (fun G9 hG9 => ?_)
  have hN9 : ∀ j, j ≠ 30 → G9 j = GB9 j := fun j hj => by rw [hG9, up_ne _ _ hj]
  have hM9 : ∀ j, j ≠ 30 → j < 45 → G9 j = G8 j := fun j h1 h2 => (hN9 j h1).trans (hB9 j h2)
  replace hr1 := hr1.mv (adr2 := adr9) (G2 := G9) (fun j h1 h2 => hz9 j (by omega)) (fun j h1 h2 => hM9 j (by omega) (by omega))
  replace hr3 : G9 31 = aZ D 2 (fun _ => 0) := (hM9 _ (by omega) (by omega)).trans hr3
  replace hr4 := hr4.mv (adr2 := adr9) (G2 := G9) (fun j h1 h2 => hz9 j (by omega)) (fun j h1 h2 => hM9 j (by omega) (by omega))
  replace hr5 := hr5.mv (adr2 := adr9) (G2 := G9) (fun j h1 h2 => hz9 j (by omega)) (fun j h1 h2 => hM9 j (by omega) (by omega))
  replace hr6 : G9 39 = .inr (4, [.ref (adr9 40)]) ∧ G9 40 = aJ D 9 (fun _ => 0) := ⟨by rw [hM9 _ (by omega) (by omega), hz9 _ (by omega)]; exact hr6.1, (hM9 _ (by omega) (by omega)).trans hr6.2⟩
  replace hr7 := hr7.mv (adr2 := adr9) (G2 := G9) (hz9 _ (by omega)) (hM9 _ (by omega) (by omega)) (hM9 _ (by omega) (by omega))
  replace hr8 := hr8.mv (adr2 := adr9) (G2 := G9) (hz9 _ (by omega)) (hM9 _ (by omega) (by omega)) (hM9 _ (by omega) (by omega))
  replace hr2 : G9 30 = aS D 2 (va_up (fun _ => none) 0 (some (adr9 45))) := by rw [hG9, up_eq]
  replace hr9 := hr9.mv (adr2 := adr9) (G2 := G9) (fun _ _ _ => rfl) (fun j h1 _ => hN9 j (by omega))
  have hg9 : G9 0 = .inr (6, [.ref (adr9 1), .ref (adr9 30), .ref (adr9 31), .ref (adr9 32), .ref (adr9 36), .ref (adr9 39), .ref (adr9 41), .ref (adr9 43)]) := by rw [hM9 0 (by omega) (by omega), hz9 1 (by omega), hz9 30 (by omega), hz9 31 (by omega), hz9 32 (by omega), hz9 36 (by omega), hz9 39 (by omega), hz9 41 (by omega), hz9 43 (by omega)]; exact hg8
  refine s_iincR h dX7_init_109 rfl rfl ic_1 (z := 1) (by decide) <|
    s_goto (tgt := 87) h dX7_init_112 (by decide) <|
    ?_
  refine s_iload_n h dX7_init_87 rfl <|
    s_aload_n h dX7_init_88 rfl <|
    g_X7_16 h dX7_init_89 (by omega) hg9 <|
    s_alenS h dX7_init_92 (by omega) hr2 rfl <|
    s_icmp_ge (tgt := 115) h dX7_init_93 (by decide) (kt := fun qx => absurd qx (by decide)) (kf := fun _ => ?_)
  refine s_aload_n h dX7_init_96 rfl <|
    g_X7_16 h dX7_init_97 (by omega) hg9 <|
    s_iload_n h dX7_init_100 rfl <|
    s_new (ci := 3) (fs := [.null, .null, .int 0]) (ty0 := tyX3) h inX3 tyX3_ok rfl tw85 tw86 tw66 (fun j hj => match j, hj with | 0, _ => rfl | 1, _ => rfl | 2, _ => rfl) dX7_init_101 (by decide) (by decide) (fun adrA10 haA10 => ?_)
  refine s_dup h dX7_init_104 rfl <|
    i_X7_9 h (c_X3_init (k := 74) rfl (by rw [up_eq])) (by decide) (by decide) rfl dX7_init_105 (PN.go (fun adr10 GB10 haB10 hbB10 hr10 => ?_))
  have hz10 : ∀ j, j < 74 → adr10 j = adr9 j := fun j hj => (haB10 j (by omega)).trans (haA10 j hj)
  have hB10 : ∀ j, j < 74 → GB10 j = G9 j := fun j hj => (hbB10 j hj).trans (up_ne _ _ (by omega))
  rw [← haB10 74 (by omega), ← hz10 30 (by omega), ← hz10 0 (by omega)]
  refine s_aastS h dX7_init_108 (k := 30) (k2 := 74) (j := 1) (by omega) ((hB10 30 (by omega)).trans hr2) (by omega) hr10.1.1 ⟨by decide, by decide, by decide⟩ <|
    SX.gen (fun G10 hG10 => ?_)
  have hN10 : ∀ j, j ≠ 30 → G10 j = GB10 j := fun j hj => by rw [hG10, up_ne _ _ hj]
  have hM10 : ∀ j, j ≠ 30 → j < 74 → G10 j = G9 j := fun j h1 h2 => (hN10 j h1).trans (hB10 j h2)
  replace hr1 := hr1.mv (adr2 := adr10) (G2 := G10) (fun j h1 h2 => hz10 j (by omega)) (fun j h1 h2 => hM10 j (by omega) (by omega))
  replace hr3 : G10 31 = aZ D 2 (fun _ => 0) := (hM10 _ (by omega) (by omega)).trans hr3
  replace hr4 := hr4.mv (adr2 := adr10) (G2 := G10) (fun j h1 h2 => hz10 j (by omega)) (fun j h1 h2 => hM10 j (by omega) (by omega))
  replace hr5 := hr5.mv (adr2 := adr10) (G2 := G10) (fun j h1 h2 => hz10 j (by omega)) (fun j h1 h2 => hM10 j (by omega) (by omega))
  replace hr6 : G10 39 = .inr (4, [.ref (adr10 40)]) ∧ G10 40 = aJ D 9 (fun _ => 0) := ⟨by rw [hM10 _ (by omega) (by omega), hz10 _ (by omega)]; exact hr6.1, (hM10 _ (by omega) (by omega)).trans hr6.2⟩
  replace hr7 := hr7.mv (adr2 := adr10) (G2 := G10) (hz10 _ (by omega)) (hM10 _ (by omega) (by omega)) (hM10 _ (by omega) (by omega))
  replace hr8 := hr8.mv (adr2 := adr10) (G2 := G10) (hz10 _ (by omega)) (hM10 _ (by omega) (by omega)) (hM10 _ (by omega) (by omega))
  replace hr9 := hr9.mv (adr2 := adr10) (G2 := G10) (fun j h1 h2 => hz10 j (by omega)) (fun j h1 h2 => hM10 j (by omega) (by omega))
  replace hr2 : G10 30 = aS D 2 (va_up (va_up (fun _ => none) 0 (some (adr9 45))) 1 (some (adr10 74))) := by rw [hG10, up_eq]
  replace hr10 := hr10.mv (adr2 := adr10) (G2 := G10) (fun _ _ _ => rfl) (fun j h1 _ => hN10 j (by omega))
  have hg10 : G10 0 = .inr (6, [.ref (adr10 1), .ref (adr10 30), .ref (adr10 31), .ref (adr10 32), .ref (adr10 36), .ref (adr10 39), .ref (adr10 41), .ref (adr10 43)]) := by rw [hM10 0 (by omega) (by omega), hz10 1 (by omega), hz10 30 (by omega), hz10 31 (by omega), hz10 32 (by omega), hz10 36 (by omega), hz10 39 (by omega), hz10 41 (by omega), hz10 43 (by omega)]; exact hg9
  refine s_iincR h dX7_init_109 rfl rfl ic_1 (z := 2) (by decide) <|
    s_goto (tgt := 87) h dX7_init_112 (by decide) <|
    ?_
  refine s_iload_n h dX7_init_87 rfl <|
    s_aload_n h dX7_init_88 rfl <|
    g_X7_16 h dX7_init_89 (by omega) hg10 <|
    s_alenS h dX7_init_92 (by omega) hr2 rfl <|
    s_icmp_ge (tgt := 115) h dX7_init_93 (by decide) (kf := fun qx => absurd (by decide) qx) (kt := fun _ => ?_)
  refine s_vret h he dX7_init_115 ⟨(by decide), (by decide)⟩ ?_
  refine ⟨rfl, rfl, fun j hj => (hz10 j (by omega)).trans ((hz9 j (by omega)).trans (hzz j hj)), fun j hj => absurd hj (Nat.not_lt_zero j), hg10, hr1, ⟨_, hr2, ?_, ?_⟩, hr3, ⟨0, 0, _, _, hr4⟩, ⟨_, _, hr5, rfl⟩, ⟨hr6.1, _, hr6.2⟩, ⟨_, _, hr7⟩, ⟨_, _, hr8⟩, hr9, hr10⟩
  · rw [up_ne _ _ (by omega), up_eq, hz10 45 (by omega)]
  · rw [up_eq]
