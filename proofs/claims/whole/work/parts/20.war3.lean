def r3I (sc : Nat → Nat → Int32) (s : Int32) (i : Nat) (x : Int32) (n : Nat) : Int32 := fN (fun j y => if ¬ nI j = nI i ∧ kP sc s (nI j) = 0 then y + 1 else y) x n
theorem r3I_s (sc : Nat → Nat → Int32) (s : Int32) (i : Nat) (x : Int32) (n : Nat) : r3I sc s i x (n + 1) = if ¬ nI n = nI i ∧ kP sc s (nI n) = 0 then r3I sc s i x n + 1 else r3I sc s i x n := rfl
def r3 (sc : Nat → Nat → Int32) (s : Int32) (n : Nat) : Int32 := fN (fun i x => if kP sc (nI i) s = 0 then r3I sc s i x 10 else x) 0 n
theorem r3_s (sc : Nat → Nat → Int32) (s : Int32) (n : Nat) : r3 sc s (n + 1) = if kP sc (nI n) s = 0 then r3I sc s n (r3 sc s n) 10 else r3 sc s n := rfl
def eyR (sc : Nat → Nat → Int32) (n : Nat) : Int32 := fN (fun s x => x + r3 sc (nI s) 10) 0 n
theorem c_X7_rowsOfThree {l : Launch} {D : va_G} {N : Nat} {adr : Nat → Nat} {G : Nat → va_E} {sc i0 i1 : Nat → Nat → Int32} {kp sg : Nat → Int32} {n : Nat} (hN : 103 ≤ N) (hW : isSW D adr G sc i0 i1 kp sg n) {s : Int32} :
    CT l D yX7_rowsOfThree cX7_rowsOfThree 5 (some FieldType.int) (rl 5) [.ref (adr 0), .int s] N adr G (PE (some (.int (r3 sc s 10))) N adr G) := by
  have hS := hW.2.1
  have hT := hS.1
  have hPs := hS.2
  refine CT.of (by decide +kernel) (Nat.le_of_ble_eq_true rfl) (fun Γ h he => ?_)
  have h : cx l D (rl 5) RX7 cX7_rowsOfThree 5 Γ := h
  show SX Γ 0 0 0 [(0, .ref (adr 0)), (1, .int s)] [] N adr G
  refine s_iconst h dX7_rowsOfThree_0 ic_0 <|
    s_istore_n h dX7_rowsOfThree_1 rfl <|
    s_iconst h dX7_rowsOfThree_2 ic_0 <|
    s_istore_n h dX7_rowsOfThree_3 rfl <|
    ?_
  refine SX.loc (up_ind (n := 10) (Q := fun i => SX Γ 0 0 4 [(0, .ref (adr 0)), (1, .int s), (2, .int (r3 sc s i)), (3, .int (nI i))] [] N adr G) ?_ ?_ 0 (Nat.zero_le _)) ⟨rfl, rfl, rfl, rfl, trivial⟩
  · show SX _ _ _ _ _ _ _ _ _
    refine s_iload_n h dX7_rowsOfThree_4 rfl <|
    s_bipush h dX7_rowsOfThree_5 bp_10 <|
    s_icmp_ge (tgt := 69) h dX7_rowsOfThree_7 (by decide) (kf := fun qx => absurd (by decide +kernel) qx) (kt := fun _ => ?_)
    refine s_iload_n h dX7_rowsOfThree_69 rfl <|
    s_iret h he rfl dX7_rowsOfThree_70 ⟨Nat.le_refl _, Nat.le_refl _⟩ ?_
    exact PE.is
  · intro i hi ih 
    show SX _ _ _ _ _ _ _ _ _
    refine s_iload_n h dX7_rowsOfThree_4 rfl <|
    s_bipush h dX7_rowsOfThree_5 bp_10 <|
    s_icmp_ge (tgt := 69) h dX7_rowsOfThree_7 (by decide) (kt := fun qx => absurd qx (nI_ge hi (by decide))) (kf := fun _ => ?_)
    refine s_aload_n h dX7_rowsOfThree_10 rfl <|
    g_X7_10 h dX7_rowsOfThree_11 (by omega) hW.1 <|
    s_iload_n h dX7_rowsOfThree_14 rfl <|
    s_iload_n h dX7_rowsOfThree_15 rfl <|
    k_X7_142 h (c_X3_kindOfPair (k := 1) (by omega) hT hPs) (by omega) hT.1 rfl rfl dX7_rowsOfThree_16 <|
    PE.go <|
    s_if_eq (tgt := 25) h dX7_rowsOfThree_19 (by decide) (fun c19 => ?_) (fun c19 => ?_)
    · refine s_iconst h dX7_rowsOfThree_25 ic_0 <|
      s_istore h dX7_rowsOfThree_26 rfl <|
      ?_
      refine SX.loc (up_ind (n := 10) (Q := fun j => SX Γ 0 0 28 [(0, .ref (adr 0)), (1, .int s), (2, .int (r3I sc s i (r3 sc s i) j)), (3, .int (nI i)), (4, .int (nI j))] [] N adr G) ?_ ?_ 0 (Nat.zero_le _)) ⟨rfl, rfl, rfl, rfl, rfl, trivial⟩
      · show SX _ _ _ _ _ _ _ _ _
        refine s_iload h dX7_rowsOfThree_28 rfl <|
        s_bipush h dX7_rowsOfThree_30 bp_10 <|
        s_icmp_ge (tgt := 63) h dX7_rowsOfThree_32 (by decide) (kf := fun qx => absurd (by decide +kernel) qx) (kt := fun _ => ?_)
        refine s_iincR h dX7_rowsOfThree_63 rfl rfl ic_1 (nI_1 i) <|
        s_goto (tgt := 4) h dX7_rowsOfThree_66 (by decide) <|
        ?_
        have z := (r3_s sc s i).trans (if_pos c19)
        exact SX.loc (lv2 := [(0, .ref (adr 0)), (1, .int s), (2, .int (r3I sc s i (r3 sc s i) 10)), (3, .int (nI (i + 1)))]) (z ▸ ih) ⟨rfl, rfl, rfl, rfl, trivial⟩
      · intro j hj jh 
        show SX _ _ _ _ _ _ _ _ _
        refine s_iload h dX7_rowsOfThree_28 rfl <|
        s_bipush h dX7_rowsOfThree_30 bp_10 <|
        s_icmp_ge (tgt := 63) h dX7_rowsOfThree_32 (by decide) (kt := fun qx => absurd qx (nI_ge hj (by decide))) (kf := fun _ => ?_)
        refine s_iload h dX7_rowsOfThree_35 rfl <|
        s_iload_n h dX7_rowsOfThree_37 rfl <|
        s_icmp_eq (tgt := 57) h dX7_rowsOfThree_38 (by decide) (fun c38 => ?_) (fun c38 => ?_)
        · refine s_iincR h dX7_rowsOfThree_57 rfl rfl ic_1 (nI_1 j) <|
          s_goto (tgt := 28) h dX7_rowsOfThree_60 (by decide) <|
          ?_
          first
            | (have z := (r3I_s sc s i (r3 sc s i) j).trans (if_pos ⟨c38, c51⟩); exact SX.loc jh ⟨rfl, rfl, rfl, rfl, rfl, trivial⟩)
            | (have q38 : nI j = nI i := c38; have z := (r3I_s sc s i (r3 sc s i) j).trans (if_neg (fun y => y.1 q38)); exact SX.loc (lv2 := [(0, .ref (adr 0)), (1, .int s), (2, .int (r3I sc s i (r3 sc s i) j)), (3, .int (nI i)), (4, .int (nI (j + 1)))]) (z ▸ jh) ⟨rfl, rfl, rfl, rfl, rfl, trivial⟩)
            | (have q51 : ¬ kP sc s (nI j) = 0 := c51; have z := (r3I_s sc s i (r3 sc s i) j).trans (if_neg (fun y => q51 y.2)); exact SX.loc (lv2 := [(0, .ref (adr 0)), (1, .int s), (2, .int (r3I sc s i (r3 sc s i) j)), (3, .int (nI i)), (4, .int (nI (j + 1)))]) (z ▸ jh) ⟨rfl, rfl, rfl, rfl, rfl, trivial⟩)
        · refine s_aload_n h dX7_rowsOfThree_41 rfl <|
          g_X7_10 h dX7_rowsOfThree_42 (by omega) hW.1 <|
          s_iload_n h dX7_rowsOfThree_45 rfl <|
          s_iload h dX7_rowsOfThree_46 rfl <|
          k_X7_142 h (c_X3_kindOfPair (k := 1) (by omega) hT hPs) (by omega) hT.1 rfl rfl dX7_rowsOfThree_48 <|
          PE.go <|
          s_if_ne (tgt := 57) h dX7_rowsOfThree_51 (by decide) (fun c51 => ?_) (fun c51 => ?_)
          · refine s_iincR h dX7_rowsOfThree_57 rfl rfl ic_1 (nI_1 j) <|
            s_goto (tgt := 28) h dX7_rowsOfThree_60 (by decide) <|
            ?_
            first
              | (have z := (r3I_s sc s i (r3 sc s i) j).trans (if_pos ⟨c38, c51⟩); exact SX.loc jh ⟨rfl, rfl, rfl, rfl, rfl, trivial⟩)
              | (have q38 : nI j = nI i := c38; have z := (r3I_s sc s i (r3 sc s i) j).trans (if_neg (fun y => y.1 q38)); exact SX.loc (lv2 := [(0, .ref (adr 0)), (1, .int s), (2, .int (r3I sc s i (r3 sc s i) j)), (3, .int (nI i)), (4, .int (nI (j + 1)))]) (z ▸ jh) ⟨rfl, rfl, rfl, rfl, rfl, trivial⟩)
              | (have q51 : ¬ kP sc s (nI j) = 0 := c51; have z := (r3I_s sc s i (r3 sc s i) j).trans (if_neg (fun y => q51 y.2)); exact SX.loc (lv2 := [(0, .ref (adr 0)), (1, .int s), (2, .int (r3I sc s i (r3 sc s i) j)), (3, .int (nI i)), (4, .int (nI (j + 1)))]) (z ▸ jh) ⟨rfl, rfl, rfl, rfl, rfl, trivial⟩)
          · refine s_iincR h dX7_rowsOfThree_54 rfl rfl ic_1 (show r3I sc s i (r3 sc s i) j + 1 = r3I sc s i (r3 sc s i) (j + 1) from ((r3I_s sc s i (r3 sc s i) j).trans (if_pos ⟨c38, c51⟩)).symm) <|
            s_iincR h dX7_rowsOfThree_57 rfl rfl ic_1 (nI_1 j) <|
            s_goto (tgt := 28) h dX7_rowsOfThree_60 (by decide) <|
            ?_
            first
              | (have z := (r3I_s sc s i (r3 sc s i) j).trans (if_pos ⟨c38, c51⟩); exact SX.loc jh ⟨rfl, rfl, rfl, rfl, rfl, trivial⟩)
              | (have q38 : nI j = nI i := c38; have z := (r3I_s sc s i (r3 sc s i) j).trans (if_neg (fun y => y.1 q38)); exact SX.loc (lv2 := [(0, .ref (adr 0)), (1, .int s), (2, .int (r3I sc s i (r3 sc s i) j)), (3, .int (nI i)), (4, .int (nI (j + 1)))]) (z ▸ jh) ⟨rfl, rfl, rfl, rfl, rfl, trivial⟩)
              | (have q51 : ¬ kP sc s (nI j) = 0 := c51; have z := (r3I_s sc s i (r3 sc s i) j).trans (if_neg (fun y => q51 y.2)); exact SX.loc (lv2 := [(0, .ref (adr 0)), (1, .int s), (2, .int (r3I sc s i (r3 sc s i) j)), (3, .int (nI i)), (4, .int (nI (j + 1)))]) (z ▸ jh) ⟨rfl, rfl, rfl, rfl, rfl, trivial⟩)
    · refine s_goto (tgt := 63) h dX7_rowsOfThree_22 (by decide) <|
      s_iincR h dX7_rowsOfThree_63 rfl rfl ic_1 (nI_1 i) <|
      s_goto (tgt := 4) h dX7_rowsOfThree_66 (by decide) <|
      ?_
      have z := (r3_s sc s i).trans (if_neg c19)
      exact SX.loc (lv2 := [(0, .ref (adr 0)), (1, .int s), (2, .int (r3 sc s i)), (3, .int (nI (i + 1)))]) (z ▸ ih) ⟨rfl, rfl, rfl, rfl, trivial⟩
theorem c_X7_eyes {l : Launch} {D : va_G} {N : Nat} {adr : Nat → Nat} {G : Nat → va_E} {sc i0 i1 : Nat → Nat → Int32} {kp sg : Nat → Int32} {n : Nat} (hN : 103 ≤ N) (hW : isSW D adr G sc i0 i1 kp sg n) :
    CT l D yX7_eyes cX7_eyes 3 (some FieldType.int) (rl 6) [.ref (adr 0)] N adr G (PE (some (.int (eyR sc 10))) N adr G) := by
  have hS := hW.2.1
  have hT := hS.1
  have hPs := hS.2
  refine CT.of (by decide +kernel) (Nat.le_of_ble_eq_true rfl) (fun Γ h he => ?_)
  have h : cx l D (rl 6) RX7 cX7_eyes 3 Γ := h
  show SX Γ 0 0 0 [(0, .ref (adr 0))] [] N adr G
  refine s_iconst h dX7_eyes_0 ic_0 <|
    s_istore_n h dX7_eyes_1 rfl <|
    s_iconst h dX7_eyes_2 ic_0 <|
    s_istore_n h dX7_eyes_3 rfl <|
    ?_
  refine SX.loc (up_ind (n := 10) (Q := fun i => SX Γ 0 0 4 [(0, .ref (adr 0)), (1, .int (eyR sc i)), (2, .int (nI i))] [] N adr G) ?_ ?_ 0 (Nat.zero_le _)) ⟨rfl, rfl, rfl, trivial⟩
  · show SX _ _ _ _ _ _ _ _ _
    refine s_iload_n h dX7_eyes_4 rfl <|
    s_bipush h dX7_eyes_5 bp_10 <|
    s_icmp_ge (tgt := 24) h dX7_eyes_7 (by decide) (kf := fun qx => absurd (by decide +kernel) qx) (kt := fun _ => ?_)
    refine s_iload_n h dX7_eyes_24 rfl <|
    s_iret h he rfl dX7_eyes_25 ⟨Nat.le_refl _, Nat.le_refl _⟩ ?_
    exact PE.is
  · intro i hi ih 
    show SX _ _ _ _ _ _ _ _ _
    refine s_iload_n h dX7_eyes_4 rfl <|
    s_bipush h dX7_eyes_5 bp_10 <|
    s_icmp_ge (tgt := 24) h dX7_eyes_7 (by decide) (kt := fun qx => absurd qx (nI_ge hi (by decide))) (kf := fun _ => ?_)
    refine s_iload_n h dX7_eyes_10 rfl <|
    s_aload_n h dX7_eyes_11 rfl <|
    s_iload_n h dX7_eyes_12 rfl <|
    k_X7_209 h (c_X7_rowsOfThree hN hW) (by omega) hW.1 rfl rfl dX7_eyes_13 <|
    PE.go <|
    s_iadd h dX7_eyes_16 <|
    s_topi (eyR sc (i + 1)) rfl <|
    s_istore_n h dX7_eyes_17 rfl <|
    s_iincR h dX7_eyes_18 rfl rfl ic_1 (nI_1 i) <|
    s_goto (tgt := 4) h dX7_eyes_21 (by decide) <|
    ?_
    exact SX.loc (ih) ⟨rfl, rfl, rfl, trivial⟩
def shM (sc : Nat → Nat → Int32) (t : Nat) (c : Int32) (m : Nat) : Bool := !decide (colF (sc 0 0) (sc 2 t) (sc 3 t) (sc 4 t) c (nI m) = -6)
/-- of the last d minutes: how many show it, the first that does -/
def pdF (sc : Nat → Nat → Int32) (t : Nat) (c : Int32) : Nat → Int32 × Int32 := fN (fun d st => if shM sc t c (99 - d) then (st.1 + 1, nI (99 - d)) else st) (0, -6)
theorem pdF_s (sc : Nat → Nat → Int32) (t : Nat) (c : Int32) {i : Nat} (hi : i < 100) : pdF sc t c (100 - i) = if shM sc t c i then ((pdF sc t c (100 - (i + 1))).1 + 1, nI i) else pdF sc t c (100 - (i + 1)) := by
  obtain ⟨d, hd⟩ : ∃ d, 100 - (i + 1) = d := ⟨_, rfl⟩
  rw [show 100 - i = d + 1 from by omega, hd]
  show (if shM sc t c (99 - d) then _ else _) = _
  rw [show 99 - d = i from by omega]
  rfl
def paR (sc : Nat → Nat → Int32) (t c x : Int32) : Int32 := if tE sc t then (if wb c 0 99 && wb x 0 1 then (if x = 0 then (pdF sc t.toNatClampNeg c 100).1 else (pdF sc t.toNatClampNeg c 100).2) else -2) else -1
theorem c_X7_past {l : Launch} {D : va_G} {N : Nat} {adr : Nat → Nat} {G : Nat → va_E} {sc i0 i1 : Nat → Nat → Int32} {kp sg : Nat → Int32} {n : Nat} (hN : 103 ≤ N) (hW : isSW D adr G sc i0 i1 kp sg n) (hwf : wfT sc) {t c x : Int32} :
    CT l D yX7_past cX7_past 8 (some FieldType.int) (rl 2) [.ref (adr 0), .int t, .int c, .int x] N adr G (PE (some (.int (paR sc t c x))) N adr G) := by
  have hS := hW.2.1
  have hT := hS.1
  have hPs := hS.2
  refine CT.of (by decide +kernel) (Nat.le_of_ble_eq_true rfl) (fun Γ h he => ?_)
  have h : cx l D (rl 2) RX7 cX7_past 8 Γ := h
  show SX Γ 0 0 0 [(0, .ref (adr 0)), (1, .int t), (2, .int c), (3, .int x)] [] N adr G
  cases he1 : tE sc t
  · refine s_aload_n h dX7_past_0 rfl <|
      g_X7_10 h dX7_past_1 (by omega) hW.1 <|
      s_iload_n h dX7_past_4 rfl <|
      k_X7_73 h (c_X3_thingAt_f (k := 1) (by omega) hT he1) (by omega) hT.1 rfl rfl dX7_past_5 <|
      PE.go <|
      s_astoreN h dX7_past_8 rfl <|
      s_aloadN h dX7_past_10 rfl <|
      s_ifnonnullN h dX7_past_12 <|
      s_iconst h dX7_past_15 ic_m1 <|
      s_iret h he rfl dX7_past_16 ⟨Nat.le_refl _, Nat.le_refl _⟩ ?_
    exact PE.eq (by simp [paR, he1]) rfl
  · obtain ⟨hix, hne⟩ := tE_t he1
    have hi := hix.2.2
    have hdp : 1 ≤ sc 4 t.toNatClampNeg := ((hwf _ hi).2).resolve_left hne
    refine s_aload_n h dX7_past_0 rfl <|
      g_X7_10 h dX7_past_1 (by omega) hW.1 <|
      s_iload_n h dX7_past_4 rfl <|
      k_X7_73 h (c_X3_thingAt_t (k := 1) (by omega) hT he1) (by omega) hT.1 rfl rfl dX7_past_5 <|
      PE.go <|
      s_astore h dX7_past_8 rfl <|
      s_aload h dX7_past_10 rfl <|
      s_ifnonnull (tgt := 17) h dX7_past_12 (by decide) <|
      s_iload_n h dX7_past_17 rfl <|
      k_X7_87 h (c_X7_isStand) rfl rfl dX7_past_18 <|
      PE.go <|
      s_if_eq (tgt := 33) h dX7_past_21 (by decide) (fun c21 => ?_) (fun c21 => ?_)
    · refine s_bipush h dX7_past_33 bp_m2 <|
        s_iret h he rfl dX7_past_35 ⟨Nat.le_refl _, Nat.le_refl _⟩ ?_
      (try have e21 := bI_1 c21)
      (try have e21 := bI_0 c21)
      (try have e30 := bI_1 c30)
      (try have e30 := bI_0 c30)
      first
        | (have q : wb c 0 99 = false := e21; exact PE.eq (by simp [paR, he1, q]) rfl)
        | (have q : wb x 0 1 = false := e30; exact PE.eq (by simp [paR, he1, q]) rfl)
    · refine s_iload_n h dX7_past_24 rfl <|
        s_iconst h dX7_past_25 ic_0 <|
        s_iconst h dX7_past_26 ic_1 <|
        k_X7_55 h (c_X7_within) rfl rfl dX7_past_27 <|
        PE.go <|
        s_if_ne (tgt := 36) h dX7_past_30 (by decide) (fun c30 => ?_) (fun c30 => ?_)
      · (try have e21 := bI_1 c21)
        (try have e21 := bI_0 c21)
        (try have e30 := bI_1 c30)
        (try have e30 := bI_0 c30)
        refine s_iconst h dX7_past_36 ic_0 <|
          s_istore h dX7_past_37 rfl <|
          s_bipush h dX7_past_39 bp_m6 <|
          s_istore h dX7_past_41 rfl <|
          s_bipush h dX7_past_43 bp_99 <|
          s_istore h dX7_past_45 rfl <|
          ?_
        refine SX.loc (dn_ind (n := 100) (Q := fun i => SX Γ 0 0 47 [(0, .ref (adr 0)), (1, .int t), (2, .int c), (3, .int x), (4, .ref (adr (1 + 3 + t.toNatClampNeg))), (5, .int (pdF sc t.toNatClampNeg c (100 - i)).1), (6, .int (pdF sc t.toNatClampNeg c (100 - i)).2), (7, .int (dv i))] [] N adr G) ?_ ?_ 100 (Nat.le_refl _)) ⟨rfl, rfl, rfl, rfl, rfl, rfl, rfl, rfl, trivial⟩
        · show SX Γ 0 0 47 [(0, .ref (adr 0)), (1, .int t), (2, .int c), (3, .int x), (4, .ref (adr (1 + 3 + t.toNatClampNeg))), (5, .int (pdF sc t.toNatClampNeg c (100 - 0)).1), (6, .int (pdF sc t.toNatClampNeg c (100 - 0)).2), (7, .int (dv 0))] [] N adr G
          refine s_iload h dX7_past_47 rfl <|
          s_if_lt (tgt := 85) h dX7_past_49 (by decide) (kf := fun qx => absurd (by decide +kernel) qx) (kt := fun _ => ?_)
          refine s_iload_n h dX7_past_85 rfl <|
          s_if_ne (tgt := 94) h dX7_past_86 (by decide) (fun c86 => ?_) (fun c86 => ?_)
          · refine s_iload h dX7_past_94 rfl <|
            s_iret h he rfl dX7_past_96 ⟨Nat.le_refl _, Nat.le_refl _⟩ ?_
            first
              | (have q : x = 0 := c86; exact PE.eq (by rw [paR, he1, e21, e30]; simp only [Bool.and_self, if_true, if_pos q]) rfl)
              | (have q : ¬ x = 0 := c86; exact PE.eq (by rw [paR, he1, e21, e30]; simp only [Bool.and_self, if_true, if_neg q]) rfl)
          · refine s_iload h dX7_past_89 rfl <|
            s_goto (tgt := 96) h dX7_past_91 (by decide) <|
            s_iret h he rfl dX7_past_96 ⟨Nat.le_refl _, Nat.le_refl _⟩ ?_
            first
              | (have q : x = 0 := c86; exact PE.eq (by rw [paR, he1, e21, e30]; simp only [Bool.and_self, if_true, if_pos q]) rfl)
              | (have q : ¬ x = 0 := c86; exact PE.eq (by rw [paR, he1, e21, e30]; simp only [Bool.and_self, if_true, if_neg q]) rfl)
        · intro i hi2 ih
          show SX Γ 0 0 47 [(0, .ref (adr 0)), (1, .int t), (2, .int c), (3, .int x), (4, .ref (adr (1 + 3 + t.toNatClampNeg))), (5, .int (pdF sc t.toNatClampNeg c (100 - (i + 1))).1), (6, .int (pdF sc t.toNatClampNeg c (100 - (i + 1))).2), (7, .int (dv (i + 1)))] [] N adr G
          refine s_iload h dX7_past_47 rfl <|
          s_if_lt (tgt := 85) h dX7_past_49 (by decide) (kt := fun qx => absurd qx (nI_pos (by omega))) (kf := fun _ => ?_)
          refine s_aload h dX7_past_52 rfl <|
          s_iload_n h dX7_past_54 rfl <|
          s_iload h dX7_past_55 rfl <|
          s_aload_n h dX7_past_57 rfl <|
          g_X7_10 h dX7_past_58 (by omega) hW.1 <|
          g_X7_83 h dX7_past_61 (by omega) hT.1 <|
          k_X7_235 h (c_X6_columnFrom (by omega) (hT.th hi) hdp) (by omega) (hT.th hi) rfl rfl dX7_past_64 <|
          PE.go <|
          s_bipush h dX7_past_67 bp_m6 <|
          s_icmp_eq (tgt := 79) h dX7_past_69 (by decide) (fun c69 => ?_) (fun c69 => ?_)
          · refine s_iincR h dX7_past_79 rfl rfl ic_m1 (dv_s i) <|
            s_goto (tgt := 47) h dX7_past_82 (by decide) <|
            ?_
            first
              | (have q : colF (sc 0 0) (sc 2 t.toNatClampNeg) (sc 3 t.toNatClampNeg) (sc 4 t.toNatClampNeg) c (nI i) = -6 := c69
                 have z := (pdF_s sc t.toNatClampNeg c hi2).trans (bool_ifn (by rw [shM, q]; decide))
                 rw [z] at ih
                 exact SX.loc ih ⟨rfl, rfl, rfl, rfl, rfl, rfl, rfl, rfl, trivial⟩)
              | (have q : ¬ colF (sc 0 0) (sc 2 t.toNatClampNeg) (sc 3 t.toNatClampNeg) (sc 4 t.toNatClampNeg) c (nI i) = -6 := c69
                 have z := (pdF_s sc t.toNatClampNeg c hi2).trans (bool_if (by rw [shM, decide_eq_false q]; rfl))
                 rw [z] at ih
                 exact SX.loc ih ⟨rfl, rfl, rfl, rfl, rfl, rfl, rfl, rfl, trivial⟩)
          · refine s_iinc h dX7_past_72 rfl rfl ic_1 <|
            s_iload h dX7_past_75 rfl <|
            s_istore h dX7_past_77 rfl <|
            s_iincR h dX7_past_79 rfl rfl ic_m1 (dv_s i) <|
            s_goto (tgt := 47) h dX7_past_82 (by decide) <|
            ?_
            first
              | (have q : colF (sc 0 0) (sc 2 t.toNatClampNeg) (sc 3 t.toNatClampNeg) (sc 4 t.toNatClampNeg) c (nI i) = -6 := c69
                 have z := (pdF_s sc t.toNatClampNeg c hi2).trans (bool_ifn (by rw [shM, q]; decide))
                 rw [z] at ih
                 exact SX.loc ih ⟨rfl, rfl, rfl, rfl, rfl, rfl, rfl, rfl, trivial⟩)
              | (have q : ¬ colF (sc 0 0) (sc 2 t.toNatClampNeg) (sc 3 t.toNatClampNeg) (sc 4 t.toNatClampNeg) c (nI i) = -6 := c69
                 have z := (pdF_s sc t.toNatClampNeg c hi2).trans (bool_if (by rw [shM, decide_eq_false q]; rfl))
                 rw [z] at ih
                 exact SX.loc ih ⟨rfl, rfl, rfl, rfl, rfl, rfl, rfl, rfl, trivial⟩)
      · refine s_bipush h dX7_past_33 bp_m2 <|
          s_iret h he rfl dX7_past_35 ⟨Nat.le_refl _, Nat.le_refl _⟩ ?_
        (try have e21 := bI_1 c21)
        (try have e21 := bI_0 c21)
        (try have e30 := bI_1 c30)
        (try have e30 := bI_0 c30)
        first
          | (have q : wb c 0 99 = false := e21; exact PE.eq (by simp [paR, he1, q]) rfl)
          | (have q : wb x 0 1 = false := e30; exact PE.eq (by simp [paR, he1, q]) rfl)
def bsF (sc : Nat → Nat → Int32) (m : Int32) : Nat → Int32 × Int32 := fN (fun i st => if st.2 < nSh sc (nI i) m 6 then (nI i, nSh sc (nI i) m 6) else st) (0, 0)
theorem bsF_s (sc : Nat → Nat → Int32) (m : Int32) (i : Nat) : bsF sc m (i + 1) = if (bsF sc m i).2 < nSh sc (nI i) m 6 then (nI i, nSh sc (nI i) m 6) else bsF sc m i := rfl
def beR (sc : Nat → Nat → Int32) (m x : Int32) : Int32 := if wb m 0 99 && wb x 0 1 then (if x = 0 then (bsF sc m 100).1 else (bsF sc m 100).2) else -2
theorem c_X7_best {l : Launch} {D : va_G} {N : Nat} {adr : Nat → Nat} {G : Nat → va_E} {sc i0 i1 : Nat → Nat → Int32} {kp sg : Nat → Int32} {n : Nat} (hN : 103 ≤ N) (hW : isSW D adr G sc i0 i1 kp sg n) (hwf : wfT sc) {m x : Int32} :
    CT l D yX7_best cX7_best 7 (some FieldType.int) (rl 4) [.ref (adr 0), .int m, .int x] N adr G (PE (some (.int (beR sc m x))) N adr G) := by
  have hS := hW.2.1
  have hT := hS.1
  have hPs := hS.2
  refine CT.of (by decide +kernel) (Nat.le_of_ble_eq_true rfl) (fun Γ h he => ?_)
  have h : cx l D (rl 4) RX7 cX7_best 7 Γ := h
  show SX Γ 0 0 0 [(0, .ref (adr 0)), (1, .int m), (2, .int x)] [] N adr G
  refine s_iload_n h dX7_best_0 rfl <|
    k_X7_91 h (c_X7_isMinute) rfl rfl dX7_best_1 <|
    PE.go <|
    s_if_eq (tgt := 16) h dX7_best_4 (by decide) (fun c4 => ?_) (fun c4 => ?_)
  · refine s_bipush h dX7_best_16 bp_m2 <|
      s_iret h he rfl dX7_best_18 ⟨Nat.le_refl _, Nat.le_refl _⟩ ?_
    (try have e4 := bI_1 c4)
    (try have e4 := bI_0 c4)
    (try have e13 := bI_1 c13)
    (try have e13 := bI_0 c13)
    first
      | (have q : wb m 0 99 = false := e4; exact PE.eq (by simp [beR, q]) rfl)
      | (have q : wb x 0 1 = false := e13; exact PE.eq (by simp [beR, q]) rfl)
  · refine s_iload_n h dX7_best_7 rfl <|
      s_iconst h dX7_best_8 ic_0 <|
      s_iconst h dX7_best_9 ic_1 <|
      k_X7_55 h (c_X7_within) rfl rfl dX7_best_10 <|
      PE.go <|
      s_if_ne (tgt := 19) h dX7_best_13 (by decide) (fun c13 => ?_) (fun c13 => ?_)
    · (try have e4 := bI_1 c4)
      (try have e4 := bI_0 c4)
      (try have e13 := bI_1 c13)
      (try have e13 := bI_0 c13)
      refine s_iconst h dX7_best_19 ic_0 <|
        s_istore_n h dX7_best_20 rfl <|
        s_iconst h dX7_best_21 ic_0 <|
        s_istore h dX7_best_22 rfl <|
        s_iconst h dX7_best_24 ic_0 <|
        s_istore h dX7_best_25 rfl <|
        ?_
      refine SX.loc (up_ind (n := 100) (Q := fun i => SX Γ 0 0 27 [(0, .ref (adr 0)), (1, .int m), (2, .int x), (3, .int (bsF sc m i).1), (4, .int (bsF sc m i).2), (5, .int (nI i))] [] N adr G) ?_ ?_ 0 (Nat.zero_le _)) ⟨rfl, rfl, rfl, rfl, rfl, rfl, trivial⟩
      · show SX _ _ _ _ _ _ _ _ _
        refine s_iload h dX7_best_27 rfl <|
        s_bipush h dX7_best_29 bp_100 <|
        s_icmp_ge (tgt := 66) h dX7_best_31 (by decide) (kf := fun qx => absurd (by decide +kernel) qx) (kt := fun _ => ?_)
        refine s_iload_n h dX7_best_66 rfl <|
        s_if_ne (tgt := 74) h dX7_best_67 (by decide) (fun c67 => ?_) (fun c67 => ?_)
        · refine s_iload h dX7_best_74 rfl <|
          s_iret h he rfl dX7_best_76 ⟨Nat.le_refl _, Nat.le_refl _⟩ ?_
          first
            | (have q : x = 0 := c67; exact PE.eq (by rw [beR, e4, e13]; simp only [Bool.and_self, if_true, if_pos q]) rfl)
            | (have q : ¬ x = 0 := c67; exact PE.eq (by rw [beR, e4, e13]; simp only [Bool.and_self, if_true, if_neg q]) rfl)
        · refine s_iload_n h dX7_best_70 rfl <|
          s_goto (tgt := 76) h dX7_best_71 (by decide) <|
          s_iret h he rfl dX7_best_76 ⟨Nat.le_refl _, Nat.le_refl _⟩ ?_
          first
            | (have q : x = 0 := c67; exact PE.eq (by rw [beR, e4, e13]; simp only [Bool.and_self, if_true, if_pos q]) rfl)
            | (have q : ¬ x = 0 := c67; exact PE.eq (by rw [beR, e4, e13]; simp only [Bool.and_self, if_true, if_neg q]) rfl)
      · intro i hi ih 
        show SX _ _ _ _ _ _ _ _ _
        refine s_iload h dX7_best_27 rfl <|
        s_bipush h dX7_best_29 bp_100 <|
        s_icmp_ge (tgt := 66) h dX7_best_31 (by decide) (kt := fun qx => absurd qx (nI_ge hi (by decide))) (kf := fun _ => ?_)
        refine s_aload_n h dX7_best_34 rfl <|
        g_X7_10 h dX7_best_35 (by omega) hW.1 <|
        s_iload h dX7_best_38 rfl <|
        s_iload_n h dX7_best_40 rfl <|
        k_X7_238 h (c_X3_countShown (k := 1) (by omega) hT hwf) (by omega) hT.1 rfl rfl dX7_best_41 <|
        PE.go <|
        s_istore h dX7_best_44 rfl <|
        s_iload h dX7_best_46 rfl <|
        s_iload h dX7_best_48 rfl <|
        s_icmp_le (tgt := 60) h dX7_best_50 (by decide) (fun c50 => ?_) (fun c50 => ?_)
        · refine s_iincR h dX7_best_60 rfl rfl ic_1 (nI_1 i) <|
          s_goto (tgt := 27) h dX7_best_63 (by decide) <|
          ?_
          first
            | (have z := (bsF_s sc m i).trans (if_pos (i32_nle.mp c50)); rw [z] at ih; exact SX.loc ih ⟨rfl, rfl, rfl, rfl, rfl, rfl, trivial⟩)
            | (have z := (bsF_s sc m i).trans (if_neg (i32_nlt.mpr c50)); rw [z] at ih; exact SX.loc ih ⟨rfl, rfl, rfl, rfl, rfl, rfl, trivial⟩)
        · refine s_iload h dX7_best_53 rfl <|
          s_istore h dX7_best_55 rfl <|
          s_iload h dX7_best_57 rfl <|
          s_istore_n h dX7_best_59 rfl <|
          s_iincR h dX7_best_60 rfl rfl ic_1 (nI_1 i) <|
          s_goto (tgt := 27) h dX7_best_63 (by decide) <|
          ?_
          first
            | (have z := (bsF_s sc m i).trans (if_pos (i32_nle.mp c50)); rw [z] at ih; exact SX.loc ih ⟨rfl, rfl, rfl, rfl, rfl, rfl, trivial⟩)
            | (have z := (bsF_s sc m i).trans (if_neg (i32_nlt.mpr c50)); rw [z] at ih; exact SX.loc ih ⟨rfl, rfl, rfl, rfl, rfl, rfl, trivial⟩)
    · refine s_bipush h dX7_best_16 bp_m2 <|
        s_iret h he rfl dX7_best_18 ⟨Nat.le_refl _, Nat.le_refl _⟩ ?_
      (try have e4 := bI_1 c4)
      (try have e4 := bI_0 c4)
      (try have e13 := bI_1 c13)
      (try have e13 := bI_0 c13)
      first
        | (have q : wb m 0 99 = false := e4; exact PE.eq (by simp [beR, q]) rfl)
        | (have q : wb x 0 1 = false := e13; exact PE.eq (by simp [beR, q]) rfl)
def yX (s : Int32) : Nat → Int32 := fN (fun _ x => 75 * x + 74 - (75 * x + 74) / 65537 * 65537) s
theorem yX_s (s : Int32) (i : Nat) : yX s (i + 1) = 75 * yX s i + 74 - (75 * yX s i + 74) / 65537 * 65537 := by
  unfold yX
  rw [fN_s]
def yK (sc : Nat → Nat → Int32) (x : Int32) : Int32 := kP sc (x - x / 10 * 10) (x / 10 - x / 10 / 10 * 10)
def yC (sc : Nat → Nat → Int32) (s kd : Int32) : Nat → Int32 := fN (fun i c => if yK sc (yX s (i + 1)) = kd then c + 1 else c) 0
theorem yC_s (sc : Nat → Nat → Int32) (s kd : Int32) (i : Nat) : yC sc s kd (i + 1) = if yK sc (yX s (i + 1)) = kd then yC sc s kd i + 1 else yC sc s kd i := by
  unfold yC
  rw [fN_s]
def yeR (sc : Nat → Nat → Int32) (s m kd : Int32) : Int32 := if wb s 0 9999 && (wb m 1 99 && wb kd 0 3) then yC sc s kd m.toNatClampNeg else -2
theorem wb_1 {m M : Int32} (h : wb m 1 M = true) : wb m 0 M = true := by
  obtain ⟨a, b⟩ := wb_t.mp h
  refine wb_t.mpr ⟨?_, b⟩
  rw [Int32.le_iff_toInt_le] at a ⊢
  have : (1 : Int32).toInt = 1 := rfl
  have : (0 : Int32).toInt = 0 := rfl
  omega
theorem c_X7_year {l : Launch} {D : va_G} {N : Nat} {adr : Nat → Nat} {G : Nat → va_E} {sc i0 i1 : Nat → Nat → Int32} {kp sg : Nat → Int32} {n : Nat} (hN : 103 ≤ N) (hW : isSW D adr G sc i0 i1 kp sg n) {s m kd : Int32} :
    CT l D yX7_year cX7_year 7 (some FieldType.int) (rl 5) [.ref (adr 0), .int s, .int m, .int kd] N adr G (PE (some (.int (yeR sc s m kd))) N adr G) := by
  have hS := hW.2.1
  have hT := hS.1
  have hPs := hS.2
  refine CT.of (by decide +kernel) (Nat.le_of_ble_eq_true rfl) (fun Γ h he => ?_)
  have h : cx l D (rl 5) RX7 cX7_year 7 Γ := h
  show SX Γ 0 0 0 [(0, .ref (adr 0)), (1, .int s), (2, .int m), (3, .int kd)] [] N adr G
  refine s_iload_n h dX7_year_0 rfl <|
    s_iconst h dX7_year_1 ic_0 <|
    s_sipush h dX7_year_2 sp_9999 <|
    k_X7_55 h (c_X7_within) rfl rfl dX7_year_5 <|
    PE.go <|
    s_if_eq (tgt := 28) h dX7_year_8 (by decide) (fun c8 => ?_) (fun c8 => ?_)
  · refine s_bipush h dX7_year_28 bp_m2 <|
      s_iret h he rfl dX7_year_30 ⟨Nat.le_refl _, Nat.le_refl _⟩ ?_
    (try have e8 := bI_1 c8)
    (try have e8 := bI_0 c8)
    (try have e18 := bI_1 c18)
    (try have e18 := bI_0 c18)
    (try have e25 := bI_1 c25)
    (try have e25 := bI_0 c25)
    first
      | (have q : wb s 0 9999 = false := e8; exact PE.eq (by simp [yeR, q]) rfl)
      | (have q : wb m 1 99 = false := e18; exact PE.eq (by simp [yeR, q]) rfl)
      | (have q : wb kd 0 3 = false := e25; exact PE.eq (by simp [yeR, q]) rfl)
  · refine s_iload_n h dX7_year_11 rfl <|
      s_iconst h dX7_year_12 ic_1 <|
      s_bipush h dX7_year_13 bp_99 <|
      k_X7_55 h (c_X7_within) rfl rfl dX7_year_15 <|
      PE.go <|
      s_if_eq (tgt := 28) h dX7_year_18 (by decide) (fun c18 => ?_) (fun c18 => ?_)
    · refine s_bipush h dX7_year_28 bp_m2 <|
        s_iret h he rfl dX7_year_30 ⟨Nat.le_refl _, Nat.le_refl _⟩ ?_
      (try have e8 := bI_1 c8)
      (try have e8 := bI_0 c8)
      (try have e18 := bI_1 c18)
      (try have e18 := bI_0 c18)
      (try have e25 := bI_1 c25)
      (try have e25 := bI_0 c25)
      first
        | (have q : wb s 0 9999 = false := e8; exact PE.eq (by simp [yeR, q]) rfl)
        | (have q : wb m 1 99 = false := e18; exact PE.eq (by simp [yeR, q]) rfl)
        | (have q : wb kd 0 3 = false := e25; exact PE.eq (by simp [yeR, q]) rfl)
    · refine s_iload_n h dX7_year_21 rfl <|
        k_X7_214 h (c_X7_isKind) rfl rfl dX7_year_22 <|
        PE.go <|
        s_if_ne (tgt := 31) h dX7_year_25 (by decide) (fun c25 => ?_) (fun c25 => ?_)
      · (try have e8 := bI_1 c8)
        (try have e8 := bI_0 c8)
        (try have e18 := bI_1 c18)
        (try have e18 := bI_0 c18)
        (try have e25 := bI_1 c25)
        (try have e25 := bI_0 c25)
        have hixm := wb_ix (n := 99) (by decide) rfl (wb_1 e18)
        obtain ⟨M, hM⟩ : ∃ M, m.toNatClampNeg = M := ⟨_, rfl⟩
        have hme := ix_eq hixm
        rw [hM] at hme hixm
        have hM99 := hixm.2.2
        subst hme
        refine s_iload_n h dX7_year_31 rfl <|
          s_istore h dX7_year_32 rfl <|
          s_iconst h dX7_year_34 ic_0 <|
          s_istore h dX7_year_35 rfl <|
          s_iconst h dX7_year_37 ic_0 <|
          s_istore h dX7_year_38 rfl <|
          ?_
        refine SX.loc (up_ind (n := M) (Q := fun i => SX Γ 0 0 40 [(0, .ref (adr 0)), (1, .int s), (2, .int (nI M)), (3, .int kd), (4, .int (yX s i)), (5, .int (yC sc s kd i)), (6, .int (nI i))] [] N adr G) ?_ ?_ 0 (Nat.zero_le _)) ⟨rfl, rfl, rfl, rfl, rfl, rfl, rfl, trivial⟩
        · show SX _ _ _ _ _ _ _ _ _
          refine s_iload h dX7_year_40 rfl <|
          s_iload_n h dX7_year_42 rfl <|
          s_icmp_ge (tgt := 92) h dX7_year_43 (by decide) (kf := fun qx => absurd (nI_le (Nat.le_refl M) (by omega)) qx) (kt := fun _ => ?_)
          refine s_iload h dX7_year_92 rfl <|
          s_iret h he rfl dX7_year_94 ⟨Nat.le_refl _, Nat.le_refl _⟩ ?_
          exact PE.eq (by rw [yeR, e8, e18, e25, nI_clamp (by omega)]; rfl) rfl
        · intro i hi ih 
          show SX _ _ _ _ _ _ _ _ _
          refine s_iload h dX7_year_40 rfl <|
          s_iload_n h dX7_year_42 rfl <|
          s_icmp_ge (tgt := 92) h dX7_year_43 (by decide) (kt := fun qx => absurd qx (nI_ge hi (by omega))) (kf := fun _ => ?_)
          refine s_bipush h dX7_year_46 bp_75 <|
          s_iload h dX7_year_48 rfl <|
          s_imul h dX7_year_50 <|
          s_bipush h dX7_year_51 bp_74 <|
          s_iadd h dX7_year_53 <|
          s_ldc h dX7_year_54 tw581 <|
          s_irem h dX7_year_56 (by decide) <|
          s_topi (yX s (i + 1)) (yX_s s i).symm <|
          s_istore h dX7_year_57 rfl <|
          s_aload_n h dX7_year_59 rfl <|
          g_X7_10 h dX7_year_60 (by omega) hW.1 <|
          s_iload h dX7_year_63 rfl <|
          s_bipush h dX7_year_65 bp_10 <|
          s_irem h dX7_year_67 (by decide) <|
          s_iload h dX7_year_68 rfl <|
          s_bipush h dX7_year_70 bp_10 <|
          s_idiv h dX7_year_72 (by decide) <|
          s_bipush h dX7_year_73 bp_10 <|
          s_irem h dX7_year_75 (by decide) <|
          k_X7_142 h (c_X3_kindOfPair (k := 1) (by omega) hT hPs) (by omega) hT.1 rfl rfl dX7_year_76 <|
          PE.go <|
          s_iload_n h dX7_year_79 rfl <|
          s_icmp_ne (tgt := 86) h dX7_year_80 (by decide) (fun c80 => ?_) (fun c80 => ?_)
          · refine s_iincR h dX7_year_86 rfl rfl ic_1 (nI_1 i) <|
            s_goto (tgt := 40) h dX7_year_89 (by decide) <|
            ?_
            first
              | exact SX.loc ih ⟨rfl, rfl, rfl, rfl, rfl, rfl, rfl, trivial⟩
              | (have z := (yC_s sc s kd i).trans (if_neg c80); exact SX.loc (lv2 := [(0, .ref (adr 0)), (1, .int s), (2, .int (nI M)), (3, .int kd), (4, .int (yX s (i + 1))), (5, .int (yC sc s kd i)), (6, .int (nI (i + 1)))]) (z ▸ ih) ⟨rfl, rfl, rfl, rfl, rfl, rfl, rfl, trivial⟩)
          · refine s_iincR h dX7_year_83 rfl rfl ic_1 (show yC sc s kd i + 1 = yC sc s kd (i + 1) from ((yC_s sc s kd i).trans (if_pos c80)).symm) <|
            s_iincR h dX7_year_86 rfl rfl ic_1 (nI_1 i) <|
            s_goto (tgt := 40) h dX7_year_89 (by decide) <|
            ?_
            first
              | exact SX.loc ih ⟨rfl, rfl, rfl, rfl, rfl, rfl, rfl, trivial⟩
              | (have z := (yC_s sc s kd i).trans (if_neg c80); exact SX.loc (lv2 := [(0, .ref (adr 0)), (1, .int s), (2, .int (nI M)), (3, .int kd), (4, .int (yX s (i + 1))), (5, .int (yC sc s kd i)), (6, .int (nI (i + 1)))]) (z ▸ ih) ⟨rfl, rfl, rfl, rfl, rfl, rfl, rfl, trivial⟩)
      · refine s_bipush h dX7_year_28 bp_m2 <|
          s_iret h he rfl dX7_year_30 ⟨Nat.le_refl _, Nat.le_refl _⟩ ?_
        (try have e8 := bI_1 c8)
        (try have e8 := bI_0 c8)
        (try have e18 := bI_1 c18)
        (try have e18 := bI_0 c18)
        (try have e25 := bI_1 c25)
        (try have e25 := bI_0 c25)
        first
          | (have q : wb s 0 9999 = false := e8; exact PE.eq (by simp [yeR, q]) rfl)
          | (have q : wb m 1 99 = false := e18; exact PE.eq (by simp [yeR, q]) rfl)
          | (have q : wb kd 0 3 = false := e25; exact PE.eq (by simp [yeR, q]) rfl)
theorem isSW.i0 {D : va_G} {adr : Nat → Nat} {G G2 : Nat → va_E} {sc i0 i1 i2 : Nat → Nat → Int32} {kp kp2 sg : Nat → Int32} {n : Nat} (h : isSW D adr G sc i0 i1 kp sg n) (hs : isSc D adr G2 45 i2) (hk : G2 31 = aZ D 2 kp2) (e : ∀ j, j ≠ 31 → (j < 45 ∨ 45 + 29 ≤ j) → G2 j = G j) : isSW D adr G2 sc i2 i1 kp2 sg n := by
  obtain ⟨a, hsc, ⟨f, b1, b2⟩, c, ⟨pa, tu, lf, rg, hp⟩, ⟨fr, mo, hm, hm0⟩, ⟨s1, wy, s2⟩, ⟨th, col, p1⟩, ⟨th2, col2, p2⟩, j0, j1⟩ := h
  exact ⟨(e 0 (by omega) (by omega)).trans a, hsc.same (fun j h1 h2 => e j (by omega) (by omega)), ⟨f, (e 30 (by omega) (by omega)).trans b1, b2⟩, hk, ⟨pa, tu, lf, rg, hp.same (fun j h1 h2 => e j (by omega) (by omega))⟩, ⟨fr, mo, hm.same (fun j h1 h2 => e j (by omega) (by omega)), hm0⟩, ⟨(e 39 (by omega) (by omega)).trans s1, wy, (e 40 (by omega) (by omega)).trans s2⟩, ⟨th, col, p1.same (e 41 (by omega) (by omega)) (e 42 (by omega) (by omega))⟩, ⟨th2, col2, p2.same (e 43 (by omega) (by omega)) (e 44 (by omega) (by omega))⟩, hs, j1.same (fun j h1 h2 => e j (by omega) (by omega))⟩
theorem isSW.i1 {D : va_G} {adr : Nat → Nat} {G G2 : Nat → va_E} {sc i0 i1 i2 : Nat → Nat → Int32} {kp kp2 sg : Nat → Int32} {n : Nat} (h : isSW D adr G sc i0 i1 kp sg n) (hs : isSc D adr G2 74 i2) (hk : G2 31 = aZ D 2 kp2) (e : ∀ j, j ≠ 31 → (j < 74 ∨ 74 + 29 ≤ j) → G2 j = G j) : isSW D adr G2 sc i0 i2 kp2 sg n := by
  obtain ⟨a, hsc, ⟨f, b1, b2⟩, c, ⟨pa, tu, lf, rg, hp⟩, ⟨fr, mo, hm, hm0⟩, ⟨s1, wy, s2⟩, ⟨th, col, p1⟩, ⟨th2, col2, p2⟩, j0, j1⟩ := h
  exact ⟨(e 0 (by omega) (by omega)).trans a, hsc.same (fun j h1 h2 => e j (by omega) (by omega)), ⟨f, (e 30 (by omega) (by omega)).trans b1, b2⟩, hk, ⟨pa, tu, lf, rg, hp.same (fun j h1 h2 => e j (by omega) (by omega))⟩, ⟨fr, mo, hm.same (fun j h1 h2 => e j (by omega) (by omega)), hm0⟩, ⟨(e 39 (by omega) (by omega)).trans s1, wy, (e 40 (by omega) (by omega)).trans s2⟩, ⟨th, col, p1.same (e 41 (by omega) (by omega)) (e 42 (by omega) (by omega))⟩, ⟨th2, col2, p2.same (e 43 (by omega) (by omega)) (e 44 (by omega) (by omega))⟩, j0.same (fun j h1 h2 => e j (by omega) (by omega)), hs⟩
def imR (k : Int32) : Int32 := if wb k 0 1 then 1 else -2
def im0 (sc i0 : Nat → Nat → Int32) (k : Int32) : Nat → Nat → Int32 := if k = 0 then sc else i0
def im1 (sc i1 : Nat → Nat → Int32) (k : Int32) : Nat → Nat → Int32 := if k = 1 then sc else i1
def imK (kp : Nat → Int32) (k : Int32) : Nat → Int32 := if wb k 0 1 then upd kp k.toNatClampNeg 1 else kp
def rsR (kp : Nat → Int32) (k : Int32) : Int32 := if wb k 0 1 then (if kp k.toNatClampNeg = 0 then -3 else 1) else -2
def rsS (sc i0 i1 : Nat → Nat → Int32) (kp : Nat → Int32) (k : Int32) : Nat → Nat → Int32 := if wb k 0 1 then (if kp k.toNatClampNeg = 0 then sc else if k = 0 then i0 else i1) else sc
theorem wb01 {k : Int32} (h : wb k 0 1 = true) : k = 0 ∨ k = 1 := by
  have hx := wb_ix (n := 1) (by decide) rfl h
  have he := ix_eq hx
  have := hx.2.2
  have h2 : k.toNatClampNeg = 0 ∨ k.toNatClampNeg = 1 := by omega
  rcases h2 with h2 | h2
  · left; rw [he, h2]; rfl
  · right; rw [he, h2]; rfl
theorem c_X7_image {l : Launch} {D : va_G} {N : Nat} {adr : Nat → Nat} {G : Nat → va_E} {sc i0 i1 : Nat → Nat → Int32} {kp sg : Nat → Int32} {n : Nat} (hN : 103 ≤ N) (hW : isSW D adr G sc i0 i1 kp sg n) (hz : wfZ sc) {k : Int32} :
    CT l D yX7_image cX7_image 2 (some FieldType.int) (rl 4) [.ref (adr 0), .int k] N adr G (PR (some (.int (imR k))) N adr (fun W => isSW D adr W sc (im0 sc i0 k) (im1 sc i1 k) (imK kp k) sg n ∧ frW G W)) := by
  have hS := hW.2.1
  have hT := hS.1
  have hPs := hS.2
  obtain ⟨fi, hfi, hfi0, hfi1⟩ := hW.2.2.1
  refine CT.of (by decide +kernel) (Nat.le_of_ble_eq_true rfl) (fun Γ h he => ?_)
  have h : cx l D (rl 4) RX7 cX7_image 2 Γ := h
  show SX Γ 0 0 0 [(0, .ref (adr 0)), (1, .int k)] [] N adr G
  cases hb : wb k 0 1
  · refine s_iload_n h dX7_image_0 rfl <|
      s_iconst h dX7_image_1 ic_0 <|
      s_iconst h dX7_image_2 ic_1 <|
      k_X7_55 h (c_X7_within) rfl rfl dX7_image_3 <|
      PE.go <|
      s_if_ne (tgt := 12) h dX7_image_6 (by decide) (kt := fun qx => absurd (by rw [hb]; rfl) qx) (kf := fun _ => ?_)
    refine s_bipush h dX7_image_9 bp_m2 <|
      s_iret h he rfl dX7_image_11 ⟨Nat.le_refl _, Nat.le_refl _⟩ ?_
    exact PR.eq (by rw [imR, hb]; rfl) ⟨by rw [im0, im1, imK, hb, if_neg (fun q => by rw [q] at hb; exact absurd hb (by decide)), if_neg (fun q => by rw [q] at hb; exact absurd hb (by decide))]; exact hW, fun j hj => rfl⟩
  · rcases wb01 hb with rfl | rfl
    · refine s_iload_n h dX7_image_0 rfl <|
        s_iconst h dX7_image_1 ic_0 <|
        s_iconst h dX7_image_2 ic_1 <|
        k_X7_55 h (c_X7_within) rfl rfl dX7_image_3 <|
        PE.go <|
        s_if_ne (tgt := 12) h dX7_image_6 (by decide) (kf := fun qx => absurd qx (by decide)) (kt := fun _ => ?_)
      refine s_aload_n h dX7_image_12 rfl <|
        g_X7_16 h dX7_image_13 (by omega) hW.1 <|
        s_iload_n h dX7_image_16 rfl <|
        s_aaldS h dX7_image_17 (by omega) hfi (show ix 0 0 2 from ⟨by decide, by decide, by decide⟩) hfi0 <|
        s_aload_n h dX7_image_18 rfl <|
        g_X7_10 h dX7_image_19 (by omega) hW.1 <|
        k_X7_242 h (c_X3_copyFrom (k := 45) (k2 := 1) (by omega) hW.2.2.2.2.2.2.2.2.2.1.1 hW.2.2.2.2.2.2.2.2.2.1.2 (by omega) hS hz (by omega)) (by omega) hW.2.2.2.2.2.2.2.2.2.1.1.1 rfl rfl dX7_image_22 (PR.go0 fun V hV => ?_)
      refine s_aload_n h dX7_image_25 rfl <|
        g_X7_20 h dX7_image_26 (by omega) ((hV.2 0 (by omega)).trans hW.1) <|
        s_iload_n h dX7_image_29 rfl <|
        s_iconst h dX7_image_30 ic_1 <|
        s_zast h dX7_image_31 (by omega) ((hV.2 31 (by omega)).trans hW.2.2.2.1) (show ix 0 0 2 from ⟨by decide, by decide, by decide⟩) rfl <|
        s_iconst h dX7_image_32 ic_1 <|
        s_iret h he rfl dX7_image_33 ⟨Nat.le_refl _, Nat.le_refl _⟩ ?_
      have hk31 : va_up V 31 (aZ D 2 (upd kp 0 1)) 31 = aZ D 2 (upd kp 0 1) := up_eq _ _ _
      have hW2 := hW.i0 (hV.1.same (fun j h1 h2 => up_ne _ _ (by omega))) hk31 (fun j h1 h2 => (up_ne _ _ h1).trans (hV.2 j h2))
      exact PR.eq rfl ⟨hW2, fun j hj => (up_ne _ _ (by omega)).trans (hV.2 j (by omega))⟩
    · refine s_iload_n h dX7_image_0 rfl <|
        s_iconst h dX7_image_1 ic_0 <|
        s_iconst h dX7_image_2 ic_1 <|
        k_X7_55 h (c_X7_within) rfl rfl dX7_image_3 <|
        PE.go <|
        s_if_ne (tgt := 12) h dX7_image_6 (by decide) (kf := fun qx => absurd qx (by decide)) (kt := fun _ => ?_)
      refine s_aload_n h dX7_image_12 rfl <|
        g_X7_16 h dX7_image_13 (by omega) hW.1 <|
        s_iload_n h dX7_image_16 rfl <|
        s_aaldS h dX7_image_17 (by omega) hfi (show ix 1 1 2 from ⟨by decide, by decide, by decide⟩) hfi1 <|
        s_aload_n h dX7_image_18 rfl <|
        g_X7_10 h dX7_image_19 (by omega) hW.1 <|
        k_X7_242 h (c_X3_copyFrom (k := 74) (k2 := 1) (by omega) hW.2.2.2.2.2.2.2.2.2.2.1 hW.2.2.2.2.2.2.2.2.2.2.2 (by omega) hS hz (by omega)) (by omega) hW.2.2.2.2.2.2.2.2.2.2.1.1 rfl rfl dX7_image_22 (PR.go0 fun V hV => ?_)
      refine s_aload_n h dX7_image_25 rfl <|
        g_X7_20 h dX7_image_26 (by omega) ((hV.2 0 (by omega)).trans hW.1) <|
        s_iload_n h dX7_image_29 rfl <|
        s_iconst h dX7_image_30 ic_1 <|
        s_zast h dX7_image_31 (by omega) ((hV.2 31 (by omega)).trans hW.2.2.2.1) (show ix 1 1 2 from ⟨by decide, by decide, by decide⟩) rfl <|
        s_iconst h dX7_image_32 ic_1 <|
        s_iret h he rfl dX7_image_33 ⟨Nat.le_refl _, Nat.le_refl _⟩ ?_
      have hk31 : va_up V 31 (aZ D 2 (upd kp 1 1)) 31 = aZ D 2 (upd kp 1 1) := up_eq _ _ _
      have hW2 := hW.i1 (hV.1.same (fun j h1 h2 => up_ne _ _ (by omega))) hk31 (fun j h1 h2 => (up_ne _ _ h1).trans (hV.2 j h2))
      exact PR.eq rfl ⟨hW2, fun j hj => (up_ne _ _ (by omega)).trans (hV.2 j (by omega))⟩
theorem c_X7_restore {l : Launch} {D : va_G} {N : Nat} {adr : Nat → Nat} {G : Nat → va_E} {sc i0 i1 : Nat → Nat → Int32} {kp sg : Nat → Int32} {n : Nat} (hN : 103 ≤ N) (hW : isSW D adr G sc i0 i1 kp sg n) (hz0 : wfZ i0) (hz1 : wfZ i1) {k : Int32} :
    CT l D yX7_restore cX7_restore 2 (some FieldType.int) (rl 4) [.ref (adr 0), .int k] N adr G (PR (some (.int (rsR kp k))) N adr (fun W => isSW D adr W (rsS sc i0 i1 kp k) i0 i1 kp sg n ∧ frW G W)) := by
  have hS := hW.2.1
  have hT := hS.1
  have hPs := hS.2
  obtain ⟨fi, hfi, hfi0, hfi1⟩ := hW.2.2.1
  refine CT.of (by decide +kernel) (Nat.le_of_ble_eq_true rfl) (fun Γ h he => ?_)
  have h : cx l D (rl 4) RX7 cX7_restore 2 Γ := h
  show SX Γ 0 0 0 [(0, .ref (adr 0)), (1, .int k)] [] N adr G
  cases hb : wb k 0 1
  · refine s_iload_n h dX7_restore_0 rfl <|
      s_iconst h dX7_restore_1 ic_0 <|
      s_iconst h dX7_restore_2 ic_1 <|
      k_X7_55 h (c_X7_within) rfl rfl dX7_restore_3 <|
      PE.go <|
      s_if_ne (tgt := 12) h dX7_restore_6 (by decide) (kt := fun qx => absurd (by rw [hb]; rfl) qx) (kf := fun _ => ?_)
    refine s_bipush h dX7_restore_9 bp_m2 <|
      s_iret h he rfl dX7_restore_11 ⟨Nat.le_refl _, Nat.le_refl _⟩ ?_
    exact PR.eq (by rw [rsR, hb]; rfl) ⟨by rw [rsS, hb]; exact hW, fun j hj => rfl⟩
  · rcases wb01 hb with rfl | rfl
    · refine s_iload_n h dX7_restore_0 rfl <|
        s_iconst h dX7_restore_1 ic_0 <|
        s_iconst h dX7_restore_2 ic_1 <|
        k_X7_55 h (c_X7_within) rfl rfl dX7_restore_3 <|
        PE.go <|
        s_if_ne (tgt := 12) h dX7_restore_6 (by decide) (kf := fun qx => absurd qx (by decide)) (kt := fun _ => ?_)
      refine s_aload_n h dX7_restore_12 rfl <|
        g_X7_20 h dX7_restore_13 (by omega) hW.1 <|
        s_iload_n h dX7_restore_16 rfl <|
        s_zald h dX7_restore_17 (by omega) hW.2.2.2.1 (show ix 0 0 2 from ⟨by decide, by decide, by decide⟩) rfl <|
        s_if_ne (tgt := 24) h dX7_restore_18 (by decide) (fun c18 => ?_) (fun c18 => ?_)
      · refine s_aload_n h dX7_restore_24 rfl <|
          g_X7_10 h dX7_restore_25 (by omega) hW.1 <|
          s_aload_n h dX7_restore_28 rfl <|
          g_X7_16 h dX7_restore_29 (by omega) hW.1 <|
          s_iload_n h dX7_restore_32 rfl <|
          s_aaldS h dX7_restore_33 (by omega) hfi (show ix 0 0 2 from ⟨by decide, by decide, by decide⟩) hfi0 <|
          k_X7_242 h (c_X3_copyFrom (k := 1) (k2 := 45) (by omega) hT hPs (by omega) hW.2.2.2.2.2.2.2.2.2.1 hz0 (by omega)) (by omega) hT.1 rfl rfl dX7_restore_34 (PR.go0 fun V hV => ?_)
        refine s_iconst h dX7_restore_37 ic_1 <|
          s_iret h he rfl dX7_restore_38 ⟨Nat.le_refl _, Nat.le_refl _⟩ ?_
        have q : ¬ kp 0 = 0 := c18
        have hW2 := hW.sc hV.1 hV.2
        exact PR.eq (by rw [rsR, hb, if_pos rfl]; show some (Value.int 1) = some (Value.int (if kp 0 = 0 then -3 else 1)); rw [if_neg q]) ⟨by rw [rsS, hb, if_pos rfl]; show isSW D adr V (if kp 0 = 0 then sc else _) i0 i1 kp sg n; rw [if_neg q]; exact hW2, fun j hj => hV.2 j (by omega)⟩
      · refine s_bipush h dX7_restore_21 bp_m3 <|
          s_iret h he rfl dX7_restore_23 ⟨Nat.le_refl _, Nat.le_refl _⟩ ?_
        have q : kp 0 = 0 := c18
        exact PR.eq (by rw [rsR, hb, if_pos rfl]; show some (Value.int (-3)) = some (Value.int (if kp 0 = 0 then -3 else 1)); rw [if_pos q]) ⟨by rw [rsS, hb, if_pos rfl]; show isSW D adr G (if kp 0 = 0 then sc else _) i0 i1 kp sg n; rw [if_pos q]; exact hW, fun j hj => rfl⟩
    · refine s_iload_n h dX7_restore_0 rfl <|
        s_iconst h dX7_restore_1 ic_0 <|
        s_iconst h dX7_restore_2 ic_1 <|
        k_X7_55 h (c_X7_within) rfl rfl dX7_restore_3 <|
        PE.go <|
        s_if_ne (tgt := 12) h dX7_restore_6 (by decide) (kf := fun qx => absurd qx (by decide)) (kt := fun _ => ?_)
      refine s_aload_n h dX7_restore_12 rfl <|
        g_X7_20 h dX7_restore_13 (by omega) hW.1 <|
        s_iload_n h dX7_restore_16 rfl <|
        s_zald h dX7_restore_17 (by omega) hW.2.2.2.1 (show ix 1 1 2 from ⟨by decide, by decide, by decide⟩) rfl <|
        s_if_ne (tgt := 24) h dX7_restore_18 (by decide) (fun c18 => ?_) (fun c18 => ?_)
      · refine s_aload_n h dX7_restore_24 rfl <|
          g_X7_10 h dX7_restore_25 (by omega) hW.1 <|
          s_aload_n h dX7_restore_28 rfl <|
          g_X7_16 h dX7_restore_29 (by omega) hW.1 <|
          s_iload_n h dX7_restore_32 rfl <|
          s_aaldS h dX7_restore_33 (by omega) hfi (show ix 1 1 2 from ⟨by decide, by decide, by decide⟩) hfi1 <|
          k_X7_242 h (c_X3_copyFrom (k := 1) (k2 := 74) (by omega) hT hPs (by omega) hW.2.2.2.2.2.2.2.2.2.2 hz1 (by omega)) (by omega) hT.1 rfl rfl dX7_restore_34 (PR.go0 fun V hV => ?_)
        refine s_iconst h dX7_restore_37 ic_1 <|
          s_iret h he rfl dX7_restore_38 ⟨Nat.le_refl _, Nat.le_refl _⟩ ?_
        have q : ¬ kp 1 = 0 := c18
        have hW2 := hW.sc hV.1 hV.2
        exact PR.eq (by rw [rsR, hb, if_pos rfl]; show some (Value.int 1) = some (Value.int (if kp 1 = 0 then -3 else 1)); rw [if_neg q]) ⟨by rw [rsS, hb, if_pos rfl]; show isSW D adr V (if kp 1 = 0 then sc else _) i0 i1 kp sg n; rw [if_neg q]; exact hW2, fun j hj => hV.2 j (by omega)⟩
      · refine s_bipush h dX7_restore_21 bp_m3 <|
          s_iret h he rfl dX7_restore_23 ⟨Nat.le_refl _, Nat.le_refl _⟩ ?_
        have q : kp 1 = 0 := c18
        exact PR.eq (by rw [rsR, hb, if_pos rfl]; show some (Value.int (-3)) = some (Value.int (if kp 1 = 0 then -3 else 1)); rw [if_pos q]) ⟨by rw [rsS, hb, if_pos rfl]; show isSW D adr G (if kp 1 = 0 then sc else _) i0 i1 kp sg n; rw [if_pos q]; exact hW, fun j hj => rfl⟩
def tT (sc : Nat → Nat → Int32) (t x : Int32) : Int32 := if tE sc t then (if x = 0 then sc 2 t.toNatClampNeg else if x = 1 then sc 3 t.toNatClampNeg + 9 else if x = 2 then sc 4 t.toNatClampNeg else -2) else -2
def tP (sc : Nat → Nat → Int32) (p t : Int32) : Int32 := if pE sc p && wb t 0 5 then cA sc p t.toNatClampNeg else -2
def toR (sc : Nat → Nat → Int32) (n : Nat) (x : Int32) : Int32 := if x = 0 then nI n else if x = 1 then tB (sc 1) 6 else if x = 2 then tB (sc 5) 10 else if x = 3 then sc 0 0 else if x < 100 then tT sc (x / 10 - 1) (x - x / 10 * 10) else tP sc (x / 100 - 1) (x - x / 100 * 100)
theorem i_of {x : Int32} {j : Nat} (hj : j < 100) (h : x.toInt = (j : Int)) : x = nI j := Int32.toInt_inj.mp (by rw [nI_toInt (by omega)]; exact h)
theorem c_X7_toldOfThing {l : Launch} {D : va_G} {N : Nat} {adr : Nat → Nat} {G : Nat → va_E} {sc i0 i1 : Nat → Nat → Int32} {kp sg : Nat → Int32} {n : Nat} (hN : 103 ≤ N) (hW : isSW D adr G sc i0 i1 kp sg n) {t x : Int32} :
    CT l D yX7_toldOfThing cX7_toldOfThing 4 (some FieldType.int) (rl 2) [.ref (adr 0), .int t, .int x] N adr G (PE (some (.int (tT sc t x))) N adr G) := by
  have hS := hW.2.1
  have hT := hS.1
  have hPs := hS.2
  refine CT.of (by decide +kernel) (Nat.le_of_ble_eq_true rfl) (fun Γ h he => ?_)
  have h : cx l D (rl 2) RX7 cX7_toldOfThing 4 Γ := h
  show SX Γ 0 0 0 [(0, .ref (adr 0)), (1, .int t), (2, .int x)] [] N adr G
  cases he1 : tE sc t
  · refine s_aload_n h dX7_toldOfThing_0 rfl <|
      g_X7_10 h dX7_toldOfThing_1 (by omega) hW.1 <|
      s_iload_n h dX7_toldOfThing_4 rfl <|
      k_X7_73 h (c_X3_thingAt_f (k := 1) (by omega) hT he1) (by omega) hT.1 rfl rfl dX7_toldOfThing_5 <|
      PE.go <|
      s_astore_nN h dX7_toldOfThing_8 rfl <|
      s_aload_nN h dX7_toldOfThing_9 rfl <|
      s_ifnonnullN h dX7_toldOfThing_10 <|
      s_bipush h dX7_toldOfThing_13 bp_m2 <|
      s_iret h he rfl dX7_toldOfThing_15 ⟨Nat.le_refl _, Nat.le_refl _⟩ ?_
    exact PE.eq (by rw [tT, he1]; rfl) rfl
  · obtain ⟨hix, -⟩ := tE_t he1
    have hi := hix.2.2
    refine s_aload_n h dX7_toldOfThing_0 rfl <|
      g_X7_10 h dX7_toldOfThing_1 (by omega) hW.1 <|
      s_iload_n h dX7_toldOfThing_4 rfl <|
      k_X7_73 h (c_X3_thingAt_t (k := 1) (by omega) hT he1) (by omega) hT.1 rfl rfl dX7_toldOfThing_5 <|
      PE.go <|
      s_astore_n h dX7_toldOfThing_8 rfl <|
      s_aload_n h dX7_toldOfThing_9 rfl <|
      s_ifnonnull (tgt := 16) h dX7_toldOfThing_10 (by decide) <|
      s_iload_n h dX7_toldOfThing_16 rfl <|
      ?_
    by_cases hlo : x.toInt < 0 ∨ 2 < x.toInt
    · refine s_tableOut (tgt := 62) h dX7_toldOfThing_17 hlo (by decide) ?_
      refine s_bipush h dX7_toldOfThing_62 bp_m2 <|
        s_iret h he rfl dX7_toldOfThing_64 ⟨Nat.le_refl _, Nat.le_refl _⟩ ?_
      exact PE.eq (by rw [tT, he1, if_pos rfl, if_neg (fun q => by rw [q] at hlo; exact absurd hlo (by decide)), if_neg (fun q => by rw [q] at hlo; exact absurd hlo (by decide)), if_neg (fun q => by rw [q] at hlo; exact absurd hlo (by decide))]) rfl
    · obtain ⟨h1, h2⟩ : ¬ x.toInt < 0 ∧ ¬ 2 < x.toInt := ⟨fun q => hlo (Or.inl q), fun q => hlo (Or.inr q)⟩
      have h3 : x.toInt = ((0 : Nat) : Int) ∨ x.toInt = ((1 : Nat) : Int) ∨ x.toInt = ((2 : Nat) : Int) := by omega
      rcases h3 with h3 | h3 | h3
      · have hx := i_of (by decide) h3
        refine s_tableIn (tgt := 44) (off := 27) h dX7_toldOfThing_17 h1 h2 (by rw [h3]; rfl) (by decide) ?_
        refine s_aload_n h dX7_toldOfThing_44 rfl <|
          g_X7_252 h dX7_toldOfThing_45 (by omega) (hT.th hi) <|
          s_iret h he rfl dX7_toldOfThing_48 ⟨Nat.le_refl _, Nat.le_refl _⟩ ?_
        exact PE.eq (by rw [tT, he1, hx]; rfl) rfl
      · have hx := i_of (by decide) h3
        refine s_tableIn (tgt := 49) (off := 32) h dX7_toldOfThing_17 h1 h2 (by rw [h3]; rfl) (by decide) ?_
        refine s_aload_n h dX7_toldOfThing_49 rfl <|
          g_X7_255 h dX7_toldOfThing_50 (by omega) (hT.th hi) <|
          s_bipush h dX7_toldOfThing_53 bp_9 <|
          s_iadd h dX7_toldOfThing_55 <|
          s_iret h he rfl dX7_toldOfThing_56 ⟨Nat.le_refl _, Nat.le_refl _⟩ ?_
        exact PE.eq (by rw [tT, he1, hx]; rfl) rfl
      · have hx := i_of (by decide) h3
        refine s_tableIn (tgt := 57) (off := 40) h dX7_toldOfThing_17 h1 h2 (by rw [h3]; rfl) (by decide) ?_
        refine s_aload_n h dX7_toldOfThing_57 rfl <|
          g_X7_258 h dX7_toldOfThing_58 (by omega) (hT.th hi) <|
          s_iret h he rfl dX7_toldOfThing_61 ⟨Nat.le_refl _, Nat.le_refl _⟩ ?_
        exact PE.eq (by rw [tT, he1, hx]; rfl) rfl
theorem c_X7_toldOfPicture {l : Launch} {D : va_G} {N : Nat} {adr : Nat → Nat} {G : Nat → va_E} {sc i0 i1 : Nat → Nat → Int32} {kp sg : Nat → Int32} {n : Nat} (hN : 103 ≤ N) (hW : isSW D adr G sc i0 i1 kp sg n) {p t : Int32} :
    CT l D yX7_toldOfPicture cX7_toldOfPicture 4 (some FieldType.int) (rl 2) [.ref (adr 0), .int p, .int t] N adr G (PE (some (.int (tP sc p t))) N adr G) := by
  have hS := hW.2.1
  have hT := hS.1
  have hPs := hS.2
  refine CT.of (by decide +kernel) (Nat.le_of_ble_eq_true rfl) (fun Γ h he => ?_)
  have h : cx l D (rl 2) RX7 cX7_toldOfPicture 4 Γ := h
  show SX Γ 0 0 0 [(0, .ref (adr 0)), (1, .int p), (2, .int t)] [] N adr G
  cases he1 : pE sc p
  · refine s_aload_n h dX7_toldOfPicture_0 rfl <|
      g_X7_10 h dX7_toldOfPicture_1 (by omega) hW.1 <|
      s_iload_n h dX7_toldOfPicture_4 rfl <|
      k_X7_98 h (c_X3_pictureAt_f (k := 1) (by omega) hT hPs he1) (by omega) hT.1 rfl rfl dX7_toldOfPicture_5 <|
      PE.go <|
      s_astore_nN h dX7_toldOfPicture_8 rfl <|
      s_aload_nN h dX7_toldOfPicture_9 rfl <|
      s_ifnullN (tgt := 22) h dX7_toldOfPicture_10 (by decide) <|
      s_bipush h dX7_toldOfPicture_22 bp_m2 <|
      s_iret h he rfl dX7_toldOfPicture_24 ⟨Nat.le_refl _, Nat.le_refl _⟩ ?_
    exact PE.eq (by rw [tP, he1]; rfl) rfl
  · obtain ⟨hix, -⟩ := pE_t he1
    have hi := hix.2.2
    obtain ⟨hp0, fc, hp1, hp2⟩ := hPs.2 _ hi
    refine s_aload_n h dX7_toldOfPicture_0 rfl <|
      g_X7_10 h dX7_toldOfPicture_1 (by omega) hW.1 <|
      s_iload_n h dX7_toldOfPicture_4 rfl <|
      k_X7_98 h (c_X3_pictureAt_t (k := 1) (by omega) hT hPs he1) (by omega) hT.1 rfl rfl dX7_toldOfPicture_5 <|
      PE.go <|
      s_astore_n h dX7_toldOfPicture_8 rfl <|
      s_aload_n h dX7_toldOfPicture_9 rfl <|
      s_ifnull h dX7_toldOfPicture_10 <|
      s_iload_n h dX7_toldOfPicture_13 rfl <|
      s_iconst h dX7_toldOfPicture_14 ic_0 <|
      s_iconst h dX7_toldOfPicture_15 ic_5 <|
      k_X7_55 h (c_X7_within) rfl rfl dX7_toldOfPicture_16 <|
      PE.go <|
      s_if_ne (tgt := 25) h dX7_toldOfPicture_19 (by decide) (fun c19 => ?_) (fun c19 => ?_)
    · (try have e19 := bI_1 c19)
      (try have e19 := bI_0 c19)
      have hixt := wb_ix (n := 5) (by decide) rfl e19
      refine s_aload_n h dX7_toldOfPicture_25 rfl <|
        s_iload_n h dX7_toldOfPicture_26 rfl <|
        k_X7_102 h (c_X2_columnOf (k := 1 + 9 + 2 * p.toNatClampNeg) (by omega) hp0 hp1 hixt) (by omega) hp0 rfl rfl dX7_toldOfPicture_27 <|
        PE.go <|
        s_iret h he rfl dX7_toldOfPicture_30 ⟨Nat.le_refl _, Nat.le_refl _⟩ ?_
      exact PE.eq (by rw [tP, he1, e19, hp2 _ hixt.2.2]; rfl) rfl
    · refine s_bipush h dX7_toldOfPicture_22 bp_m2 <|
        s_iret h he rfl dX7_toldOfPicture_24 ⟨Nat.le_refl _, Nat.le_refl _⟩ ?_
      (try have e19 := bI_1 c19)
      (try have e19 := bI_0 c19)
      exact PE.eq (by rw [tP, he1, e19]; rfl) rfl
theorem c_X7_told {l : Launch} {D : va_G} {N : Nat} {adr : Nat → Nat} {G : Nat → va_E} {sc i0 i1 : Nat → Nat → Int32} {kp sg : Nat → Int32} {n : Nat} (hN : 103 ≤ N) (hW : isSW D adr G sc i0 i1 kp sg n) {x : Int32} :
    CT l D yX7_told cX7_told 2 (some FieldType.int) (rl 3) [.ref (adr 0), .int x] N adr G (PE (some (.int (toR sc n x))) N adr G) := by
  have hS := hW.2.1
  have hT := hS.1
  have hPs := hS.2
  obtain ⟨pa, tu, lf, rg, hp⟩ := hW.2.2.2.2.1
  refine CT.of (by decide +kernel) (Nat.le_of_ble_eq_true rfl) (fun Γ h he => ?_)
  have h : cx l D (rl 3) RX7 cX7_told 2 Γ := h
  show SX Γ 0 0 0 [(0, .ref (adr 0)), (1, .int x)] [] N adr G
  refine s_iload_n h dX7_told_0 rfl <|
    ?_
  by_cases hlo : x.toInt < 0 ∨ 3 < x.toInt
  · have n0 : ¬ x = 0 := fun q => by rw [q] at hlo; exact absurd hlo (by decide)
    have n1 : ¬ x = 1 := fun q => by rw [q] at hlo; exact absurd hlo (by decide)
    have n2 : ¬ x = 2 := fun q => by rw [q] at hlo; exact absurd hlo (by decide)
    have n3 : ¬ x = 3 := fun q => by rw [q] at hlo; exact absurd hlo (by decide)
    refine s_tableOut (tgt := 64) h dX7_told_1 hlo (by decide) ?_
    refine s_iload_n h dX7_told_64 rfl <|
      s_bipush h dX7_told_65 bp_100 <|
      s_icmp_ge (tgt := 87) h dX7_told_67 (by decide) (fun c67 => ?_) (fun c67 => ?_)
    · refine s_aload_n h dX7_told_87 rfl <|
        s_iload_n h dX7_told_88 rfl <|
        s_bipush h dX7_told_89 bp_100 <|
        s_idiv h dX7_told_91 (by decide) <|
        s_iconst h dX7_told_92 ic_1 <|
        s_isub h dX7_told_93 <|
        s_iload_n h dX7_told_94 rfl <|
        s_bipush h dX7_told_95 bp_100 <|
        s_irem h dX7_told_97 (by decide) <|
        k_X7_249 h (c_X7_toldOfPicture hN hW) (by omega) hW.1 rfl rfl dX7_told_98 <|
        PE.go <|
        s_iret h he rfl dX7_told_101 ⟨Nat.le_refl _, Nat.le_refl _⟩ ?_
      first
        | exact PE.eq (by rw [toR, if_neg n0, if_neg n1, if_neg n2, if_neg n3, if_pos (i32_nle.mp c67)]) rfl
        | exact PE.eq (by rw [toR, if_neg n0, if_neg n1, if_neg n2, if_neg n3, if_neg (i32_nlt.mpr c67)]) rfl
    · refine s_aload_n h dX7_told_70 rfl <|
        s_iload_n h dX7_told_71 rfl <|
        s_bipush h dX7_told_72 bp_10 <|
        s_idiv h dX7_told_74 (by decide) <|
        s_iconst h dX7_told_75 ic_1 <|
        s_isub h dX7_told_76 <|
        s_iload_n h dX7_told_77 rfl <|
        s_bipush h dX7_told_78 bp_10 <|
        s_irem h dX7_told_80 (by decide) <|
        k_X7_246 h (c_X7_toldOfThing hN hW) (by omega) hW.1 rfl rfl dX7_told_81 <|
        PE.go <|
        s_goto (tgt := 101) h dX7_told_84 (by decide) <|
        s_iret h he rfl dX7_told_101 ⟨Nat.le_refl _, Nat.le_refl _⟩ ?_
      first
        | exact PE.eq (by rw [toR, if_neg n0, if_neg n1, if_neg n2, if_neg n3, if_pos (i32_nle.mp c67)]) rfl
        | exact PE.eq (by rw [toR, if_neg n0, if_neg n1, if_neg n2, if_neg n3, if_neg (i32_nlt.mpr c67)]) rfl
  · obtain ⟨h1, h2⟩ : ¬ x.toInt < 0 ∧ ¬ 3 < x.toInt := ⟨fun q => hlo (Or.inl q), fun q => hlo (Or.inr q)⟩
    have h3 : x.toInt = ((0 : Nat) : Int) ∨ x.toInt = ((1 : Nat) : Int) ∨ x.toInt = ((2 : Nat) : Int) ∨ x.toInt = ((3 : Nat) : Int) := by omega
    rcases h3 with h3 | h3 | h3 | h3
    · have hx := i_of (by decide) h3
      refine s_tableIn (tgt := 32) (off := 31) h dX7_told_1 h1 h2 (by rw [h3]; rfl) (by decide) ?_
      refine s_aload_n h dX7_told_32 rfl <|
        g_X7_27 h dX7_told_33 (by omega) hW.1 <|
        g_X7_116 h dX7_told_36 (by omega) hp.1 <|
        s_iret h he rfl dX7_told_39 ⟨Nat.le_refl _, Nat.le_refl _⟩ ?_
      exact PE.eq (by rw [toR, hx]; rfl) rfl
    · have hx := i_of (by decide) h3
      refine s_tableIn (tgt := 40) (off := 39) h dX7_told_1 h1 h2 (by rw [h3]; rfl) (by decide) ?_
      refine s_aload_n h dX7_told_40 rfl <|
        g_X7_10 h dX7_told_41 (by omega) hW.1 <|
        k_X7_63 h (c_X3_thingBits (k := 1) (by omega) hT) (by omega) hT.1 rfl rfl dX7_told_44 <|
        PE.go <|
        s_iret h he rfl dX7_told_47 ⟨Nat.le_refl _, Nat.le_refl _⟩ ?_
      exact PE.eq (by rw [toR, hx]; rfl) rfl
    · have hx := i_of (by decide) h3
      refine s_tableIn (tgt := 48) (off := 47) h dX7_told_1 h1 h2 (by rw [h3]; rfl) (by decide) ?_
      refine s_aload_n h dX7_told_48 rfl <|
        g_X7_10 h dX7_told_49 (by omega) hW.1 <|
        k_X7_110 h (c_X3_pictureBits (k := 1) (by omega) hT hPs) (by omega) hT.1 rfl rfl dX7_told_52 <|
        PE.go <|
        s_iret h he rfl dX7_told_55 ⟨Nat.le_refl _, Nat.le_refl _⟩ ?_
      exact PE.eq (by rw [toR, hx]; rfl) rfl
    · have hx := i_of (by decide) h3
      refine s_tableIn (tgt := 56) (off := 55) h dX7_told_1 h1 h2 (by rw [h3]; rfl) (by decide) ?_
      refine s_aload_n h dX7_told_56 rfl <|
        g_X7_10 h dX7_told_57 (by omega) hW.1 <|
        g_X7_83 h dX7_told_60 (by omega) hT.1 <|
        s_iret h he rfl dX7_told_63 ⟨Nat.le_refl _, Nat.le_refl _⟩ ?_
      exact PE.eq (by rw [toR, hx]; rfl) rfl
