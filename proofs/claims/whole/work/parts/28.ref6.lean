theorem c_X8_toldOfThing {l : Launch} {D : va_G} {N : Nat} {adr : Nat → Nat} {G : Nat → va_E} {G0 : Nat → va_E} {f : Nat → Int32} {a : Nat → Nat → Int32} (hN : 115 ≤ N) (hM : isMF D adr G0 G f a) {t x : Int32} :
    CT l D yX8_toldOfThing cX8_toldOfThing 3 (some FieldType.int) (rl 2) [.ref (adr 103), .int t, .int x] N adr G (PE (some (.int (tT (mS f a) t x))) N adr G) := by
  refine CT.of (by decide +kernel) (Nat.le_of_ble_eq_true rfl) (fun Γ h he => ?_)
  have h : cx l D (rl 2) RX8 cX8_toldOfThing 3 Γ := h
  show SX Γ 0 0 0 [(0, .ref (adr 103)), (1, .int t), (2, .int x)] [] N adr G
  refine s_aload_n h dX8_toldOfThing_0 rfl <|
    s_iload_n h dX8_toldOfThing_1 rfl <|
    k_X8_79 h (c_X8_isThing hN hM) (by omega) hM.o rfl rfl dX8_toldOfThing_2 <|
    PE.go <|
    s_if_ne (tgt := 11) h dX8_toldOfThing_5 (by decide) (fun c5 => ?_) (fun c5 => ?_)
  · have e5 := bI_1 c5
    have hix := tE_ix e5
    refine s_iload_n h dX8_toldOfThing_11 rfl <|
      s_if_ne (tgt := 24) h dX8_toldOfThing_12 (by decide) (fun c12 => ?_) (fun c12 => ?_)
    · refine s_iload_n h dX8_toldOfThing_24 rfl <|
        s_iconst h dX8_toldOfThing_25 ic_1 <|
        s_icmp_ne (tgt := 41) h dX8_toldOfThing_26 (by decide) (fun c26 => ?_) (fun c26 => ?_)
      · refine s_iload_n h dX8_toldOfThing_41 rfl <|
          s_iconst h dX8_toldOfThing_42 ic_2 <|
          s_icmp_ne (tgt := 55) h dX8_toldOfThing_43 (by decide) (fun c43 => ?_) (fun c43 => ?_)
        · refine s_bipush h dX8_toldOfThing_55 bp_m2 <|
            s_iret h he rfl dX8_toldOfThing_57 ⟨Nat.le_refl _, Nat.le_refl _⟩ ?_
          first
            | (have q := bI_0 c5; exact PE.eq (by rw [tT, q]; rfl) rfl)
            | (have q : x = 0 := c12; exact PE.eq (by rw [tT, e5, if_pos rfl, if_pos q]; rfl) rfl)
            | (have q : ¬ x = 0 := c12; have q2 : x = 1 := c26; exact PE.eq (by rw [tT, e5, if_pos rfl, if_neg q, if_pos q2]; rfl) rfl)
            | (have q : ¬ x = 0 := c12; have q2 : ¬ x = 1 := c26; have q3 : x = 2 := c43; exact PE.eq (by rw [tT, e5, if_pos rfl, if_neg q, if_neg q2, if_pos q3]; rfl) rfl)
            | (have q : ¬ x = 0 := c12; have q2 : ¬ x = 1 := c26; have q3 : ¬ x = 2 := c43; exact PE.eq (by rw [tT, e5, if_pos rfl, if_neg q, if_neg q2, if_neg q3]) rfl)
        · refine s_aload_n h dX8_toldOfThing_46 rfl <|
            gm_16 h dX8_toldOfThing_47 hN hM <|
            s_iload_n h dX8_toldOfThing_50 rfl <|
            s_iald h dX8_toldOfThing_51 (by omega) hM.a106 hix rfl <|
            s_goto (tgt := 57) h dX8_toldOfThing_52 (by decide) <|
            s_iret h he rfl dX8_toldOfThing_57 ⟨Nat.le_refl _, Nat.le_refl _⟩ ?_
          first
            | (have q := bI_0 c5; exact PE.eq (by rw [tT, q]; rfl) rfl)
            | (have q : x = 0 := c12; exact PE.eq (by rw [tT, e5, if_pos rfl, if_pos q]; rfl) rfl)
            | (have q : ¬ x = 0 := c12; have q2 : x = 1 := c26; exact PE.eq (by rw [tT, e5, if_pos rfl, if_neg q, if_pos q2]; rfl) rfl)
            | (have q : ¬ x = 0 := c12; have q2 : ¬ x = 1 := c26; have q3 : x = 2 := c43; exact PE.eq (by rw [tT, e5, if_pos rfl, if_neg q, if_neg q2, if_pos q3]; rfl) rfl)
            | (have q : ¬ x = 0 := c12; have q2 : ¬ x = 1 := c26; have q3 : ¬ x = 2 := c43; exact PE.eq (by rw [tT, e5, if_pos rfl, if_neg q, if_neg q2, if_neg q3]) rfl)
      · refine s_aload_n h dX8_toldOfThing_29 rfl <|
          gm_13 h dX8_toldOfThing_30 hN hM <|
          s_iload_n h dX8_toldOfThing_33 rfl <|
          s_iald h dX8_toldOfThing_34 (by omega) hM.a105 hix rfl <|
          s_bipush h dX8_toldOfThing_35 bp_9 <|
          s_iadd h dX8_toldOfThing_37 <|
          s_goto (tgt := 57) h dX8_toldOfThing_38 (by decide) <|
          s_iret h he rfl dX8_toldOfThing_57 ⟨Nat.le_refl _, Nat.le_refl _⟩ ?_
        first
          | (have q := bI_0 c5; exact PE.eq (by rw [tT, q]; rfl) rfl)
          | (have q : x = 0 := c12; exact PE.eq (by rw [tT, e5, if_pos rfl, if_pos q]; rfl) rfl)
          | (have q : ¬ x = 0 := c12; have q2 : x = 1 := c26; exact PE.eq (by rw [tT, e5, if_pos rfl, if_neg q, if_pos q2]; rfl) rfl)
          | (have q : ¬ x = 0 := c12; have q2 : ¬ x = 1 := c26; have q3 : x = 2 := c43; exact PE.eq (by rw [tT, e5, if_pos rfl, if_neg q, if_neg q2, if_pos q3]; rfl) rfl)
          | (have q : ¬ x = 0 := c12; have q2 : ¬ x = 1 := c26; have q3 : ¬ x = 2 := c43; exact PE.eq (by rw [tT, e5, if_pos rfl, if_neg q, if_neg q2, if_neg q3]) rfl)
    · refine s_aload_n h dX8_toldOfThing_15 rfl <|
        gm_7 h dX8_toldOfThing_16 hN hM <|
        s_iload_n h dX8_toldOfThing_19 rfl <|
        s_iald h dX8_toldOfThing_20 (by omega) hM.a104 hix rfl <|
        s_goto (tgt := 57) h dX8_toldOfThing_21 (by decide) <|
        s_iret h he rfl dX8_toldOfThing_57 ⟨Nat.le_refl _, Nat.le_refl _⟩ ?_
      first
        | (have q := bI_0 c5; exact PE.eq (by rw [tT, q]; rfl) rfl)
        | (have q : x = 0 := c12; exact PE.eq (by rw [tT, e5, if_pos rfl, if_pos q]; rfl) rfl)
        | (have q : ¬ x = 0 := c12; have q2 : x = 1 := c26; exact PE.eq (by rw [tT, e5, if_pos rfl, if_neg q, if_pos q2]; rfl) rfl)
        | (have q : ¬ x = 0 := c12; have q2 : ¬ x = 1 := c26; have q3 : x = 2 := c43; exact PE.eq (by rw [tT, e5, if_pos rfl, if_neg q, if_neg q2, if_pos q3]; rfl) rfl)
        | (have q : ¬ x = 0 := c12; have q2 : ¬ x = 1 := c26; have q3 : ¬ x = 2 := c43; exact PE.eq (by rw [tT, e5, if_pos rfl, if_neg q, if_neg q2, if_neg q3]) rfl)
  · refine s_bipush h dX8_toldOfThing_8 bp_m2 <|
      s_iret h he rfl dX8_toldOfThing_10 ⟨Nat.le_refl _, Nat.le_refl _⟩ ?_
    first
      | (have q := bI_0 c5; exact PE.eq (by rw [tT, q]; rfl) rfl)
      | (have q : x = 0 := c12; exact PE.eq (by rw [tT, e5, if_pos rfl, if_pos q]; rfl) rfl)
      | (have q : ¬ x = 0 := c12; have q2 : x = 1 := c26; exact PE.eq (by rw [tT, e5, if_pos rfl, if_neg q, if_pos q2]; rfl) rfl)
      | (have q : ¬ x = 0 := c12; have q2 : ¬ x = 1 := c26; have q3 : x = 2 := c43; exact PE.eq (by rw [tT, e5, if_pos rfl, if_neg q, if_neg q2, if_pos q3]; rfl) rfl)
      | (have q : ¬ x = 0 := c12; have q2 : ¬ x = 1 := c26; have q3 : ¬ x = 2 := c43; exact PE.eq (by rw [tT, e5, if_pos rfl, if_neg q, if_neg q2, if_neg q3]) rfl)
def toM (f : Nat → Int32) (a : Nat → Nat → Int32) (x : Int32) : Int32 := if wb x 100 1099 then tP (mS f a) (x / 100 - 1) (x - x / 100 * 100) else if wb x 10 69 then tT (mS f a) (x / 10 - 1) (x - x / 10 * 10) else if x = 0 then f 8 else if x = 1 then f 0 else if x = 2 then f 5 else if x = 3 then f 4 else -2
theorem wb_lo {x L M : Int32} (hL : 0 ≤ L) (h : wb x L M = true) : wb x 0 M = true := by
  obtain ⟨a, b⟩ := wb_t.mp h
  refine wb_t.mpr ⟨?_, b⟩
  rw [Int32.le_iff_toInt_le] at a hL ⊢
  omega
theorem tP_n {sc : Nat → Nat → Int32} {p t : Nat} (hp : p < 10) (ht : t < 6) (h : pE sc (nI p) = true) : tP sc (nI p) (nI t) = sc (6 + p) t := by
  unfold tP cA
  rw [h, show wb (nI t) 0 5 = true from ix_wb (ix_n ht (by decide)) (by decide) rfl, nI_clamp (by omega), nI_clamp (by omega)]
  rfl
theorem tP_0 {sc : Nat → Nat → Int32} {p t : Int32} (h : pE sc p = false) : tP sc p t = -2 := by unfold tP; rw [h]; rfl
theorem tP_1 {sc : Nat → Nat → Int32} {p t : Int32} (h : 6 ≤ t) : tP sc p t = -2 := by
  unfold tP
  rw [show wb t 0 5 = false from wb_f.mpr (fun q => by
    have := q.2
    rw [Int32.le_iff_toInt_le] at this h
    have h5 : (5 : Int32).toInt = 5 := rfl
    have h6 : (6 : Int32).toInt = 6 := rfl
    omega), Bool.and_false]
  rfl
theorem toM_1 {f : Nat → Int32} {a : Nat → Nat → Int32} {k : Nat} (hk : k < 1100) (h : wb (nI k) 100 1099 = true) : toM f a (nI k) = tP (mS f a) (nI (k / 100 - 1)) (nI (k % 100)) := by
  have h1 : 100 ≤ k := by
    have := (wb_t.mp h).1
    rw [Int32.le_iff_toInt_le, nI_toInt (by omega)] at this
    have h5 : (100 : Int32).toInt = 100 := rfl
    omega
  unfold toM
  rw [if_pos h, show nI k / 100 = nI (k / 100) from nI_div (b := 100) (by omega) (by decide), nI_sub1 (by omega), ← nI_div (b := 100) (by omega) (by decide)]
  exact congrArg _ (nI_rem (b := 100) (by omega) (by decide))
theorem toM_2 {f : Nat → Int32} {a : Nat → Nat → Int32} {x : Int32} (h : wb x 100 1099 = false) : toM f a x = if wb x 10 69 then tT (mS f a) (x / 10 - 1) (x - x / 10 * 10) else if x = 0 then f 8 else if x = 1 then f 0 else if x = 2 then f 5 else if x = 3 then f 4 else -2 := if_neg (fun z => Bool.false_ne_true (h.symm.trans z))
theorem k100 {k : Nat} (hk : k < 1100) (h : wb (nI k) 100 1099 = true) : 1 ≤ k / 100 := by
  have := (wb_t.mp h).1
  rw [Int32.le_iff_toInt_le, nI_toInt (by omega)] at this
  have h5 : (100 : Int32).toInt = 100 := rfl
  omega
theorem c_X8_told {l : Launch} {D : va_G} {N : Nat} {adr : Nat → Nat} {G : Nat → va_E} {G0 : Nat → va_E} {f : Nat → Int32} {a : Nat → Nat → Int32} (hN : 115 ≤ N) (hM : isMF D adr G0 G f a) {x : Int32} :
    CT l D yX8_told cX8_told 4 (some FieldType.int) (rl 3) [.ref (adr 103), .int x] N adr G (PE (some (.int (toM f a x))) N adr G) := by
  refine CT.of (by decide +kernel) (Nat.le_of_ble_eq_true rfl) (fun Γ h he => ?_)
  have h : cx l D (rl 3) RX8 cX8_told 4 Γ := h
  show SX Γ 0 0 0 [(0, .ref (adr 103)), (1, .int x)] [] N adr G
  cases e11 : wb x 100 1099
  · refine s_iload_n h dX8_told_0 rfl <|
      s_i2l h dX8_told_1 <|
      s_ldc2 h dX8_told_2 tw915 <|
      s_ldc2 h dX8_told_5 tw916 <|
      k_X8_50 h (c_X8_inw (a := 100) (b := 1099) (by decide) (by decide)) rfl rfl dX8_told_8 <|
      PE.go <|
      s_if_eq (tgt := 57) h dX8_told_11 (by decide) (kf := fun qx => absurd (by rw [e11]; rfl) qx) (kt := fun _ => ?_)
    refine s_iload_n h dX8_told_57 rfl <|
      s_i2l h dX8_told_58 <|
      s_ldc2 h dX8_told_59 tw866 <|
      s_ldc2 h dX8_told_62 tw917 <|
      k_X8_50 h (c_X8_inw (a := 10) (b := 69) (by decide) (by decide)) rfl rfl dX8_told_65 <|
      PE.go <|
      s_if_eq (tgt := 86) h dX8_told_68 (by decide) (fun c68 => ?_) (fun c68 => ?_)
    · refine s_iload_n h dX8_told_86 rfl <|
        s_if_ne (tgt := 97) h dX8_told_87 (by decide) (fun c87 => ?_) (fun c87 => ?_)
      · refine s_iload_n h dX8_told_97 rfl <|
          s_iconst h dX8_told_98 ic_1 <|
          s_icmp_ne (tgt := 109) h dX8_told_99 (by decide) (fun c99 => ?_) (fun c99 => ?_)
        · refine s_iload_n h dX8_told_109 rfl <|
            s_iconst h dX8_told_110 ic_2 <|
            s_icmp_ne (tgt := 121) h dX8_told_111 (by decide) (fun c111 => ?_) (fun c111 => ?_)
          · refine s_iload_n h dX8_told_121 rfl <|
              s_iconst h dX8_told_122 ic_3 <|
              s_icmp_ne (tgt := 133) h dX8_told_123 (by decide) (fun c123 => ?_) (fun c123 => ?_)
            · refine s_bipush h dX8_told_133 bp_m2 <|
                s_iret h he rfl dX8_told_135 ⟨Nat.le_refl _, Nat.le_refl _⟩ ?_
              first
                | (have q := bI_1 c68; exact PE.eq (by rw [toM_2 e11, q]; rfl) rfl)
                | (have q := bI_0 c68; have q1 : x = 0 := c87; exact PE.eq (by rw [toM_2 e11, bool_ifn q, if_pos q1]) rfl)
                | (have q := bI_0 c68; have q1 : ¬ x = 0 := c87; have q2 : x = 1 := c99; exact PE.eq (by rw [toM_2 e11, bool_ifn q, if_neg q1, if_pos q2]) rfl)
                | (have q := bI_0 c68; have q1 : ¬ x = 0 := c87; have q2 : ¬ x = 1 := c99; have q3 : x = 2 := c111; exact PE.eq (by rw [toM_2 e11, bool_ifn q, if_neg q1, if_neg q2, if_pos q3]) rfl)
                | (have q := bI_0 c68; have q1 : ¬ x = 0 := c87; have q2 : ¬ x = 1 := c99; have q3 : ¬ x = 2 := c111; have q4 : x = 3 := c123; exact PE.eq (by rw [toM_2 e11, bool_ifn q, if_neg q1, if_neg q2, if_neg q3, if_pos q4]) rfl)
                | (have q := bI_0 c68; have q1 : ¬ x = 0 := c87; have q2 : ¬ x = 1 := c99; have q3 : ¬ x = 2 := c111; have q4 : ¬ x = 3 := c123; exact PE.eq (by rw [toM_2 e11, bool_ifn q, if_neg q1, if_neg q2, if_neg q3, if_neg q4]) rfl)
            · refine s_aload_n h dX8_told_126 rfl <|
                gm_44 h dX8_told_127 hN hM <|
                s_goto (tgt := 135) h dX8_told_130 (by decide) <|
                s_iret h he rfl dX8_told_135 ⟨Nat.le_refl _, Nat.le_refl _⟩ ?_
              first
                | (have q := bI_1 c68; exact PE.eq (by rw [toM_2 e11, q]; rfl) rfl)
                | (have q := bI_0 c68; have q1 : x = 0 := c87; exact PE.eq (by rw [toM_2 e11, bool_ifn q, if_pos q1]) rfl)
                | (have q := bI_0 c68; have q1 : ¬ x = 0 := c87; have q2 : x = 1 := c99; exact PE.eq (by rw [toM_2 e11, bool_ifn q, if_neg q1, if_pos q2]) rfl)
                | (have q := bI_0 c68; have q1 : ¬ x = 0 := c87; have q2 : ¬ x = 1 := c99; have q3 : x = 2 := c111; exact PE.eq (by rw [toM_2 e11, bool_ifn q, if_neg q1, if_neg q2, if_pos q3]) rfl)
                | (have q := bI_0 c68; have q1 : ¬ x = 0 := c87; have q2 : ¬ x = 1 := c99; have q3 : ¬ x = 2 := c111; have q4 : x = 3 := c123; exact PE.eq (by rw [toM_2 e11, bool_ifn q, if_neg q1, if_neg q2, if_neg q3, if_pos q4]) rfl)
                | (have q := bI_0 c68; have q1 : ¬ x = 0 := c87; have q2 : ¬ x = 1 := c99; have q3 : ¬ x = 2 := c111; have q4 : ¬ x = 3 := c123; exact PE.eq (by rw [toM_2 e11, bool_ifn q, if_neg q1, if_neg q2, if_neg q3, if_neg q4]) rfl)
          · refine s_aload_n h dX8_told_114 rfl <|
              gm_61 h dX8_told_115 hN hM <|
              s_goto (tgt := 135) h dX8_told_118 (by decide) <|
              s_iret h he rfl dX8_told_135 ⟨Nat.le_refl _, Nat.le_refl _⟩ ?_
            first
              | (have q := bI_1 c68; exact PE.eq (by rw [toM_2 e11, q]; rfl) rfl)
              | (have q := bI_0 c68; have q1 : x = 0 := c87; exact PE.eq (by rw [toM_2 e11, bool_ifn q, if_pos q1]) rfl)
              | (have q := bI_0 c68; have q1 : ¬ x = 0 := c87; have q2 : x = 1 := c99; exact PE.eq (by rw [toM_2 e11, bool_ifn q, if_neg q1, if_pos q2]) rfl)
              | (have q := bI_0 c68; have q1 : ¬ x = 0 := c87; have q2 : ¬ x = 1 := c99; have q3 : x = 2 := c111; exact PE.eq (by rw [toM_2 e11, bool_ifn q, if_neg q1, if_neg q2, if_pos q3]) rfl)
              | (have q := bI_0 c68; have q1 : ¬ x = 0 := c87; have q2 : ¬ x = 1 := c99; have q3 : ¬ x = 2 := c111; have q4 : x = 3 := c123; exact PE.eq (by rw [toM_2 e11, bool_ifn q, if_neg q1, if_neg q2, if_neg q3, if_pos q4]) rfl)
              | (have q := bI_0 c68; have q1 : ¬ x = 0 := c87; have q2 : ¬ x = 1 := c99; have q3 : ¬ x = 2 := c111; have q4 : ¬ x = 3 := c123; exact PE.eq (by rw [toM_2 e11, bool_ifn q, if_neg q1, if_neg q2, if_neg q3, if_neg q4]) rfl)
        · refine s_aload_n h dX8_told_102 rfl <|
            gm_56 h dX8_told_103 hN hM <|
            s_goto (tgt := 135) h dX8_told_106 (by decide) <|
            s_iret h he rfl dX8_told_135 ⟨Nat.le_refl _, Nat.le_refl _⟩ ?_
          first
            | (have q := bI_1 c68; exact PE.eq (by rw [toM_2 e11, q]; rfl) rfl)
            | (have q := bI_0 c68; have q1 : x = 0 := c87; exact PE.eq (by rw [toM_2 e11, bool_ifn q, if_pos q1]) rfl)
            | (have q := bI_0 c68; have q1 : ¬ x = 0 := c87; have q2 : x = 1 := c99; exact PE.eq (by rw [toM_2 e11, bool_ifn q, if_neg q1, if_pos q2]) rfl)
            | (have q := bI_0 c68; have q1 : ¬ x = 0 := c87; have q2 : ¬ x = 1 := c99; have q3 : x = 2 := c111; exact PE.eq (by rw [toM_2 e11, bool_ifn q, if_neg q1, if_neg q2, if_pos q3]) rfl)
            | (have q := bI_0 c68; have q1 : ¬ x = 0 := c87; have q2 : ¬ x = 1 := c99; have q3 : ¬ x = 2 := c111; have q4 : x = 3 := c123; exact PE.eq (by rw [toM_2 e11, bool_ifn q, if_neg q1, if_neg q2, if_neg q3, if_pos q4]) rfl)
            | (have q := bI_0 c68; have q1 : ¬ x = 0 := c87; have q2 : ¬ x = 1 := c99; have q3 : ¬ x = 2 := c111; have q4 : ¬ x = 3 := c123; exact PE.eq (by rw [toM_2 e11, bool_ifn q, if_neg q1, if_neg q2, if_neg q3, if_neg q4]) rfl)
      · refine s_aload_n h dX8_told_90 rfl <|
          gm_94 h dX8_told_91 hN hM <|
          s_goto (tgt := 135) h dX8_told_94 (by decide) <|
          s_iret h he rfl dX8_told_135 ⟨Nat.le_refl _, Nat.le_refl _⟩ ?_
        first
          | (have q := bI_1 c68; exact PE.eq (by rw [toM_2 e11, q]; rfl) rfl)
          | (have q := bI_0 c68; have q1 : x = 0 := c87; exact PE.eq (by rw [toM_2 e11, bool_ifn q, if_pos q1]) rfl)
          | (have q := bI_0 c68; have q1 : ¬ x = 0 := c87; have q2 : x = 1 := c99; exact PE.eq (by rw [toM_2 e11, bool_ifn q, if_neg q1, if_pos q2]) rfl)
          | (have q := bI_0 c68; have q1 : ¬ x = 0 := c87; have q2 : ¬ x = 1 := c99; have q3 : x = 2 := c111; exact PE.eq (by rw [toM_2 e11, bool_ifn q, if_neg q1, if_neg q2, if_pos q3]) rfl)
          | (have q := bI_0 c68; have q1 : ¬ x = 0 := c87; have q2 : ¬ x = 1 := c99; have q3 : ¬ x = 2 := c111; have q4 : x = 3 := c123; exact PE.eq (by rw [toM_2 e11, bool_ifn q, if_neg q1, if_neg q2, if_neg q3, if_pos q4]) rfl)
          | (have q := bI_0 c68; have q1 : ¬ x = 0 := c87; have q2 : ¬ x = 1 := c99; have q3 : ¬ x = 2 := c111; have q4 : ¬ x = 3 := c123; exact PE.eq (by rw [toM_2 e11, bool_ifn q, if_neg q1, if_neg q2, if_neg q3, if_neg q4]) rfl)
    · refine s_aload_n h dX8_told_71 rfl <|
        s_iload_n h dX8_told_72 rfl <|
        s_bipush h dX8_told_73 bp_10 <|
        s_idiv h dX8_told_75 (by decide) <|
        s_iconst h dX8_told_76 ic_1 <|
        s_isub h dX8_told_77 <|
        s_iload_n h dX8_told_78 rfl <|
        s_bipush h dX8_told_79 bp_10 <|
        s_irem h dX8_told_81 (by decide) <|
        k_X8_220 h (c_X8_toldOfThing hN hM) (by omega) hM.o rfl rfl dX8_told_82 <|
        PE.go <|
        s_iret h he rfl dX8_told_85 ⟨Nat.le_refl _, Nat.le_refl _⟩ ?_
      first
        | (have q := bI_1 c68; exact PE.eq (by rw [toM_2 e11, q]; rfl) rfl)
        | (have q := bI_0 c68; have q1 : x = 0 := c87; exact PE.eq (by rw [toM_2 e11, bool_ifn q, if_pos q1]) rfl)
        | (have q := bI_0 c68; have q1 : ¬ x = 0 := c87; have q2 : x = 1 := c99; exact PE.eq (by rw [toM_2 e11, bool_ifn q, if_neg q1, if_pos q2]) rfl)
        | (have q := bI_0 c68; have q1 : ¬ x = 0 := c87; have q2 : ¬ x = 1 := c99; have q3 : x = 2 := c111; exact PE.eq (by rw [toM_2 e11, bool_ifn q, if_neg q1, if_neg q2, if_pos q3]) rfl)
        | (have q := bI_0 c68; have q1 : ¬ x = 0 := c87; have q2 : ¬ x = 1 := c99; have q3 : ¬ x = 2 := c111; have q4 : x = 3 := c123; exact PE.eq (by rw [toM_2 e11, bool_ifn q, if_neg q1, if_neg q2, if_neg q3, if_pos q4]) rfl)
        | (have q := bI_0 c68; have q1 : ¬ x = 0 := c87; have q2 : ¬ x = 1 := c99; have q3 : ¬ x = 2 := c111; have q4 : ¬ x = 3 := c123; exact PE.eq (by rw [toM_2 e11, bool_ifn q, if_neg q1, if_neg q2, if_neg q3, if_neg q4]) rfl)
  · obtain ⟨k, hkk⟩ : ∃ k, x.toNatClampNeg = k := ⟨_, rfl⟩
    have hix := wb_ix (n := 1099) (by decide) rfl (wb_lo (by decide) e11)
    have hxe := ix_eq hix
    rw [hkk] at hxe hix
    have hk := hix.2.2
    subst hxe
    have hk1 := k100 hk e11
    refine s_iload_n h dX8_told_0 rfl <|
      s_i2l h dX8_told_1 <|
      s_ldc2 h dX8_told_2 tw915 <|
      s_ldc2 h dX8_told_5 tw916 <|
      k_X8_50 h (c_X8_inw (a := 100) (b := 1099) (by decide) (by decide)) rfl rfl dX8_told_8 <|
      PE.go <|
      s_if_eq (tgt := 57) h dX8_told_11 (by decide) (kt := fun qx => absurd qx (by rw [e11]; decide)) (kf := fun _ => ?_)
    refine s_iload_n h dX8_told_14 rfl <|
      s_bipush h dX8_told_15 bp_100 <|
      s_idiv h dX8_told_17 (by decide) <|
      s_iconst h dX8_told_18 ic_1 <|
      s_isub h dX8_told_19 <|
      s_topi (nI (k / 100 - 1)) (by rw [show nI k / 100 = nI (k / 100) from nI_div (b := 100) (by omega) (by decide), nI_sub1 hk1]) <|
      s_istore_n h dX8_told_20 rfl <|
      s_iload_n h dX8_told_21 rfl <|
      s_bipush h dX8_told_22 bp_100 <|
      s_irem h dX8_told_24 (by decide) <|
      s_topi (nI (k % 100)) (nI_rem (b := 100) (by omega) (by decide)) <|
      s_istore_n h dX8_told_25 rfl <|
      s_aload_n h dX8_told_26 rfl <|
      s_iload_n h dX8_told_27 rfl <|
      k_X8_64 h (c_X8_isPicture hN hM) (by omega) hM.o rfl rfl dX8_told_28 <|
      PE.go <|
      s_if_eq (tgt := 54) h dX8_told_31 (by decide) (fun c31 => ?_) (fun c31 => ?_)
    · refine s_bipush h dX8_told_54 bp_m2 <|
        s_iret h he rfl dX8_told_56 ⟨Nat.le_refl _, Nat.le_refl _⟩ ?_
      first
        | (have q := bI_0 c31; exact PE.eq (by rw [toM_1 hk e11, tP_0 q]) rfl)
        | (have q : 6 ≤ nI (k % 100) := c37; exact PE.eq (by rw [toM_1 hk e11, tP_1 q]) rfl)
        | exact PE.eq (by rw [toM_1 hk e11, tP_n hP ht e31]) rfl
    · refine s_iload_n h dX8_told_34 rfl <|
        s_bipush h dX8_told_35 bp_6 <|
        s_icmp_ge (tgt := 54) h dX8_told_37 (by decide) (fun c37 => ?_) (fun c37 => ?_)
      · refine s_bipush h dX8_told_54 bp_m2 <|
          s_iret h he rfl dX8_told_56 ⟨Nat.le_refl _, Nat.le_refl _⟩ ?_
        first
          | (have q := bI_0 c31; exact PE.eq (by rw [toM_1 hk e11, tP_0 q]) rfl)
          | (have q : 6 ≤ nI (k % 100) := c37; exact PE.eq (by rw [toM_1 hk e11, tP_1 q]) rfl)
          | exact PE.eq (by rw [toM_1 hk e11, tP_n hP ht e31]) rfl
      · have e31 := bI_1 c31
        have ht : k % 100 < 6 := by
          have q := i32_nle.mp c37
          rw [Int32.lt_iff_toInt_lt, nI_toInt (by omega)] at q
          have h6 : (6 : Int32).toInt = 6 := rfl
          omega
        have hP : k / 100 - 1 < 10 := by omega
        refine s_aload_n h dX8_told_40 rfl <|
          gm_19 h dX8_told_41 hN hM <|
          s_bipush h dX8_told_44 bp_6 <|
          s_iload_n h dX8_told_46 rfl <|
          s_imul h dX8_told_47 <|
          s_iload_n h dX8_told_48 rfl <|
          s_iadd h dX8_told_49 <|
          s_iald h dX8_told_50 (by omega) hM.a107 (ixc (ix_n hP (by decide)) (ix_n ht (by decide))) (mS_col f a (k / 100 - 1) (k % 100)).symm <|
          s_goto (tgt := 56) h dX8_told_51 (by decide) <|
          s_iret h he rfl dX8_told_56 ⟨Nat.le_refl _, Nat.le_refl _⟩ ?_
        first
          | (have q := bI_0 c31; exact PE.eq (by rw [toM_1 hk e11, tP_0 q]) rfl)
          | (have q : 6 ≤ nI (k % 100) := c37; exact PE.eq (by rw [toM_1 hk e11, tP_1 q]) rfl)
          | exact PE.eq (by rw [toM_1 hk e11, tP_n hP ht e31]) rfl
def nrK (f g : Nat → Int32) (k : Nat) : Bool := shb f g (k % 6) && decide (f (k % 6) - g (k % 6) = 60 - nI (k / 6))
theorem nrK_at (f g : Nat → Int32) (j : Nat) {i : Nat} (hi : i < 6) : nrK f g (6 * j + i) = (shb f g i && decide (f i - g i = 60 - nI j)) := by
  unfold nrK
  rw [show (6 * j + i) % 6 = i from by omega, show (6 * j + i) / 6 = j from by omega]
def cN (f g : Nat → Int32) (n : Nat) : Int32 := fN (fun k c => if nrK f g k then c + 1 else c) 0 n
theorem cN_s (f g : Nat → Int32) (n : Nat) : cN f g (n + 1) = if nrK f g n then cN f g n + 1 else cN f g n := rfl
def nrS (f g : Nat → Int32) (b : Int32) (k : Nat) : Bool := nrK f g k && decide (cN f g k = b)
def nrM (f g : Nat → Int32) (b : Int32) : Int32 := match ffO (nrS f g b) 726 with
  | some k => nI (k % 6)
  | none => if b = -1 then cN f g 726 else -6
theorem nrM_some {f g : Nat → Int32} {b : Int32} {k : Nat} (h : ffO (nrS f g b) 726 = some k) : nrM f g b = nI (k % 6) := by unfold nrM; rw [h]
theorem nrM_none {f g : Nat → Int32} {b : Int32} (h : ffO (nrS f g b) 726 = none) : nrM f g b = if b = -1 then cN f g 726 else -6 := by unfold nrM; rw [h]
theorem dn60 : ∀ j, j < 121 → ¬ ((60 : Int32) - nI j ≤ -61) := by decide +kernel
theorem dn60s (j : Nat) : (60 : Int32) - nI j + -1 = 60 - nI (j + 1) := by
  rw [nI_succ, Int32.sub_eq_add_neg, Int32.sub_eq_add_neg, Int32.neg_add, Int32.add_assoc, Int32.sub_eq_add_neg]
def neM (sc : Nat → Nat → Int32) (x y b : Int32) : Int32 := if okP sc x y then nrM (sc (6 + x.toNatClampNeg)) (sc (6 + y.toNatClampNeg)) b else -1
theorem neM_1 {sc : Nat → Nat → Int32} {x y b : Int32} (h : okP sc x y = true) : neM sc x y b = nrM (sc (6 + x.toNatClampNeg)) (sc (6 + y.toNatClampNeg)) b := if_pos h
theorem neM_0 {sc : Nat → Nat → Int32} {x y b : Int32} (h : okP sc x y = false) : neM sc x y b = -1 := if_neg (fun z => Bool.false_ne_true (h.symm.trans z))
theorem c_X8_near {l : Launch} {D : va_G} {N : Nat} {adr : Nat → Nat} {G : Nat → va_E} {G0 : Nat → va_E} {f : Nat → Int32} {a : Nat → Nat → Int32} (hN : 115 ≤ N) (hM : isMF D adr G0 G f a) (hwc : wfC (mS f a)) {x y b : Int32} :
    CT l D yX8_near cX8_near 7 (some FieldType.int) (rl 3) [.ref (adr 103), .int x, .int y, .int b] N adr G (PE (some (.int (neM (mS f a) x y b))) N adr G) := by
  refine CT.of (by decide +kernel) (Nat.le_of_ble_eq_true rfl) (fun Γ h he => ?_)
  have h : cx l D (rl 3) RX8 cX8_near 7 Γ := h
  show SX Γ 0 0 0 [(0, .ref (adr 103)), (1, .int x), (2, .int y), (3, .int b)] [] N adr G
  refine s_aload_n h dX8_near_0 rfl <|
    s_iload_n h dX8_near_1 rfl <|
    s_iload_n h dX8_near_2 rfl <|
    k_X8_143 h (c_X8_areTwo hN hM) (by omega) hM.o rfl rfl dX8_near_3 <|
    PE.go <|
    s_if_ne (tgt := 11) h dX8_near_6 (by decide) (fun c6 => ?_) (fun c6 => ?_)
  · have e6 := bI_1 c6
    have hxy := okP_ix e6
    refine s_iconst h dX8_near_11 ic_0 <|
      s_istore h dX8_near_12 rfl <|
      s_bipush h dX8_near_14 bp_60 <|
      s_istore h dX8_near_16 rfl <|
      ?_
    refine SX.loc (up_ind (n := 121) (Q := fun j => (∀ z, z < 6 * j → nrS (mS f a (6 + x.toNatClampNeg)) (mS f a (6 + y.toNatClampNeg)) b z = false) → SX Γ 0 0 18 [(0, .ref (adr 103)), (1, .int x), (2, .int y), (3, .int b), (4, .int (cN (mS f a (6 + x.toNatClampNeg)) (mS f a (6 + y.toNatClampNeg)) (6 * j))), (5, .int (60 - nI j))] [] N adr G) ?_ ?_ 0 (Nat.zero_le _) nh_0) ⟨rfl, rfl, rfl, rfl, rfl, rfl, trivial⟩
    · intro hJ
      show SX _ _ _ _ _ _ _ _ _
      refine s_iload h dX8_near_18 rfl <|
      s_bipush h dX8_near_20 bp_m61 <|
      s_icmp_le (tgt := 83) h dX8_near_22 (by decide) (kf := fun qx => absurd (by decide +kernel) qx) (kt := fun _ => ?_)
      refine s_iload_n h dX8_near_83 rfl <|
      s_iconst h dX8_near_84 ic_m1 <|
      s_icmp_ne (tgt := 93) h dX8_near_85 (by decide) (fun c85 => ?_) (fun c85 => ?_)
      · refine s_bipush h dX8_near_93 bp_m6 <|
        s_iret h he rfl dX8_near_95 ⟨Nat.le_refl _, Nat.le_refl _⟩ ?_
        first
          | (have q : nrK (mS f a (6 + x.toNatClampNeg)) (mS f a (6 + y.toNatClampNeg)) (6 * j + i) = true := (nrK_at _ _ j hi).trans (by rw [bI_1 c43, decide_eq_true c56]; rfl)
             exact PE.eq (by rw [neM_1 e6, nrM_some (ffO_some (n := 726) (i := 6 * j + i) (by omega) (by rw [nrS, q, decide_eq_true c62]; rfl) hH), show (6 * j + i) % 6 = i from by omega]) rfl)
          | (have q : b = -1 := c85; exact PE.eq (by rw [neM_1 e6, nrM_none (ffO_none hJ), if_pos q]) rfl)
          | (have q : ¬ b = -1 := c85; exact PE.eq (by rw [neM_1 e6, nrM_none (ffO_none hJ), if_neg q]) rfl)
      · refine s_iload h dX8_near_88 rfl <|
        s_goto (tgt := 95) h dX8_near_90 (by decide) <|
        s_iret h he rfl dX8_near_95 ⟨Nat.le_refl _, Nat.le_refl _⟩ ?_
        first
          | (have q : nrK (mS f a (6 + x.toNatClampNeg)) (mS f a (6 + y.toNatClampNeg)) (6 * j + i) = true := (nrK_at _ _ j hi).trans (by rw [bI_1 c43, decide_eq_true c56]; rfl)
             exact PE.eq (by rw [neM_1 e6, nrM_some (ffO_some (n := 726) (i := 6 * j + i) (by omega) (by rw [nrS, q, decide_eq_true c62]; rfl) hH), show (6 * j + i) % 6 = i from by omega]) rfl)
          | (have q : b = -1 := c85; exact PE.eq (by rw [neM_1 e6, nrM_none (ffO_none hJ), if_pos q]) rfl)
          | (have q : ¬ b = -1 := c85; exact PE.eq (by rw [neM_1 e6, nrM_none (ffO_none hJ), if_neg q]) rfl)
    · intro j hj jh hJ
      show SX _ _ _ _ _ _ _ _ _
      refine s_iload h dX8_near_18 rfl <|
      s_bipush h dX8_near_20 bp_m61 <|
      s_icmp_le (tgt := 83) h dX8_near_22 (by decide) (kt := fun qx => absurd qx (dn60 j hj)) (kf := fun _ => ?_)
      refine s_iconst h dX8_near_25 ic_0 <|
      s_istore h dX8_near_26 rfl <|
      ?_
      refine SX.loc (up_ind (n := 6) (Q := fun i => (∀ z, z < 6 * j + i → nrS (mS f a (6 + x.toNatClampNeg)) (mS f a (6 + y.toNatClampNeg)) b z = false) → SX Γ 0 0 28 [(0, .ref (adr 103)), (1, .int x), (2, .int y), (3, .int b), (4, .int (cN (mS f a (6 + x.toNatClampNeg)) (mS f a (6 + y.toNatClampNeg)) (6 * j + i))), (5, .int (60 - nI j)), (6, .int (nI i))] [] N adr G) ?_ ?_ 0 (Nat.zero_le _) hJ) ⟨rfl, rfl, rfl, rfl, rfl, rfl, rfl, trivial⟩
      · intro hH
        show SX _ _ _ _ _ _ _ _ _
        refine s_iload h dX8_near_28 rfl <|
        s_bipush h dX8_near_30 bp_6 <|
        s_icmp_ge (tgt := 77) h dX8_near_32 (by decide) (kf := fun qx => absurd (by decide +kernel) qx) (kt := fun _ => ?_)
        refine s_iincR h dX8_near_77 rfl rfl ic_m1 (dn60s j) <|
        s_goto (tgt := 18) h dX8_near_80 (by decide) <|
        ?_
        exact SX.loc (jh hH) ⟨rfl, rfl, rfl, rfl, rfl, rfl, trivial⟩
      · intro i hi ih hH
        show SX _ _ _ _ _ _ _ _ _
        refine s_iload h dX8_near_28 rfl <|
        s_bipush h dX8_near_30 bp_6 <|
        s_icmp_ge (tgt := 77) h dX8_near_32 (by decide) (kt := fun qx => absurd qx (nI_ge hi (by decide))) (kf := fun _ => ?_)
        refine s_aload_n h dX8_near_35 rfl <|
        s_iload_n h dX8_near_36 rfl <|
        s_iload_n h dX8_near_37 rfl <|
        s_iload h dX8_near_38 rfl <|
        k_X8_110 h (c_X8_areBoth hN hM hxy.1 hxy.2 hwc (ix_n hi (by decide))) (by omega) hM.o rfl rfl dX8_near_40 <|
        PE.go <|
        s_if_eq (tgt := 71) h dX8_near_43 (by decide) (fun c43 => ?_) (fun c43 => ?_)
        · refine s_iincR h dX8_near_71 rfl rfl ic_1 (nI_1 i) <|
          s_goto (tgt := 28) h dX8_near_74 (by decide) <|
          ?_
          first
            | (have q : nrK (mS f a (6 + x.toNatClampNeg)) (mS f a (6 + y.toNatClampNeg)) (6 * j + i) = false := (nrK_at _ _ j hi).trans (by rw [bI_0 c43]; rfl)
               have z := (cN_s _ _ _).trans (bool_ifn q)
               exact SX.loc (lv2 := [(0, .ref (adr 103)), (1, .int x), (2, .int y), (3, .int b), (4, .int (cN (mS f a (6 + x.toNatClampNeg)) (mS f a (6 + y.toNatClampNeg)) (6 * j + i))), (5, .int (60 - nI j)), (6, .int (nI (i + 1)))]) (z ▸ ih (nh_s (i := 6 * j + i) hH (by rw [nrS, q]; rfl))) ⟨rfl, rfl, rfl, rfl, rfl, rfl, rfl, trivial⟩)
            | (have q : nrK (mS f a (6 + x.toNatClampNeg)) (mS f a (6 + y.toNatClampNeg)) (6 * j + i) = false := (nrK_at _ _ j hi).trans (by rw [bI_1 c43, decide_eq_false c56]; rfl)
               have z := (cN_s _ _ _).trans (bool_ifn q)
               exact SX.loc (lv2 := [(0, .ref (adr 103)), (1, .int x), (2, .int y), (3, .int b), (4, .int (cN (mS f a (6 + x.toNatClampNeg)) (mS f a (6 + y.toNatClampNeg)) (6 * j + i))), (5, .int (60 - nI j)), (6, .int (nI (i + 1)))]) (z ▸ ih (nh_s (i := 6 * j + i) hH (by rw [nrS, q]; rfl))) ⟨rfl, rfl, rfl, rfl, rfl, rfl, rfl, trivial⟩)
            | exact SX.loc (ih (nh_s (i := 6 * j + i) hH (by rw [nrS, decide_eq_false c62, Bool.and_false]))) ⟨rfl, rfl, rfl, rfl, rfl, rfl, rfl, trivial⟩
        · refine s_aload_n h dX8_near_46 rfl <|
          s_iload_n h dX8_near_47 rfl <|
          s_iload_n h dX8_near_48 rfl <|
          s_iload h dX8_near_49 rfl <|
          k_X8_114 h (c_X8_shiftOf hN hM hxy.1 hxy.2 (ix_n hi (by decide))) (by omega) hM.o rfl rfl dX8_near_51 <|
          PE.go <|
          s_iload h dX8_near_54 rfl <|
          s_icmp_ne (tgt := 71) h dX8_near_56 (by decide) (fun c56 => ?_) (fun c56 => ?_)
          · refine s_iincR h dX8_near_71 rfl rfl ic_1 (nI_1 i) <|
            s_goto (tgt := 28) h dX8_near_74 (by decide) <|
            ?_
            first
              | (have q : nrK (mS f a (6 + x.toNatClampNeg)) (mS f a (6 + y.toNatClampNeg)) (6 * j + i) = false := (nrK_at _ _ j hi).trans (by rw [bI_0 c43]; rfl)
                 have z := (cN_s _ _ _).trans (bool_ifn q)
                 exact SX.loc (lv2 := [(0, .ref (adr 103)), (1, .int x), (2, .int y), (3, .int b), (4, .int (cN (mS f a (6 + x.toNatClampNeg)) (mS f a (6 + y.toNatClampNeg)) (6 * j + i))), (5, .int (60 - nI j)), (6, .int (nI (i + 1)))]) (z ▸ ih (nh_s (i := 6 * j + i) hH (by rw [nrS, q]; rfl))) ⟨rfl, rfl, rfl, rfl, rfl, rfl, rfl, trivial⟩)
              | (have q : nrK (mS f a (6 + x.toNatClampNeg)) (mS f a (6 + y.toNatClampNeg)) (6 * j + i) = false := (nrK_at _ _ j hi).trans (by rw [bI_1 c43, decide_eq_false c56]; rfl)
                 have z := (cN_s _ _ _).trans (bool_ifn q)
                 exact SX.loc (lv2 := [(0, .ref (adr 103)), (1, .int x), (2, .int y), (3, .int b), (4, .int (cN (mS f a (6 + x.toNatClampNeg)) (mS f a (6 + y.toNatClampNeg)) (6 * j + i))), (5, .int (60 - nI j)), (6, .int (nI (i + 1)))]) (z ▸ ih (nh_s (i := 6 * j + i) hH (by rw [nrS, q]; rfl))) ⟨rfl, rfl, rfl, rfl, rfl, rfl, rfl, trivial⟩)
              | exact SX.loc (ih (nh_s (i := 6 * j + i) hH (by rw [nrS, decide_eq_false c62, Bool.and_false]))) ⟨rfl, rfl, rfl, rfl, rfl, rfl, rfl, trivial⟩
          · refine s_iload h dX8_near_59 rfl <|
            s_iload_n h dX8_near_61 rfl <|
            s_icmp_ne (tgt := 68) h dX8_near_62 (by decide) (fun c62 => ?_) (fun c62 => ?_)
            · refine s_iincR h dX8_near_68 rfl rfl ic_1 (show cN (mS f a (6 + x.toNatClampNeg)) (mS f a (6 + y.toNatClampNeg)) (6 * j + i) + 1 = cN (mS f a (6 + x.toNatClampNeg)) (mS f a (6 + y.toNatClampNeg)) (6 * j + (i + 1)) from ((cN_s _ _ (6 * j + i)).trans (bool_if ((nrK_at _ _ j hi).trans (by rw [bI_1 c43, decide_eq_true c56]; rfl)))).symm) <|
              s_iincR h dX8_near_71 rfl rfl ic_1 (nI_1 i) <|
              s_goto (tgt := 28) h dX8_near_74 (by decide) <|
              ?_
              first
                | (have q : nrK (mS f a (6 + x.toNatClampNeg)) (mS f a (6 + y.toNatClampNeg)) (6 * j + i) = false := (nrK_at _ _ j hi).trans (by rw [bI_0 c43]; rfl)
                   have z := (cN_s _ _ _).trans (bool_ifn q)
                   exact SX.loc (lv2 := [(0, .ref (adr 103)), (1, .int x), (2, .int y), (3, .int b), (4, .int (cN (mS f a (6 + x.toNatClampNeg)) (mS f a (6 + y.toNatClampNeg)) (6 * j + i))), (5, .int (60 - nI j)), (6, .int (nI (i + 1)))]) (z ▸ ih (nh_s (i := 6 * j + i) hH (by rw [nrS, q]; rfl))) ⟨rfl, rfl, rfl, rfl, rfl, rfl, rfl, trivial⟩)
                | (have q : nrK (mS f a (6 + x.toNatClampNeg)) (mS f a (6 + y.toNatClampNeg)) (6 * j + i) = false := (nrK_at _ _ j hi).trans (by rw [bI_1 c43, decide_eq_false c56]; rfl)
                   have z := (cN_s _ _ _).trans (bool_ifn q)
                   exact SX.loc (lv2 := [(0, .ref (adr 103)), (1, .int x), (2, .int y), (3, .int b), (4, .int (cN (mS f a (6 + x.toNatClampNeg)) (mS f a (6 + y.toNatClampNeg)) (6 * j + i))), (5, .int (60 - nI j)), (6, .int (nI (i + 1)))]) (z ▸ ih (nh_s (i := 6 * j + i) hH (by rw [nrS, q]; rfl))) ⟨rfl, rfl, rfl, rfl, rfl, rfl, rfl, trivial⟩)
                | exact SX.loc (ih (nh_s (i := 6 * j + i) hH (by rw [nrS, decide_eq_false c62, Bool.and_false]))) ⟨rfl, rfl, rfl, rfl, rfl, rfl, rfl, trivial⟩
            · refine s_iload h dX8_near_65 rfl <|
              s_iret h he rfl dX8_near_67 ⟨Nat.le_refl _, Nat.le_refl _⟩ ?_
              first
                | (have q : nrK (mS f a (6 + x.toNatClampNeg)) (mS f a (6 + y.toNatClampNeg)) (6 * j + i) = true := (nrK_at _ _ j hi).trans (by rw [bI_1 c43, decide_eq_true c56]; rfl)
                   exact PE.eq (by rw [neM_1 e6, nrM_some (ffO_some (n := 726) (i := 6 * j + i) (by omega) (by rw [nrS, q, decide_eq_true c62]; rfl) hH), show (6 * j + i) % 6 = i from by omega]) rfl)
                | (have q : b = -1 := c85; exact PE.eq (by rw [neM_1 e6, nrM_none (ffO_none hJ), if_pos q]) rfl)
                | (have q : ¬ b = -1 := c85; exact PE.eq (by rw [neM_1 e6, nrM_none (ffO_none hJ), if_neg q]) rfl)
  · refine s_iconst h dX8_near_9 ic_m1 <|
      s_iret h he rfl dX8_near_10 ⟨Nat.le_refl _, Nat.le_refl _⟩ ?_
    exact PE.eq (by rw [neM_0 (bI_0 c6)]) rfl
