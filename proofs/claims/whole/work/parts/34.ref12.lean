theorem x01 {x : Int32} (h : wb x 0 3 = true) (h2 : x ≤ 1) : x = 0 ∨ x = 1 := by
  have hx := wb_ix (n := 3) (by decide) rfl h
  have he := ix_eq hx
  have h3 := hx.2.2
  rw [he, Int32.le_iff_toInt_le, nI_toInt (by omega)] at h2
  have h1 : (1 : Int32).toInt = 1 := rfl
  have h4 : x.toNatClampNeg = 0 ∨ x.toNatClampNeg = 1 := by omega
  rcases h4 with h4 | h4
  · left; rw [he, h4]; rfl
  · right; rw [he, h4]; rfl
theorem juR_n {sc : Nat → Nat → Int32} {sg : Nat → Int32} {n : Nat} {x : Int32} (h : wb x 0 3 = false) : juR sc sg n x = -2 := if_neg (fun z => Bool.false_ne_true (h.symm.trans z))
theorem juR_5 {sc : Nat → Nat → Int32} {sg : Nat → Int32} {n : Nat} {x : Int32} (h : wb x 0 3 = true) (h2 : ¬ rdR sg n = -6) : juR sc sg n x = -5 := by unfold juR; rw [if_pos h, if_neg h2]
theorem juR_0 {sc : Nat → Nat → Int32} {sg : Nat → Int32} {n : Nat} {x : Int32} (h : wb x 0 3 = true) (h2 : rdR sg n = -6) (h3 : x = 0) : juR sc sg n x = wrR sc sg n := by unfold juR; rw [if_pos h, if_pos h2, if_pos h3]
theorem juR_1 {sc : Nat → Nat → Int32} {sg : Nat → Int32} {n : Nat} {x : Int32} (h : wb x 0 3 = true) (h2 : rdR sg n = -6) (h3 : ¬ x = 0) (h4 : x = 1) : juR sc sg n x = whR sc sg n := by unfold juR whR; rw [if_pos h, if_pos h2, if_neg h3, if_pos h4]
theorem juR_2 {sc : Nat → Nat → Int32} {sg : Nat → Int32} {n : Nat} {x : Int32} (h : wb x 0 3 = true) (h2 : rdR sg n = -6) (h3 : ¬ x = 0) (h4 : ¬ x = 1) (h5 : wrR sc sg n = -6) (h6 : x = 2) : juR sc sg n x = nI (aN sg n) := by unfold juR; rw [if_pos h, if_pos h2, if_neg h3, if_neg h4, if_pos h5, if_pos h6]
theorem juR_3 {sc : Nat → Nat → Int32} {sg : Nat → Int32} {n : Nat} {x : Int32} (h : wb x 0 3 = true) (h2 : rdR sg n = -6) (h3 : ¬ x = 0) (h4 : ¬ x = 1) (h5 : wrR sc sg n = -6) (h6 : ¬ x = 2) : juR sc sg n x = nI (aU sg n) + 1 := by unfold juR; rw [if_pos h, if_pos h2, if_neg h3, if_neg h4, if_pos h5, if_neg h6]
theorem juR_4 {sc : Nat → Nat → Int32} {sg : Nat → Int32} {n : Nat} {x : Int32} (h : wb x 0 3 = true) (h2 : rdR sg n = -6) (h3 : ¬ x ≤ 1) (h5 : ¬ wrR sc sg n = -6) : juR sc sg n x = -3 := by
  have q0 : ¬ x = 0 := fun z => h3 (by rw [z]; decide)
  have q1 : ¬ x = 1 := fun z => h3 (by rw [z]; decide)
  unfold juR; rw [if_pos h, if_pos h2, if_neg q0, if_neg q1, if_neg h5]
theorem c_X8_judge {l : Launch} {D : va_G} {N : Nat} {adr : Nat → Nat} {G : Nat → va_E} {G0 : Nat → va_E} {f : Nat → Int32} {a : Nat → Nat → Int32} (hN : 115 ≤ N) (hM : isMF D adr G0 G f a) {n : Nat} (hf8 : f 8 = nI n) (hn60 : n ≤ 60) {x : Int32} :
    CT l D yX8_judge cX8_judge 3 (some FieldType.int) (rl 4) [.ref (adr 103), .int x] N adr G (PR (some (.int (juR (mS f a) (a 108) n x))) N adr (fun W => ∃ g b, isMF D adr G0 W g b ∧ sM f a g b)) := by
  refine CT.of (by decide +kernel) (Nat.le_of_ble_eq_true rfl) (fun Γ h he => ?_)
  have h : cx l D (rl 4) RX8 cX8_judge 3 Γ := h
  show SX Γ 0 0 0 [(0, .ref (adr 103)), (1, .int x)] [] N adr G
  refine s_iload_n h dX8_judge_0 rfl <|
    s_i2l h dX8_judge_1 <|
    s_lconst h dX8_judge_2 lc_0 <|
    s_ldc2 h dX8_judge_3 tw767 <|
    k_X8_50 h (c_X8_inw (a := 0) (b := 3) (by decide) (by decide)) rfl rfl dX8_judge_6 <|
    PE.go <|
    s_if_ne (tgt := 15) h dX8_judge_9 (by decide) (fun c9 => ?_) (fun c9 => ?_)
  · have e9 := bI_1 c9
    refine s_aload_n h dX8_judge_15 rfl <|
      k_X8_136 h (c_X8_refusal hN hM (sM.refl f a) hf8 hn60) (by omega) hM.o rfl rfl dX8_judge_16 (PR.go fun V hV => ?_)
    obtain ⟨g1, b1, hM, hs, hR⟩ := hV
    by_cases hrd : rdR (a 108) n = -6
    · have hR := hR hrd
      by_cases hw : wrR (mS f a) (a 108) n = -6
      · rw [rfR_6 hrd hw]
        refine s_istore_n h dX8_judge_19 rfl <|
          s_iload_n h dX8_judge_20 rfl <|
          s_bipush h dX8_judge_21 bp_m5 <|
          s_icmp_eq (tgt := 37) h dX8_judge_23 (by decide) (kt := fun qx => absurd qx (by decide)) (kf := fun _ => ?_)
        refine s_iload_n h dX8_judge_26 rfl <|
          s_iconst h dX8_judge_27 ic_1 <|
          s_icmp_le (tgt := 39) h dX8_judge_28 (by decide) (fun c28 => ?_) (fun c28 => ?_)
        · refine s_iload_n h dX8_judge_39 rfl <|
            s_if_ne (tgt := 50) h dX8_judge_40 (by decide) (fun c40 => ?_) (fun c40 => ?_)
          · refine s_iload_n h dX8_judge_50 rfl <|
              s_iconst h dX8_judge_51 ic_1 <|
              s_icmp_ne (tgt := 62) h dX8_judge_52 (by decide) (fun c52 => ?_) (fun c52 => ?_)
            · refine s_iload_n h dX8_judge_62 rfl <|
                s_iconst h dX8_judge_63 ic_2 <|
                s_icmp_ne (tgt := 74) h dX8_judge_64 (by decide) (fun c64 => ?_) (fun c64 => ?_)
              · refine s_aload_n h dX8_judge_74 rfl <|
                  gm_100 h dX8_judge_75 hN hM <|
                  s_iconst h dX8_judge_78 ic_1 <|
                  s_iadd h dX8_judge_79 <|
                  s_iret h he rfl dX8_judge_80 ⟨Nat.le_refl _, Nat.le_refl _⟩ ?_
                first
                  | (have q : x = 0 := c40; exact PR.eq (by rw [juR_0 e9 hrd q, hR.2.1]) ⟨_, _, hM, hs⟩)
                  | (have q : ¬ x = 0 := c40; have q2 : x = 1 := c52; exact PR.eq (by rw [juR_1 e9 hrd q q2, hR.2.2]) ⟨_, _, hM, hs⟩)
                  | (have q : ¬ x = 0 := c40; have q2 : ¬ x = 1 := c52; have q3 : x = 2 := c64; exact PR.eq (by rw [juR_2 e9 hrd q q2 hw q3, hR.1.1]) ⟨_, _, hM, hs⟩)
                  | (have q : ¬ x = 0 := c40; have q2 : ¬ x = 1 := c52; have q3 : ¬ x = 2 := c64; exact PR.eq (by rw [juR_3 e9 hrd q q2 hw q3, hR.1.2.1]) ⟨_, _, hM, hs⟩)
              · refine s_aload_n h dX8_judge_67 rfl <|
                  gm_97 h dX8_judge_68 hN hM <|
                  s_goto (tgt := 80) h dX8_judge_71 (by decide) <|
                  s_iret h he rfl dX8_judge_80 ⟨Nat.le_refl _, Nat.le_refl _⟩ ?_
                first
                  | (have q : x = 0 := c40; exact PR.eq (by rw [juR_0 e9 hrd q, hR.2.1]) ⟨_, _, hM, hs⟩)
                  | (have q : ¬ x = 0 := c40; have q2 : x = 1 := c52; exact PR.eq (by rw [juR_1 e9 hrd q q2, hR.2.2]) ⟨_, _, hM, hs⟩)
                  | (have q : ¬ x = 0 := c40; have q2 : ¬ x = 1 := c52; have q3 : x = 2 := c64; exact PR.eq (by rw [juR_2 e9 hrd q q2 hw q3, hR.1.1]) ⟨_, _, hM, hs⟩)
                  | (have q : ¬ x = 0 := c40; have q2 : ¬ x = 1 := c52; have q3 : ¬ x = 2 := c64; exact PR.eq (by rw [juR_3 e9 hrd q q2 hw q3, hR.1.2.1]) ⟨_, _, hM, hs⟩)
            · refine s_aload_n h dX8_judge_55 rfl <|
                gm_128 h dX8_judge_56 hN hM <|
                s_goto (tgt := 80) h dX8_judge_59 (by decide) <|
                s_iret h he rfl dX8_judge_80 ⟨Nat.le_refl _, Nat.le_refl _⟩ ?_
              first
                | (have q : x = 0 := c40; exact PR.eq (by rw [juR_0 e9 hrd q, hR.2.1]) ⟨_, _, hM, hs⟩)
                | (have q : ¬ x = 0 := c40; have q2 : x = 1 := c52; exact PR.eq (by rw [juR_1 e9 hrd q q2, hR.2.2]) ⟨_, _, hM, hs⟩)
                | (have q : ¬ x = 0 := c40; have q2 : ¬ x = 1 := c52; have q3 : x = 2 := c64; exact PR.eq (by rw [juR_2 e9 hrd q q2 hw q3, hR.1.1]) ⟨_, _, hM, hs⟩)
                | (have q : ¬ x = 0 := c40; have q2 : ¬ x = 1 := c52; have q3 : ¬ x = 2 := c64; exact PR.eq (by rw [juR_3 e9 hrd q q2 hw q3, hR.1.2.1]) ⟨_, _, hM, hs⟩)
          · refine s_aload_n h dX8_judge_43 rfl <|
              gm_125 h dX8_judge_44 hN hM <|
              s_goto (tgt := 80) h dX8_judge_47 (by decide) <|
              s_iret h he rfl dX8_judge_80 ⟨Nat.le_refl _, Nat.le_refl _⟩ ?_
            first
              | (have q : x = 0 := c40; exact PR.eq (by rw [juR_0 e9 hrd q, hR.2.1]) ⟨_, _, hM, hs⟩)
              | (have q : ¬ x = 0 := c40; have q2 : x = 1 := c52; exact PR.eq (by rw [juR_1 e9 hrd q q2, hR.2.2]) ⟨_, _, hM, hs⟩)
              | (have q : ¬ x = 0 := c40; have q2 : ¬ x = 1 := c52; have q3 : x = 2 := c64; exact PR.eq (by rw [juR_2 e9 hrd q q2 hw q3, hR.1.1]) ⟨_, _, hM, hs⟩)
              | (have q : ¬ x = 0 := c40; have q2 : ¬ x = 1 := c52; have q3 : ¬ x = 2 := c64; exact PR.eq (by rw [juR_3 e9 hrd q q2 hw q3, hR.1.2.1]) ⟨_, _, hM, hs⟩)
        · refine s_iload_n h dX8_judge_31 rfl <|
            s_bipush h dX8_judge_32 bp_m3 <|
            s_icmp_ne (tgt := 39) h dX8_judge_34 (by decide) (kf := fun qx => absurd qx (by decide)) (kt := fun _ => ?_)
          refine s_iload_n h dX8_judge_39 rfl <|
            s_if_ne (tgt := 50) h dX8_judge_40 (by decide) (fun c40 => ?_) (fun c40 => ?_)
          · refine s_iload_n h dX8_judge_50 rfl <|
              s_iconst h dX8_judge_51 ic_1 <|
              s_icmp_ne (tgt := 62) h dX8_judge_52 (by decide) (fun c52 => ?_) (fun c52 => ?_)
            · refine s_iload_n h dX8_judge_62 rfl <|
                s_iconst h dX8_judge_63 ic_2 <|
                s_icmp_ne (tgt := 74) h dX8_judge_64 (by decide) (fun c64 => ?_) (fun c64 => ?_)
              · refine s_aload_n h dX8_judge_74 rfl <|
                  gm_100 h dX8_judge_75 hN hM <|
                  s_iconst h dX8_judge_78 ic_1 <|
                  s_iadd h dX8_judge_79 <|
                  s_iret h he rfl dX8_judge_80 ⟨Nat.le_refl _, Nat.le_refl _⟩ ?_
                first
                  | (have q : x = 0 := c40; exact PR.eq (by rw [juR_0 e9 hrd q, hR.2.1]) ⟨_, _, hM, hs⟩)
                  | (have q : ¬ x = 0 := c40; have q2 : x = 1 := c52; exact PR.eq (by rw [juR_1 e9 hrd q q2, hR.2.2]) ⟨_, _, hM, hs⟩)
                  | (have q : ¬ x = 0 := c40; have q2 : ¬ x = 1 := c52; have q3 : x = 2 := c64; exact PR.eq (by rw [juR_2 e9 hrd q q2 hw q3, hR.1.1]) ⟨_, _, hM, hs⟩)
                  | (have q : ¬ x = 0 := c40; have q2 : ¬ x = 1 := c52; have q3 : ¬ x = 2 := c64; exact PR.eq (by rw [juR_3 e9 hrd q q2 hw q3, hR.1.2.1]) ⟨_, _, hM, hs⟩)
              · refine s_aload_n h dX8_judge_67 rfl <|
                  gm_97 h dX8_judge_68 hN hM <|
                  s_goto (tgt := 80) h dX8_judge_71 (by decide) <|
                  s_iret h he rfl dX8_judge_80 ⟨Nat.le_refl _, Nat.le_refl _⟩ ?_
                first
                  | (have q : x = 0 := c40; exact PR.eq (by rw [juR_0 e9 hrd q, hR.2.1]) ⟨_, _, hM, hs⟩)
                  | (have q : ¬ x = 0 := c40; have q2 : x = 1 := c52; exact PR.eq (by rw [juR_1 e9 hrd q q2, hR.2.2]) ⟨_, _, hM, hs⟩)
                  | (have q : ¬ x = 0 := c40; have q2 : ¬ x = 1 := c52; have q3 : x = 2 := c64; exact PR.eq (by rw [juR_2 e9 hrd q q2 hw q3, hR.1.1]) ⟨_, _, hM, hs⟩)
                  | (have q : ¬ x = 0 := c40; have q2 : ¬ x = 1 := c52; have q3 : ¬ x = 2 := c64; exact PR.eq (by rw [juR_3 e9 hrd q q2 hw q3, hR.1.2.1]) ⟨_, _, hM, hs⟩)
            · refine s_aload_n h dX8_judge_55 rfl <|
                gm_128 h dX8_judge_56 hN hM <|
                s_goto (tgt := 80) h dX8_judge_59 (by decide) <|
                s_iret h he rfl dX8_judge_80 ⟨Nat.le_refl _, Nat.le_refl _⟩ ?_
              first
                | (have q : x = 0 := c40; exact PR.eq (by rw [juR_0 e9 hrd q, hR.2.1]) ⟨_, _, hM, hs⟩)
                | (have q : ¬ x = 0 := c40; have q2 : x = 1 := c52; exact PR.eq (by rw [juR_1 e9 hrd q q2, hR.2.2]) ⟨_, _, hM, hs⟩)
                | (have q : ¬ x = 0 := c40; have q2 : ¬ x = 1 := c52; have q3 : x = 2 := c64; exact PR.eq (by rw [juR_2 e9 hrd q q2 hw q3, hR.1.1]) ⟨_, _, hM, hs⟩)
                | (have q : ¬ x = 0 := c40; have q2 : ¬ x = 1 := c52; have q3 : ¬ x = 2 := c64; exact PR.eq (by rw [juR_3 e9 hrd q q2 hw q3, hR.1.2.1]) ⟨_, _, hM, hs⟩)
          · refine s_aload_n h dX8_judge_43 rfl <|
              gm_125 h dX8_judge_44 hN hM <|
              s_goto (tgt := 80) h dX8_judge_47 (by decide) <|
              s_iret h he rfl dX8_judge_80 ⟨Nat.le_refl _, Nat.le_refl _⟩ ?_
            first
              | (have q : x = 0 := c40; exact PR.eq (by rw [juR_0 e9 hrd q, hR.2.1]) ⟨_, _, hM, hs⟩)
              | (have q : ¬ x = 0 := c40; have q2 : x = 1 := c52; exact PR.eq (by rw [juR_1 e9 hrd q q2, hR.2.2]) ⟨_, _, hM, hs⟩)
              | (have q : ¬ x = 0 := c40; have q2 : ¬ x = 1 := c52; have q3 : x = 2 := c64; exact PR.eq (by rw [juR_2 e9 hrd q q2 hw q3, hR.1.1]) ⟨_, _, hM, hs⟩)
              | (have q : ¬ x = 0 := c40; have q2 : ¬ x = 1 := c52; have q3 : ¬ x = 2 := c64; exact PR.eq (by rw [juR_3 e9 hrd q q2 hw q3, hR.1.2.1]) ⟨_, _, hM, hs⟩)
      · rw [rfR_3 hrd hw]
        refine s_istore_n h dX8_judge_19 rfl <|
          s_iload_n h dX8_judge_20 rfl <|
          s_bipush h dX8_judge_21 bp_m5 <|
          s_icmp_eq (tgt := 37) h dX8_judge_23 (by decide) (kt := fun qx => absurd qx (by decide)) (kf := fun _ => ?_)
        refine s_iload_n h dX8_judge_26 rfl <|
          s_iconst h dX8_judge_27 ic_1 <|
          s_icmp_le (tgt := 39) h dX8_judge_28 (by decide) (fun c28 => ?_) (fun c28 => ?_)
        · refine s_iload_n h dX8_judge_39 rfl <|
            s_if_ne (tgt := 50) h dX8_judge_40 (by decide) (fun c40 => ?_) (fun c40 => ?_)
          · refine s_iload_n h dX8_judge_50 rfl <|
              s_iconst h dX8_judge_51 ic_1 <|
              s_icmp_ne (tgt := 62) h dX8_judge_52 (by decide) (fun c52 => ?_) (fun c52 => ?_)
            · refine s_iload_n h dX8_judge_62 rfl <|
                s_iconst h dX8_judge_63 ic_2 <|
                s_icmp_ne (tgt := 74) h dX8_judge_64 (by decide) (fun c64 => ?_) (fun c64 => ?_)
              · refine s_aload_n h dX8_judge_74 rfl <|
                  gm_100 h dX8_judge_75 hN hM <|
                  s_iconst h dX8_judge_78 ic_1 <|
                  s_iadd h dX8_judge_79 <|
                  s_iret h he rfl dX8_judge_80 ⟨Nat.le_refl _, Nat.le_refl _⟩ ?_
                first
                  | (have q : ¬ x ≤ 1 := c28; exact PR.eq (by rw [juR_4 e9 hrd q hw]) ⟨_, _, hM, hs⟩)
                  | (have q : x = 0 := c40; exact PR.eq (by rw [juR_0 e9 hrd q, hR.2.1]) ⟨_, _, hM, hs⟩)
                  | (have q : ¬ x = 0 := c40; have q2 : x = 1 := c52; exact PR.eq (by rw [juR_1 e9 hrd q q2, hR.2.2]) ⟨_, _, hM, hs⟩)
                  | (have q : ¬ x = 0 := c40; have q2 : ¬ x = 1 := c52; exact ((x01 e9 c28).elim (fun z => absurd z q) (fun z => absurd z q2)))
              · refine s_aload_n h dX8_judge_67 rfl <|
                  gm_97 h dX8_judge_68 hN hM <|
                  s_goto (tgt := 80) h dX8_judge_71 (by decide) <|
                  s_iret h he rfl dX8_judge_80 ⟨Nat.le_refl _, Nat.le_refl _⟩ ?_
                first
                  | (have q : ¬ x ≤ 1 := c28; exact PR.eq (by rw [juR_4 e9 hrd q hw]) ⟨_, _, hM, hs⟩)
                  | (have q : x = 0 := c40; exact PR.eq (by rw [juR_0 e9 hrd q, hR.2.1]) ⟨_, _, hM, hs⟩)
                  | (have q : ¬ x = 0 := c40; have q2 : x = 1 := c52; exact PR.eq (by rw [juR_1 e9 hrd q q2, hR.2.2]) ⟨_, _, hM, hs⟩)
                  | (have q : ¬ x = 0 := c40; have q2 : ¬ x = 1 := c52; exact ((x01 e9 c28).elim (fun z => absurd z q) (fun z => absurd z q2)))
            · refine s_aload_n h dX8_judge_55 rfl <|
                gm_128 h dX8_judge_56 hN hM <|
                s_goto (tgt := 80) h dX8_judge_59 (by decide) <|
                s_iret h he rfl dX8_judge_80 ⟨Nat.le_refl _, Nat.le_refl _⟩ ?_
              first
                | (have q : ¬ x ≤ 1 := c28; exact PR.eq (by rw [juR_4 e9 hrd q hw]) ⟨_, _, hM, hs⟩)
                | (have q : x = 0 := c40; exact PR.eq (by rw [juR_0 e9 hrd q, hR.2.1]) ⟨_, _, hM, hs⟩)
                | (have q : ¬ x = 0 := c40; have q2 : x = 1 := c52; exact PR.eq (by rw [juR_1 e9 hrd q q2, hR.2.2]) ⟨_, _, hM, hs⟩)
                | (have q : ¬ x = 0 := c40; have q2 : ¬ x = 1 := c52; exact ((x01 e9 c28).elim (fun z => absurd z q) (fun z => absurd z q2)))
          · refine s_aload_n h dX8_judge_43 rfl <|
              gm_125 h dX8_judge_44 hN hM <|
              s_goto (tgt := 80) h dX8_judge_47 (by decide) <|
              s_iret h he rfl dX8_judge_80 ⟨Nat.le_refl _, Nat.le_refl _⟩ ?_
            first
              | (have q : ¬ x ≤ 1 := c28; exact PR.eq (by rw [juR_4 e9 hrd q hw]) ⟨_, _, hM, hs⟩)
              | (have q : x = 0 := c40; exact PR.eq (by rw [juR_0 e9 hrd q, hR.2.1]) ⟨_, _, hM, hs⟩)
              | (have q : ¬ x = 0 := c40; have q2 : x = 1 := c52; exact PR.eq (by rw [juR_1 e9 hrd q q2, hR.2.2]) ⟨_, _, hM, hs⟩)
              | (have q : ¬ x = 0 := c40; have q2 : ¬ x = 1 := c52; exact ((x01 e9 c28).elim (fun z => absurd z q) (fun z => absurd z q2)))
        · refine s_iload_n h dX8_judge_31 rfl <|
            s_bipush h dX8_judge_32 bp_m3 <|
            s_icmp_ne (tgt := 39) h dX8_judge_34 (by decide) (kt := fun qx => absurd (rfl) qx) (kf := fun _ => ?_)
          refine s_iload_n h dX8_judge_37 rfl <|
            s_iret h he rfl dX8_judge_38 ⟨Nat.le_refl _, Nat.le_refl _⟩ ?_
          first
            | (have q : ¬ x ≤ 1 := c28; exact PR.eq (by rw [juR_4 e9 hrd q hw]) ⟨_, _, hM, hs⟩)
            | (have q : x = 0 := c40; exact PR.eq (by rw [juR_0 e9 hrd q, hR.2.1]) ⟨_, _, hM, hs⟩)
            | (have q : ¬ x = 0 := c40; have q2 : x = 1 := c52; exact PR.eq (by rw [juR_1 e9 hrd q q2, hR.2.2]) ⟨_, _, hM, hs⟩)
            | (have q : ¬ x = 0 := c40; have q2 : ¬ x = 1 := c52; exact ((x01 e9 c28).elim (fun z => absurd z q) (fun z => absurd z q2)))
    · rw [rfR_5 hrd]
      refine s_istore_n h dX8_judge_19 rfl <|
        s_iload_n h dX8_judge_20 rfl <|
        s_bipush h dX8_judge_21 bp_m5 <|
        s_icmp_eq (tgt := 37) h dX8_judge_23 (by decide) (kf := fun qx => absurd (rfl) qx) (kt := fun _ => ?_)
      refine s_iload_n h dX8_judge_37 rfl <|
        s_iret h he rfl dX8_judge_38 ⟨Nat.le_refl _, Nat.le_refl _⟩ ?_
      exact PR.eq (by rw [juR_5 e9 hrd]) ⟨_, _, hM, hs⟩
  · refine s_bipush h dX8_judge_12 bp_m2 <|
      s_iret h he rfl dX8_judge_14 ⟨Nat.le_refl _, Nat.le_refl _⟩ ?_
    exact PR.eq (by rw [juR_n (bI_0 c9)]) ⟨_, _, hM, sM.refl f a⟩
theorem c_X8_kindOfS {l : Launch} {D : va_G} {N : Nat} {adr : Nat → Nat} {G : Nat → va_E} {G0 : Nat → va_E} {f f0 : Nat → Int32} {a a0 : Nat → Nat → Int32} (hN : 115 ≤ N) (hM : isMF D adr G0 G f a) (hs : sM f0 a0 f a) (hwc : wfC (mS f0 a0)) {x y : Int32} (hok : okP (mS f0 a0) x y = true) : CT l D yX8_kindOf cX8_kindOf 7 (some FieldType.int) (rl 1) [.ref (adr 103), .int x, .int y] N adr G (PE (some (.int (kP (mS f0 a0) x y))) N adr G) := by
  rw [kP_ok6 hok]
  rw [← hs.eS] at hwc ⊢
  exact c_X8_kindOf hN hM (okP_ix hok).1 (okP_ix hok).2 hwc
def gd2 (sc : Nat → Nat → Int32) (lf rg : Nat → Int32) (n : Nat) : Int32 := fN (fun j c => if kP sc (lf j) (rg j) = 0 ∨ kP sc (lf j) (rg j) = 2 then c + 1 else c) 0 n
theorem gd2_s (sc : Nat → Nat → Int32) (lf rg : Nat → Int32) (n : Nat) : gd2 sc lf rg (n + 1) = if kP sc (lf n) (rg n) = 0 ∨ kP sc (lf n) (rg n) = 2 then gd2 sc lf rg n + 1 else gd2 sc lf rg n := rfl
theorem gd2_eq (sc : Nat → Nat → Int32) (lf rg : Nat → Int32) : ∀ n, gd2 sc lf rg n = cKd sc lf rg 0 n + cKd sc lf rg 2 n
  | 0 => rfl
  | n + 1 => by
    rw [gd2_s, cKd_s, cKd_s, gd2_eq sc lf rg n]
    by_cases h0 : kP sc (lf n) (rg n) = 0
    · have h2 : ¬ kP sc (lf n) (rg n) = 2 := by rw [h0]; decide
      rw [if_pos (Or.inl h0), if_pos h0, if_neg h2, Int32.add_assoc, Int32.add_comm _ 1, ← Int32.add_assoc]
    · by_cases h2 : kP sc (lf n) (rg n) = 2
      · rw [if_pos (Or.inr h2), if_neg h0, if_pos h2, Int32.add_assoc]
      · rw [if_neg (fun z => z.elim h0 h2), if_neg h0, if_neg h2]
theorem kiR_n {sc : Nat → Nat → Int32} {sg : Nat → Int32} {n : Nat} {x : Int32} (h : wb x 0 5 = false) : kiR sc sg n x = -2 := if_neg (fun z => Bool.false_ne_true (h.symm.trans z))
theorem kiR_5 {sc : Nat → Nat → Int32} {sg : Nat → Int32} {n : Nat} {x : Int32} (h : wb x 0 5 = true) (h2 : ¬ rdR sg n = -6) : kiR sc sg n x = -5 := by unfold kiR; rw [if_pos h, if_neg h2]
theorem kiR_3 {sc : Nat → Nat → Int32} {sg : Nat → Int32} {n : Nat} {x : Int32} (h : wb x 0 5 = true) (h2 : rdR sg n = -6) (h3 : ¬ wrR sc sg n = -6) : kiR sc sg n x = -3 := by unfold kiR; rw [if_pos h, if_pos h2, if_neg h3]
theorem kiR_6 {sc : Nat → Nat → Int32} {sg : Nat → Int32} {n : Nat} {x : Int32} (h : wb x 0 5 = true) (h2 : rdR sg n = -6) (h3 : wrR sc sg n = -6) (hn : n ≤ 60) : kiR sc sg n x = if x = 4 then firN (nGd sc (aL sg n) (aR sg n)) (aN sg n) else if x = 5 then gd2 sc (aL sg n) (aR sg n) (aN sg n) else cKd sc (aL sg n) (aR sg n) x (aN sg n) := by
  unfold kiR
  rw [if_pos h, if_pos h2, if_pos h3, firN_ffO _ (by have := aN_le (sg := sg) hn; omega), gd2_eq]
theorem nGd_i (sc : Nat → Nat → Int32) (lf rg : Nat → Int32) (j : Nat) : nGd sc lf rg j = !decide (kP sc (lf j) (rg j) = 0) := rfl
theorem c_X8_kinds {l : Launch} {D : va_G} {N : Nat} {adr : Nat → Nat} {G : Nat → va_E} {G0 : Nat → va_E} {f : Nat → Int32} {a : Nat → Nat → Int32} (hN : 115 ≤ N) (hM : isMF D adr G0 G f a) (hwc : wfC (mS f a)) {n : Nat} (hf8 : f 8 = nI n) (hn60 : n ≤ 60) {x : Int32} :
    CT l D yX8_kinds cX8_kinds 8 (some FieldType.int) (rl 4) [.ref (adr 103), .int x] N adr G (PR (some (.int (kiR (mS f a) (a 108) n x))) N adr (fun W => ∃ g b, isMF D adr G0 W g b ∧ sM f a g b)) := by
  refine CT.of (by decide +kernel) (Nat.le_of_ble_eq_true rfl) (fun Γ h he => ?_)
  have h : cx l D (rl 4) RX8 cX8_kinds 8 Γ := h
  show SX Γ 0 0 0 [(0, .ref (adr 103)), (1, .int x)] [] N adr G
  refine s_iload_n h dX8_kinds_0 rfl <|
    s_i2l h dX8_kinds_1 <|
    s_lconst h dX8_kinds_2 lc_0 <|
    s_ldc2 h dX8_kinds_3 tw697 <|
    k_X8_50 h (c_X8_inw (a := 0) (b := 5) (by decide) (by decide)) rfl rfl dX8_kinds_6 <|
    PE.go <|
    s_if_ne (tgt := 15) h dX8_kinds_9 (by decide) (fun c9 => ?_) (fun c9 => ?_)
  · have e9 := bI_1 c9
    refine s_aload_n h dX8_kinds_15 rfl <|
      k_X8_136 h (c_X8_refusal hN hM (sM.refl f a) hf8 hn60) (by omega) hM.o rfl rfl dX8_kinds_16 (PR.go fun V hV => ?_)
    obtain ⟨g1, b1, hM, hs, hR⟩ := hV
    have hq30 := aN_le (sg := a 108) hn60
    by_cases hrd : rdR (a 108) n = -6
    · have hR := hR hrd
      by_cases hw : wrR (mS f a) (a 108) n = -6
      · rw [rfR_6 hrd hw]
        refine s_istore_n h dX8_kinds_19 rfl <|
          s_iload_n h dX8_kinds_20 rfl <|
          s_bipush h dX8_kinds_21 bp_m6 <|
          s_icmp_eq (tgt := 28) h dX8_kinds_23 (by decide) (kf := fun qx => absurd (rfl) qx) (kt := fun _ => ?_)
        refine s_iconst h dX8_kinds_28 ic_0 <|
          s_istore_n h dX8_kinds_29 rfl <|
          s_bipush h dX8_kinds_30 bp_m6 <|
          s_istore h dX8_kinds_32 rfl <|
          s_iconst h dX8_kinds_34 ic_0 <|
          s_istore h dX8_kinds_35 rfl <|
          s_iconst h dX8_kinds_37 ic_0 <|
          s_istore h dX8_kinds_38 rfl <|
          ?_
        refine SX.loc (up_ind (n := (aN (a 108) n)) (Q := fun i => SX Γ 0 0 40 [(0, .ref (adr 103)), (1, .int x), (3, .int (cKd (mS f a) (aL (a 108) n) (aR (a 108) n) x i)), (4, .int (firN (nGd (mS f a) (aL (a 108) n) (aR (a 108) n)) i)), (5, .int (gd2 (mS f a) (aL (a 108) n) (aR (a 108) n) i)), (6, .int (nI i))] [] N adr V) ?_ ?_ 0 (Nat.zero_le _)) ⟨rfl, rfl, rfl, rfl, rfl, rfl, trivial⟩
        · show SX _ _ _ _ _ _ _ _ _
          refine s_iload h dX8_kinds_40 rfl <|
          s_aload_n h dX8_kinds_42 rfl <|
          gm_97 h dX8_kinds_43 hN hM <|
          s_topi (nI (aN (a 108) n)) hR.1.1 <|
          s_icmp_ge (tgt := 129) h dX8_kinds_46 (by decide) (kf := fun qx => absurd (nI_le (Nat.le_refl _) (by omega)) qx) (kt := fun _ => ?_)
          refine s_iload_n h dX8_kinds_129 rfl <|
          s_iconst h dX8_kinds_130 ic_4 <|
          s_icmp_ne (tgt := 139) h dX8_kinds_131 (by decide) (fun c131 => ?_) (fun c131 => ?_)
          · refine s_iload_n h dX8_kinds_139 rfl <|
            s_iconst h dX8_kinds_140 ic_5 <|
            s_icmp_ne (tgt := 149) h dX8_kinds_141 (by decide) (fun c141 => ?_) (fun c141 => ?_)
            · refine s_iload_n h dX8_kinds_149 rfl <|
              s_iret h he rfl dX8_kinds_150 ⟨Nat.le_refl _, Nat.le_refl _⟩ ?_
              first
                | (have q : x = 4 := c131; exact PR.eq (by rw [kiR_6 e9 hrd hw hn60, if_pos q]) ⟨_, _, hM, hs⟩)
                | (have q : ¬ x = 4 := c131; have q2 : x = 5 := c141; exact PR.eq (by rw [kiR_6 e9 hrd hw hn60, if_neg q, if_pos q2]) ⟨_, _, hM, hs⟩)
                | (have q : ¬ x = 4 := c131; have q2 : ¬ x = 5 := c141; exact PR.eq (by rw [kiR_6 e9 hrd hw hn60, if_neg q, if_neg q2]) ⟨_, _, hM, hs⟩)
            · refine s_iload h dX8_kinds_144 rfl <|
              s_goto (tgt := 150) h dX8_kinds_146 (by decide) <|
              s_iret h he rfl dX8_kinds_150 ⟨Nat.le_refl _, Nat.le_refl _⟩ ?_
              first
                | (have q : x = 4 := c131; exact PR.eq (by rw [kiR_6 e9 hrd hw hn60, if_pos q]) ⟨_, _, hM, hs⟩)
                | (have q : ¬ x = 4 := c131; have q2 : x = 5 := c141; exact PR.eq (by rw [kiR_6 e9 hrd hw hn60, if_neg q, if_pos q2]) ⟨_, _, hM, hs⟩)
                | (have q : ¬ x = 4 := c131; have q2 : ¬ x = 5 := c141; exact PR.eq (by rw [kiR_6 e9 hrd hw hn60, if_neg q, if_neg q2]) ⟨_, _, hM, hs⟩)
          · refine s_iload h dX8_kinds_134 rfl <|
            s_goto (tgt := 150) h dX8_kinds_136 (by decide) <|
            s_iret h he rfl dX8_kinds_150 ⟨Nat.le_refl _, Nat.le_refl _⟩ ?_
            first
              | (have q : x = 4 := c131; exact PR.eq (by rw [kiR_6 e9 hrd hw hn60, if_pos q]) ⟨_, _, hM, hs⟩)
              | (have q : ¬ x = 4 := c131; have q2 : x = 5 := c141; exact PR.eq (by rw [kiR_6 e9 hrd hw hn60, if_neg q, if_pos q2]) ⟨_, _, hM, hs⟩)
              | (have q : ¬ x = 4 := c131; have q2 : ¬ x = 5 := c141; exact PR.eq (by rw [kiR_6 e9 hrd hw hn60, if_neg q, if_neg q2]) ⟨_, _, hM, hs⟩)
        · intro i hi ih 
          show SX _ _ _ _ _ _ _ _ _
          refine s_iload h dX8_kinds_40 rfl <|
          s_aload_n h dX8_kinds_42 rfl <|
          gm_97 h dX8_kinds_43 hN hM <|
          s_topi (nI (aN (a 108) n)) hR.1.1 <|
          s_icmp_ge (tgt := 129) h dX8_kinds_46 (by decide) (kt := fun qx => absurd qx (nI_ge hi (by omega))) (kf := fun _ => ?_)
          refine s_aload_n h dX8_kinds_49 rfl <|
          s_aload_n h dX8_kinds_50 rfl <|
          gm_25 h dX8_kinds_51 hN hM <|
          s_iload h dX8_kinds_54 rfl <|
          s_iald h dX8_kinds_56 (by omega) hM.a109 (show ix (nI i) i 30 from ix_n (by omega) (by decide)) (hR.1.2.2 i hi).1 <|
          s_aload_n h dX8_kinds_57 rfl <|
          gm_28 h dX8_kinds_58 hN hM <|
          s_iload h dX8_kinds_61 rfl <|
          s_iald h dX8_kinds_63 (by omega) hM.a110 (show ix (nI i) i 30 from ix_n (by omega) (by decide)) (hR.1.2.2 i hi).2 <|
          k_X8_139 h (c_X8_kindOfS hN hM hs hwc (wN_z (wrR_all hn60 hw i hi))) (by omega) hM.o rfl rfl dX8_kinds_64 <|
          PE.go <|
          s_istore h dX8_kinds_67 rfl <|
          s_iload_n h dX8_kinds_69 rfl <|
          s_iload h dX8_kinds_70 rfl <|
          s_iload_n h dX8_kinds_72 rfl <|
          s_icmp_ne (tgt := 80) h dX8_kinds_73 (by decide) (fun c73 => ?_) (fun c73 => ?_)
          · refine s_iconst h dX8_kinds_80 ic_0 <|
            s_iadd h dX8_kinds_81 <|
            s_topi (cKd (mS f a) (aL (a 108) n) (aR (a 108) n) x (i + 1)) (by rw [cKd_s]; first | rw [if_pos c73] | rw [if_neg c73, Int32.add_zero]) <|
            s_istore_n h dX8_kinds_82 rfl <|
            s_iload h dX8_kinds_83 rfl <|
            s_if_ge (tgt := 98) h dX8_kinds_85 (by decide) (fun c85 => ?_) (fun c85 => ?_)
            · refine s_iload h dX8_kinds_98 rfl <|
              s_topi (firN (nGd (mS f a) (aL (a 108) n) (aR (a 108) n)) (i + 1)) (by
              rw [firN_s]
              rw [nGd_i]
              first
                | (rw [decide_eq_false (i32_nlt.mpr c85), Bool.and_false]; rfl)
                | (rw [decide_eq_true (i32_nle.mp c85), decide_eq_true c90]; rfl)
                | (rw [decide_eq_true (i32_nle.mp c85), decide_eq_false c90]; rfl)) <|
              s_istore h dX8_kinds_100 rfl <|
              s_iload h dX8_kinds_102 rfl <|
              s_iload h dX8_kinds_104 rfl <|
              s_if_eq (tgt := 115) h dX8_kinds_106 (by decide) (fun c106 => ?_) (fun c106 => ?_)
              · refine s_iconst h dX8_kinds_115 ic_1 <|
                s_goto (tgt := 120) h dX8_kinds_116 (by decide) <|
                s_iadd h dX8_kinds_120 <|
                s_topi (gd2 (mS f a) (aL (a 108) n) (aR (a 108) n) (i + 1)) (by
              rw [gd2_s]
              first
                | rw [if_pos (Or.inl c106)]
                | rw [if_pos (Or.inr c112)]
                | rw [if_neg (fun z => z.elim c106 c112), Int32.add_zero]) <|
                s_istore h dX8_kinds_121 rfl <|
                s_iincR h dX8_kinds_123 rfl rfl ic_1 (nI_1 i) <|
                s_goto (tgt := 40) h dX8_kinds_126 (by decide) <|
                ?_
                exact SX.loc (ih) ⟨rfl, rfl, rfl, rfl, rfl, rfl, trivial⟩
              · refine s_iload h dX8_kinds_109 rfl <|
                s_iconst h dX8_kinds_111 ic_2 <|
                s_icmp_ne (tgt := 119) h dX8_kinds_112 (by decide) (fun c112 => ?_) (fun c112 => ?_)
                · refine s_iconst h dX8_kinds_119 ic_0 <|
                  s_iadd h dX8_kinds_120 <|
                  s_topi (gd2 (mS f a) (aL (a 108) n) (aR (a 108) n) (i + 1)) (by
              rw [gd2_s]
              first
                | rw [if_pos (Or.inl c106)]
                | rw [if_pos (Or.inr c112)]
                | rw [if_neg (fun z => z.elim c106 c112), Int32.add_zero]) <|
                  s_istore h dX8_kinds_121 rfl <|
                  s_iincR h dX8_kinds_123 rfl rfl ic_1 (nI_1 i) <|
                  s_goto (tgt := 40) h dX8_kinds_126 (by decide) <|
                  ?_
                  exact SX.loc (ih) ⟨rfl, rfl, rfl, rfl, rfl, rfl, trivial⟩
                · refine s_iconst h dX8_kinds_115 ic_1 <|
                  s_goto (tgt := 120) h dX8_kinds_116 (by decide) <|
                  s_iadd h dX8_kinds_120 <|
                  s_topi (gd2 (mS f a) (aL (a 108) n) (aR (a 108) n) (i + 1)) (by
              rw [gd2_s]
              first
                | rw [if_pos (Or.inl c106)]
                | rw [if_pos (Or.inr c112)]
                | rw [if_neg (fun z => z.elim c106 c112), Int32.add_zero]) <|
                  s_istore h dX8_kinds_121 rfl <|
                  s_iincR h dX8_kinds_123 rfl rfl ic_1 (nI_1 i) <|
                  s_goto (tgt := 40) h dX8_kinds_126 (by decide) <|
                  ?_
                  exact SX.loc (ih) ⟨rfl, rfl, rfl, rfl, rfl, rfl, trivial⟩
            · refine s_iload h dX8_kinds_88 rfl <|
              s_if_eq (tgt := 98) h dX8_kinds_90 (by decide) (fun c90 => ?_) (fun c90 => ?_)
              · refine s_iload h dX8_kinds_98 rfl <|
                s_topi (firN (nGd (mS f a) (aL (a 108) n) (aR (a 108) n)) (i + 1)) (by
              rw [firN_s]
              rw [nGd_i]
              first
                | (rw [decide_eq_false (i32_nlt.mpr c85), Bool.and_false]; rfl)
                | (rw [decide_eq_true (i32_nle.mp c85), decide_eq_true c90]; rfl)
                | (rw [decide_eq_true (i32_nle.mp c85), decide_eq_false c90]; rfl)) <|
                s_istore h dX8_kinds_100 rfl <|
                s_iload h dX8_kinds_102 rfl <|
                s_iload h dX8_kinds_104 rfl <|
                s_if_eq (tgt := 115) h dX8_kinds_106 (by decide) (fun c106 => ?_) (fun c106 => ?_)
                · refine s_iconst h dX8_kinds_115 ic_1 <|
                  s_goto (tgt := 120) h dX8_kinds_116 (by decide) <|
                  s_iadd h dX8_kinds_120 <|
                  s_topi (gd2 (mS f a) (aL (a 108) n) (aR (a 108) n) (i + 1)) (by
              rw [gd2_s]
              first
                | rw [if_pos (Or.inl c106)]
                | rw [if_pos (Or.inr c112)]
                | rw [if_neg (fun z => z.elim c106 c112), Int32.add_zero]) <|
                  s_istore h dX8_kinds_121 rfl <|
                  s_iincR h dX8_kinds_123 rfl rfl ic_1 (nI_1 i) <|
                  s_goto (tgt := 40) h dX8_kinds_126 (by decide) <|
                  ?_
                  exact SX.loc (ih) ⟨rfl, rfl, rfl, rfl, rfl, rfl, trivial⟩
                · refine s_iload h dX8_kinds_109 rfl <|
                  s_iconst h dX8_kinds_111 ic_2 <|
                  s_icmp_ne (tgt := 119) h dX8_kinds_112 (by decide) (fun c112 => ?_) (fun c112 => ?_)
                  · refine s_iconst h dX8_kinds_119 ic_0 <|
                    s_iadd h dX8_kinds_120 <|
                    s_topi (gd2 (mS f a) (aL (a 108) n) (aR (a 108) n) (i + 1)) (by
              rw [gd2_s]
              first
                | rw [if_pos (Or.inl c106)]
                | rw [if_pos (Or.inr c112)]
                | rw [if_neg (fun z => z.elim c106 c112), Int32.add_zero]) <|
                    s_istore h dX8_kinds_121 rfl <|
                    s_iincR h dX8_kinds_123 rfl rfl ic_1 (nI_1 i) <|
                    s_goto (tgt := 40) h dX8_kinds_126 (by decide) <|
                    ?_
                    exact SX.loc (ih) ⟨rfl, rfl, rfl, rfl, rfl, rfl, trivial⟩
                  · refine s_iconst h dX8_kinds_115 ic_1 <|
                    s_goto (tgt := 120) h dX8_kinds_116 (by decide) <|
                    s_iadd h dX8_kinds_120 <|
                    s_topi (gd2 (mS f a) (aL (a 108) n) (aR (a 108) n) (i + 1)) (by
              rw [gd2_s]
              first
                | rw [if_pos (Or.inl c106)]
                | rw [if_pos (Or.inr c112)]
                | rw [if_neg (fun z => z.elim c106 c112), Int32.add_zero]) <|
                    s_istore h dX8_kinds_121 rfl <|
                    s_iincR h dX8_kinds_123 rfl rfl ic_1 (nI_1 i) <|
                    s_goto (tgt := 40) h dX8_kinds_126 (by decide) <|
                    ?_
                    exact SX.loc (ih) ⟨rfl, rfl, rfl, rfl, rfl, rfl, trivial⟩
              · refine s_iload h dX8_kinds_93 rfl <|
                s_goto (tgt := 100) h dX8_kinds_95 (by decide) <|
                s_topi (firN (nGd (mS f a) (aL (a 108) n) (aR (a 108) n)) (i + 1)) (by
              rw [firN_s]
              rw [nGd_i]
              first
                | (rw [decide_eq_false (i32_nlt.mpr c85), Bool.and_false]; rfl)
                | (rw [decide_eq_true (i32_nle.mp c85), decide_eq_true c90]; rfl)
                | (rw [decide_eq_true (i32_nle.mp c85), decide_eq_false c90]; rfl)) <|
                s_istore h dX8_kinds_100 rfl <|
                s_iload h dX8_kinds_102 rfl <|
                s_iload h dX8_kinds_104 rfl <|
                s_if_eq (tgt := 115) h dX8_kinds_106 (by decide) (fun c106 => ?_) (fun c106 => ?_)
                · refine s_iconst h dX8_kinds_115 ic_1 <|
                  s_goto (tgt := 120) h dX8_kinds_116 (by decide) <|
                  s_iadd h dX8_kinds_120 <|
                  s_topi (gd2 (mS f a) (aL (a 108) n) (aR (a 108) n) (i + 1)) (by
              rw [gd2_s]
              first
                | rw [if_pos (Or.inl c106)]
                | rw [if_pos (Or.inr c112)]
                | rw [if_neg (fun z => z.elim c106 c112), Int32.add_zero]) <|
                  s_istore h dX8_kinds_121 rfl <|
                  s_iincR h dX8_kinds_123 rfl rfl ic_1 (nI_1 i) <|
                  s_goto (tgt := 40) h dX8_kinds_126 (by decide) <|
                  ?_
                  exact SX.loc (ih) ⟨rfl, rfl, rfl, rfl, rfl, rfl, trivial⟩
                · refine s_iload h dX8_kinds_109 rfl <|
                  s_iconst h dX8_kinds_111 ic_2 <|
                  s_icmp_ne (tgt := 119) h dX8_kinds_112 (by decide) (fun c112 => ?_) (fun c112 => ?_)
                  · refine s_iconst h dX8_kinds_119 ic_0 <|
                    s_iadd h dX8_kinds_120 <|
                    s_topi (gd2 (mS f a) (aL (a 108) n) (aR (a 108) n) (i + 1)) (by
              rw [gd2_s]
              first
                | rw [if_pos (Or.inl c106)]
                | rw [if_pos (Or.inr c112)]
                | rw [if_neg (fun z => z.elim c106 c112), Int32.add_zero]) <|
                    s_istore h dX8_kinds_121 rfl <|
                    s_iincR h dX8_kinds_123 rfl rfl ic_1 (nI_1 i) <|
                    s_goto (tgt := 40) h dX8_kinds_126 (by decide) <|
                    ?_
                    exact SX.loc (ih) ⟨rfl, rfl, rfl, rfl, rfl, rfl, trivial⟩
                  · refine s_iconst h dX8_kinds_115 ic_1 <|
                    s_goto (tgt := 120) h dX8_kinds_116 (by decide) <|
                    s_iadd h dX8_kinds_120 <|
                    s_topi (gd2 (mS f a) (aL (a 108) n) (aR (a 108) n) (i + 1)) (by
              rw [gd2_s]
              first
                | rw [if_pos (Or.inl c106)]
                | rw [if_pos (Or.inr c112)]
                | rw [if_neg (fun z => z.elim c106 c112), Int32.add_zero]) <|
                    s_istore h dX8_kinds_121 rfl <|
                    s_iincR h dX8_kinds_123 rfl rfl ic_1 (nI_1 i) <|
                    s_goto (tgt := 40) h dX8_kinds_126 (by decide) <|
                    ?_
                    exact SX.loc (ih) ⟨rfl, rfl, rfl, rfl, rfl, rfl, trivial⟩
          · refine s_iconst h dX8_kinds_76 ic_1 <|
            s_goto (tgt := 81) h dX8_kinds_77 (by decide) <|
            s_iadd h dX8_kinds_81 <|
            s_topi (cKd (mS f a) (aL (a 108) n) (aR (a 108) n) x (i + 1)) (by rw [cKd_s]; first | rw [if_pos c73] | rw [if_neg c73, Int32.add_zero]) <|
            s_istore_n h dX8_kinds_82 rfl <|
            s_iload h dX8_kinds_83 rfl <|
            s_if_ge (tgt := 98) h dX8_kinds_85 (by decide) (fun c85 => ?_) (fun c85 => ?_)
            · refine s_iload h dX8_kinds_98 rfl <|
              s_topi (firN (nGd (mS f a) (aL (a 108) n) (aR (a 108) n)) (i + 1)) (by
              rw [firN_s]
              rw [nGd_i]
              first
                | (rw [decide_eq_false (i32_nlt.mpr c85), Bool.and_false]; rfl)
                | (rw [decide_eq_true (i32_nle.mp c85), decide_eq_true c90]; rfl)
                | (rw [decide_eq_true (i32_nle.mp c85), decide_eq_false c90]; rfl)) <|
              s_istore h dX8_kinds_100 rfl <|
              s_iload h dX8_kinds_102 rfl <|
              s_iload h dX8_kinds_104 rfl <|
              s_if_eq (tgt := 115) h dX8_kinds_106 (by decide) (fun c106 => ?_) (fun c106 => ?_)
              · refine s_iconst h dX8_kinds_115 ic_1 <|
                s_goto (tgt := 120) h dX8_kinds_116 (by decide) <|
                s_iadd h dX8_kinds_120 <|
                s_topi (gd2 (mS f a) (aL (a 108) n) (aR (a 108) n) (i + 1)) (by
              rw [gd2_s]
              first
                | rw [if_pos (Or.inl c106)]
                | rw [if_pos (Or.inr c112)]
                | rw [if_neg (fun z => z.elim c106 c112), Int32.add_zero]) <|
                s_istore h dX8_kinds_121 rfl <|
                s_iincR h dX8_kinds_123 rfl rfl ic_1 (nI_1 i) <|
                s_goto (tgt := 40) h dX8_kinds_126 (by decide) <|
                ?_
                exact SX.loc (ih) ⟨rfl, rfl, rfl, rfl, rfl, rfl, trivial⟩
              · refine s_iload h dX8_kinds_109 rfl <|
                s_iconst h dX8_kinds_111 ic_2 <|
                s_icmp_ne (tgt := 119) h dX8_kinds_112 (by decide) (fun c112 => ?_) (fun c112 => ?_)
                · refine s_iconst h dX8_kinds_119 ic_0 <|
                  s_iadd h dX8_kinds_120 <|
                  s_topi (gd2 (mS f a) (aL (a 108) n) (aR (a 108) n) (i + 1)) (by
              rw [gd2_s]
              first
                | rw [if_pos (Or.inl c106)]
                | rw [if_pos (Or.inr c112)]
                | rw [if_neg (fun z => z.elim c106 c112), Int32.add_zero]) <|
                  s_istore h dX8_kinds_121 rfl <|
                  s_iincR h dX8_kinds_123 rfl rfl ic_1 (nI_1 i) <|
                  s_goto (tgt := 40) h dX8_kinds_126 (by decide) <|
                  ?_
                  exact SX.loc (ih) ⟨rfl, rfl, rfl, rfl, rfl, rfl, trivial⟩
                · refine s_iconst h dX8_kinds_115 ic_1 <|
                  s_goto (tgt := 120) h dX8_kinds_116 (by decide) <|
                  s_iadd h dX8_kinds_120 <|
                  s_topi (gd2 (mS f a) (aL (a 108) n) (aR (a 108) n) (i + 1)) (by
              rw [gd2_s]
              first
                | rw [if_pos (Or.inl c106)]
                | rw [if_pos (Or.inr c112)]
                | rw [if_neg (fun z => z.elim c106 c112), Int32.add_zero]) <|
                  s_istore h dX8_kinds_121 rfl <|
                  s_iincR h dX8_kinds_123 rfl rfl ic_1 (nI_1 i) <|
                  s_goto (tgt := 40) h dX8_kinds_126 (by decide) <|
                  ?_
                  exact SX.loc (ih) ⟨rfl, rfl, rfl, rfl, rfl, rfl, trivial⟩
            · refine s_iload h dX8_kinds_88 rfl <|
              s_if_eq (tgt := 98) h dX8_kinds_90 (by decide) (fun c90 => ?_) (fun c90 => ?_)
              · refine s_iload h dX8_kinds_98 rfl <|
                s_topi (firN (nGd (mS f a) (aL (a 108) n) (aR (a 108) n)) (i + 1)) (by
              rw [firN_s]
              rw [nGd_i]
              first
                | (rw [decide_eq_false (i32_nlt.mpr c85), Bool.and_false]; rfl)
                | (rw [decide_eq_true (i32_nle.mp c85), decide_eq_true c90]; rfl)
                | (rw [decide_eq_true (i32_nle.mp c85), decide_eq_false c90]; rfl)) <|
                s_istore h dX8_kinds_100 rfl <|
                s_iload h dX8_kinds_102 rfl <|
                s_iload h dX8_kinds_104 rfl <|
                s_if_eq (tgt := 115) h dX8_kinds_106 (by decide) (fun c106 => ?_) (fun c106 => ?_)
                · refine s_iconst h dX8_kinds_115 ic_1 <|
                  s_goto (tgt := 120) h dX8_kinds_116 (by decide) <|
                  s_iadd h dX8_kinds_120 <|
                  s_topi (gd2 (mS f a) (aL (a 108) n) (aR (a 108) n) (i + 1)) (by
              rw [gd2_s]
              first
                | rw [if_pos (Or.inl c106)]
                | rw [if_pos (Or.inr c112)]
                | rw [if_neg (fun z => z.elim c106 c112), Int32.add_zero]) <|
                  s_istore h dX8_kinds_121 rfl <|
                  s_iincR h dX8_kinds_123 rfl rfl ic_1 (nI_1 i) <|
                  s_goto (tgt := 40) h dX8_kinds_126 (by decide) <|
                  ?_
                  exact SX.loc (ih) ⟨rfl, rfl, rfl, rfl, rfl, rfl, trivial⟩
                · refine s_iload h dX8_kinds_109 rfl <|
                  s_iconst h dX8_kinds_111 ic_2 <|
                  s_icmp_ne (tgt := 119) h dX8_kinds_112 (by decide) (fun c112 => ?_) (fun c112 => ?_)
                  · refine s_iconst h dX8_kinds_119 ic_0 <|
                    s_iadd h dX8_kinds_120 <|
                    s_topi (gd2 (mS f a) (aL (a 108) n) (aR (a 108) n) (i + 1)) (by
              rw [gd2_s]
              first
                | rw [if_pos (Or.inl c106)]
                | rw [if_pos (Or.inr c112)]
                | rw [if_neg (fun z => z.elim c106 c112), Int32.add_zero]) <|
                    s_istore h dX8_kinds_121 rfl <|
                    s_iincR h dX8_kinds_123 rfl rfl ic_1 (nI_1 i) <|
                    s_goto (tgt := 40) h dX8_kinds_126 (by decide) <|
                    ?_
                    exact SX.loc (ih) ⟨rfl, rfl, rfl, rfl, rfl, rfl, trivial⟩
                  · refine s_iconst h dX8_kinds_115 ic_1 <|
                    s_goto (tgt := 120) h dX8_kinds_116 (by decide) <|
                    s_iadd h dX8_kinds_120 <|
                    s_topi (gd2 (mS f a) (aL (a 108) n) (aR (a 108) n) (i + 1)) (by
              rw [gd2_s]
              first
                | rw [if_pos (Or.inl c106)]
                | rw [if_pos (Or.inr c112)]
                | rw [if_neg (fun z => z.elim c106 c112), Int32.add_zero]) <|
                    s_istore h dX8_kinds_121 rfl <|
                    s_iincR h dX8_kinds_123 rfl rfl ic_1 (nI_1 i) <|
                    s_goto (tgt := 40) h dX8_kinds_126 (by decide) <|
                    ?_
                    exact SX.loc (ih) ⟨rfl, rfl, rfl, rfl, rfl, rfl, trivial⟩
              · refine s_iload h dX8_kinds_93 rfl <|
                s_goto (tgt := 100) h dX8_kinds_95 (by decide) <|
                s_topi (firN (nGd (mS f a) (aL (a 108) n) (aR (a 108) n)) (i + 1)) (by
              rw [firN_s]
              rw [nGd_i]
              first
                | (rw [decide_eq_false (i32_nlt.mpr c85), Bool.and_false]; rfl)
                | (rw [decide_eq_true (i32_nle.mp c85), decide_eq_true c90]; rfl)
                | (rw [decide_eq_true (i32_nle.mp c85), decide_eq_false c90]; rfl)) <|
                s_istore h dX8_kinds_100 rfl <|
                s_iload h dX8_kinds_102 rfl <|
                s_iload h dX8_kinds_104 rfl <|
                s_if_eq (tgt := 115) h dX8_kinds_106 (by decide) (fun c106 => ?_) (fun c106 => ?_)
                · refine s_iconst h dX8_kinds_115 ic_1 <|
                  s_goto (tgt := 120) h dX8_kinds_116 (by decide) <|
                  s_iadd h dX8_kinds_120 <|
                  s_topi (gd2 (mS f a) (aL (a 108) n) (aR (a 108) n) (i + 1)) (by
              rw [gd2_s]
              first
                | rw [if_pos (Or.inl c106)]
                | rw [if_pos (Or.inr c112)]
                | rw [if_neg (fun z => z.elim c106 c112), Int32.add_zero]) <|
                  s_istore h dX8_kinds_121 rfl <|
                  s_iincR h dX8_kinds_123 rfl rfl ic_1 (nI_1 i) <|
                  s_goto (tgt := 40) h dX8_kinds_126 (by decide) <|
                  ?_
                  exact SX.loc (ih) ⟨rfl, rfl, rfl, rfl, rfl, rfl, trivial⟩
                · refine s_iload h dX8_kinds_109 rfl <|
                  s_iconst h dX8_kinds_111 ic_2 <|
                  s_icmp_ne (tgt := 119) h dX8_kinds_112 (by decide) (fun c112 => ?_) (fun c112 => ?_)
                  · refine s_iconst h dX8_kinds_119 ic_0 <|
                    s_iadd h dX8_kinds_120 <|
                    s_topi (gd2 (mS f a) (aL (a 108) n) (aR (a 108) n) (i + 1)) (by
              rw [gd2_s]
              first
                | rw [if_pos (Or.inl c106)]
                | rw [if_pos (Or.inr c112)]
                | rw [if_neg (fun z => z.elim c106 c112), Int32.add_zero]) <|
                    s_istore h dX8_kinds_121 rfl <|
                    s_iincR h dX8_kinds_123 rfl rfl ic_1 (nI_1 i) <|
                    s_goto (tgt := 40) h dX8_kinds_126 (by decide) <|
                    ?_
                    exact SX.loc (ih) ⟨rfl, rfl, rfl, rfl, rfl, rfl, trivial⟩
                  · refine s_iconst h dX8_kinds_115 ic_1 <|
                    s_goto (tgt := 120) h dX8_kinds_116 (by decide) <|
                    s_iadd h dX8_kinds_120 <|
                    s_topi (gd2 (mS f a) (aL (a 108) n) (aR (a 108) n) (i + 1)) (by
              rw [gd2_s]
              first
                | rw [if_pos (Or.inl c106)]
                | rw [if_pos (Or.inr c112)]
                | rw [if_neg (fun z => z.elim c106 c112), Int32.add_zero]) <|
                    s_istore h dX8_kinds_121 rfl <|
                    s_iincR h dX8_kinds_123 rfl rfl ic_1 (nI_1 i) <|
                    s_goto (tgt := 40) h dX8_kinds_126 (by decide) <|
                    ?_
                    exact SX.loc (ih) ⟨rfl, rfl, rfl, rfl, rfl, rfl, trivial⟩
      · rw [rfR_3 hrd hw]
        refine s_istore_n h dX8_kinds_19 rfl <|
          s_iload_n h dX8_kinds_20 rfl <|
          s_bipush h dX8_kinds_21 bp_m6 <|
          s_icmp_eq (tgt := 28) h dX8_kinds_23 (by decide) (kt := fun qx => absurd qx (by decide)) (kf := fun _ => ?_)
        refine s_iload_n h dX8_kinds_26 rfl <|
          s_iret h he rfl dX8_kinds_27 ⟨Nat.le_refl _, Nat.le_refl _⟩ ?_
        exact PR.eq (by rw [kiR_3 e9 hrd hw]) ⟨_, _, hM, hs⟩
    · rw [rfR_5 hrd]
      refine s_istore_n h dX8_kinds_19 rfl <|
        s_iload_n h dX8_kinds_20 rfl <|
        s_bipush h dX8_kinds_21 bp_m6 <|
        s_icmp_eq (tgt := 28) h dX8_kinds_23 (by decide) (kt := fun qx => absurd qx (by decide)) (kf := fun _ => ?_)
      refine s_iload_n h dX8_kinds_26 rfl <|
        s_iret h he rfl dX8_kinds_27 ⟨Nat.le_refl _, Nat.le_refl _⟩ ?_
      exact PR.eq (by rw [kiR_5 e9 hrd]) ⟨_, _, hM, hs⟩
  · refine s_bipush h dX8_kinds_12 bp_m2 <|
      s_iret h he rfl dX8_kinds_14 ⟨Nat.le_refl _, Nat.le_refl _⟩ ?_
    exact PR.eq (by rw [kiR_n (bI_0 c9)]) ⟨_, _, hM, sM.refl f a⟩
