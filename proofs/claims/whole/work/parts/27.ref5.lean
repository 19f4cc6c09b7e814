def fmA (sc : Nat → Nat → Int32) (col : Nat → Int32) (n : Nat) : Int32 := fN (fun k x => if hitK sc col (-1) k then (if x < 0 then nI (k / 100) else x) else x) (-6) n
theorem fmA_s (sc : Nat → Nat → Int32) (col : Nat → Int32) (n : Nat) : fmA sc col (n + 1) = if hitK sc col (-1) n then (if fmA sc col n < 0 then nI (n / 100) else fmA sc col n) else fmA sc col n := rfl
def fmB (sc : Nat → Nat → Int32) (col : Nat → Int32) (n : Nat) : Int32 := fN (fun k x => if hitK sc col (-1) k then nI (k / 100) else x) (-6) n
theorem fmB_s (sc : Nat → Nat → Int32) (col : Nat → Int32) (n : Nat) : fmB sc col (n + 1) = if hitK sc col (-1) n then nI (n / 100) else fmB sc col n := rfl
theorem c_X8_findMinutes {l : Launch} {D : va_G} {N : Nat} {adr : Nat → Nat} {G : Nat → va_E} {G0 : Nat → va_E} {f f0 : Nat → Int32} {a a0 : Nat → Nat → Int32} (hN : 115 ≤ N) (hM : isMF D adr G0 G f a) (hs : sM f0 a0 f a) (hwf : wfT (mS f0 a0)) {x : Int32} {p : Nat} (hx : ix x p 10) :
    CT l D yX8_findMinutes cX8_findMinutes 3 (none) (rl 4) [.ref (adr 103), .int x] N adr G (PR none N adr (fun W => ∃ g, isMF D adr G0 W g a ∧ sM f0 a0 g a ∧ g 17 = fmA (mS f0 a0) (mS f0 a0 (6 + p)) 10000 ∧ g 18 = fmB (mS f0 a0) (mS f0 a0 (6 + p)) 10000)) := by
  refine CT.of (by decide +kernel) (Nat.le_of_ble_eq_true rfl) (fun Γ h he => ?_)
  have h : cx l D (rl 4) RX8 cX8_findMinutes 3 Γ := h
  show SX Γ 0 0 0 [(0, .ref (adr 103)), (1, .int x)] [] N adr G
  refine s_aload_n h dX8_findMinutes_0 rfl <|
    s_bipush h dX8_findMinutes_1 bp_m6 <|
    pm_165 h dX8_findMinutes_3 hN hM <|
    fun W hM =>
    s_aload_n h dX8_findMinutes_6 rfl <|
    s_bipush h dX8_findMinutes_7 bp_m6 <|
    pm_168 h dX8_findMinutes_9 hN hM <|
    fun W hM =>
    s_iconst h dX8_findMinutes_12 ic_0 <|
    s_istore_n h dX8_findMinutes_13 rfl <|
    ?_
  refine SX.loc (up_ind (n := 10000) (Q := fun i => ∀ (W : Nat → va_E) (g : Nat → Int32) (b : Nat → Nat → Int32), (isMF D adr G0 W g b ∧ sM f0 a0 g b ∧ b = a ∧ g 17 = fmA (mS f0 a0) (mS f0 a0 (6 + p)) i ∧ g 18 = fmB (mS f0 a0) (mS f0 a0 (6 + p)) i) → SX Γ 0 0 14 [(0, .ref (adr 103)), (1, .int x), (2, .int (nI i))] [] N adr W) ?_ ?_ 0 (Nat.zero_le _) _ _ _ ⟨hM, (hs.fl 17 _ (by decide)).fl 18 _ (by decide), rfl, rfl, rfl⟩) ⟨rfl, rfl, rfl, trivial⟩
  · intro W g b hH
    show SX _ _ _ _ _ _ _ _ _
    obtain ⟨hM, hs, hb, h17, h18⟩ := hH
    refine s_iload_n h dX8_findMinutes_14 rfl <|
    s_sipush h dX8_findMinutes_15 sp_10000 <|
    s_icmp_ge (tgt := 73) h dX8_findMinutes_18 (by decide) (kf := fun qx => absurd (by decide +kernel) qx) (kt := fun _ => ?_)
    refine s_vret h he dX8_findMinutes_73 ⟨Nat.le_refl _, Nat.le_refl _⟩ ?_
    have hM2 : isMF D adr G0 W g a := hb ▸ hM
    have hs2 : sM f0 a0 g a := hb ▸ hs
    exact PR.is ⟨_, hM2, hs2, h17, h18⟩
  · intro i hi ih W g b hH
    show SX _ _ _ _ _ _ _ _ _
    obtain ⟨hM, hs, hb, h17, h18⟩ := hH
    refine s_iload_n h dX8_findMinutes_14 rfl <|
    s_sipush h dX8_findMinutes_15 sp_10000 <|
    s_icmp_ge (tgt := 73) h dX8_findMinutes_18 (by decide) (kt := fun qx => absurd qx (nI_ge hi (by decide))) (kf := fun _ => ?_)
    refine s_aload_n h dX8_findMinutes_21 rfl <|
    s_iload_n h dX8_findMinutes_22 rfl <|
    s_iload_n h dX8_findMinutes_23 rfl <|
    s_bipush h dX8_findMinutes_24 bp_100 <|
    s_irem h dX8_findMinutes_26 (by decide) <|
    s_topi (nI (i % 100)) (nI_rem (b := 100) (by omega) (by decide)) <|
    s_iload_n h dX8_findMinutes_27 rfl <|
    s_bipush h dX8_findMinutes_28 bp_100 <|
    s_idiv h dX8_findMinutes_30 (by decide) <|
    s_topi (nI (i / 100)) (nI_div (b := 100) (by omega) (by decide)) <|
    k_X8_162 h (c_X8_unlikeS hN hM hs hwf hx) (by omega) hM.o rfl rfl dX8_findMinutes_31 <|
    PE.go <|
    s_if_ne (tgt := 67) h dX8_findMinutes_34 (by decide) (fun c34 => ?_) (fun c34 => ?_)
    · refine s_iincR h dX8_findMinutes_67 rfl rfl ic_1 (nI_1 i) <|
      s_goto (tgt := 14) h dX8_findMinutes_70 (by decide) <|
      ?_
      first
        | (have q : difK (mS f0 a0) (mS f0 a0 (6 + p)) i = 0 := c34
           have hh := (hit_dif _ _ _).trans (decide_eq_true q)
           exact SX.loc (ih _ _ _ ⟨hM, (hs.fl 17 _ (by decide)).fl 18 _ (by decide), hb, rfl, ((fmB_s _ _ i).trans (bool_if hh)).symm⟩) ⟨rfl, rfl, rfl, trivial⟩)
        | (have q : ¬ difK (mS f0 a0) (mS f0 a0 (6 + p)) i = 0 := c34
           have hh := (hit_dif _ _ _).trans (decide_eq_false q)
           exact SX.loc (ih _ _ _ ⟨hM, hs, hb, h17.trans ((fmA_s _ _ i).trans (bool_ifn hh)).symm, h18.trans ((fmB_s _ _ i).trans (bool_ifn hh)).symm⟩) ⟨rfl, rfl, rfl, trivial⟩)
    · refine s_aload_n h dX8_findMinutes_37 rfl <|
      s_aload_n h dX8_findMinutes_38 rfl <|
      gm_165 h dX8_findMinutes_39 hN hM <|
      s_if_ge (tgt := 52) h dX8_findMinutes_42 (by decide) (fun c42 => ?_) (fun c42 => ?_)
      · refine s_aload_n h dX8_findMinutes_52 rfl <|
        gm_165 h dX8_findMinutes_53 hN hM <|
        s_topi (fmA (mS f0 a0) (mS f0 a0 (6 + p)) (i + 1)) (by
        have hh : hitK (mS f0 a0) (mS f0 a0 (6 + p)) (-1) i = true := (hit_dif _ _ _).trans (decide_eq_true c34)
        rw [fmA_s, bool_if hh]
        first
          | (have q : 0 ≤ fmA (mS f0 a0) (mS f0 a0 (6 + p)) i := h17 ▸ c42; rw [if_neg (i32_nlt.mpr q)]; exact h17)
          | (have q : ¬ 0 ≤ fmA (mS f0 a0) (mS f0 a0 (6 + p)) i := h17 ▸ c42; rw [if_pos (i32_nle.mp q)])) <|
        pm_165 h dX8_findMinutes_56 hN hM <|
        fun W hM =>
        s_aload_n h dX8_findMinutes_59 rfl <|
        s_iload_n h dX8_findMinutes_60 rfl <|
        s_bipush h dX8_findMinutes_61 bp_100 <|
        s_idiv h dX8_findMinutes_63 (by decide) <|
        s_topi (nI (i / 100)) (nI_div (b := 100) (by omega) (by decide)) <|
        pm_168 h dX8_findMinutes_64 hN hM <|
        fun W hM =>
        s_iincR h dX8_findMinutes_67 rfl rfl ic_1 (nI_1 i) <|
        s_goto (tgt := 14) h dX8_findMinutes_70 (by decide) <|
        ?_
        first
          | (have q : difK (mS f0 a0) (mS f0 a0 (6 + p)) i = 0 := c34
             have hh := (hit_dif _ _ _).trans (decide_eq_true q)
             exact SX.loc (ih _ _ _ ⟨hM, (hs.fl 17 _ (by decide)).fl 18 _ (by decide), hb, rfl, ((fmB_s _ _ i).trans (bool_if hh)).symm⟩) ⟨rfl, rfl, rfl, trivial⟩)
          | (have q : ¬ difK (mS f0 a0) (mS f0 a0 (6 + p)) i = 0 := c34
             have hh := (hit_dif _ _ _).trans (decide_eq_false q)
             exact SX.loc (ih _ _ _ ⟨hM, hs, hb, h17.trans ((fmA_s _ _ i).trans (bool_ifn hh)).symm, h18.trans ((fmB_s _ _ i).trans (bool_ifn hh)).symm⟩) ⟨rfl, rfl, rfl, trivial⟩)
      · refine s_iload_n h dX8_findMinutes_45 rfl <|
        s_bipush h dX8_findMinutes_46 bp_100 <|
        s_idiv h dX8_findMinutes_48 (by decide) <|
        s_topi (nI (i / 100)) (nI_div (b := 100) (by omega) (by decide)) <|
        s_goto (tgt := 56) h dX8_findMinutes_49 (by decide) <|
        s_topi (fmA (mS f0 a0) (mS f0 a0 (6 + p)) (i + 1)) (by
        have hh : hitK (mS f0 a0) (mS f0 a0 (6 + p)) (-1) i = true := (hit_dif _ _ _).trans (decide_eq_true c34)
        rw [fmA_s, bool_if hh]
        first
          | (have q : 0 ≤ fmA (mS f0 a0) (mS f0 a0 (6 + p)) i := h17 ▸ c42; rw [if_neg (i32_nlt.mpr q)]; exact h17)
          | (have q : ¬ 0 ≤ fmA (mS f0 a0) (mS f0 a0 (6 + p)) i := h17 ▸ c42; rw [if_pos (i32_nle.mp q)])) <|
        pm_165 h dX8_findMinutes_56 hN hM <|
        fun W hM =>
        s_aload_n h dX8_findMinutes_59 rfl <|
        s_iload_n h dX8_findMinutes_60 rfl <|
        s_bipush h dX8_findMinutes_61 bp_100 <|
        s_idiv h dX8_findMinutes_63 (by decide) <|
        s_topi (nI (i / 100)) (nI_div (b := 100) (by omega) (by decide)) <|
        pm_168 h dX8_findMinutes_64 hN hM <|
        fun W hM =>
        s_iincR h dX8_findMinutes_67 rfl rfl ic_1 (nI_1 i) <|
        s_goto (tgt := 14) h dX8_findMinutes_70 (by decide) <|
        ?_
        first
          | (have q : difK (mS f0 a0) (mS f0 a0 (6 + p)) i = 0 := c34
             have hh := (hit_dif _ _ _).trans (decide_eq_true q)
             exact SX.loc (ih _ _ _ ⟨hM, (hs.fl 17 _ (by decide)).fl 18 _ (by decide), hb, rfl, ((fmB_s _ _ i).trans (bool_if hh)).symm⟩) ⟨rfl, rfl, rfl, trivial⟩)
          | (have q : ¬ difK (mS f0 a0) (mS f0 a0 (6 + p)) i = 0 := c34
             have hh := (hit_dif _ _ _).trans (decide_eq_false q)
             exact SX.loc (ih _ _ _ ⟨hM, hs, hb, h17.trans ((fmA_s _ _ i).trans (bool_ifn hh)).symm, h18.trans ((fmB_s _ _ i).trans (bool_ifn hh)).symm⟩) ⟨rfl, rfl, rfl, trivial⟩)
def fA (sc : Nat → Nat → Int32) (x : Int32) : Int32 := fmA sc (sc (6 + x.toNatClampNeg)) 10000
def fB (sc : Nat → Nat → Int32) (x : Int32) : Int32 := fmB sc (sc (6 + x.toNatClampNeg)) 10000
def ahM (sc : Nat → Nat → Int32) (x y : Int32) : Int32 := if okP sc x y then (if fA sc x < 0 then -6 else if fA sc y < 0 then -6 else if fB sc x < fA sc y then 1 else if fB sc y < fA sc x then 2 else 0) else -1
theorem ahM_0 {sc : Nat → Nat → Int32} {x y : Int32} (h : okP sc x y = true) : ahM sc x y = if fA sc x < 0 then -6 else if fA sc y < 0 then -6 else if fB sc x < fA sc y then 1 else if fB sc y < fA sc x then 2 else 0 := if_pos h
theorem ahM_1 {sc : Nat → Nat → Int32} {x y : Int32} (h : okP sc x y = false) : ahM sc x y = -1 := if_neg (fun z => Bool.false_ne_true (h.symm.trans z))
theorem c_X8_ahead {l : Launch} {D : va_G} {N : Nat} {adr : Nat → Nat} {G : Nat → va_E} {G0 : Nat → va_E} {f : Nat → Int32} {a : Nat → Nat → Int32} (hN : 115 ≤ N) (hM : isMF D adr G0 G f a) (hwf : wfT (mS f a)) {x y : Int32} :
    CT l D yX8_ahead cX8_ahead 5 (some FieldType.int) (rl 5) [.ref (adr 103), .int x, .int y] N adr G (PR (some (.int (ahM (mS f a) x y))) N adr (fun W => ∃ g, isMF D adr G0 W g a ∧ sM f a g a)) := by
  refine CT.of (by decide +kernel) (Nat.le_of_ble_eq_true rfl) (fun Γ h he => ?_)
  have h : cx l D (rl 5) RX8 cX8_ahead 5 Γ := h
  show SX Γ 0 0 0 [(0, .ref (adr 103)), (1, .int x), (2, .int y)] [] N adr G
  refine s_aload_n h dX8_ahead_0 rfl <|
    s_iload_n h dX8_ahead_1 rfl <|
    s_iload_n h dX8_ahead_2 rfl <|
    k_X8_143 h (c_X8_areTwo hN hM) (by omega) hM.o rfl rfl dX8_ahead_3 <|
    PE.go <|
    s_if_ne (tgt := 11) h dX8_ahead_6 (by decide) (fun c6 => ?_) (fun c6 => ?_)
  · have e6 := bI_1 c6
    have hxy := okP_ix e6
    refine s_aload_n h dX8_ahead_11 rfl <|
      s_iload_n h dX8_ahead_12 rfl <|
      k_X8_171 h (c_X8_findMinutes hN hM (sM.refl f a) hwf hxy.1) (by omega) hM.o rfl rfl dX8_ahead_13 (PR.go0 fun V hV => ?_)
    obtain ⟨g1, hM, hs1, z17, z18⟩ := hV
    refine s_aload_n h dX8_ahead_16 rfl <|
      gm_165 h dX8_ahead_17 hN hM <|
      s_istore_n h dX8_ahead_20 rfl <|
      s_aload_n h dX8_ahead_21 rfl <|
      gm_168 h dX8_ahead_22 hN hM <|
      s_istore h dX8_ahead_25 rfl <|
      s_aload_n h dX8_ahead_27 rfl <|
      s_iload_n h dX8_ahead_28 rfl <|
      k_X8_171 h (c_X8_findMinutes hN hM hs1 hwf hxy.2) (by omega) hM.o rfl rfl dX8_ahead_29 (PR.go0 fun V hV => ?_)
    obtain ⟨g2, hM, hs2, y17, y18⟩ := hV
    refine s_iload_n h dX8_ahead_32 rfl <|
      s_if_lt (tgt := 43) h dX8_ahead_33 (by decide) (fun c33 => ?_) (fun c33 => ?_)
    · refine s_bipush h dX8_ahead_43 bp_m6 <|
        s_iret h he rfl dX8_ahead_45 ⟨Nat.le_refl _, Nat.le_refl _⟩ ?_
      have k1 : fA (mS f a) x = g1 17 := z17.symm
      have k2 : fB (mS f a) x = g1 18 := z18.symm
      have k3 : fA (mS f a) y = g2 17 := y17.symm
      have k4 : fB (mS f a) y = g2 18 := y18.symm
      refine PR.eq (by
        rw [ahM_0 e6, k1, k2, k3, k4]
        first
          | rw [if_pos c33]
          | rw [if_neg c33, if_pos (i32_nle.mp c40)]
          | rw [if_neg c33, if_neg (i32_nlt.mpr c40), if_pos (i32_nle.mp c52)]
          | rw [if_neg c33, if_neg (i32_nlt.mpr c40), if_neg (i32_nlt.mpr c52), if_pos (i32_nle.mp c64)]
          | rw [if_neg c33, if_neg (i32_nlt.mpr c40), if_neg (i32_nlt.mpr c52), if_neg (i32_nlt.mpr c64)]) ?_
      exact ⟨_, hM, hs2⟩
    · refine s_aload_n h dX8_ahead_36 rfl <|
        gm_165 h dX8_ahead_37 hN hM <|
        s_if_ge (tgt := 46) h dX8_ahead_40 (by decide) (fun c40 => ?_) (fun c40 => ?_)
      · refine s_iload h dX8_ahead_46 rfl <|
          s_aload_n h dX8_ahead_48 rfl <|
          gm_165 h dX8_ahead_49 hN hM <|
          s_icmp_ge (tgt := 59) h dX8_ahead_52 (by decide) (fun c52 => ?_) (fun c52 => ?_)
        · refine s_iload_n h dX8_ahead_59 rfl <|
            s_aload_n h dX8_ahead_60 rfl <|
            gm_168 h dX8_ahead_61 hN hM <|
            s_icmp_le (tgt := 71) h dX8_ahead_64 (by decide) (fun c64 => ?_) (fun c64 => ?_)
          · refine s_iconst h dX8_ahead_71 ic_0 <|
              s_iret h he rfl dX8_ahead_72 ⟨Nat.le_refl _, Nat.le_refl _⟩ ?_
            have k1 : fA (mS f a) x = g1 17 := z17.symm
            have k2 : fB (mS f a) x = g1 18 := z18.symm
            have k3 : fA (mS f a) y = g2 17 := y17.symm
            have k4 : fB (mS f a) y = g2 18 := y18.symm
            refine PR.eq (by
              rw [ahM_0 e6, k1, k2, k3, k4]
              first
                | rw [if_pos c33]
                | rw [if_neg c33, if_pos (i32_nle.mp c40)]
                | rw [if_neg c33, if_neg (i32_nlt.mpr c40), if_pos (i32_nle.mp c52)]
                | rw [if_neg c33, if_neg (i32_nlt.mpr c40), if_neg (i32_nlt.mpr c52), if_pos (i32_nle.mp c64)]
                | rw [if_neg c33, if_neg (i32_nlt.mpr c40), if_neg (i32_nlt.mpr c52), if_neg (i32_nlt.mpr c64)]) ?_
            exact ⟨_, hM, hs2⟩
          · refine s_iconst h dX8_ahead_67 ic_2 <|
              s_goto (tgt := 72) h dX8_ahead_68 (by decide) <|
              s_iret h he rfl dX8_ahead_72 ⟨Nat.le_refl _, Nat.le_refl _⟩ ?_
            have k1 : fA (mS f a) x = g1 17 := z17.symm
            have k2 : fB (mS f a) x = g1 18 := z18.symm
            have k3 : fA (mS f a) y = g2 17 := y17.symm
            have k4 : fB (mS f a) y = g2 18 := y18.symm
            refine PR.eq (by
              rw [ahM_0 e6, k1, k2, k3, k4]
              first
                | rw [if_pos c33]
                | rw [if_neg c33, if_pos (i32_nle.mp c40)]
                | rw [if_neg c33, if_neg (i32_nlt.mpr c40), if_pos (i32_nle.mp c52)]
                | rw [if_neg c33, if_neg (i32_nlt.mpr c40), if_neg (i32_nlt.mpr c52), if_pos (i32_nle.mp c64)]
                | rw [if_neg c33, if_neg (i32_nlt.mpr c40), if_neg (i32_nlt.mpr c52), if_neg (i32_nlt.mpr c64)]) ?_
            exact ⟨_, hM, hs2⟩
        · refine s_iconst h dX8_ahead_55 ic_1 <|
            s_goto (tgt := 72) h dX8_ahead_56 (by decide) <|
            s_iret h he rfl dX8_ahead_72 ⟨Nat.le_refl _, Nat.le_refl _⟩ ?_
          have k1 : fA (mS f a) x = g1 17 := z17.symm
          have k2 : fB (mS f a) x = g1 18 := z18.symm
          have k3 : fA (mS f a) y = g2 17 := y17.symm
          have k4 : fB (mS f a) y = g2 18 := y18.symm
          refine PR.eq (by
            rw [ahM_0 e6, k1, k2, k3, k4]
            first
              | rw [if_pos c33]
              | rw [if_neg c33, if_pos (i32_nle.mp c40)]
              | rw [if_neg c33, if_neg (i32_nlt.mpr c40), if_pos (i32_nle.mp c52)]
              | rw [if_neg c33, if_neg (i32_nlt.mpr c40), if_neg (i32_nlt.mpr c52), if_pos (i32_nle.mp c64)]
              | rw [if_neg c33, if_neg (i32_nlt.mpr c40), if_neg (i32_nlt.mpr c52), if_neg (i32_nlt.mpr c64)]) ?_
          exact ⟨_, hM, hs2⟩
      · refine s_bipush h dX8_ahead_43 bp_m6 <|
          s_iret h he rfl dX8_ahead_45 ⟨Nat.le_refl _, Nat.le_refl _⟩ ?_
        have k1 : fA (mS f a) x = g1 17 := z17.symm
        have k2 : fB (mS f a) x = g1 18 := z18.symm
        have k3 : fA (mS f a) y = g2 17 := y17.symm
        have k4 : fB (mS f a) y = g2 18 := y18.symm
        refine PR.eq (by
          rw [ahM_0 e6, k1, k2, k3, k4]
          first
            | rw [if_pos c33]
            | rw [if_neg c33, if_pos (i32_nle.mp c40)]
            | rw [if_neg c33, if_neg (i32_nlt.mpr c40), if_pos (i32_nle.mp c52)]
            | rw [if_neg c33, if_neg (i32_nlt.mpr c40), if_neg (i32_nlt.mpr c52), if_pos (i32_nle.mp c64)]
            | rw [if_neg c33, if_neg (i32_nlt.mpr c40), if_neg (i32_nlt.mpr c52), if_neg (i32_nlt.mpr c64)]) ?_
        exact ⟨_, hM, hs2⟩
  · refine s_iconst h dX8_ahead_9 ic_m1 <|
      s_iret h he rfl dX8_ahead_10 ⟨Nat.le_refl _, Nat.le_refl _⟩ ?_
    exact PR.eq (by rw [ahM_1 (bI_0 c6)]) ⟨_, hM, sM.refl _ _⟩
def ixM (c : Int32) : Nat := if c = -6 then 61 else c.toNatClampNeg
def cM (sc : Nat → Nat → Int32) (col : Nat → Int32) (t : Nat) (n : Nat) : Nat → Int32 := fN (fun k tb => if hitK sc col (nI t) k then upd tb (ixM (sCol sc (nI (k % 100)) (nI (k / 100)) t)) 1 else tb) (fun _ => 0) n
theorem cM_s (sc : Nat → Nat → Int32) (col : Nat → Int32) (t : Nat) (n : Nat) : cM sc col t (n + 1) = if hitK sc col (nI t) n then upd (cM sc col t n) (ixM (sCol sc (nI (n % 100)) (nI (n / 100)) t)) 1 else cM sc col t n := rfl
theorem ixM_lt {c : Int32} (h : c = -6 ∨ 0 ≤ c ∧ c ≤ 60) : ixM c < 62 := by
  unfold ixM
  split
  · decide
  · rename_i q
    obtain ⟨h0, h1⟩ := h.resolve_left q
    have := (ix_of (n := 60) (by decide) h0 h1).2.2
    omega
theorem ixM_neg {c : Int32} (h : c = -6) : 61 = nI (ixM c) := by unfold ixM; rw [if_pos h]; rfl
theorem ixM_pos {c : Int32} (h : c = -6 ∨ 0 ≤ c ∧ c ≤ 60) (q : ¬ c = -6) : c = nI (ixM c) := by
  unfold ixM; rw [if_neg q]
  obtain ⟨h0, h1⟩ := h.resolve_left q
  exact ix_eq (ix_of (n := 60) (by decide) h0 h1)
def msT (tb : Nat → Int32) (n : Nat) : Int32 := fN (fun v x => x + tb v) (tb 61) n
def msF (tb : Nat → Int32) (n : Nat) : Int32 := fN (fun v x => if tb v = 1 ∧ x < 0 then nI v else x) (-6) n
theorem msF_s (tb : Nat → Int32) (n : Nat) : msF tb (n + 1) = if tb n = 1 ∧ msF tb n < 0 then nI n else msF tb n := rfl
def msL (tb : Nat → Int32) (n : Nat) : Int32 := fN (fun v x => if tb v = 1 then nI v else x) (-6) n
theorem msL_s (tb : Nat → Int32) (n : Nat) : msL tb (n + 1) = if tb n = 1 then nI n else msL tb n := rfl
def msM (sc : Nat → Nat → Int32) (p t x : Int32) : Int32 := if pE sc p then (if tE sc t then (if wb x 0 2 then (if x = 0 then msT (cM sc (sc (6 + p.toNatClampNeg)) t.toNatClampNeg 10000) 61 else if x = 1 then msF (cM sc (sc (6 + p.toNatClampNeg)) t.toNatClampNeg 10000) 61 else msL (cM sc (sc (6 + p.toNatClampNeg)) t.toNatClampNeg 10000) 61) else -2) else -1) else -1
theorem msM_0 {sc : Nat → Nat → Int32} {p t x : Int32} {j : Nat} (h : pE sc p = true) (h2 : tE sc t = true) (h3 : wb x 0 2 = true) (hj : t.toNatClampNeg = j) : msM sc p t x = if x = 0 then msT (cM sc (sc (6 + p.toNatClampNeg)) j 10000) 61 else if x = 1 then msF (cM sc (sc (6 + p.toNatClampNeg)) j 10000) 61 else msL (cM sc (sc (6 + p.toNatClampNeg)) j 10000) 61 := by
  unfold msM; rw [if_pos h, if_pos h2, if_pos h3, hj]
theorem c_X8_missing {l : Launch} {D : va_G} {N : Nat} {adr : Nat → Nat} {G : Nat → va_E} {G0 : Nat → va_E} {f : Nat → Int32} {a : Nat → Nat → Int32} (hN : 115 ≤ N) (hM : isMF D adr G0 G f a) (hwf : wfT (mS f a)) {p t x : Int32} :
    CT l D yX8_missing cX8_missing 8 (some FieldType.int) (rl 4) [.ref (adr 103), .int p, .int t, .int x] N adr G (PR (some (.int (msM (mS f a) p t x))) N adr (fun W => ∃ g b, isMF D adr G0 W g b ∧ sM f a g b)) := by
  refine CT.of (by decide +kernel) (Nat.le_of_ble_eq_true rfl) (fun Γ h he => ?_)
  have h : cx l D (rl 4) RX8 cX8_missing 8 Γ := h
  show SX Γ 0 0 0 [(0, .ref (adr 103)), (1, .int p), (2, .int t), (3, .int x)] [] N adr G
  refine s_aload_n h dX8_missing_0 rfl <|
    s_iload_n h dX8_missing_1 rfl <|
    k_X8_64 h (c_X8_isPicture hN hM) (by omega) hM.o rfl rfl dX8_missing_2 <|
    PE.go <|
    s_if_eq (tgt := 16) h dX8_missing_5 (by decide) (fun c5 => ?_) (fun c5 => ?_)
  · refine s_iconst h dX8_missing_16 ic_m1 <|
      s_iret h he rfl dX8_missing_17 ⟨Nat.le_refl _, Nat.le_refl _⟩ ?_
    first
      | (have q := bI_0 c5; exact PR.eq (by rw [msM, q]; rfl) ⟨_, _, hM, sM.refl _ _⟩)
      | (have q := bI_0 c13; exact PR.eq (by rw [msM, e5, q]; rfl) ⟨_, _, hM, sM.refl _ _⟩)
  · have e5 := bI_1 c5
    have hx := pE_ix e5
    refine s_aload_n h dX8_missing_8 rfl <|
      s_iload_n h dX8_missing_9 rfl <|
      k_X8_79 h (c_X8_isThing hN hM) (by omega) hM.o rfl rfl dX8_missing_10 <|
      PE.go <|
      s_if_ne (tgt := 18) h dX8_missing_13 (by decide) (fun c13 => ?_) (fun c13 => ?_)
    · have e13 := bI_1 c13
      refine s_iload_n h dX8_missing_18 rfl <|
        s_i2l h dX8_missing_19 <|
        s_lconst h dX8_missing_20 lc_0 <|
        s_ldc2 h dX8_missing_21 tw856 <|
        k_X8_50 h (c_X8_inw (a := 0) (b := 2) (by decide) (by decide)) rfl rfl dX8_missing_24 <|
        PE.go <|
        s_if_ne (tgt := 33) h dX8_missing_27 (by decide) (fun c27 => ?_) (fun c27 => ?_)
      · have e27 := bI_1 c27
        have hix := tE_ix e13
        obtain ⟨j, hj⟩ : ∃ j, t.toNatClampNeg = j := ⟨_, rfl⟩
        have hje := ix_eq hix
        rw [hj] at hje hix
        have hj6 := hix.2.2
        subst hje
        refine s_iconst h dX8_missing_33 ic_0 <|
          s_istore h dX8_missing_34 rfl <|
          ?_
        refine SX.loc (up_ind (n := 62) (Q := fun i => ∀ (W : Nat → va_E) (g : Nat → Int32) (b : Nat → Nat → Int32), (isMF D adr G0 W g b ∧ sM f a g b ∧ ∀ v, v < i → b 112 v = 0) → SX Γ 0 0 36 [(0, .ref (adr 103)), (1, .int p), (2, .int (nI j)), (3, .int x), (4, .int (nI i))] [] N adr W) ?_ ?_ 0 (Nat.zero_le _) _ _ _ ⟨hM, sM.refl _ _, fun v hv => absurd hv (Nat.not_lt_zero v)⟩) ⟨rfl, rfl, rfl, rfl, rfl, trivial⟩
        · intro W g b hH
          show SX _ _ _ _ _ _ _ _ _
          obtain ⟨hM, hs, hT⟩ := hH
          refine s_iload h dX8_missing_36 rfl <|
          s_bipush h dX8_missing_38 bp_61 <|
          s_icmp_gt (tgt := 57) h dX8_missing_40 (by decide) (kf := fun qx => absurd (by decide +kernel) qx) (kt := fun _ => ?_)
          refine s_iconst h dX8_missing_57 ic_0 <|
          s_istore h dX8_missing_58 rfl <|
          ?_
          refine SX.loc (up_ind (n := 10000) (Q := fun i => ∀ (W : Nat → va_E) (g : Nat → Int32) (b : Nat → Nat → Int32), (isMF D adr G0 W g b ∧ sM f a g b ∧ ∀ v, v < 62 → b 112 v = cM (mS f a) (mS f a (6 + p.toNatClampNeg)) j i v) → SX Γ 0 0 60 [(0, .ref (adr 103)), (1, .int p), (2, .int (nI j)), (3, .int x), (4, .int (nI i))] [] N adr W) ?_ ?_ 0 (Nat.zero_le _) _ _ _ ⟨hM, hs, fun v hv => hT v hv⟩) ⟨rfl, rfl, rfl, rfl, rfl, trivial⟩
          · intro W g b hH
            show SX _ _ _ _ _ _ _ _ _
            obtain ⟨hM, hs, hT⟩ := hH
            refine s_iload h dX8_missing_60 rfl <|
            s_sipush h dX8_missing_62 sp_10000 <|
            s_icmp_ge (tgt := 133) h dX8_missing_65 (by decide) (kf := fun qx => absurd (by decide +kernel) qx) (kt := fun _ => ?_)
            refine s_aload_n h dX8_missing_133 rfl <|
            gm_34 h dX8_missing_134 hN hM <|
            s_bipush h dX8_missing_137 bp_61 <|
            s_iald h dX8_missing_139 (by omega) hM.a112 (ix_n (show 61 < 62 from by decide) (by decide)) (hT 61 (by decide)) <|
            s_istore h dX8_missing_140 rfl <|
            s_bipush h dX8_missing_142 bp_m6 <|
            s_istore h dX8_missing_144 rfl <|
            s_bipush h dX8_missing_146 bp_m6 <|
            s_istore h dX8_missing_148 rfl <|
            s_iconst h dX8_missing_150 ic_0 <|
            s_istore h dX8_missing_151 rfl <|
            ?_
            refine SX.loc (up_ind (n := 61) (Q := fun i => SX Γ 0 0 153 [(0, .ref (adr 103)), (1, .int p), (2, .int (nI j)), (3, .int x), (4, .int (msT (cM (mS f a) (mS f a (6 + p.toNatClampNeg)) j 10000) i)), (5, .int (msF (cM (mS f a) (mS f a (6 + p.toNatClampNeg)) j 10000) i)), (6, .int (msL (cM (mS f a) (mS f a (6 + p.toNatClampNeg)) j 10000) i)), (7, .int (nI i))] [] N adr W) ?_ ?_ 0 (Nat.zero_le _)) ⟨rfl, rfl, rfl, rfl, rfl, rfl, rfl, rfl, trivial⟩
            · show SX _ _ _ _ _ _ _ _ _
              refine s_iload h dX8_missing_153 rfl <|
              s_bipush h dX8_missing_155 bp_61 <|
              s_icmp_ge (tgt := 223) h dX8_missing_157 (by decide) (kf := fun qx => absurd (by decide +kernel) qx) (kt := fun _ => ?_)
              refine s_iload_n h dX8_missing_223 rfl <|
              s_if_ne (tgt := 232) h dX8_missing_224 (by decide) (fun c224 => ?_) (fun c224 => ?_)
              · refine s_iload_n h dX8_missing_232 rfl <|
                s_iconst h dX8_missing_233 ic_1 <|
                s_icmp_ne (tgt := 242) h dX8_missing_234 (by decide) (fun c234 => ?_) (fun c234 => ?_)
                · refine s_iload h dX8_missing_242 rfl <|
                  s_iret h he rfl dX8_missing_244 ⟨Nat.le_refl _, Nat.le_refl _⟩ ?_
                  exact PR.eq (by
                    rw [msM_0 e5 e13 e27 hj]
                    first
                      | rw [if_pos c224]
                      | rw [if_neg c224, if_pos c234]
                      | rw [if_neg c224, if_neg c234]) ⟨_, _, hM, hs⟩
                · refine s_iload h dX8_missing_237 rfl <|
                  s_goto (tgt := 244) h dX8_missing_239 (by decide) <|
                  s_iret h he rfl dX8_missing_244 ⟨Nat.le_refl _, Nat.le_refl _⟩ ?_
                  exact PR.eq (by
                    rw [msM_0 e5 e13 e27 hj]
                    first
                      | rw [if_pos c224]
                      | rw [if_neg c224, if_pos c234]
                      | rw [if_neg c224, if_neg c234]) ⟨_, _, hM, hs⟩
              · refine s_iload h dX8_missing_227 rfl <|
                s_goto (tgt := 244) h dX8_missing_229 (by decide) <|
                s_iret h he rfl dX8_missing_244 ⟨Nat.le_refl _, Nat.le_refl _⟩ ?_
                exact PR.eq (by
                  rw [msM_0 e5 e13 e27 hj]
                  first
                    | rw [if_pos c224]
                    | rw [if_neg c224, if_pos c234]
                    | rw [if_neg c224, if_neg c234]) ⟨_, _, hM, hs⟩
            · intro i hi ih 
              show SX _ _ _ _ _ _ _ _ _
              refine s_iload h dX8_missing_153 rfl <|
              s_bipush h dX8_missing_155 bp_61 <|
              s_icmp_ge (tgt := 223) h dX8_missing_157 (by decide) (kt := fun qx => absurd qx (nI_ge hi (by decide))) (kf := fun _ => ?_)
              refine s_iload h dX8_missing_160 rfl <|
              s_aload_n h dX8_missing_162 rfl <|
              gm_34 h dX8_missing_163 hN hM <|
              s_iload h dX8_missing_166 rfl <|
              s_iald h dX8_missing_168 (by omega) hM.a112 (ix_n (show i < 62 from by omega) (by decide)) (hT i (by omega)) <|
              s_iadd h dX8_missing_169 <|
              s_topi (msT (cM (mS f a) (mS f a (6 + p.toNatClampNeg)) j 10000) (i + 1)) rfl <|
              s_istore h dX8_missing_170 rfl <|
              s_aload_n h dX8_missing_172 rfl <|
              gm_34 h dX8_missing_173 hN hM <|
              s_iload h dX8_missing_176 rfl <|
              s_iald h dX8_missing_178 (by omega) hM.a112 (ix_n (show i < 62 from by omega) (by decide)) (hT i (by omega)) <|
              s_iconst h dX8_missing_179 ic_1 <|
              s_icmp_ne (tgt := 193) h dX8_missing_180 (by decide) (fun c180 => ?_) (fun c180 => ?_)
              · refine s_iload h dX8_missing_193 rfl <|
                s_topi (msF (cM (mS f a) (mS f a (6 + p.toNatClampNeg)) j 10000) (i + 1)) (by rw [msF_s]; first | rw [if_neg (fun q => c180 q.1)] | rw [if_neg (fun q => i32_nlt.mpr c185 q.2)] | rw [if_pos ⟨c180, i32_nle.mp c185⟩]) <|
                s_istore h dX8_missing_195 rfl <|
                s_aload_n h dX8_missing_197 rfl <|
                gm_34 h dX8_missing_198 hN hM <|
                s_iload h dX8_missing_201 rfl <|
                s_iald h dX8_missing_203 (by omega) hM.a112 (ix_n (show i < 62 from by omega) (by decide)) (hT i (by omega)) <|
                s_iconst h dX8_missing_204 ic_1 <|
                s_icmp_ne (tgt := 213) h dX8_missing_205 (by decide) (fun c205 => ?_) (fun c205 => ?_)
                · refine s_iload h dX8_missing_213 rfl <|
                  s_topi (msL (cM (mS f a) (mS f a (6 + p.toNatClampNeg)) j 10000) (i + 1)) (by rw [msL_s]; first | rw [if_neg c205] | rw [if_pos c205]) <|
                  s_istore h dX8_missing_215 rfl <|
                  s_iincR h dX8_missing_217 rfl rfl ic_1 (nI_1 i) <|
                  s_goto (tgt := 153) h dX8_missing_220 (by decide) <|
                  ?_
                  exact SX.loc (ih) ⟨rfl, rfl, rfl, rfl, rfl, rfl, rfl, rfl, trivial⟩
                · refine s_iload h dX8_missing_208 rfl <|
                  s_goto (tgt := 215) h dX8_missing_210 (by decide) <|
                  s_topi (msL (cM (mS f a) (mS f a (6 + p.toNatClampNeg)) j 10000) (i + 1)) (by rw [msL_s]; first | rw [if_neg c205] | rw [if_pos c205]) <|
                  s_istore h dX8_missing_215 rfl <|
                  s_iincR h dX8_missing_217 rfl rfl ic_1 (nI_1 i) <|
                  s_goto (tgt := 153) h dX8_missing_220 (by decide) <|
                  ?_
                  exact SX.loc (ih) ⟨rfl, rfl, rfl, rfl, rfl, rfl, rfl, rfl, trivial⟩
              · refine s_iload h dX8_missing_183 rfl <|
                s_if_ge (tgt := 193) h dX8_missing_185 (by decide) (fun c185 => ?_) (fun c185 => ?_)
                · refine s_iload h dX8_missing_193 rfl <|
                  s_topi (msF (cM (mS f a) (mS f a (6 + p.toNatClampNeg)) j 10000) (i + 1)) (by rw [msF_s]; first | rw [if_neg (fun q => c180 q.1)] | rw [if_neg (fun q => i32_nlt.mpr c185 q.2)] | rw [if_pos ⟨c180, i32_nle.mp c185⟩]) <|
                  s_istore h dX8_missing_195 rfl <|
                  s_aload_n h dX8_missing_197 rfl <|
                  gm_34 h dX8_missing_198 hN hM <|
                  s_iload h dX8_missing_201 rfl <|
                  s_iald h dX8_missing_203 (by omega) hM.a112 (ix_n (show i < 62 from by omega) (by decide)) (hT i (by omega)) <|
                  s_iconst h dX8_missing_204 ic_1 <|
                  s_icmp_ne (tgt := 213) h dX8_missing_205 (by decide) (fun c205 => ?_) (fun c205 => ?_)
                  · refine s_iload h dX8_missing_213 rfl <|
                    s_topi (msL (cM (mS f a) (mS f a (6 + p.toNatClampNeg)) j 10000) (i + 1)) (by rw [msL_s]; first | rw [if_neg c205] | rw [if_pos c205]) <|
                    s_istore h dX8_missing_215 rfl <|
                    s_iincR h dX8_missing_217 rfl rfl ic_1 (nI_1 i) <|
                    s_goto (tgt := 153) h dX8_missing_220 (by decide) <|
                    ?_
                    exact SX.loc (ih) ⟨rfl, rfl, rfl, rfl, rfl, rfl, rfl, rfl, trivial⟩
                  · refine s_iload h dX8_missing_208 rfl <|
                    s_goto (tgt := 215) h dX8_missing_210 (by decide) <|
                    s_topi (msL (cM (mS f a) (mS f a (6 + p.toNatClampNeg)) j 10000) (i + 1)) (by rw [msL_s]; first | rw [if_neg c205] | rw [if_pos c205]) <|
                    s_istore h dX8_missing_215 rfl <|
                    s_iincR h dX8_missing_217 rfl rfl ic_1 (nI_1 i) <|
                    s_goto (tgt := 153) h dX8_missing_220 (by decide) <|
                    ?_
                    exact SX.loc (ih) ⟨rfl, rfl, rfl, rfl, rfl, rfl, rfl, rfl, trivial⟩
                · refine s_iload h dX8_missing_188 rfl <|
                  s_goto (tgt := 195) h dX8_missing_190 (by decide) <|
                  s_topi (msF (cM (mS f a) (mS f a (6 + p.toNatClampNeg)) j 10000) (i + 1)) (by rw [msF_s]; first | rw [if_neg (fun q => c180 q.1)] | rw [if_neg (fun q => i32_nlt.mpr c185 q.2)] | rw [if_pos ⟨c180, i32_nle.mp c185⟩]) <|
                  s_istore h dX8_missing_195 rfl <|
                  s_aload_n h dX8_missing_197 rfl <|
                  gm_34 h dX8_missing_198 hN hM <|
                  s_iload h dX8_missing_201 rfl <|
                  s_iald h dX8_missing_203 (by omega) hM.a112 (ix_n (show i < 62 from by omega) (by decide)) (hT i (by omega)) <|
                  s_iconst h dX8_missing_204 ic_1 <|
                  s_icmp_ne (tgt := 213) h dX8_missing_205 (by decide) (fun c205 => ?_) (fun c205 => ?_)
                  · refine s_iload h dX8_missing_213 rfl <|
                    s_topi (msL (cM (mS f a) (mS f a (6 + p.toNatClampNeg)) j 10000) (i + 1)) (by rw [msL_s]; first | rw [if_neg c205] | rw [if_pos c205]) <|
                    s_istore h dX8_missing_215 rfl <|
                    s_iincR h dX8_missing_217 rfl rfl ic_1 (nI_1 i) <|
                    s_goto (tgt := 153) h dX8_missing_220 (by decide) <|
                    ?_
                    exact SX.loc (ih) ⟨rfl, rfl, rfl, rfl, rfl, rfl, rfl, rfl, trivial⟩
                  · refine s_iload h dX8_missing_208 rfl <|
                    s_goto (tgt := 215) h dX8_missing_210 (by decide) <|
                    s_topi (msL (cM (mS f a) (mS f a (6 + p.toNatClampNeg)) j 10000) (i + 1)) (by rw [msL_s]; first | rw [if_neg c205] | rw [if_pos c205]) <|
                    s_istore h dX8_missing_215 rfl <|
                    s_iincR h dX8_missing_217 rfl rfl ic_1 (nI_1 i) <|
                    s_goto (tgt := 153) h dX8_missing_220 (by decide) <|
                    ?_
                    exact SX.loc (ih) ⟨rfl, rfl, rfl, rfl, rfl, rfl, rfl, rfl, trivial⟩
          · intro i hi ih W g b hH
            show SX _ _ _ _ _ _ _ _ _
            obtain ⟨hM, hs, hT⟩ := hH
            refine s_iload h dX8_missing_60 rfl <|
            s_sipush h dX8_missing_62 sp_10000 <|
            s_icmp_ge (tgt := 133) h dX8_missing_65 (by decide) (kt := fun qx => absurd qx (nI_ge hi (by decide))) (kf := fun _ => ?_)
            refine s_aload_n h dX8_missing_68 rfl <|
            s_iload_n h dX8_missing_69 rfl <|
            s_iload h dX8_missing_70 rfl <|
            s_bipush h dX8_missing_72 bp_100 <|
            s_irem h dX8_missing_74 (by decide) <|
            s_topi (nI (i % 100)) (nI_rem (b := 100) (by omega) (by decide)) <|
            s_iload h dX8_missing_75 rfl <|
            s_bipush h dX8_missing_77 bp_100 <|
            s_idiv h dX8_missing_79 (by decide) <|
            s_topi (nI (i / 100)) (nI_div (b := 100) (by omega) (by decide)) <|
            k_X8_162 h (c_X8_unlikeS hN hM hs hwf hx) (by omega) hM.o rfl rfl dX8_missing_80 <|
            PE.go <|
            s_iconst h dX8_missing_83 ic_1 <|
            s_iload_n h dX8_missing_84 rfl <|
            s_ishl h dX8_missing_85 <|
            s_iconst h dX8_missing_86 ic_m1 <|
            s_ixor h dX8_missing_87 <|
            s_iand h dX8_missing_88 <|
            s_if_ne (tgt := 127) h dX8_missing_89 (by decide) (fun c89 => ?_) (fun c89 => ?_)
            · refine s_iincR h dX8_missing_127 rfl rfl ic_1 (nI_1 i) <|
              s_goto (tgt := 60) h dX8_missing_130 (by decide) <|
              ?_
              first
                | (have q : wo (difK (mS f a) (mS f a (6 + p.toNatClampNeg)) i) (nI j) = 0 := c89
                   have hh := (hit_wo _ _ hj6 i).trans (decide_eq_true q)
                   exact SX.loc (ih _ _ _ ⟨hM, hs.ar 112 _ (by decide), fun v hv => by rw [cM_s, bool_if hh, uA_eq]; simp only [upd]; split <;> first | rfl | exact hT v hv⟩) ⟨rfl, rfl, rfl, rfl, rfl, trivial⟩)
                | (have q : ¬ wo (difK (mS f a) (mS f a (6 + p.toNatClampNeg)) i) (nI j) = 0 := c89
                   have hh := (hit_wo _ _ hj6 i).trans (decide_eq_false q)
                   exact SX.loc (ih _ _ _ ⟨hM, hs, fun v hv => by rw [cM_s, bool_ifn hh]; exact hT v hv⟩) ⟨rfl, rfl, rfl, rfl, rfl, trivial⟩)
            · refine s_aload_n h dX8_missing_92 rfl <|
              s_iload_n h dX8_missing_93 rfl <|
              s_iload h dX8_missing_94 rfl <|
              s_bipush h dX8_missing_96 bp_100 <|
              s_irem h dX8_missing_98 (by decide) <|
              s_topi (nI (i % 100)) (nI_rem (b := 100) (by omega) (by decide)) <|
              s_iload h dX8_missing_99 rfl <|
              s_bipush h dX8_missing_101 bp_100 <|
              s_idiv h dX8_missing_103 (by decide) <|
              s_topi (nI (i / 100)) (nI_div (b := 100) (by omega) (by decide)) <|
              k_X8_86 h (c_X8_columnOfS hN hM hs hwf hj6) (by omega) hM.o rfl rfl dX8_missing_104 <|
              PE.go <|
              s_istore h dX8_missing_107 rfl <|
              s_aload_n h dX8_missing_109 rfl <|
              gm_34 h dX8_missing_110 hN hM <|
              s_iload h dX8_missing_113 rfl <|
              s_if_ge (tgt := 123) h dX8_missing_115 (by decide) (fun c115 => ?_) (fun c115 => ?_)
              · refine s_iload h dX8_missing_123 rfl <|
                s_topi (nI (ixM (sCol (mS f a) (nI (i % 100)) (nI (i / 100)) j))) (by
                first
                  | exact ixM_neg ((sCol_lt _ _ _ _).mp (i32_nle.mp c115))
                  | exact ixM_pos (sCol_ok _ _ _ _) (fun q => i32_nlt.mpr c115 ((sCol_lt _ _ _ _).mpr q))) <|
                s_iconst h dX8_missing_125 ic_1 <|
                sm_112 h dX8_missing_126 hN hM (ix_n (ixM_lt (sCol_ok _ _ _ _)) (by decide)) <|
                fun W hM =>
                s_iincR h dX8_missing_127 rfl rfl ic_1 (nI_1 i) <|
                s_goto (tgt := 60) h dX8_missing_130 (by decide) <|
                ?_
                first
                  | (have q : wo (difK (mS f a) (mS f a (6 + p.toNatClampNeg)) i) (nI j) = 0 := c89
                     have hh := (hit_wo _ _ hj6 i).trans (decide_eq_true q)
                     exact SX.loc (ih _ _ _ ⟨hM, hs.ar 112 _ (by decide), fun v hv => by rw [cM_s, bool_if hh, uA_eq]; simp only [upd]; split <;> first | rfl | exact hT v hv⟩) ⟨rfl, rfl, rfl, rfl, rfl, trivial⟩)
                  | (have q : ¬ wo (difK (mS f a) (mS f a (6 + p.toNatClampNeg)) i) (nI j) = 0 := c89
                     have hh := (hit_wo _ _ hj6 i).trans (decide_eq_false q)
                     exact SX.loc (ih _ _ _ ⟨hM, hs, fun v hv => by rw [cM_s, bool_ifn hh]; exact hT v hv⟩) ⟨rfl, rfl, rfl, rfl, rfl, trivial⟩)
              · refine s_bipush h dX8_missing_118 bp_61 <|
                s_goto (tgt := 125) h dX8_missing_120 (by decide) <|
                s_topi (nI (ixM (sCol (mS f a) (nI (i % 100)) (nI (i / 100)) j))) (by
                first
                  | exact ixM_neg ((sCol_lt _ _ _ _).mp (i32_nle.mp c115))
                  | exact ixM_pos (sCol_ok _ _ _ _) (fun q => i32_nlt.mpr c115 ((sCol_lt _ _ _ _).mpr q))) <|
                s_iconst h dX8_missing_125 ic_1 <|
                sm_112 h dX8_missing_126 hN hM (ix_n (ixM_lt (sCol_ok _ _ _ _)) (by decide)) <|
                fun W hM =>
                s_iincR h dX8_missing_127 rfl rfl ic_1 (nI_1 i) <|
                s_goto (tgt := 60) h dX8_missing_130 (by decide) <|
                ?_
                first
                  | (have q : wo (difK (mS f a) (mS f a (6 + p.toNatClampNeg)) i) (nI j) = 0 := c89
                     have hh := (hit_wo _ _ hj6 i).trans (decide_eq_true q)
                     exact SX.loc (ih _ _ _ ⟨hM, hs.ar 112 _ (by decide), fun v hv => by rw [cM_s, bool_if hh, uA_eq]; simp only [upd]; split <;> first | rfl | exact hT v hv⟩) ⟨rfl, rfl, rfl, rfl, rfl, trivial⟩)
                  | (have q : ¬ wo (difK (mS f a) (mS f a (6 + p.toNatClampNeg)) i) (nI j) = 0 := c89
                     have hh := (hit_wo _ _ hj6 i).trans (decide_eq_false q)
                     exact SX.loc (ih _ _ _ ⟨hM, hs, fun v hv => by rw [cM_s, bool_ifn hh]; exact hT v hv⟩) ⟨rfl, rfl, rfl, rfl, rfl, trivial⟩)
        · intro i hi ih W g b hH
          show SX _ _ _ _ _ _ _ _ _
          obtain ⟨hM, hs, hT⟩ := hH
          refine s_iload h dX8_missing_36 rfl <|
          s_bipush h dX8_missing_38 bp_61 <|
          s_icmp_gt (tgt := 57) h dX8_missing_40 (by decide) (kt := fun qx => absurd qx (i32_nlt.mpr (nI_le (show i ≤ 61 from by omega) (by decide)))) (kf := fun _ => ?_)
          refine s_aload_n h dX8_missing_43 rfl <|
          gm_34 h dX8_missing_44 hN hM <|
          s_iload h dX8_missing_47 rfl <|
          s_iconst h dX8_missing_49 ic_0 <|
          sm_112 h dX8_missing_50 hN hM (ix_n hi (by decide)) <|
          fun W hM =>
          s_iincR h dX8_missing_51 rfl rfl ic_1 (nI_1 i) <|
          s_goto (tgt := 36) h dX8_missing_54 (by decide) <|
          ?_
          exact SX.loc (ih _ _ _ ⟨hM, hs.ar 112 _ (by decide), fun v hv => by rw [uA_eq]; simp only [upd]; split <;> first | rfl | exact hT v (by omega)⟩) ⟨rfl, rfl, rfl, rfl, rfl, trivial⟩
      · refine s_bipush h dX8_missing_30 bp_m2 <|
          s_iret h he rfl dX8_missing_32 ⟨Nat.le_refl _, Nat.le_refl _⟩ ?_
        have q := bI_0 c27
        exact PR.eq (by rw [msM, e5, e13, q]; rfl) ⟨_, _, hM, sM.refl _ _⟩
    · refine s_iconst h dX8_missing_16 ic_m1 <|
        s_iret h he rfl dX8_missing_17 ⟨Nat.le_refl _, Nat.le_refl _⟩ ?_
      first
        | (have q := bI_0 c5; exact PR.eq (by rw [msM, q]; rfl) ⟨_, _, hM, sM.refl _ _⟩)
        | (have q := bI_0 c13; exact PR.eq (by rw [msM, e5, q]; rfl) ⟨_, _, hM, sM.refl _ _⟩)
