theorem sCol_ok (sc : Nat → Nat → Int32) (c m : Int32) (i : Nat) : sCol sc c m i = -6 ∨ 0 ≤ sCol sc c m i ∧ sCol sc c m i ≤ 60 := by
  unfold sCol
  split
  · exact Or.inl rfl
  · unfold colF
    split
    · rename_i q; exact Or.inr (wb_t.mp q)
    · exact Or.inl rfl
theorem sCol_lt (sc : Nat → Nat → Int32) (c m : Int32) (i : Nat) : sCol sc c m i < 0 ↔ sCol sc c m i = -6 := ge_ne (sCol_ok sc c m i)
theorem nI_div {a b : Nat} (ha : a < 2 ^ 31) (hb : b < 2 ^ 31) : nI a / nI b = nI (a / b) := by
  have hq : a / b < 2 ^ 31 := Nat.lt_of_le_of_lt (Nat.div_le_self a b) ha
  apply Int32.toInt_inj.mp
  rw [Int32.toInt_div, nI_toInt ha, nI_toInt hb, nI_toInt hq, ← Int.ofNat_tdiv]
  generalize a / b = q at hq ⊢
  exact Int.bmod_eq_of_le (by omega) (by omega)
theorem nI_rem {a b : Nat} (ha : a < 2 ^ 31) (hb : b < 2 ^ 31) : nI a - nI a / nI b * nI b = nI (a % b) := by
  rw [nI_div ha hb, nI_mulI]
  have e : a / b * b + a % b = a := Nat.div_add_mod' a b
  have h : nI a = nI (a % b) + nI (a / b * b) := by rw [nI_add, Nat.add_comm, e]
  rw [h, Int32.add_sub_cancel]
theorem sub_cmp {x y : Int32} (hx : 0 ≤ x ∧ x ≤ 60) (hy : 0 ≤ y ∧ y ≤ 60) : (x - y < 0 ↔ x < y) ∧ (0 < x - y ↔ y < x) := by
  obtain ⟨a1, a2⟩ := hx
  obtain ⟨b1, b2⟩ := hy
  rw [Int32.le_iff_toInt_le] at a1 a2 b1 b2
  have h0 : (0 : Int32).toInt = 0 := rfl
  have h6 : (60 : Int32).toInt = 60 := rfl
  rw [h0] at a1 b1
  rw [h6] at a2 b2
  have hs : (x - y).toInt = x.toInt - y.toInt := by
    rw [Int32.toInt_sub]
    exact Int.bmod_eq_of_le (by omega) (by omega)
  rw [Int32.lt_iff_toInt_lt, Int32.lt_iff_toInt_lt, Int32.lt_iff_toInt_lt, Int32.lt_iff_toInt_lt, hs, h0]
  omega
theorem c_X8_unlike {l : Launch} {D : va_G} {N : Nat} {adr : Nat → Nat} {G : Nat → va_E} {G0 : Nat → va_E} {f : Nat → Int32} {a : Nat → Nat → Int32} (hN : 115 ≤ N) (hM : isMF D adr G0 G f a) (hwf : wfT (mS f a)) {x : Int32} {p : Nat} (hx : ix x p 10) {c m : Int32} :
    CT l D yX8_unlike cX8_unlike 6 (some FieldType.int) (rl 3) [.ref (adr 103), .int x, .int c, .int m] N adr G (PE (some (.int (dfB (mS f a) (mS f a (6 + p)) c m 6))) N adr G) := by
  refine CT.of (by decide +kernel) (Nat.le_of_ble_eq_true rfl) (fun Γ h he => ?_)
  have h : cx l D (rl 3) RX8 cX8_unlike 6 Γ := h
  show SX Γ 0 0 0 [(0, .ref (adr 103)), (1, .int x), (2, .int c), (3, .int m)] [] N adr G
  refine s_iconst h dX8_unlike_0 ic_0 <|
    s_istore h dX8_unlike_1 rfl <|
    s_iconst h dX8_unlike_3 ic_0 <|
    s_istore h dX8_unlike_4 rfl <|
    ?_
  refine SX.loc (up_ind (n := 6) (Q := fun i => SX Γ 0 0 6 [(0, .ref (adr 103)), (1, .int x), (2, .int c), (3, .int m), (4, .int (dfB (mS f a) (mS f a (6 + p)) c m i)), (5, .int (nI i))] [] N adr G) ?_ ?_ 0 (Nat.zero_le _)) ⟨rfl, rfl, rfl, rfl, rfl, rfl, trivial⟩
  · show SX _ _ _ _ _ _ _ _ _
    refine s_iload h dX8_unlike_6 rfl <|
    s_bipush h dX8_unlike_8 bp_6 <|
    s_icmp_ge (tgt := 55) h dX8_unlike_10 (by decide) (kf := fun qx => absurd (by decide +kernel) qx) (kt := fun _ => ?_)
    refine s_iload h dX8_unlike_55 rfl <|
    s_iret h he rfl dX8_unlike_57 ⟨Nat.le_refl _, Nat.le_refl _⟩ ?_
    exact PE.is
  · intro i hi ih 
    show SX _ _ _ _ _ _ _ _ _
    refine s_iload h dX8_unlike_6 rfl <|
    s_bipush h dX8_unlike_8 bp_6 <|
    s_icmp_ge (tgt := 55) h dX8_unlike_10 (by decide) (kt := fun qx => absurd qx (nI_ge hi (by decide))) (kf := fun _ => ?_)
    refine s_iload h dX8_unlike_13 rfl <|
    s_aload_n h dX8_unlike_15 rfl <|
    s_iload h dX8_unlike_16 rfl <|
    s_iload_n h dX8_unlike_18 rfl <|
    s_iload_n h dX8_unlike_19 rfl <|
    k_X8_86 h (c_X8_columnOf hN hM hwf hi) (by omega) hM.o rfl rfl dX8_unlike_20 <|
    PE.go <|
    s_aload_n h dX8_unlike_23 rfl <|
    gm_19 h dX8_unlike_24 hN hM <|
    s_bipush h dX8_unlike_27 bp_6 <|
    s_iload_n h dX8_unlike_29 rfl <|
    s_imul h dX8_unlike_30 <|
    s_iload h dX8_unlike_31 rfl <|
    s_iadd h dX8_unlike_33 <|
    s_iald h dX8_unlike_34 (by omega) hM.a107 (ixc hx (ix_n hi (by decide))) (mS_col f a p i).symm <|
    s_icmp_eq (tgt := 45) h dX8_unlike_35 (by decide) (fun c35 => ?_) (fun c35 => ?_)
    · refine s_iconst h dX8_unlike_45 ic_0 <|
      s_ior h dX8_unlike_46 <|
      s_topi (dfB (mS f a) (mS f a (6 + p)) c m (i + 1)) (by rw [dfB_s]; first | rw [if_pos c35, Int32.or_zero] | rw [if_neg c35]) <|
      s_istore h dX8_unlike_47 rfl <|
      s_iincR h dX8_unlike_49 rfl rfl ic_1 (nI_1 i) <|
      s_goto (tgt := 6) h dX8_unlike_52 (by decide) <|
      ?_
      exact SX.loc (ih) ⟨rfl, rfl, rfl, rfl, rfl, rfl, trivial⟩
    · refine s_iconst h dX8_unlike_38 ic_1 <|
      s_iload h dX8_unlike_39 rfl <|
      s_ishl h dX8_unlike_41 <|
      s_goto (tgt := 46) h dX8_unlike_42 (by decide) <|
      s_ior h dX8_unlike_46 <|
      s_topi (dfB (mS f a) (mS f a (6 + p)) c m (i + 1)) (by rw [dfB_s]; first | rw [if_pos c35, Int32.or_zero] | rw [if_neg c35]) <|
      s_istore h dX8_unlike_47 rfl <|
      s_iincR h dX8_unlike_49 rfl rfl ic_1 (nI_1 i) <|
      s_goto (tgt := 6) h dX8_unlike_52 (by decide) <|
      ?_
      exact SX.loc (ih) ⟨rfl, rfl, rfl, rfl, rfl, rfl, trivial⟩
theorem c_X8_shownFrom {l : Launch} {D : va_G} {N : Nat} {adr : Nat → Nat} {G : Nat → va_E} {G0 : Nat → va_E} {f : Nat → Int32} {a : Nat → Nat → Int32} (hN : 115 ≤ N) (hM : isMF D adr G0 G f a) (hwf : wfT (mS f a)) {c m : Int32} :
    CT l D yX8_shownFrom cX8_shownFrom 5 (some FieldType.int) (rl 3) [.ref (adr 103), .int c, .int m] N adr G (PE (some (.int (nSh (mS f a) c m 6))) N adr G) := by
  refine CT.of (by decide +kernel) (Nat.le_of_ble_eq_true rfl) (fun Γ h he => ?_)
  have h : cx l D (rl 3) RX8 cX8_shownFrom 5 Γ := h
  show SX Γ 0 0 0 [(0, .ref (adr 103)), (1, .int c), (2, .int m)] [] N adr G
  refine s_iconst h dX8_shownFrom_0 ic_0 <|
    s_istore_n h dX8_shownFrom_1 rfl <|
    s_iconst h dX8_shownFrom_2 ic_0 <|
    s_istore h dX8_shownFrom_3 rfl <|
    ?_
  refine SX.loc (up_ind (n := 6) (Q := fun i => SX Γ 0 0 5 [(0, .ref (adr 103)), (1, .int c), (2, .int m), (3, .int (nSh (mS f a) c m i)), (4, .int (nI i))] [] N adr G) ?_ ?_ 0 (Nat.zero_le _)) ⟨rfl, rfl, rfl, rfl, rfl, trivial⟩
  · show SX _ _ _ _ _ _ _ _ _
    refine s_iload h dX8_shownFrom_5 rfl <|
    s_bipush h dX8_shownFrom_7 bp_6 <|
    s_icmp_ge (tgt := 37) h dX8_shownFrom_9 (by decide) (kf := fun qx => absurd (by decide +kernel) qx) (kt := fun _ => ?_)
    refine s_iload_n h dX8_shownFrom_37 rfl <|
    s_iret h he rfl dX8_shownFrom_38 ⟨Nat.le_refl _, Nat.le_refl _⟩ ?_
    exact PE.is
  · intro i hi ih 
    show SX _ _ _ _ _ _ _ _ _
    refine s_iload h dX8_shownFrom_5 rfl <|
    s_bipush h dX8_shownFrom_7 bp_6 <|
    s_icmp_ge (tgt := 37) h dX8_shownFrom_9 (by decide) (kt := fun qx => absurd qx (nI_ge hi (by decide))) (kf := fun _ => ?_)
    refine s_iload_n h dX8_shownFrom_12 rfl <|
    s_aload_n h dX8_shownFrom_13 rfl <|
    s_iload h dX8_shownFrom_14 rfl <|
    s_iload_n h dX8_shownFrom_16 rfl <|
    s_iload_n h dX8_shownFrom_17 rfl <|
    k_X8_86 h (c_X8_columnOf hN hM hwf hi) (by omega) hM.o rfl rfl dX8_shownFrom_18 <|
    PE.go <|
    s_if_lt (tgt := 28) h dX8_shownFrom_21 (by decide) (fun c21 => ?_) (fun c21 => ?_)
    · refine s_iconst h dX8_shownFrom_28 ic_0 <|
      s_iadd h dX8_shownFrom_29 <|
      s_topi (nSh (mS f a) c m (i + 1)) (by rw [nSh_s]; first | rw [if_pos ((sCol_lt _ _ _ _).mp c21), Int32.add_zero] | rw [if_neg (fun q => c21 ((sCol_lt _ _ _ _).mpr q))]) <|
      s_istore_n h dX8_shownFrom_30 rfl <|
      s_iincR h dX8_shownFrom_31 rfl rfl ic_1 (nI_1 i) <|
      s_goto (tgt := 5) h dX8_shownFrom_34 (by decide) <|
      ?_
      exact SX.loc (ih) ⟨rfl, rfl, rfl, rfl, rfl, trivial⟩
    · refine s_iconst h dX8_shownFrom_24 ic_1 <|
      s_goto (tgt := 29) h dX8_shownFrom_25 (by decide) <|
      s_iadd h dX8_shownFrom_29 <|
      s_topi (nSh (mS f a) c m (i + 1)) (by rw [nSh_s]; first | rw [if_pos ((sCol_lt _ _ _ _).mp c21), Int32.add_zero] | rw [if_neg (fun q => c21 ((sCol_lt _ _ _ _).mpr q))]) <|
      s_istore_n h dX8_shownFrom_30 rfl <|
      s_iincR h dX8_shownFrom_31 rfl rfl ic_1 (nI_1 i) <|
      s_goto (tgt := 5) h dX8_shownFrom_34 (by decide) <|
      ?_
      exact SX.loc (ih) ⟨rfl, rfl, rfl, rfl, rfl, trivial⟩
def bM (sc : Nat → Nat → Int32) (m : Int32) (n : Nat) : Int32 := fN (fun i b => if nSh sc b m 6 < nSh sc (nI (i + 1)) m 6 then nI (i + 1) else b) 0 n
theorem bM_s (sc : Nat → Nat → Int32) (m : Int32) (n : Nat) : bM sc m (n + 1) = if nSh sc (bM sc m n) m 6 < nSh sc (nI (n + 1)) m 6 then nI (n + 1) else bM sc m n := rfl
def beM (sc : Nat → Nat → Int32) (m x : Int32) : Int32 := if wb m 0 99 && wb x 0 1 then (if x = 0 then bM sc m 99 else nSh sc (bM sc m 99) m 6) else -2
theorem c_X8_best {l : Launch} {D : va_G} {N : Nat} {adr : Nat → Nat} {G : Nat → va_E} {G0 : Nat → va_E} {f : Nat → Int32} {a : Nat → Nat → Int32} (hN : 115 ≤ N) (hM : isMF D adr G0 G f a) (hwf : wfT (mS f a)) {m x : Int32} :
    CT l D yX8_best cX8_best 5 (some FieldType.int) (rl 4) [.ref (adr 103), .int m, .int x] N adr G (PE (some (.int (beM (mS f a) m x))) N adr G) := by
  refine CT.of (by decide +kernel) (Nat.le_of_ble_eq_true rfl) (fun Γ h he => ?_)
  have h : cx l D (rl 4) RX8 cX8_best 5 Γ := h
  show SX Γ 0 0 0 [(0, .ref (adr 103)), (1, .int m), (2, .int x)] [] N adr G
  refine s_iload_n h dX8_best_0 rfl <|
    k_X8_68 h (c_X8_isHundred) rfl rfl dX8_best_1 <|
    PE.go <|
    s_if_eq (tgt := 17) h dX8_best_4 (by decide) (fun c4 => ?_) (fun c4 => ?_)
  · (try have e4 := bI_1 c4)
    (try have e4 := bI_0 c4)
    (try have e14 := bI_1 c14)
    (try have e14 := bI_0 c14)
    
    refine s_bipush h dX8_best_17 bp_m2 <|
      s_iret h he rfl dX8_best_19 ⟨Nat.le_refl _, Nat.le_refl _⟩ ?_
    exact PE.eq (by simp [beM, *]) rfl
  · refine s_iload_n h dX8_best_7 rfl <|
      s_i2l h dX8_best_8 <|
      s_lconst h dX8_best_9 lc_0 <|
      s_lconst h dX8_best_10 lc_1 <|
      k_X8_50 h (c_X8_inw (a := 0) (b := 1) (by decide) (by decide)) rfl rfl dX8_best_11 <|
      PE.go <|
      s_if_ne (tgt := 20) h dX8_best_14 (by decide) (fun c14 => ?_) (fun c14 => ?_)
    · (try have e4 := bI_1 c4)
      (try have e4 := bI_0 c4)
      (try have e14 := bI_1 c14)
      (try have e14 := bI_0 c14)
      
      refine s_iconst h dX8_best_20 ic_0 <|
        s_istore_n h dX8_best_21 rfl <|
        s_iconst h dX8_best_22 ic_1 <|
        s_istore h dX8_best_23 rfl <|
        ?_
      refine SX.loc (up_ind (n := 99) (Q := fun i => SX Γ 0 0 25 [(0, .ref (adr 103)), (1, .int m), (2, .int x), (3, .int (bM (mS f a) m i)), (4, .int (nI (i + 1)))] [] N adr G) ?_ ?_ 0 (Nat.zero_le _)) ⟨rfl, rfl, rfl, rfl, rfl, trivial⟩
      · show SX _ _ _ _ _ _ _ _ _
        refine s_iload h dX8_best_25 rfl <|
        s_bipush h dX8_best_27 bp_100 <|
        s_icmp_ge (tgt := 61) h dX8_best_29 (by decide) (kf := fun qx => absurd (by decide +kernel) qx) (kt := fun _ => ?_)
        refine s_iload_n h dX8_best_61 rfl <|
        s_if_ne (tgt := 69) h dX8_best_62 (by decide) (fun c62 => ?_) (fun c62 => ?_)
        · refine s_aload_n h dX8_best_69 rfl <|
          s_iload_n h dX8_best_70 rfl <|
          s_iload_n h dX8_best_71 rfl <|
          k_X8_190 h (c_X8_shownFrom hN hM hwf) (by omega) hM.o rfl rfl dX8_best_72 <|
          PE.go <|
          s_iret h he rfl dX8_best_75 ⟨Nat.le_refl _, Nat.le_refl _⟩ ?_
          first
            | (have q : ¬ x = 0 := c62; exact PE.eq (by rw [beM, e4, e14]; exact congrArg (fun z => some (Value.int z)) (if_neg q).symm) rfl)
            | (have q : x = 0 := c62; exact PE.eq (by rw [beM, e4, e14]; exact congrArg (fun z => some (Value.int z)) (if_pos q).symm) rfl)
        · refine s_iload_n h dX8_best_65 rfl <|
          s_goto (tgt := 75) h dX8_best_66 (by decide) <|
          s_iret h he rfl dX8_best_75 ⟨Nat.le_refl _, Nat.le_refl _⟩ ?_
          first
            | (have q : ¬ x = 0 := c62; exact PE.eq (by rw [beM, e4, e14]; exact congrArg (fun z => some (Value.int z)) (if_neg q).symm) rfl)
            | (have q : x = 0 := c62; exact PE.eq (by rw [beM, e4, e14]; exact congrArg (fun z => some (Value.int z)) (if_pos q).symm) rfl)
      · intro i hi ih 
        show SX _ _ _ _ _ _ _ _ _
        refine s_iload h dX8_best_25 rfl <|
        s_bipush h dX8_best_27 bp_100 <|
        s_icmp_ge (tgt := 61) h dX8_best_29 (by decide) (kt := fun qx => absurd qx (nI_ge (show i + 1 < 100 from by omega) (by decide))) (kf := fun _ => ?_)
        refine s_aload_n h dX8_best_32 rfl <|
        s_iload h dX8_best_33 rfl <|
        s_iload_n h dX8_best_35 rfl <|
        k_X8_190 h (c_X8_shownFrom hN hM hwf) (by omega) hM.o rfl rfl dX8_best_36 <|
        PE.go <|
        s_aload_n h dX8_best_39 rfl <|
        s_iload_n h dX8_best_40 rfl <|
        s_iload_n h dX8_best_41 rfl <|
        k_X8_190 h (c_X8_shownFrom hN hM hwf) (by omega) hM.o rfl rfl dX8_best_42 <|
        PE.go <|
        s_icmp_le (tgt := 53) h dX8_best_45 (by decide) (fun c45 => ?_) (fun c45 => ?_)
        · refine s_iload_n h dX8_best_53 rfl <|
          s_topi (bM (mS f a) m (i + 1)) (by rw [bM_s]; first | rw [if_pos (i32_nle.mp c45)] | rw [if_neg (i32_nlt.mpr c45)]) <|
          s_istore_n h dX8_best_54 rfl <|
          s_iincR h dX8_best_55 rfl rfl ic_1 (nI_1 (i + 1)) <|
          s_goto (tgt := 25) h dX8_best_58 (by decide) <|
          ?_
          exact SX.loc (ih) ⟨rfl, rfl, rfl, rfl, rfl, trivial⟩
        · refine s_iload h dX8_best_48 rfl <|
          s_goto (tgt := 54) h dX8_best_50 (by decide) <|
          s_topi (bM (mS f a) m (i + 1)) (by rw [bM_s]; first | rw [if_pos (i32_nle.mp c45)] | rw [if_neg (i32_nlt.mpr c45)]) <|
          s_istore_n h dX8_best_54 rfl <|
          s_iincR h dX8_best_55 rfl rfl ic_1 (nI_1 (i + 1)) <|
          s_goto (tgt := 25) h dX8_best_58 (by decide) <|
          ?_
          exact SX.loc (ih) ⟨rfl, rfl, rfl, rfl, rfl, trivial⟩
    · (try have e4 := bI_1 c4)
      (try have e4 := bI_0 c4)
      (try have e14 := bI_1 c14)
      (try have e14 := bI_0 c14)
      
      refine s_bipush h dX8_best_17 bp_m2 <|
        s_iret h he rfl dX8_best_19 ⟨Nat.le_refl _, Nat.le_refl _⟩ ?_
      exact PE.eq (by simp [beM, *]) rfl
def paP (sc : Nat → Nat → Int32) (t : Nat) (c : Int32) (m : Nat) : Bool := !decide (sCol sc c (nI m) t = -6)
def paC (sc : Nat → Nat → Int32) (t : Nat) (c : Int32) (n : Nat) : Int32 := fN (fun m x => if paP sc t c m then x + 1 else x) 0 n
theorem paC_s (sc : Nat → Nat → Int32) (t : Nat) (c : Int32) (n : Nat) : paC sc t c (n + 1) = if paP sc t c n then paC sc t c n + 1 else paC sc t c n := rfl
def paF (sc : Nat → Nat → Int32) (t : Nat) (c : Int32) (n : Nat) : Int32 := fN (fun m x => if paP sc t c m && decide (x < 0) then nI m else x) (-6) n
theorem paF_s (sc : Nat → Nat → Int32) (t : Nat) (c : Int32) (n : Nat) : paF sc t c (n + 1) = if paP sc t c n && decide (paF sc t c n < 0) then nI n else paF sc t c n := rfl
def paM (sc : Nat → Nat → Int32) (t c x : Int32) : Int32 := if tE sc t then (if wb c 0 99 && wb x 0 1 then (if x = 0 then paC sc t.toNatClampNeg c 100 else paF sc t.toNatClampNeg c 100) else -2) else -1
theorem tE_ix {sc : Nat → Nat → Int32} {t : Int32} (h : tE sc t = true) : ix t t.toNatClampNeg 6 := (tE_t h).1
theorem c_X8_past {l : Launch} {D : va_G} {N : Nat} {adr : Nat → Nat} {G : Nat → va_E} {G0 : Nat → va_E} {f : Nat → Int32} {a : Nat → Nat → Int32} (hN : 115 ≤ N) (hM : isMF D adr G0 G f a) (hwf : wfT (mS f a)) {t c x : Int32} :
    CT l D yX8_past cX8_past 8 (some FieldType.int) (rl 3) [.ref (adr 103), .int t, .int c, .int x] N adr G (PE (some (.int (paM (mS f a) t c x))) N adr G) := by
  refine CT.of (by decide +kernel) (Nat.le_of_ble_eq_true rfl) (fun Γ h he => ?_)
  have h : cx l D (rl 3) RX8 cX8_past 8 Γ := h
  show SX Γ 0 0 0 [(0, .ref (adr 103)), (1, .int t), (2, .int c), (3, .int x)] [] N adr G
  refine s_aload_n h dX8_past_0 rfl <|
    s_iload_n h dX8_past_1 rfl <|
    k_X8_79 h (c_X8_isThing hN hM) (by omega) hM.o rfl rfl dX8_past_2 <|
    PE.go <|
    s_if_ne (tgt := 10) h dX8_past_5 (by decide) (fun c5 => ?_) (fun c5 => ?_)
  · refine s_iload_n h dX8_past_10 rfl <|
      k_X8_68 h (c_X8_isHundred) rfl rfl dX8_past_11 <|
      PE.go <|
      s_if_eq (tgt := 27) h dX8_past_14 (by decide) (fun c14 => ?_) (fun c14 => ?_)
    · (try have e5 := bI_1 c5)
      (try have e5 := bI_0 c5)
      (try have e14 := bI_1 c14)
      (try have e14 := bI_0 c14)
      (try have e24 := bI_1 c24)
      (try have e24 := bI_0 c24)
      
      refine s_bipush h dX8_past_27 bp_m2 <|
        s_iret h he rfl dX8_past_29 ⟨Nat.le_refl _, Nat.le_refl _⟩ ?_
      exact PE.eq (by simp [paM, *]) rfl
    · refine s_iload_n h dX8_past_17 rfl <|
        s_i2l h dX8_past_18 <|
        s_lconst h dX8_past_19 lc_0 <|
        s_lconst h dX8_past_20 lc_1 <|
        k_X8_50 h (c_X8_inw (a := 0) (b := 1) (by decide) (by decide)) rfl rfl dX8_past_21 <|
        PE.go <|
        s_if_ne (tgt := 30) h dX8_past_24 (by decide) (fun c24 => ?_) (fun c24 => ?_)
      · (try have e5 := bI_1 c5)
        (try have e5 := bI_0 c5)
        (try have e14 := bI_1 c14)
        (try have e14 := bI_0 c14)
        (try have e24 := bI_1 c24)
        (try have e24 := bI_0 c24)
        have hix := tE_ix e5
        obtain ⟨j, hj⟩ : ∃ j, t.toNatClampNeg = j := ⟨_, rfl⟩
        have hje := ix_eq hix
        rw [hj] at hje hix
        have hj6 := hix.2.2
        subst hje
        refine s_iconst h dX8_past_30 ic_0 <|
          s_istore h dX8_past_31 rfl <|
          s_bipush h dX8_past_33 bp_m6 <|
          s_istore h dX8_past_35 rfl <|
          s_iconst h dX8_past_37 ic_0 <|
          s_istore h dX8_past_38 rfl <|
          ?_
        refine SX.loc (up_ind (n := 100) (Q := fun i => SX Γ 0 0 40 [(0, .ref (adr 103)), (1, .int (nI j)), (2, .int c), (3, .int x), (4, .int (paC (mS f a) j c i)), (5, .int (paF (mS f a) j c i)), (6, .int (nI i))] [] N adr G) ?_ ?_ 0 (Nat.zero_le _)) ⟨rfl, rfl, rfl, rfl, rfl, rfl, rfl, trivial⟩
        · show SX _ _ _ _ _ _ _ _ _
          refine s_iload h dX8_past_40 rfl <|
          s_bipush h dX8_past_42 bp_100 <|
          s_icmp_ge (tgt := 105) h dX8_past_44 (by decide) (kf := fun qx => absurd (by decide +kernel) qx) (kt := fun _ => ?_)
          refine s_iload_n h dX8_past_105 rfl <|
          s_if_ne (tgt := 114) h dX8_past_106 (by decide) (fun c106 => ?_) (fun c106 => ?_)
          · refine s_iload h dX8_past_114 rfl <|
            s_iret h he rfl dX8_past_116 ⟨Nat.le_refl _, Nat.le_refl _⟩ ?_
            first
              | (have q : ¬ x = 0 := c106; exact PE.eq (by rw [paM, e5, e14, e24, hj]; exact congrArg (fun z => some (Value.int z)) (if_neg q).symm) rfl)
              | (have q : x = 0 := c106; exact PE.eq (by rw [paM, e5, e14, e24, hj]; exact congrArg (fun z => some (Value.int z)) (if_pos q).symm) rfl)
          · refine s_iload h dX8_past_109 rfl <|
            s_goto (tgt := 116) h dX8_past_111 (by decide) <|
            s_iret h he rfl dX8_past_116 ⟨Nat.le_refl _, Nat.le_refl _⟩ ?_
            first
              | (have q : ¬ x = 0 := c106; exact PE.eq (by rw [paM, e5, e14, e24, hj]; exact congrArg (fun z => some (Value.int z)) (if_neg q).symm) rfl)
              | (have q : x = 0 := c106; exact PE.eq (by rw [paM, e5, e14, e24, hj]; exact congrArg (fun z => some (Value.int z)) (if_pos q).symm) rfl)
        · intro i hi ih 
          show SX _ _ _ _ _ _ _ _ _
          refine s_iload h dX8_past_40 rfl <|
          s_bipush h dX8_past_42 bp_100 <|
          s_icmp_ge (tgt := 105) h dX8_past_44 (by decide) (kt := fun qx => absurd qx (nI_ge hi (by decide))) (kf := fun _ => ?_)
          refine s_aload_n h dX8_past_47 rfl <|
          s_iload_n h dX8_past_48 rfl <|
          s_iload_n h dX8_past_49 rfl <|
          s_iload h dX8_past_50 rfl <|
          k_X8_86 h (c_X8_columnOf hN hM hwf hj6) (by omega) hM.o rfl rfl dX8_past_52 <|
          PE.go <|
          s_if_lt (tgt := 62) h dX8_past_55 (by decide) (fun c55 => ?_) (fun c55 => ?_)
          · refine s_iconst h dX8_past_62 ic_0 <|
            s_topi (bI (paP (mS f a) j c i)) (by unfold paP; first | (rw [decide_eq_true ((sCol_lt _ _ _ _).mp c55)]; rfl) | (rw [decide_eq_false (fun q => c55 ((sCol_lt _ _ _ _).mpr q))]; rfl)) <|
            s_istore h dX8_past_63 rfl <|
            s_iload h dX8_past_65 rfl <|
            s_iload h dX8_past_67 rfl <|
            s_if_eq (tgt := 76) h dX8_past_69 (by decide) (fun c69 => ?_) (fun c69 => ?_)
            · refine s_iconst h dX8_past_76 ic_0 <|
              s_iadd h dX8_past_77 <|
              s_topi (paC (mS f a) j c (i + 1)) (by rw [paC_s]; first | rw [bool_ifn (bI_0 c69), Int32.add_zero] | rw [bool_if (bI_1 c69)]) <|
              s_istore h dX8_past_78 rfl <|
              s_iload h dX8_past_80 rfl <|
              s_if_eq (tgt := 95) h dX8_past_82 (by decide) (fun c82 => ?_) (fun c82 => ?_)
              · refine s_iload h dX8_past_95 rfl <|
                s_topi (paF (mS f a) j c (i + 1)) (by rw [paF_s]; first | (rw [bI_0 c82]; rfl) | (rw [bI_1 c82, decide_eq_false (i32_nlt.mpr c87)]; rfl) | (rw [bI_1 c82, decide_eq_true (i32_nle.mp c87)]; rfl)) <|
                s_istore h dX8_past_97 rfl <|
                s_iincR h dX8_past_99 rfl rfl ic_1 (nI_1 i) <|
                s_goto (tgt := 40) h dX8_past_102 (by decide) <|
                ?_
                exact SX.loc (ih) ⟨rfl, rfl, rfl, rfl, rfl, rfl, rfl, trivial⟩
              · refine s_iload h dX8_past_85 rfl <|
                s_if_ge (tgt := 95) h dX8_past_87 (by decide) (fun c87 => ?_) (fun c87 => ?_)
                · refine s_iload h dX8_past_95 rfl <|
                  s_topi (paF (mS f a) j c (i + 1)) (by rw [paF_s]; first | (rw [bI_0 c82]; rfl) | (rw [bI_1 c82, decide_eq_false (i32_nlt.mpr c87)]; rfl) | (rw [bI_1 c82, decide_eq_true (i32_nle.mp c87)]; rfl)) <|
                  s_istore h dX8_past_97 rfl <|
                  s_iincR h dX8_past_99 rfl rfl ic_1 (nI_1 i) <|
                  s_goto (tgt := 40) h dX8_past_102 (by decide) <|
                  ?_
                  exact SX.loc (ih) ⟨rfl, rfl, rfl, rfl, rfl, rfl, rfl, trivial⟩
                · refine s_iload h dX8_past_90 rfl <|
                  s_goto (tgt := 97) h dX8_past_92 (by decide) <|
                  s_topi (paF (mS f a) j c (i + 1)) (by rw [paF_s]; first | (rw [bI_0 c82]; rfl) | (rw [bI_1 c82, decide_eq_false (i32_nlt.mpr c87)]; rfl) | (rw [bI_1 c82, decide_eq_true (i32_nle.mp c87)]; rfl)) <|
                  s_istore h dX8_past_97 rfl <|
                  s_iincR h dX8_past_99 rfl rfl ic_1 (nI_1 i) <|
                  s_goto (tgt := 40) h dX8_past_102 (by decide) <|
                  ?_
                  exact SX.loc (ih) ⟨rfl, rfl, rfl, rfl, rfl, rfl, rfl, trivial⟩
            · refine s_iconst h dX8_past_72 ic_1 <|
              s_goto (tgt := 77) h dX8_past_73 (by decide) <|
              s_iadd h dX8_past_77 <|
              s_topi (paC (mS f a) j c (i + 1)) (by rw [paC_s]; first | rw [bool_ifn (bI_0 c69), Int32.add_zero] | rw [bool_if (bI_1 c69)]) <|
              s_istore h dX8_past_78 rfl <|
              s_iload h dX8_past_80 rfl <|
              s_if_eq (tgt := 95) h dX8_past_82 (by decide) (fun c82 => ?_) (fun c82 => ?_)
              · refine s_iload h dX8_past_95 rfl <|
                s_topi (paF (mS f a) j c (i + 1)) (by rw [paF_s]; first | (rw [bI_0 c82]; rfl) | (rw [bI_1 c82, decide_eq_false (i32_nlt.mpr c87)]; rfl) | (rw [bI_1 c82, decide_eq_true (i32_nle.mp c87)]; rfl)) <|
                s_istore h dX8_past_97 rfl <|
                s_iincR h dX8_past_99 rfl rfl ic_1 (nI_1 i) <|
                s_goto (tgt := 40) h dX8_past_102 (by decide) <|
                ?_
                exact SX.loc (ih) ⟨rfl, rfl, rfl, rfl, rfl, rfl, rfl, trivial⟩
              · refine s_iload h dX8_past_85 rfl <|
                s_if_ge (tgt := 95) h dX8_past_87 (by decide) (fun c87 => ?_) (fun c87 => ?_)
                · refine s_iload h dX8_past_95 rfl <|
                  s_topi (paF (mS f a) j c (i + 1)) (by rw [paF_s]; first | (rw [bI_0 c82]; rfl) | (rw [bI_1 c82, decide_eq_false (i32_nlt.mpr c87)]; rfl) | (rw [bI_1 c82, decide_eq_true (i32_nle.mp c87)]; rfl)) <|
                  s_istore h dX8_past_97 rfl <|
                  s_iincR h dX8_past_99 rfl rfl ic_1 (nI_1 i) <|
                  s_goto (tgt := 40) h dX8_past_102 (by decide) <|
                  ?_
                  exact SX.loc (ih) ⟨rfl, rfl, rfl, rfl, rfl, rfl, rfl, trivial⟩
                · refine s_iload h dX8_past_90 rfl <|
                  s_goto (tgt := 97) h dX8_past_92 (by decide) <|
                  s_topi (paF (mS f a) j c (i + 1)) (by rw [paF_s]; first | (rw [bI_0 c82]; rfl) | (rw [bI_1 c82, decide_eq_false (i32_nlt.mpr c87)]; rfl) | (rw [bI_1 c82, decide_eq_true (i32_nle.mp c87)]; rfl)) <|
                  s_istore h dX8_past_97 rfl <|
                  s_iincR h dX8_past_99 rfl rfl ic_1 (nI_1 i) <|
                  s_goto (tgt := 40) h dX8_past_102 (by decide) <|
                  ?_
                  exact SX.loc (ih) ⟨rfl, rfl, rfl, rfl, rfl, rfl, rfl, trivial⟩
          · refine s_iconst h dX8_past_58 ic_1 <|
            s_goto (tgt := 63) h dX8_past_59 (by decide) <|
            s_topi (bI (paP (mS f a) j c i)) (by unfold paP; first | (rw [decide_eq_true ((sCol_lt _ _ _ _).mp c55)]; rfl) | (rw [decide_eq_false (fun q => c55 ((sCol_lt _ _ _ _).mpr q))]; rfl)) <|
            s_istore h dX8_past_63 rfl <|
            s_iload h dX8_past_65 rfl <|
            s_iload h dX8_past_67 rfl <|
            s_if_eq (tgt := 76) h dX8_past_69 (by decide) (fun c69 => ?_) (fun c69 => ?_)
            · refine s_iconst h dX8_past_76 ic_0 <|
              s_iadd h dX8_past_77 <|
              s_topi (paC (mS f a) j c (i + 1)) (by rw [paC_s]; first | rw [bool_ifn (bI_0 c69), Int32.add_zero] | rw [bool_if (bI_1 c69)]) <|
              s_istore h dX8_past_78 rfl <|
              s_iload h dX8_past_80 rfl <|
              s_if_eq (tgt := 95) h dX8_past_82 (by decide) (fun c82 => ?_) (fun c82 => ?_)
              · refine s_iload h dX8_past_95 rfl <|
                s_topi (paF (mS f a) j c (i + 1)) (by rw [paF_s]; first | (rw [bI_0 c82]; rfl) | (rw [bI_1 c82, decide_eq_false (i32_nlt.mpr c87)]; rfl) | (rw [bI_1 c82, decide_eq_true (i32_nle.mp c87)]; rfl)) <|
                s_istore h dX8_past_97 rfl <|
                s_iincR h dX8_past_99 rfl rfl ic_1 (nI_1 i) <|
                s_goto (tgt := 40) h dX8_past_102 (by decide) <|
                ?_
                exact SX.loc (ih) ⟨rfl, rfl, rfl, rfl, rfl, rfl, rfl, trivial⟩
              · refine s_iload h dX8_past_85 rfl <|
                s_if_ge (tgt := 95) h dX8_past_87 (by decide) (fun c87 => ?_) (fun c87 => ?_)
                · refine s_iload h dX8_past_95 rfl <|
                  s_topi (paF (mS f a) j c (i + 1)) (by rw [paF_s]; first | (rw [bI_0 c82]; rfl) | (rw [bI_1 c82, decide_eq_false (i32_nlt.mpr c87)]; rfl) | (rw [bI_1 c82, decide_eq_true (i32_nle.mp c87)]; rfl)) <|
                  s_istore h dX8_past_97 rfl <|
                  s_iincR h dX8_past_99 rfl rfl ic_1 (nI_1 i) <|
                  s_goto (tgt := 40) h dX8_past_102 (by decide) <|
                  ?_
                  exact SX.loc (ih) ⟨rfl, rfl, rfl, rfl, rfl, rfl, rfl, trivial⟩
                · refine s_iload h dX8_past_90 rfl <|
                  s_goto (tgt := 97) h dX8_past_92 (by decide) <|
                  s_topi (paF (mS f a) j c (i + 1)) (by rw [paF_s]; first | (rw [bI_0 c82]; rfl) | (rw [bI_1 c82, decide_eq_false (i32_nlt.mpr c87)]; rfl) | (rw [bI_1 c82, decide_eq_true (i32_nle.mp c87)]; rfl)) <|
                  s_istore h dX8_past_97 rfl <|
                  s_iincR h dX8_past_99 rfl rfl ic_1 (nI_1 i) <|
                  s_goto (tgt := 40) h dX8_past_102 (by decide) <|
                  ?_
                  exact SX.loc (ih) ⟨rfl, rfl, rfl, rfl, rfl, rfl, rfl, trivial⟩
            · refine s_iconst h dX8_past_72 ic_1 <|
              s_goto (tgt := 77) h dX8_past_73 (by decide) <|
              s_iadd h dX8_past_77 <|
              s_topi (paC (mS f a) j c (i + 1)) (by rw [paC_s]; first | rw [bool_ifn (bI_0 c69), Int32.add_zero] | rw [bool_if (bI_1 c69)]) <|
              s_istore h dX8_past_78 rfl <|
              s_iload h dX8_past_80 rfl <|
              s_if_eq (tgt := 95) h dX8_past_82 (by decide) (fun c82 => ?_) (fun c82 => ?_)
              · refine s_iload h dX8_past_95 rfl <|
                s_topi (paF (mS f a) j c (i + 1)) (by rw [paF_s]; first | (rw [bI_0 c82]; rfl) | (rw [bI_1 c82, decide_eq_false (i32_nlt.mpr c87)]; rfl) | (rw [bI_1 c82, decide_eq_true (i32_nle.mp c87)]; rfl)) <|
                s_istore h dX8_past_97 rfl <|
                s_iincR h dX8_past_99 rfl rfl ic_1 (nI_1 i) <|
                s_goto (tgt := 40) h dX8_past_102 (by decide) <|
                ?_
                exact SX.loc (ih) ⟨rfl, rfl, rfl, rfl, rfl, rfl, rfl, trivial⟩
              · refine s_iload h dX8_past_85 rfl <|
                s_if_ge (tgt := 95) h dX8_past_87 (by decide) (fun c87 => ?_) (fun c87 => ?_)
                · refine s_iload h dX8_past_95 rfl <|
                  s_topi (paF (mS f a) j c (i + 1)) (by rw [paF_s]; first | (rw [bI_0 c82]; rfl) | (rw [bI_1 c82, decide_eq_false (i32_nlt.mpr c87)]; rfl) | (rw [bI_1 c82, decide_eq_true (i32_nle.mp c87)]; rfl)) <|
                  s_istore h dX8_past_97 rfl <|
                  s_iincR h dX8_past_99 rfl rfl ic_1 (nI_1 i) <|
                  s_goto (tgt := 40) h dX8_past_102 (by decide) <|
                  ?_
                  exact SX.loc (ih) ⟨rfl, rfl, rfl, rfl, rfl, rfl, rfl, trivial⟩
                · refine s_iload h dX8_past_90 rfl <|
                  s_goto (tgt := 97) h dX8_past_92 (by decide) <|
                  s_topi (paF (mS f a) j c (i + 1)) (by rw [paF_s]; first | (rw [bI_0 c82]; rfl) | (rw [bI_1 c82, decide_eq_false (i32_nlt.mpr c87)]; rfl) | (rw [bI_1 c82, decide_eq_true (i32_nle.mp c87)]; rfl)) <|
                  s_istore h dX8_past_97 rfl <|
                  s_iincR h dX8_past_99 rfl rfl ic_1 (nI_1 i) <|
                  s_goto (tgt := 40) h dX8_past_102 (by decide) <|
                  ?_
                  exact SX.loc (ih) ⟨rfl, rfl, rfl, rfl, rfl, rfl, rfl, trivial⟩
      · (try have e5 := bI_1 c5)
        (try have e5 := bI_0 c5)
        (try have e14 := bI_1 c14)
        (try have e14 := bI_0 c14)
        (try have e24 := bI_1 c24)
        (try have e24 := bI_0 c24)
        
        refine s_bipush h dX8_past_27 bp_m2 <|
          s_iret h he rfl dX8_past_29 ⟨Nat.le_refl _, Nat.le_refl _⟩ ?_
        exact PE.eq (by simp [paM, *]) rfl
  · refine s_iconst h dX8_past_8 ic_m1 <|
      s_iret h he rfl dX8_past_9 ⟨Nat.le_refl _, Nat.le_refl _⟩ ?_
    (try have e5 := bI_1 c5)
    (try have e5 := bI_0 c5)
    (try have e14 := bI_1 c14)
    (try have e14 := bI_0 c14)
    (try have e24 := bI_1 c24)
    (try have e24 := bI_0 c24)
    exact PE.eq (by simp [paM, *]) rfl
theorem aB_c {f g : Nat → Int32} {n : Nat} (hf : f n = -6 ∨ 0 ≤ f n ∧ f n ≤ 60) (hg : g n = -6 ∨ 0 ≤ g n ∧ g n ≤ 60) : aB f g (n + 1) = (aB f g n || (shb f g n && decide (f n < g n))) := by
  rw [aB_s]
  cases h : shb f g n with
  | false => simp
  | true =>
    have h1 : ¬ f n = -6 := by intro q; unfold shb at h; rw [q] at h; simp at h
    have h2 : ¬ g n = -6 := by intro q; unfold shb at h; rw [q] at h; simp at h
    rw [bool_if rfl, Bool.true_and]
    congr 1
    exact decide_eq_decide.mpr (sub_cmp (hf.resolve_left h1) (hg.resolve_left h2)).1
theorem aA_c {f g : Nat → Int32} {n : Nat} (hf : f n = -6 ∨ 0 ≤ f n ∧ f n ≤ 60) (hg : g n = -6 ∨ 0 ≤ g n ∧ g n ≤ 60) : aA f g (n + 1) = (aA f g n || (shb f g n && decide (g n < f n))) := by
  rw [aA_s]
  cases h : shb f g n with
  | false => simp
  | true =>
    have h1 : ¬ f n = -6 := by intro q; unfold shb at h; rw [q] at h; simp at h
    have h2 : ¬ g n = -6 := by intro q; unfold shb at h; rw [q] at h; simp at h
    rw [bool_if rfl, Bool.true_and]
    congr 1
    exact decide_eq_decide.mpr (sub_cmp (hf.resolve_left h1) (hg.resolve_left h2)).2
theorem c_X8_lateKind {l : Launch} {D : va_G} {N : Nat} {adr : Nat → Nat} {G : Nat → va_E} {G0 : Nat → va_E} {f : Nat → Int32} {a : Nat → Nat → Int32} (hN : 115 ≤ N) (hM : isMF D adr G0 G f a) (hwf : wfT (mS f a)) {c m st j : Int32} :
    CT l D yX8_lateKind cX8_lateKind 11 (some FieldType.int) (rl 3) [.ref (adr 103), .int c, .int m, .int st, .int j] N adr G (PE (some (.int (kW (sCol (mS f a) c m) (sCol (mS f a) (c + st) (m + j))))) N adr G) := by
  refine CT.of (by decide +kernel) (Nat.le_of_ble_eq_true rfl) (fun Γ h he => ?_)
  have h : cx l D (rl 3) RX8 cX8_lateKind 11 Γ := h
  show SX Γ 0 0 0 [(0, .ref (adr 103)), (1, .int c), (2, .int m), (3, .int st), (4, .int j)] [] N adr G
  refine s_iconst h dX8_lateKind_0 ic_0 <|
    s_istore h dX8_lateKind_1 rfl <|
    s_iconst h dX8_lateKind_3 ic_0 <|
    s_istore h dX8_lateKind_4 rfl <|
    s_iconst h dX8_lateKind_6 ic_0 <|
    s_istore h dX8_lateKind_7 rfl <|
    ?_
  refine SX.loc (up_ind (n := 6) (Q := fun i => SX Γ 0 0 9 [(0, .ref (adr 103)), (1, .int c), (2, .int m), (3, .int st), (4, .int j), (5, .int (bI (aB (sCol (mS f a) c m) (sCol (mS f a) (c + st) (m + j)) i))), (6, .int (bI (aA (sCol (mS f a) c m) (sCol (mS f a) (c + st) (m + j)) i))), (7, .int (nI i))] [] N adr G) ?_ ?_ 0 (Nat.zero_le _)) ⟨rfl, rfl, rfl, rfl, rfl, rfl, rfl, rfl, trivial⟩
  · show SX _ _ _ _ _ _ _ _ _
    refine s_iload h dX8_lateKind_9 rfl <|
    s_bipush h dX8_lateKind_11 bp_6 <|
    s_icmp_ge (tgt := 112) h dX8_lateKind_13 (by decide) (kf := fun qx => absurd (by decide +kernel) qx) (kt := fun _ => ?_)
    refine s_iload h dX8_lateKind_112 rfl <|
    s_iload h dX8_lateKind_114 rfl <|
    k_X8_117 h (c_X8_kindBy) rfl rfl dX8_lateKind_116 <|
    PE.go <|
    s_iret h he rfl dX8_lateKind_119 ⟨Nat.le_refl _, Nat.le_refl _⟩ ?_
    exact PE.eq (by rw [kBy_kW]) rfl
  · intro i hi ih 
    show SX _ _ _ _ _ _ _ _ _
    have J82 : SX Γ 0 0 82 [(0, .ref (adr 103)), (1, .int c), (2, .int m), (3, .int st), (4, .int j), (5, .int (bI (aB (sCol (mS f a) c m) (sCol (mS f a) (c + st) (m + j)) (i + 1)))), (6, .int (bI (aA (sCol (mS f a) c m) (sCol (mS f a) (c + st) (m + j)) i))), (7, .int (nI i)), (8, .int ((sCol (mS f a) c m) i)), (9, .int ((sCol (mS f a) (c + st) (m + j)) i)), (10, .int (bI (shb (sCol (mS f a) c m) (sCol (mS f a) (c + st) (m + j)) i)))] [] N adr G := by
      refine s_iload h dX8_lateKind_82 rfl <|
        s_if_ne (tgt := 99) h dX8_lateKind_84 (by decide) (fun c84 => ?_) (fun c84 => ?_)
      · refine s_iconst h dX8_lateKind_99 ic_1 <|
          s_goto (tgt := 104) h dX8_lateKind_100 (by decide) <|
          s_topi (bI (aA (sCol (mS f a) c m) (sCol (mS f a) (c + st) (m + j)) (i + 1))) (by
          rw [aA_c (sCol_ok _ _ _ _) (sCol_ok _ _ _ _)]
          first
            | (have e1 := bI_1 c84; rw [e1]; rfl)
            | (have e1 := bI_0 c84; have e2 := bI_0 c89; rw [e1, e2]; rfl)
            | (have e1 := bI_0 c84; have e2 := bI_1 c89; have e3 := decide_eq_true (i32_nle.mp c96); rw [e1, e2, e3]; rfl)
            | (have e1 := bI_0 c84; have e2 := bI_1 c89; have e3 := decide_eq_false (i32_nlt.mpr c96); rw [e1, e2, e3]; rfl)) <|
          s_istore h dX8_lateKind_104 rfl <|
          s_iincR h dX8_lateKind_106 rfl rfl ic_1 (nI_1 i) <|
          s_goto (tgt := 9) h dX8_lateKind_109 (by decide) <|
          ?_
        exact SX.loc (ih) ⟨rfl, rfl, rfl, rfl, rfl, rfl, rfl, rfl, trivial⟩
      · refine s_iload h dX8_lateKind_87 rfl <|
          s_if_eq (tgt := 103) h dX8_lateKind_89 (by decide) (fun c89 => ?_) (fun c89 => ?_)
        · refine s_iconst h dX8_lateKind_103 ic_0 <|
            s_topi (bI (aA (sCol (mS f a) c m) (sCol (mS f a) (c + st) (m + j)) (i + 1))) (by
          rw [aA_c (sCol_ok _ _ _ _) (sCol_ok _ _ _ _)]
          first
            | (have e1 := bI_1 c84; rw [e1]; rfl)
            | (have e1 := bI_0 c84; have e2 := bI_0 c89; rw [e1, e2]; rfl)
            | (have e1 := bI_0 c84; have e2 := bI_1 c89; have e3 := decide_eq_true (i32_nle.mp c96); rw [e1, e2, e3]; rfl)
            | (have e1 := bI_0 c84; have e2 := bI_1 c89; have e3 := decide_eq_false (i32_nlt.mpr c96); rw [e1, e2, e3]; rfl)) <|
            s_istore h dX8_lateKind_104 rfl <|
            s_iincR h dX8_lateKind_106 rfl rfl ic_1 (nI_1 i) <|
            s_goto (tgt := 9) h dX8_lateKind_109 (by decide) <|
            ?_
          exact SX.loc (ih) ⟨rfl, rfl, rfl, rfl, rfl, rfl, rfl, rfl, trivial⟩
        · refine s_iload h dX8_lateKind_92 rfl <|
            s_iload h dX8_lateKind_94 rfl <|
            s_icmp_le (tgt := 103) h dX8_lateKind_96 (by decide) (fun c96 => ?_) (fun c96 => ?_)
          · refine s_iconst h dX8_lateKind_103 ic_0 <|
              s_topi (bI (aA (sCol (mS f a) c m) (sCol (mS f a) (c + st) (m + j)) (i + 1))) (by
          rw [aA_c (sCol_ok _ _ _ _) (sCol_ok _ _ _ _)]
          first
            | (have e1 := bI_1 c84; rw [e1]; rfl)
            | (have e1 := bI_0 c84; have e2 := bI_0 c89; rw [e1, e2]; rfl)
            | (have e1 := bI_0 c84; have e2 := bI_1 c89; have e3 := decide_eq_true (i32_nle.mp c96); rw [e1, e2, e3]; rfl)
            | (have e1 := bI_0 c84; have e2 := bI_1 c89; have e3 := decide_eq_false (i32_nlt.mpr c96); rw [e1, e2, e3]; rfl)) <|
              s_istore h dX8_lateKind_104 rfl <|
              s_iincR h dX8_lateKind_106 rfl rfl ic_1 (nI_1 i) <|
              s_goto (tgt := 9) h dX8_lateKind_109 (by decide) <|
              ?_
            exact SX.loc (ih) ⟨rfl, rfl, rfl, rfl, rfl, rfl, rfl, rfl, trivial⟩
          · refine s_iconst h dX8_lateKind_99 ic_1 <|
              s_goto (tgt := 104) h dX8_lateKind_100 (by decide) <|
              s_topi (bI (aA (sCol (mS f a) c m) (sCol (mS f a) (c + st) (m + j)) (i + 1))) (by
          rw [aA_c (sCol_ok _ _ _ _) (sCol_ok _ _ _ _)]
          first
            | (have e1 := bI_1 c84; rw [e1]; rfl)
            | (have e1 := bI_0 c84; have e2 := bI_0 c89; rw [e1, e2]; rfl)
            | (have e1 := bI_0 c84; have e2 := bI_1 c89; have e3 := decide_eq_true (i32_nle.mp c96); rw [e1, e2, e3]; rfl)
            | (have e1 := bI_0 c84; have e2 := bI_1 c89; have e3 := decide_eq_false (i32_nlt.mpr c96); rw [e1, e2, e3]; rfl)) <|
              s_istore h dX8_lateKind_104 rfl <|
              s_iincR h dX8_lateKind_106 rfl rfl ic_1 (nI_1 i) <|
              s_goto (tgt := 9) h dX8_lateKind_109 (by decide) <|
              ?_
            exact SX.loc (ih) ⟨rfl, rfl, rfl, rfl, rfl, rfl, rfl, rfl, trivial⟩
    have J58 : SX Γ 0 0 58 [(0, .ref (adr 103)), (1, .int c), (2, .int m), (3, .int st), (4, .int j), (5, .int (bI (aB (sCol (mS f a) c m) (sCol (mS f a) (c + st) (m + j)) i))), (6, .int (bI (aA (sCol (mS f a) c m) (sCol (mS f a) (c + st) (m + j)) i))), (7, .int (nI i)), (8, .int ((sCol (mS f a) c m) i)), (9, .int ((sCol (mS f a) (c + st) (m + j)) i)), (10, .int (bI (shb (sCol (mS f a) c m) (sCol (mS f a) (c + st) (m + j)) i)))] [] N adr G := by
      refine s_iload h dX8_lateKind_58 rfl <|
        s_if_ne (tgt := 75) h dX8_lateKind_60 (by decide) (fun c60 => ?_) (fun c60 => ?_)
      · refine s_iconst h dX8_lateKind_75 ic_1 <|
          s_goto (tgt := 80) h dX8_lateKind_76 (by decide) <|
          s_topi (bI (aB (sCol (mS f a) c m) (sCol (mS f a) (c + st) (m + j)) (i + 1))) (by
          rw [aB_c (sCol_ok _ _ _ _) (sCol_ok _ _ _ _)]
          first
            | (have e1 := bI_1 c60; rw [e1]; rfl)
            | (have e1 := bI_0 c60; have e2 := bI_0 c65; rw [e1, e2]; rfl)
            | (have e1 := bI_0 c60; have e2 := bI_1 c65; have e3 := decide_eq_true (i32_nle.mp c72); rw [e1, e2, e3]; rfl)
            | (have e1 := bI_0 c60; have e2 := bI_1 c65; have e3 := decide_eq_false (i32_nlt.mpr c72); rw [e1, e2, e3]; rfl)) <|
          s_istore h dX8_lateKind_80 rfl <|
          ?_
        exact SX.loc (J82) ⟨rfl, rfl, rfl, rfl, rfl, rfl, rfl, rfl, rfl, rfl, rfl, trivial⟩
      · refine s_iload h dX8_lateKind_63 rfl <|
          s_if_eq (tgt := 79) h dX8_lateKind_65 (by decide) (fun c65 => ?_) (fun c65 => ?_)
        · refine s_iconst h dX8_lateKind_79 ic_0 <|
            s_topi (bI (aB (sCol (mS f a) c m) (sCol (mS f a) (c + st) (m + j)) (i + 1))) (by
          rw [aB_c (sCol_ok _ _ _ _) (sCol_ok _ _ _ _)]
          first
            | (have e1 := bI_1 c60; rw [e1]; rfl)
            | (have e1 := bI_0 c60; have e2 := bI_0 c65; rw [e1, e2]; rfl)
            | (have e1 := bI_0 c60; have e2 := bI_1 c65; have e3 := decide_eq_true (i32_nle.mp c72); rw [e1, e2, e3]; rfl)
            | (have e1 := bI_0 c60; have e2 := bI_1 c65; have e3 := decide_eq_false (i32_nlt.mpr c72); rw [e1, e2, e3]; rfl)) <|
            s_istore h dX8_lateKind_80 rfl <|
            ?_
          exact SX.loc (J82) ⟨rfl, rfl, rfl, rfl, rfl, rfl, rfl, rfl, rfl, rfl, rfl, trivial⟩
        · refine s_iload h dX8_lateKind_68 rfl <|
            s_iload h dX8_lateKind_70 rfl <|
            s_icmp_ge (tgt := 79) h dX8_lateKind_72 (by decide) (fun c72 => ?_) (fun c72 => ?_)
          · refine s_iconst h dX8_lateKind_79 ic_0 <|
              s_topi (bI (aB (sCol (mS f a) c m) (sCol (mS f a) (c + st) (m + j)) (i + 1))) (by
          rw [aB_c (sCol_ok _ _ _ _) (sCol_ok _ _ _ _)]
          first
            | (have e1 := bI_1 c60; rw [e1]; rfl)
            | (have e1 := bI_0 c60; have e2 := bI_0 c65; rw [e1, e2]; rfl)
            | (have e1 := bI_0 c60; have e2 := bI_1 c65; have e3 := decide_eq_true (i32_nle.mp c72); rw [e1, e2, e3]; rfl)
            | (have e1 := bI_0 c60; have e2 := bI_1 c65; have e3 := decide_eq_false (i32_nlt.mpr c72); rw [e1, e2, e3]; rfl)) <|
              s_istore h dX8_lateKind_80 rfl <|
              ?_
            exact SX.loc (J82) ⟨rfl, rfl, rfl, rfl, rfl, rfl, rfl, rfl, rfl, rfl, rfl, trivial⟩
          · refine s_iconst h dX8_lateKind_75 ic_1 <|
              s_goto (tgt := 80) h dX8_lateKind_76 (by decide) <|
              s_topi (bI (aB (sCol (mS f a) c m) (sCol (mS f a) (c + st) (m + j)) (i + 1))) (by
          rw [aB_c (sCol_ok _ _ _ _) (sCol_ok _ _ _ _)]
          first
            | (have e1 := bI_1 c60; rw [e1]; rfl)
            | (have e1 := bI_0 c60; have e2 := bI_0 c65; rw [e1, e2]; rfl)
            | (have e1 := bI_0 c60; have e2 := bI_1 c65; have e3 := decide_eq_true (i32_nle.mp c72); rw [e1, e2, e3]; rfl)
            | (have e1 := bI_0 c60; have e2 := bI_1 c65; have e3 := decide_eq_false (i32_nlt.mpr c72); rw [e1, e2, e3]; rfl)) <|
              s_istore h dX8_lateKind_80 rfl <|
              ?_
            exact SX.loc (J82) ⟨rfl, rfl, rfl, rfl, rfl, rfl, rfl, rfl, rfl, rfl, rfl, trivial⟩
    refine s_iload h dX8_lateKind_9 rfl <|
    s_bipush h dX8_lateKind_11 bp_6 <|
    s_icmp_ge (tgt := 112) h dX8_lateKind_13 (by decide) (kt := fun qx => absurd qx (nI_ge hi (by decide))) (kf := fun _ => ?_)
    refine s_aload_n h dX8_lateKind_16 rfl <|
    s_iload h dX8_lateKind_17 rfl <|
    s_iload_n h dX8_lateKind_19 rfl <|
    s_iload_n h dX8_lateKind_20 rfl <|
    k_X8_86 h (c_X8_columnOf hN hM hwf hi) (by omega) hM.o rfl rfl dX8_lateKind_21 <|
    PE.go <|
    s_istore h dX8_lateKind_24 rfl <|
    s_aload_n h dX8_lateKind_26 rfl <|
    s_iload h dX8_lateKind_27 rfl <|
    s_iload_n h dX8_lateKind_29 rfl <|
    s_iload_n h dX8_lateKind_30 rfl <|
    s_iadd h dX8_lateKind_31 <|
    s_iload_n h dX8_lateKind_32 rfl <|
    s_iload h dX8_lateKind_33 rfl <|
    s_iadd h dX8_lateKind_35 <|
    k_X8_86 h (c_X8_columnOf hN hM hwf hi) (by omega) hM.o rfl rfl dX8_lateKind_36 <|
    PE.go <|
    s_istore h dX8_lateKind_39 rfl <|
    s_iload h dX8_lateKind_41 rfl <|
    s_if_lt (tgt := 55) h dX8_lateKind_43 (by decide) (fun c43 => ?_) (fun c43 => ?_)
    · refine s_iconst h dX8_lateKind_55 ic_0 <|
      s_topi (bI (shb (sCol (mS f a) c m) (sCol (mS f a) (c + st) (m + j)) i)) (by
        unfold shb
        first
          | (rw [decide_eq_true ((sCol_lt _ _ _ _).mp c43)]; rfl)
          | (rw [decide_eq_false (fun q => c43 ((sCol_lt _ _ _ _).mpr q)), decide_eq_true ((sCol_lt _ _ _ _).mp c48)]; rfl)
          | (rw [decide_eq_false (fun q => c43 ((sCol_lt _ _ _ _).mpr q)), decide_eq_false (fun q => c48 ((sCol_lt _ _ _ _).mpr q))]; rfl)) <|
      s_istore h dX8_lateKind_56 rfl <|
      ?_
      exact SX.loc (J58) ⟨rfl, rfl, rfl, rfl, rfl, rfl, rfl, rfl, rfl, rfl, rfl, trivial⟩
    · refine s_iload h dX8_lateKind_46 rfl <|
      s_if_lt (tgt := 55) h dX8_lateKind_48 (by decide) (fun c48 => ?_) (fun c48 => ?_)
      · refine s_iconst h dX8_lateKind_55 ic_0 <|
        s_topi (bI (shb (sCol (mS f a) c m) (sCol (mS f a) (c + st) (m + j)) i)) (by
        unfold shb
        first
          | (rw [decide_eq_true ((sCol_lt _ _ _ _).mp c43)]; rfl)
          | (rw [decide_eq_false (fun q => c43 ((sCol_lt _ _ _ _).mpr q)), decide_eq_true ((sCol_lt _ _ _ _).mp c48)]; rfl)
          | (rw [decide_eq_false (fun q => c43 ((sCol_lt _ _ _ _).mpr q)), decide_eq_false (fun q => c48 ((sCol_lt _ _ _ _).mpr q))]; rfl)) <|
        s_istore h dX8_lateKind_56 rfl <|
        ?_
        exact SX.loc (J58) ⟨rfl, rfl, rfl, rfl, rfl, rfl, rfl, rfl, rfl, rfl, rfl, trivial⟩
      · refine s_iconst h dX8_lateKind_51 ic_1 <|
        s_goto (tgt := 56) h dX8_lateKind_52 (by decide) <|
        s_topi (bI (shb (sCol (mS f a) c m) (sCol (mS f a) (c + st) (m + j)) i)) (by
        unfold shb
        first
          | (rw [decide_eq_true ((sCol_lt _ _ _ _).mp c43)]; rfl)
          | (rw [decide_eq_false (fun q => c43 ((sCol_lt _ _ _ _).mpr q)), decide_eq_true ((sCol_lt _ _ _ _).mp c48)]; rfl)
          | (rw [decide_eq_false (fun q => c43 ((sCol_lt _ _ _ _).mpr q)), decide_eq_false (fun q => c48 ((sCol_lt _ _ _ _).mpr q))]; rfl)) <|
        s_istore h dX8_lateKind_56 rfl <|
        ?_
        exact SX.loc (J58) ⟨rfl, rfl, rfl, rfl, rfl, rfl, rfl, rfl, rfl, rfl, rfl, trivial⟩
