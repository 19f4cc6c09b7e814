theorem c_X7_within {l : Launch} {D : va_G} {N : Nat} {adr : Nat → Nat} {G : Nat → va_E} {n a b : Int32} :
    CT l D yX7_within cX7_within 3 (some FieldType.boolean) (rl 0) [.int n, .int a, .int b] N adr G (PE (some (.int (bI (wb n a b)))) N adr G) := by
  refine CT.of (by decide +kernel) (Nat.le_of_ble_eq_true rfl) (fun Γ h he => ?_)
  have h : cx l D (rl 0) RX7 cX7_within 3 Γ := h
  show SX Γ 0 0 0 [(0, .int n), (1, .int a), (2, .int b)] [] N adr G
  refine s_iload_n h dX7_within_0 rfl <|
    s_iload_n h dX7_within_1 rfl <|
    s_icmp_gt (tgt := 14) h dX7_within_2 (by decide) (fun c2 => ?_) (fun c2 => ?_)
  · refine s_iconst h dX7_within_14 ic_0 <|
      s_iret h he rfl dX7_within_15 ⟨Nat.le_refl _, Nat.le_refl _⟩ ?_
    first
      | exact PE.eq (by rw [show wb n a b = true from wb_t.mpr ⟨i32_nlt.mp c2, i32_nlt.mp c7⟩]; rfl) rfl
      | exact PE.eq (by rw [show wb n a b = false from wb_f.mpr (fun q => absurd q.2 (i32_nle.mpr c7))]; rfl) rfl
      | exact PE.eq (by rw [show wb n a b = false from wb_f.mpr (fun q => absurd q.1 (i32_nle.mpr c2))]; rfl) rfl
  · refine s_iload_n h dX7_within_5 rfl <|
      s_iload_n h dX7_within_6 rfl <|
      s_icmp_gt (tgt := 14) h dX7_within_7 (by decide) (fun c7 => ?_) (fun c7 => ?_)
    · refine s_iconst h dX7_within_14 ic_0 <|
        s_iret h he rfl dX7_within_15 ⟨Nat.le_refl _, Nat.le_refl _⟩ ?_
      first
        | exact PE.eq (by rw [show wb n a b = true from wb_t.mpr ⟨i32_nlt.mp c2, i32_nlt.mp c7⟩]; rfl) rfl
        | exact PE.eq (by rw [show wb n a b = false from wb_f.mpr (fun q => absurd q.2 (i32_nle.mpr c7))]; rfl) rfl
        | exact PE.eq (by rw [show wb n a b = false from wb_f.mpr (fun q => absurd q.1 (i32_nle.mpr c2))]; rfl) rfl
    · refine s_iconst h dX7_within_10 ic_1 <|
        s_goto (tgt := 15) h dX7_within_11 (by decide) <|
        s_iret h he rfl dX7_within_15 ⟨Nat.le_refl _, Nat.le_refl _⟩ ?_
      first
        | exact PE.eq (by rw [show wb n a b = true from wb_t.mpr ⟨i32_nlt.mp c2, i32_nlt.mp c7⟩]; rfl) rfl
        | exact PE.eq (by rw [show wb n a b = false from wb_f.mpr (fun q => absurd q.2 (i32_nle.mpr c7))]; rfl) rfl
        | exact PE.eq (by rw [show wb n a b = false from wb_f.mpr (fun q => absurd q.1 (i32_nle.mpr c2))]; rfl) rfl
theorem c_X7_isStand {l : Launch} {D : va_G} {N : Nat} {adr : Nat → Nat} {G : Nat → va_E} {n : Int32} :
    CT l D yX7_isStand cX7_isStand 1 (some FieldType.boolean) (rl 1) [.int n] N adr G (PE (some (.int (bI (wb n 0 99)))) N adr G) := by
  refine CT.of (by decide +kernel) (Nat.le_of_ble_eq_true rfl) (fun Γ h he => ?_)
  have h : cx l D (rl 1) RX7 cX7_isStand 1 Γ := h
  show SX Γ 0 0 0 [(0, .int n)] [] N adr G
  refine s_iload_n h dX7_isStand_0 rfl <|
    s_iconst h dX7_isStand_1 ic_0 <|
    s_bipush h dX7_isStand_2 bp_99 <|
    k_X7_55 h (c_X7_within) rfl rfl dX7_isStand_4 <|
    PE.go <|
    s_iret h he (bI_nar _) dX7_isStand_7 ⟨Nat.le_refl _, Nat.le_refl _⟩ ?_
  exact PE.is
theorem c_X7_isMinute {l : Launch} {D : va_G} {N : Nat} {adr : Nat → Nat} {G : Nat → va_E} {n : Int32} :
    CT l D yX7_isMinute cX7_isMinute 1 (some FieldType.boolean) (rl 1) [.int n] N adr G (PE (some (.int (bI (wb n 0 99)))) N adr G) := by
  refine CT.of (by decide +kernel) (Nat.le_of_ble_eq_true rfl) (fun Γ h he => ?_)
  have h : cx l D (rl 1) RX7 cX7_isMinute 1 Γ := h
  show SX Γ 0 0 0 [(0, .int n)] [] N adr G
  refine s_iload_n h dX7_isMinute_0 rfl <|
    s_iconst h dX7_isMinute_1 ic_0 <|
    s_bipush h dX7_isMinute_2 bp_99 <|
    k_X7_55 h (c_X7_within) rfl rfl dX7_isMinute_4 <|
    PE.go <|
    s_iret h he (bI_nar _) dX7_isMinute_7 ⟨Nat.le_refl _, Nat.le_refl _⟩ ?_
  exact PE.is
theorem c_X7_isKind {l : Launch} {D : va_G} {N : Nat} {adr : Nat → Nat} {G : Nat → va_E} {n : Int32} :
    CT l D yX7_isKind cX7_isKind 1 (some FieldType.boolean) (rl 1) [.int n] N adr G (PE (some (.int (bI (wb n 0 3)))) N adr G) := by
  refine CT.of (by decide +kernel) (Nat.le_of_ble_eq_true rfl) (fun Γ h he => ?_)
  have h : cx l D (rl 1) RX7 cX7_isKind 1 Γ := h
  show SX Γ 0 0 0 [(0, .int n)] [] N adr G
  refine s_iload_n h dX7_isKind_0 rfl <|
    s_iconst h dX7_isKind_1 ic_0 <|
    s_iconst h dX7_isKind_2 ic_3 <|
    k_X7_55 h (c_X7_within) rfl rfl dX7_isKind_3 <|
    PE.go <|
    s_iret h he (bI_nar _) dX7_isKind_6 ⟨Nat.le_refl _, Nat.le_refl _⟩ ?_
  exact PE.is
def hb (a b : Int32) : Bool := decide (a >>> (b &&& 31) &&& 1 = 1)
theorem c_X7_hasBit {l : Launch} {D : va_G} {N : Nat} {adr : Nat → Nat} {G : Nat → va_E} {a b : Int32} :
    CT l D yX7_hasBit cX7_hasBit 2 (some FieldType.boolean) (rl 0) [.int a, .int b] N adr G (PE (some (.int (bI (hb a b)))) N adr G) := by
  refine CT.of (by decide +kernel) (Nat.le_of_ble_eq_true rfl) (fun Γ h he => ?_)
  have h : cx l D (rl 0) RX7 cX7_hasBit 2 Γ := h
  show SX Γ 0 0 0 [(0, .int a), (1, .int b)] [] N adr G
  refine s_iload_n h dX7_hasBit_0 rfl <|
    s_iload_n h dX7_hasBit_1 rfl <|
    s_ishr h dX7_hasBit_2 <|
    s_iconst h dX7_hasBit_3 ic_1 <|
    s_iand h dX7_hasBit_4 <|
    s_iconst h dX7_hasBit_5 ic_1 <|
    s_icmp_ne (tgt := 13) h dX7_hasBit_6 (by decide) (fun c6 => ?_) (fun c6 => ?_)
  · refine s_iconst h dX7_hasBit_13 ic_0 <|
      s_iret h he rfl dX7_hasBit_14 ⟨Nat.le_refl _, Nat.le_refl _⟩ ?_
    first
      | exact PE.eq (by rw [show hb a b = true from decide_eq_true c6]; rfl) rfl
      | exact PE.eq (by rw [show hb a b = false from decide_eq_false c6]; rfl) rfl
  · refine s_iconst h dX7_hasBit_9 ic_1 <|
      s_goto (tgt := 14) h dX7_hasBit_10 (by decide) <|
      s_iret h he rfl dX7_hasBit_14 ⟨Nat.le_refl _, Nat.le_refl _⟩ ?_
    first
      | exact PE.eq (by rw [show hb a b = true from decide_eq_true c6]; rfl) rfl
      | exact PE.eq (by rw [show hb a b = false from decide_eq_false c6]; rfl) rfl
/-- the column that a thing has, or -6 -/
def colF (foc pl pa dp c m : Int32) : Int32 := if wb (30 + foc * (pl + pa * m - c) / dp) 0 60 then 30 + foc * (pl + pa * m - c) / dp else -6
theorem c_X6_columnFrom {l : Launch} {D : va_G} {N : Nat} {adr : Nat → Nat} {G : Nat → va_E} {k : Nat} {th pl pa dp c m f : Int32} (hk : k < N) (hg : G k = .inr (5, [.int th, .int pl, .int pa, .int dp])) (hdp : 1 ≤ dp) :
    CT l D yX6_columnFrom cX6_columnFrom 5 (some FieldType.int) (rl 1) [.ref (adr k), .int c, .int m, .int f] N adr G (PE (some (.int (colF f pl pa dp c m))) N adr G) := by
  refine CT.of (by decide +kernel) (Nat.le_of_ble_eq_true rfl) (fun Γ h he => ?_)
  have h : cx l D (rl 1) RX6 cX6_columnFrom 5 Γ := h
  show SX Γ 0 0 0 [(0, .ref (adr k)), (1, .int c), (2, .int m), (3, .int f)] [] N adr G
  refine s_aload_n h dX6_columnFrom_0 rfl <|
    g_X6_9 h dX6_columnFrom_1 hk hg <|
    s_iconst h dX6_columnFrom_4 ic_1 <|
    s_icmp_ge (tgt := 11) h dX6_columnFrom_5 (by decide) (kf := fun q => absurd (hdp) q) (kt := fun _ => ?_)
  refine s_bipush h dX6_columnFrom_11 bp_30 <|
    s_iload_n h dX6_columnFrom_13 rfl <|
    s_aload_n h dX6_columnFrom_14 rfl <|
    g_X6_15 h dX6_columnFrom_15 hk hg <|
    s_aload_n h dX6_columnFrom_18 rfl <|
    g_X6_18 h dX6_columnFrom_19 hk hg <|
    s_iload_n h dX6_columnFrom_22 rfl <|
    s_imul h dX6_columnFrom_23 <|
    s_iadd h dX6_columnFrom_24 <|
    s_iload_n h dX6_columnFrom_25 rfl <|
    s_isub h dX6_columnFrom_26 <|
    s_imul h dX6_columnFrom_27 <|
    s_aload_n h dX6_columnFrom_28 rfl <|
    g_X6_9 h dX6_columnFrom_29 hk hg <|
    s_idiv h dX6_columnFrom_32 (fun q => absurd hdp (by rw [q]; decide)) <|
    s_iadd h dX6_columnFrom_33 <|
    s_istore h dX6_columnFrom_34 rfl <|
    s_iload h dX6_columnFrom_36 rfl <|
    s_iconst h dX6_columnFrom_38 ic_0 <|
    s_bipush h dX6_columnFrom_39 bp_60 <|
    k_X6_21 h (c_X7_within) rfl rfl dX6_columnFrom_41 <|
    PE.go <|
    s_if_eq (tgt := 52) h dX6_columnFrom_44 (by decide) (fun c44 => ?_) (fun c44 => ?_)
  · refine s_bipush h dX6_columnFrom_52 bp_m6 <|
      s_iret h he rfl dX6_columnFrom_54 ⟨Nat.le_refl _, Nat.le_refl _⟩ ?_
    first
      | exact PE.eq (by rw [colF, if_pos (bI_1 c44)]) rfl
      | exact PE.eq (by rw [colF, if_neg (by rw [bI_0 c44]; decide)]) rfl
  · refine s_iload h dX6_columnFrom_47 rfl <|
      s_goto (tgt := 54) h dX6_columnFrom_49 (by decide) <|
      s_iret h he rfl dX6_columnFrom_54 ⟨Nat.le_refl _, Nat.le_refl _⟩ ?_
    first
      | exact PE.eq (by rw [colF, if_pos (bI_1 c44)]) rfl
      | exact PE.eq (by rw [colF, if_neg (by rw [bI_0 c44]; decide)]) rfl
theorem up_up {α : Type} (f : Nat → α) (k : Nat) (v u : α) : va_up (va_up f k v) k u = va_up f k u := by
  funext j
  by_cases h : j = k <;> simp [va_up, h]
theorem c_X6_copyFrom {l : Launch} {D : va_G} {N : Nat} {adr : Nat → Nat} {G : Nat → va_E} {k k2 : Nat} {a0 a1 a2 a3 b0 b1 b2 b3 : Int32} (hk : k < N) (hg : G k = .inr (5, [.int a0, .int a1, .int a2, .int a3])) (hk2 : k2 < N) (hg2 : G k2 = .inr (5, [.int b0, .int b1, .int b2, .int b3])) (hne : k2 ≠ k) (hz : b0 = 0 ∨ b0 = 1) :
    CT l D yX6_copyFrom cX6_copyFrom 2 (none) (rl 0) [.ref (adr k), .ref (adr k2)] N adr G (PE none N adr (va_up G k (.inr (5, [.int b0, .int b1, .int b2, .int b3])))) := by
  refine CT.of (by decide +kernel) (Nat.le_of_ble_eq_true rfl) (fun Γ h he => ?_)
  have h : cx l D (rl 0) RX6 cX6_copyFrom 2 Γ := h
  show SX Γ 0 0 0 [(0, .ref (adr k)), (1, .ref (adr k2))] [] N adr G
  refine s_aload_n h dX6_copyFrom_0 rfl <|
    s_aload_n h dX6_copyFrom_1 rfl <|
    g_X6_25 h dX6_copyFrom_2 hk2 hg2 <|
    p_X6_25 h dX6_copyFrom_5 hk hg hz <|
    s_aload_n h dX6_copyFrom_8 rfl <|
    s_aload_n h dX6_copyFrom_9 rfl <|
    g_X6_15 h dX6_copyFrom_10 hk2 ((up_ne _ _ hne).trans hg2) <|
    p_X6_15 h dX6_copyFrom_13 hk (up_eq _ _ _) <|
    s_aload_n h dX6_copyFrom_16 rfl <|
    s_aload_n h dX6_copyFrom_17 rfl <|
    g_X6_18 h dX6_copyFrom_18 hk2 ((up_ne _ _ hne).trans ((up_ne _ _ hne).trans hg2)) <|
    p_X6_18 h dX6_copyFrom_21 hk (up_eq _ _ _) <|
    s_aload_n h dX6_copyFrom_24 rfl <|
    s_aload_n h dX6_copyFrom_25 rfl <|
    g_X6_9 h dX6_copyFrom_26 hk2 ((up_ne _ _ hne).trans ((up_ne _ _ hne).trans ((up_ne _ _ hne).trans hg2))) <|
    p_X6_9 h dX6_copyFrom_29 hk (up_eq _ _ _) <|
    s_vret h he dX6_copyFrom_32 ⟨Nat.le_refl _, Nat.le_refl _⟩ ?_
  exact PE.eq rfl (by simp only [up_up])
theorem c_X2_columnOf {l : Launch} {D : va_G} {N : Nat} {adr : Nat → Nat} {G : Nat → va_E} {k : Nat} {th : Int32} {f : Nat → Int32} (hk1 : k + 1 < N) (hg : G k = .inr (2, [.int th, .ref (adr (k + 1))])) (hf : G (k + 1) = aI D 6 f) {t : Int32} {j : Nat} (hix : ix t j 6) :
    CT l D yX2_columnOf cX2_columnOf 2 (some FieldType.int) (rl 1) [.ref (adr k), .int t] N adr G (PE (some (.int (f j))) N adr G) := by
  have hk : k < N := Nat.lt_of_succ_lt hk1
  refine CT.of (by decide +kernel) (Nat.le_of_ble_eq_true rfl) (fun Γ h he => ?_)
  have h : cx l D (rl 1) RX2 cX2_columnOf 2 Γ := h
  show SX Γ 0 0 0 [(0, .ref (adr k)), (1, .int t)] [] N adr G
  refine s_iload_n h dX2_columnOf_0 rfl <|
    s_iconst h dX2_columnOf_1 ic_0 <|
    s_aload_n h dX2_columnOf_2 rfl <|
    g_X2_9 h dX2_columnOf_3 hk hg <|
    s_alenI h dX2_columnOf_6 hk1 hf (show Int32.ofNat 6 = 6 from rfl) <|
    s_iconst h dX2_columnOf_7 ic_1 <|
    s_isub h dX2_columnOf_8 <|
    k_X2_15 h (c_X7_within) rfl rfl dX2_columnOf_9 <|
    PE.go <|
    s_if_eq (tgt := 24) h dX2_columnOf_12 (by decide) (kt := fun q => absurd q (by rw [ix_wb hix (by decide) (show (6 : Int32) - 1 = nI 5 from by decide)]; decide)) (kf := fun _ => ?_)
  refine s_aload_n h dX2_columnOf_15 rfl <|
    g_X2_9 h dX2_columnOf_16 hk hg <|
    s_iload_n h dX2_columnOf_19 rfl <|
    s_iald h dX2_columnOf_20 hk1 hf hix rfl <|
    s_goto (tgt := 26) h dX2_columnOf_21 (by decide) <|
    s_iret h he rfl dX2_columnOf_26 ⟨Nat.le_refl _, Nat.le_refl _⟩ ?_
  exact PE.is
theorem c_X2_putColumn {l : Launch} {D : va_G} {N : Nat} {adr : Nat → Nat} {G : Nat → va_E} {k : Nat} {th : Int32} {f : Nat → Int32} (hk1 : k + 1 < N) (hg : G k = .inr (2, [.int th, .ref (adr (k + 1))])) (hf : G (k + 1) = aI D 6 f) {t : Int32} {j : Nat} (hix : ix t j 6) {x : Int32} :
    CT l D yX2_putColumn cX2_putColumn 3 (none) (rl 1) [.ref (adr k), .int t, .int x] N adr G (PE none N adr (va_up G (k + 1) (aI D 6 (upd f j x)))) := by
  have hk : k < N := Nat.lt_of_succ_lt hk1
  refine CT.of (by decide +kernel) (Nat.le_of_ble_eq_true rfl) (fun Γ h he => ?_)
  have h : cx l D (rl 1) RX2 cX2_putColumn 3 Γ := h
  show SX Γ 0 0 0 [(0, .ref (adr k)), (1, .int t), (2, .int x)] [] N adr G
  refine s_iload_n h dX2_putColumn_0 rfl <|
    s_iconst h dX2_putColumn_1 ic_0 <|
    s_aload_n h dX2_putColumn_2 rfl <|
    g_X2_9 h dX2_putColumn_3 hk hg <|
    s_alenI h dX2_putColumn_6 hk1 hf (show Int32.ofNat 6 = 6 from rfl) <|
    s_iconst h dX2_putColumn_7 ic_1 <|
    s_isub h dX2_putColumn_8 <|
    k_X2_15 h (c_X7_within) rfl rfl dX2_putColumn_9 <|
    PE.go <|
    s_if_eq (tgt := 22) h dX2_putColumn_12 (by decide) (kt := fun q => absurd q (by rw [ix_wb hix (by decide) (show (6 : Int32) - 1 = nI 5 from by decide)]; decide)) (kf := fun _ => ?_)
  refine s_aload_n h dX2_putColumn_15 rfl <|
    g_X2_9 h dX2_putColumn_16 hk hg <|
    s_iload_n h dX2_putColumn_19 rfl <|
    s_iload_n h dX2_putColumn_20 rfl <|
    s_iast h dX2_putColumn_21 hk1 hf hix <|
    s_vret h he dX2_putColumn_22 ⟨Nat.le_refl _, Nat.le_refl _⟩ ?_
  exact PE.is
/-- the bits of the first n columns that are shown -/
def shB (f : Nat → Int32) (n : Nat) : Int32 := fN (fun j b => if f j = -6 then b else b ||| (1 <<< (nI j &&& 31))) 0 n
theorem shB_s (f : Nat → Int32) (n : Nat) : shB f (n + 1) = if f n = -6 then shB f n else shB f n ||| (1 <<< (nI n &&& 31)) := rfl
theorem c_X2_shownBits {l : Launch} {D : va_G} {N : Nat} {adr : Nat → Nat} {G : Nat → va_E} {k : Nat} {th : Int32} {f : Nat → Int32} (hk1 : k + 1 < N) (hg : G k = .inr (2, [.int th, .ref (adr (k + 1))])) (hf : G (k + 1) = aI D 6 f) :
    CT l D yX2_shownBits cX2_shownBits 3 (some FieldType.int) (rl 0) [.ref (adr k)] N adr G (PE (some (.int (shB f 6))) N adr G) := by
  have hk : k < N := Nat.lt_of_succ_lt hk1
  refine CT.of (by decide +kernel) (Nat.le_of_ble_eq_true rfl) (fun Γ h he => ?_)
  have h : cx l D (rl 0) RX2 cX2_shownBits 3 Γ := h
  show SX Γ 0 0 0 [(0, .ref (adr k))] [] N adr G
  refine s_iconst h dX2_shownBits_0 ic_0 <|
    s_istore_n h dX2_shownBits_1 rfl <|
    s_iconst h dX2_shownBits_2 ic_0 <|
    s_istore_n h dX2_shownBits_3 rfl <|
    ?_
  refine SX.loc (up_ind (n := 6) (Q := fun i => SX Γ 0 0 4 [(0, .ref (adr k)), (1, .int (shB f i)), (2, .int (nI i))] [] N adr G) ?_ ?_ 0 (Nat.zero_le _)) ⟨rfl, rfl, rfl, trivial⟩
  · show SX _ _ _ _ _ _ _ _ _
    refine s_iload_n h dX2_shownBits_4 rfl <|
      s_aload_n h dX2_shownBits_5 rfl <|
      g_X2_9 h dX2_shownBits_6 hk hg <|
      s_alenI h dX2_shownBits_9 hk1 hf (show Int32.ofNat 6 = 6 from rfl) <|
      s_icmp_ge (tgt := 36) h dX2_shownBits_10 (by decide) (kf := fun q => absurd (by decide +kernel) q) (kt := fun _ => ?_)
    refine s_iload_n h dX2_shownBits_36 rfl <|
      s_iret h he rfl dX2_shownBits_37 ⟨Nat.le_refl _, Nat.le_refl _⟩ ?_
    exact PE.is
  · intro i hi ih
    show SX _ _ _ _ _ _ _ _ _
    refine s_iload_n h dX2_shownBits_4 rfl <|
      s_aload_n h dX2_shownBits_5 rfl <|
      g_X2_9 h dX2_shownBits_6 hk hg <|
      s_alenI h dX2_shownBits_9 hk1 hf (show Int32.ofNat 6 = 6 from rfl) <|
      s_icmp_ge (tgt := 36) h dX2_shownBits_10 (by decide) (kt := fun q => absurd q (nI_ge hi (by decide))) (kf := fun _ => ?_)
    refine s_aload_n h dX2_shownBits_13 rfl <|
      g_X2_9 h dX2_shownBits_14 hk hg <|
      s_iload_n h dX2_shownBits_17 rfl <|
      s_iald h dX2_shownBits_18 hk1 hf (ix_n hi (by decide)) rfl <|
      s_bipush h dX2_shownBits_19 bp_m6 <|
      s_icmp_eq (tgt := 30) h dX2_shownBits_21 (by decide) (fun c21 => ?_) (fun c21 => ?_)
    · refine s_iincR h dX2_shownBits_30 rfl rfl ic_1 (nI_1 i) <|
        s_goto (tgt := 4) h dX2_shownBits_33 (by decide) <|
        ?_
      first
        | exact SX.loc ih ⟨rfl, rfl, rfl, trivial⟩
        | exact SX.loc (lv2 := [(0, .ref (adr k)), (1, .int (shB f i)), (2, .int (nI (i + 1)))]) (by rw [show shB f i = shB f (i + 1) from by rw [shB_s, if_pos c21]]; exact ih) ⟨rfl, rfl, rfl, trivial⟩
    · refine s_iload_n h dX2_shownBits_24 rfl <|
        s_iconst h dX2_shownBits_25 ic_1 <|
        s_iload_n h dX2_shownBits_26 rfl <|
        s_ishl h dX2_shownBits_27 <|
        s_ior h dX2_shownBits_28 <|
        s_topi (shB f (i + 1)) (by rw [shB_s, if_neg c21]) <|
        s_istore_n h dX2_shownBits_29 rfl <|
        s_iincR h dX2_shownBits_30 rfl rfl ic_1 (nI_1 i) <|
        s_goto (tgt := 4) h dX2_shownBits_33 (by decide) <|
        ?_
      first
        | exact SX.loc ih ⟨rfl, rfl, rfl, trivial⟩
        | exact SX.loc (lv2 := [(0, .ref (adr k)), (1, .int (shB f i)), (2, .int (nI (i + 1)))]) (by rw [show shB f i = shB f (i + 1) from by rw [shB_s, if_pos c21]]; exact ih) ⟨rfl, rfl, rfl, trivial⟩
def shb (f f2 : Nat → Int32) (j : Nat) : Bool := !decide (f j = -6) && !decide (f2 j = -6)
theorem c_X2_sharesWith {l : Launch} {D : va_G} {N : Nat} {adr : Nat → Nat} {G : Nat → va_E} {k : Nat} {th : Int32} {f : Nat → Int32} (hk1 : k + 1 < N) (hg : G k = .inr (2, [.int th, .ref (adr (k + 1))])) (hf : G (k + 1) = aI D 6 f) {k2 : Nat} {th2 : Int32} {f2 : Nat → Int32} (hk21 : k2 + 1 < N) (hg2 : G k2 = .inr (2, [.int th2, .ref (adr (k2 + 1))])) (hf2 : G (k2 + 1) = aI D 6 f2) {t : Int32} {j : Nat} (hix : ix t j 6) :
    CT l D yX2_sharesWith cX2_sharesWith 3 (some FieldType.boolean) (rl 2) [.ref (adr k), .ref (adr k2), .int t] N adr G (PE (some (.int (bI (shb f f2 j)))) N adr G) := by
  have hk : k < N := Nat.lt_of_succ_lt hk1
  have hk2 : k2 < N := Nat.lt_of_succ_lt hk21
  refine CT.of (by decide +kernel) (Nat.le_of_ble_eq_true rfl) (fun Γ h he => ?_)
  have h : cx l D (rl 2) RX2 cX2_sharesWith 3 Γ := h
  show SX Γ 0 0 0 [(0, .ref (adr k)), (1, .ref (adr k2)), (2, .int t)] [] N adr G
  refine s_aload_n h dX2_sharesWith_0 rfl <|
    s_iload_n h dX2_sharesWith_1 rfl <|
    k_X2_23 h (c_X2_columnOf hk1 hg hf hix) hk hg rfl rfl dX2_sharesWith_2 <|
    PE.go <|
    s_bipush h dX2_sharesWith_5 bp_m6 <|
    s_icmp_eq (tgt := 24) h dX2_sharesWith_7 (by decide) (fun c7 => ?_) (fun c7 => ?_)
  · refine s_iconst h dX2_sharesWith_24 ic_0 <|
      s_iret h he rfl dX2_sharesWith_25 ⟨Nat.le_refl _, Nat.le_refl _⟩ ?_
    exact PE.eq (by simp [shb, bI, *]) rfl
  · refine s_aload_n h dX2_sharesWith_10 rfl <|
      s_iload_n h dX2_sharesWith_11 rfl <|
      k_X2_23 h (c_X2_columnOf hk21 hg2 hf2 hix) hk2 hg2 rfl rfl dX2_sharesWith_12 <|
      PE.go <|
      s_bipush h dX2_sharesWith_15 bp_m6 <|
      s_icmp_eq (tgt := 24) h dX2_sharesWith_17 (by decide) (fun c17 => ?_) (fun c17 => ?_)
    · refine s_iconst h dX2_sharesWith_24 ic_0 <|
        s_iret h he rfl dX2_sharesWith_25 ⟨Nat.le_refl _, Nat.le_refl _⟩ ?_
      exact PE.eq (by simp [shb, bI, *]) rfl
    · refine s_iconst h dX2_sharesWith_20 ic_1 <|
        s_goto (tgt := 25) h dX2_sharesWith_21 (by decide) <|
        s_iret h he rfl dX2_sharesWith_25 ⟨Nat.le_refl _, Nat.le_refl _⟩ ?_
      exact PE.eq (by simp [shb, bI, *]) rfl
theorem c_X2_shiftTo {l : Launch} {D : va_G} {N : Nat} {adr : Nat → Nat} {G : Nat → va_E} {k : Nat} {th : Int32} {f : Nat → Int32} (hk1 : k + 1 < N) (hg : G k = .inr (2, [.int th, .ref (adr (k + 1))])) (hf : G (k + 1) = aI D 6 f) {k2 : Nat} {th2 : Int32} {f2 : Nat → Int32} (hk21 : k2 + 1 < N) (hg2 : G k2 = .inr (2, [.int th2, .ref (adr (k2 + 1))])) (hf2 : G (k2 + 1) = aI D 6 f2) {t : Int32} {j : Nat} (hix : ix t j 6) :
    CT l D yX2_shiftTo cX2_shiftTo 3 (some FieldType.int) (rl 2) [.ref (adr k), .ref (adr k2), .int t] N adr G (PE (some (.int (f j - f2 j))) N adr G) := by
  have hk : k < N := Nat.lt_of_succ_lt hk1
  have hk2 : k2 < N := Nat.lt_of_succ_lt hk21
  refine CT.of (by decide +kernel) (Nat.le_of_ble_eq_true rfl) (fun Γ h he => ?_)
  have h : cx l D (rl 2) RX2 cX2_shiftTo 3 Γ := h
  show SX Γ 0 0 0 [(0, .ref (adr k)), (1, .ref (adr k2)), (2, .int t)] [] N adr G
  refine s_aload_n h dX2_shiftTo_0 rfl <|
    s_iload_n h dX2_shiftTo_1 rfl <|
    k_X2_23 h (c_X2_columnOf hk1 hg hf hix) hk hg rfl rfl dX2_shiftTo_2 <|
    PE.go <|
    s_aload_n h dX2_shiftTo_5 rfl <|
    s_iload_n h dX2_shiftTo_6 rfl <|
    k_X2_23 h (c_X2_columnOf hk21 hg2 hf2 hix) hk2 hg2 rfl rfl dX2_shiftTo_7 <|
    PE.go <|
    s_isub h dX2_shiftTo_10 <|
    s_iret h he rfl dX2_shiftTo_11 ⟨Nat.le_refl _, Nat.le_refl _⟩ ?_
  exact PE.is
def aA (f f2 : Nat → Int32) (n : Nat) : Bool := fN (fun j b => if shb f f2 j then b || decide (0 < f j - f2 j) else b) false n
def aB (f f2 : Nat → Int32) (n : Nat) : Bool := fN (fun j b => if shb f f2 j then b || decide (f j - f2 j < 0) else b) false n
def kW (f f2 : Nat → Int32) : Int32 := if aA f f2 6 then (if aB f f2 6 then 3 else 0) else (if aB f f2 6 then 2 else 1)
theorem bI_or (a b : Bool) : bI a ||| bI b = bI (a || b) := by cases a <;> cases b <;> rfl
theorem bI_or1 (a : Bool) : bI a ||| 1 = bI (a || true) := by cases a <;> rfl
theorem bI_or0 (a : Bool) : bI a ||| 0 = bI (a || false) := by cases a <;> rfl
theorem c_X2_kindWith {l : Launch} {D : va_G} {N : Nat} {adr : Nat → Nat} {G : Nat → va_E} {k : Nat} {th : Int32} {f : Nat → Int32} (hk1 : k + 1 < N) (hg : G k = .inr (2, [.int th, .ref (adr (k + 1))])) (hf : G (k + 1) = aI D 6 f) {k2 : Nat} {th2 : Int32} {f2 : Nat → Int32} (hk21 : k2 + 1 < N) (hg2 : G k2 = .inr (2, [.int th2, .ref (adr (k2 + 1))])) (hf2 : G (k2 + 1) = aI D 6 f2) :
    CT l D yX2_kindWith cX2_kindWith 5 (some FieldType.int) (rl 3) [.ref (adr k), .ref (adr k2)] N adr G (PE (some (.int (kW f f2))) N adr G) := by
  have hk : k < N := Nat.lt_of_succ_lt hk1
  have hk2 : k2 < N := Nat.lt_of_succ_lt hk21
  refine CT.of (by decide +kernel) (Nat.le_of_ble_eq_true rfl) (fun Γ h he => ?_)
  have h : cx l D (rl 3) RX2 cX2_kindWith 5 Γ := h
  show SX Γ 0 0 0 [(0, .ref (adr k)), (1, .ref (adr k2))] [] N adr G
  refine s_iconst h dX2_kindWith_0 ic_0 <|
    s_istore_n h dX2_kindWith_1 rfl <|
    s_iconst h dX2_kindWith_2 ic_0 <|
    s_istore_n h dX2_kindWith_3 rfl <|
    s_iconst h dX2_kindWith_4 ic_0 <|
    s_istore h dX2_kindWith_5 rfl <|
    ?_
  refine SX.loc (up_ind (n := 6) (Q := fun i => SX Γ 0 0 7 [(0, .ref (adr k)), (1, .ref (adr k2)), (2, .int (bI (aA f f2 i))), (3, .int (bI (aB f f2 i))), (4, .int (nI i))] [] N adr G) ?_ ?_ 0 (Nat.zero_le _)) ⟨rfl, rfl, rfl, rfl, rfl, trivial⟩
  · show SX _ _ _ _ _ _ _ _ _
    refine s_iload h dX2_kindWith_7 rfl <|
      s_aload_n h dX2_kindWith_9 rfl <|
      g_X2_9 h dX2_kindWith_10 hk hg <|
      s_alenI h dX2_kindWith_13 hk1 hf (show Int32.ofNat 6 = 6 from rfl) <|
      s_icmp_ge (tgt := 69) h dX2_kindWith_14 (by decide) (kf := fun q => absurd (by decide +kernel) q) (kt := fun _ => ?_)
    refine s_iload_n h dX2_kindWith_69 rfl <|
      s_if_eq (tgt := 83) h dX2_kindWith_70 (by decide) (fun c70 => ?_) (fun c70 => ?_)
    · refine s_iload_n h dX2_kindWith_83 rfl <|
        s_if_eq (tgt := 91) h dX2_kindWith_84 (by decide) (fun c84 => ?_) (fun c84 => ?_)
      · refine s_iconst h dX2_kindWith_91 ic_1 <|
          s_iret h he rfl dX2_kindWith_92 ⟨Nat.le_refl _, Nat.le_refl _⟩ ?_
        first
          | exact PE.eq (by rw [kW, if_pos (bI_1 c70), if_pos (bI_1 c74)]) rfl
          | exact PE.eq (by rw [kW, if_pos (bI_1 c70), if_neg (by rw [bI_0 c74]; decide)]) rfl
          | exact PE.eq (by rw [kW, if_neg (by rw [bI_0 c70]; decide), if_pos (bI_1 c84)]) rfl
          | exact PE.eq (by rw [kW, if_neg (by rw [bI_0 c70]; decide), if_neg (by rw [bI_0 c84]; decide)]) rfl
      · refine s_iconst h dX2_kindWith_87 ic_2 <|
          s_goto (tgt := 92) h dX2_kindWith_88 (by decide) <|
          s_iret h he rfl dX2_kindWith_92 ⟨Nat.le_refl _, Nat.le_refl _⟩ ?_
        first
          | exact PE.eq (by rw [kW, if_pos (bI_1 c70), if_pos (bI_1 c74)]) rfl
          | exact PE.eq (by rw [kW, if_pos (bI_1 c70), if_neg (by rw [bI_0 c74]; decide)]) rfl
          | exact PE.eq (by rw [kW, if_neg (by rw [bI_0 c70]; decide), if_pos (bI_1 c84)]) rfl
          | exact PE.eq (by rw [kW, if_neg (by rw [bI_0 c70]; decide), if_neg (by rw [bI_0 c84]; decide)]) rfl
    · refine s_iload_n h dX2_kindWith_73 rfl <|
        s_if_eq (tgt := 81) h dX2_kindWith_74 (by decide) (fun c74 => ?_) (fun c74 => ?_)
      · refine s_iconst h dX2_kindWith_81 ic_0 <|
          s_iret h he rfl dX2_kindWith_82 ⟨Nat.le_refl _, Nat.le_refl _⟩ ?_
        first
          | exact PE.eq (by rw [kW, if_pos (bI_1 c70), if_pos (bI_1 c74)]) rfl
          | exact PE.eq (by rw [kW, if_pos (bI_1 c70), if_neg (by rw [bI_0 c74]; decide)]) rfl
          | exact PE.eq (by rw [kW, if_neg (by rw [bI_0 c70]; decide), if_pos (bI_1 c84)]) rfl
          | exact PE.eq (by rw [kW, if_neg (by rw [bI_0 c70]; decide), if_neg (by rw [bI_0 c84]; decide)]) rfl
      · refine s_iconst h dX2_kindWith_77 ic_3 <|
          s_goto (tgt := 82) h dX2_kindWith_78 (by decide) <|
          s_iret h he rfl dX2_kindWith_82 ⟨Nat.le_refl _, Nat.le_refl _⟩ ?_
        first
          | exact PE.eq (by rw [kW, if_pos (bI_1 c70), if_pos (bI_1 c74)]) rfl
          | exact PE.eq (by rw [kW, if_pos (bI_1 c70), if_neg (by rw [bI_0 c74]; decide)]) rfl
          | exact PE.eq (by rw [kW, if_neg (by rw [bI_0 c70]; decide), if_pos (bI_1 c84)]) rfl
          | exact PE.eq (by rw [kW, if_neg (by rw [bI_0 c70]; decide), if_neg (by rw [bI_0 c84]; decide)]) rfl
  · intro i hi ih
    show SX _ _ _ _ _ _ _ _ _
    refine s_iload h dX2_kindWith_7 rfl <|
      s_aload_n h dX2_kindWith_9 rfl <|
      g_X2_9 h dX2_kindWith_10 hk hg <|
      s_alenI h dX2_kindWith_13 hk1 hf (show Int32.ofNat 6 = 6 from rfl) <|
      s_icmp_ge (tgt := 69) h dX2_kindWith_14 (by decide) (kt := fun q => absurd q (nI_ge hi (by decide))) (kf := fun _ => ?_)
    refine s_aload_n h dX2_kindWith_17 rfl <|
      s_aload_n h dX2_kindWith_18 rfl <|
      s_iload h dX2_kindWith_19 rfl <|
      k_X2_27 h (c_X2_sharesWith hk1 hg hf hk21 hg2 hf2 (ix_n hi (by decide))) hk hg rfl rfl dX2_kindWith_21 <|
      PE.go <|
      s_if_eq (tgt := 63) h dX2_kindWith_24 (by decide) (fun c24 => ?_) (fun c24 => ?_)
    · refine s_iincR h dX2_kindWith_63 rfl rfl ic_1 (nI_1 i) <|
        s_goto (tgt := 7) h dX2_kindWith_66 (by decide) <|
        ?_
      first
        | exact SX.loc ih ⟨rfl, rfl, rfl, rfl, rfl, trivial⟩
        | exact SX.loc (lv2 := [(0, .ref (adr k)), (1, .ref (adr k2)), (2, .int (bI (aA f f2 i))), (3, .int (bI (aB f f2 i))), (4, .int (nI (i + 1)))]) (by rw [show aA f f2 i = aA f f2 (i + 1) from by rw [aA, aA, fN_s, if_neg (by rw [bI_0 c24]; decide)], show aB f f2 i = aB f f2 (i + 1) from by rw [aB, aB, fN_s, if_neg (by rw [bI_0 c24]; decide)]]; exact ih) ⟨rfl, rfl, rfl, rfl, rfl, trivial⟩
    · refine s_iload_n h dX2_kindWith_27 rfl <|
        s_aload_n h dX2_kindWith_28 rfl <|
        s_aload_n h dX2_kindWith_29 rfl <|
        s_iload h dX2_kindWith_30 rfl <|
        k_X2_31 h (c_X2_shiftTo hk1 hg hf hk21 hg2 hf2 (ix_n hi (by decide))) hk hg rfl rfl dX2_kindWith_32 <|
        PE.go <|
        s_if_le (tgt := 42) h dX2_kindWith_35 (by decide) (fun c35 => ?_) (fun c35 => ?_)
      · refine s_iconst h dX2_kindWith_42 ic_0 <|
          s_ior h dX2_kindWith_43 <|
          s_topi (bI (aA f f2 (i + 1))) (by
      rw [show aA f f2 (i + 1) = (aA f f2 i || decide (0 < f i - f2 i)) from by rw [aA, fN_s, if_pos (bI_1 c24)]; rfl]
      first
        | rw [decide_eq_true (i32_nle.mp c35), bI_or1]
        | rw [decide_eq_false (fun q => absurd c35 (i32_nle.mpr q)), bI_or0]) <|
          s_istore_n h dX2_kindWith_44 rfl <|
          s_iload_n h dX2_kindWith_45 rfl <|
          s_aload_n h dX2_kindWith_46 rfl <|
          s_aload_n h dX2_kindWith_47 rfl <|
          s_iload h dX2_kindWith_48 rfl <|
          k_X2_31 h (c_X2_shiftTo hk1 hg hf hk21 hg2 hf2 (ix_n hi (by decide))) hk hg rfl rfl dX2_kindWith_50 <|
          PE.go <|
          s_if_ge (tgt := 60) h dX2_kindWith_53 (by decide) (fun c53 => ?_) (fun c53 => ?_)
        · refine s_iconst h dX2_kindWith_60 ic_0 <|
            s_ior h dX2_kindWith_61 <|
            s_topi (bI (aB f f2 (i + 1))) (by
      rw [show aB f f2 (i + 1) = (aB f f2 i || decide (f i - f2 i < 0)) from by rw [aB, fN_s, if_pos (bI_1 c24)]; rfl]
      first
        | rw [decide_eq_true (i32_nle.mp c53), bI_or1]
        | rw [decide_eq_false (fun q => absurd c53 (i32_nle.mpr q)), bI_or0]) <|
            s_istore_n h dX2_kindWith_62 rfl <|
            s_iincR h dX2_kindWith_63 rfl rfl ic_1 (nI_1 i) <|
            s_goto (tgt := 7) h dX2_kindWith_66 (by decide) <|
            ?_
          first
            | exact SX.loc ih ⟨rfl, rfl, rfl, rfl, rfl, trivial⟩
            | exact SX.loc (lv2 := [(0, .ref (adr k)), (1, .ref (adr k2)), (2, .int (bI (aA f f2 i))), (3, .int (bI (aB f f2 i))), (4, .int (nI (i + 1)))]) (by rw [show aA f f2 i = aA f f2 (i + 1) from by rw [aA, aA, fN_s, if_neg (by rw [bI_0 c24]; decide)], show aB f f2 i = aB f f2 (i + 1) from by rw [aB, aB, fN_s, if_neg (by rw [bI_0 c24]; decide)]]; exact ih) ⟨rfl, rfl, rfl, rfl, rfl, trivial⟩
        · refine s_iconst h dX2_kindWith_56 ic_1 <|
            s_goto (tgt := 61) h dX2_kindWith_57 (by decide) <|
            s_ior h dX2_kindWith_61 <|
            s_topi (bI (aB f f2 (i + 1))) (by
      rw [show aB f f2 (i + 1) = (aB f f2 i || decide (f i - f2 i < 0)) from by rw [aB, fN_s, if_pos (bI_1 c24)]; rfl]
      first
        | rw [decide_eq_true (i32_nle.mp c53), bI_or1]
        | rw [decide_eq_false (fun q => absurd c53 (i32_nle.mpr q)), bI_or0]) <|
            s_istore_n h dX2_kindWith_62 rfl <|
            s_iincR h dX2_kindWith_63 rfl rfl ic_1 (nI_1 i) <|
            s_goto (tgt := 7) h dX2_kindWith_66 (by decide) <|
            ?_
          first
            | exact SX.loc ih ⟨rfl, rfl, rfl, rfl, rfl, trivial⟩
            | exact SX.loc (lv2 := [(0, .ref (adr k)), (1, .ref (adr k2)), (2, .int (bI (aA f f2 i))), (3, .int (bI (aB f f2 i))), (4, .int (nI (i + 1)))]) (by rw [show aA f f2 i = aA f f2 (i + 1) from by rw [aA, aA, fN_s, if_neg (by rw [bI_0 c24]; decide)], show aB f f2 i = aB f f2 (i + 1) from by rw [aB, aB, fN_s, if_neg (by rw [bI_0 c24]; decide)]]; exact ih) ⟨rfl, rfl, rfl, rfl, rfl, trivial⟩
      · refine s_iconst h dX2_kindWith_38 ic_1 <|
          s_goto (tgt := 43) h dX2_kindWith_39 (by decide) <|
          s_ior h dX2_kindWith_43 <|
          s_topi (bI (aA f f2 (i + 1))) (by
      rw [show aA f f2 (i + 1) = (aA f f2 i || decide (0 < f i - f2 i)) from by rw [aA, fN_s, if_pos (bI_1 c24)]; rfl]
      first
        | rw [decide_eq_true (i32_nle.mp c35), bI_or1]
        | rw [decide_eq_false (fun q => absurd c35 (i32_nle.mpr q)), bI_or0]) <|
          s_istore_n h dX2_kindWith_44 rfl <|
          s_iload_n h dX2_kindWith_45 rfl <|
          s_aload_n h dX2_kindWith_46 rfl <|
          s_aload_n h dX2_kindWith_47 rfl <|
          s_iload h dX2_kindWith_48 rfl <|
          k_X2_31 h (c_X2_shiftTo hk1 hg hf hk21 hg2 hf2 (ix_n hi (by decide))) hk hg rfl rfl dX2_kindWith_50 <|
          PE.go <|
          s_if_ge (tgt := 60) h dX2_kindWith_53 (by decide) (fun c53 => ?_) (fun c53 => ?_)
        · refine s_iconst h dX2_kindWith_60 ic_0 <|
            s_ior h dX2_kindWith_61 <|
            s_topi (bI (aB f f2 (i + 1))) (by
      rw [show aB f f2 (i + 1) = (aB f f2 i || decide (f i - f2 i < 0)) from by rw [aB, fN_s, if_pos (bI_1 c24)]; rfl]
      first
        | rw [decide_eq_true (i32_nle.mp c53), bI_or1]
        | rw [decide_eq_false (fun q => absurd c53 (i32_nle.mpr q)), bI_or0]) <|
            s_istore_n h dX2_kindWith_62 rfl <|
            s_iincR h dX2_kindWith_63 rfl rfl ic_1 (nI_1 i) <|
            s_goto (tgt := 7) h dX2_kindWith_66 (by decide) <|
            ?_
          first
            | exact SX.loc ih ⟨rfl, rfl, rfl, rfl, rfl, trivial⟩
            | exact SX.loc (lv2 := [(0, .ref (adr k)), (1, .ref (adr k2)), (2, .int (bI (aA f f2 i))), (3, .int (bI (aB f f2 i))), (4, .int (nI (i + 1)))]) (by rw [show aA f f2 i = aA f f2 (i + 1) from by rw [aA, aA, fN_s, if_neg (by rw [bI_0 c24]; decide)], show aB f f2 i = aB f f2 (i + 1) from by rw [aB, aB, fN_s, if_neg (by rw [bI_0 c24]; decide)]]; exact ih) ⟨rfl, rfl, rfl, rfl, rfl, trivial⟩
        · refine s_iconst h dX2_kindWith_56 ic_1 <|
            s_goto (tgt := 61) h dX2_kindWith_57 (by decide) <|
            s_ior h dX2_kindWith_61 <|
            s_topi (bI (aB f f2 (i + 1))) (by
      rw [show aB f f2 (i + 1) = (aB f f2 i || decide (f i - f2 i < 0)) from by rw [aB, fN_s, if_pos (bI_1 c24)]; rfl]
      first
        | rw [decide_eq_true (i32_nle.mp c53), bI_or1]
        | rw [decide_eq_false (fun q => absurd c53 (i32_nle.mpr q)), bI_or0]) <|
            s_istore_n h dX2_kindWith_62 rfl <|
            s_iincR h dX2_kindWith_63 rfl rfl ic_1 (nI_1 i) <|
            s_goto (tgt := 7) h dX2_kindWith_66 (by decide) <|
            ?_
          first
            | exact SX.loc ih ⟨rfl, rfl, rfl, rfl, rfl, trivial⟩
            | exact SX.loc (lv2 := [(0, .ref (adr k)), (1, .ref (adr k2)), (2, .int (bI (aA f f2 i))), (3, .int (bI (aB f f2 i))), (4, .int (nI (i + 1)))]) (by rw [show aA f f2 i = aA f f2 (i + 1) from by rw [aA, aA, fN_s, if_neg (by rw [bI_0 c24]; decide)], show aB f f2 i = aB f f2 (i + 1) from by rw [aB, aB, fN_s, if_neg (by rw [bI_0 c24]; decide)]]; exact ih) ⟨rfl, rfl, rfl, rfl, rfl, trivial⟩
