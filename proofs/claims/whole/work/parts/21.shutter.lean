theorem gcd_bound {a b m : Nat} (hab : b ≤ a) (hb : 0 < b) (h : a * b < 2 ^ (m + 1)) : b * (a % b) < 2 ^ m := by
  have h1 : a % b < b := Nat.mod_lt _ hb
  have h2 : a % b + a % b ≤ a := by
    have := Nat.div_add_mod a b
    have h3 : 1 ≤ a / b := Nat.div_pos hab hb
    have h4 : b * 1 ≤ b * (a / b) := Nat.mul_le_mul_left b h3
    omega
  have h5 : b * (a % b + a % b) ≤ b * a := Nat.mul_le_mul_left b h2
  rw [Nat.mul_add, Nat.mul_comm b a] at h5
  have : 2 ^ (m + 1) = 2 ^ m + 2 ^ m := by rw [Nat.pow_succ]; omega
  omega
theorem gcd_bound0 {a b : Nat} (hab : b ≤ a) (h : a * b < 2 ^ 0) : b = 0 := by
  rcases Nat.eq_zero_or_pos b with q | q
  · exact q
  · have : 1 * 1 ≤ a * b := Nat.mul_le_mul (by omega) q
    simp at h
    omega
theorem l0 : (0 : Int64) = lN 0 := rfl
theorem l1 : (1 : Int64) = lN 1 := rfl
theorem gd_loop {l : Launch} {D : va_G} {N : Nat} {adr : Nat → Nat} {G : Nat → va_E} {Γ : GT} {x0 y0 : Int64} {g : Nat} (h : cx l D (rl 0) RX7 cX7_greatestDivisor 11 Γ) (he : ex yX7_greatestDivisor.name (some .long) (PE (some (.long (lN g))) N adr G) (rl 0).cells (rl 0).slots Γ) :
    ∀ (m a b i : Nat), b ≤ a → a < 2 ^ 31 → a * b < 2 ^ m → i + m ≤ 900 → Nat.gcd a b = g → SX Γ 0 0 9 [(0, .long x0), (2, .long y0), (4, .long (lN a)), (6, .long (lN b)), (8, .int (nI i))] [] N adr G := by
  intro m
  induction m with
  | zero =>
    intro a b i hab ha hm hi hg
    have hb0 : b = 0 := gcd_bound0 hab hm
    refine s_iload h dX7_greatestDivisor_9 rfl <|
  s_sipush h dX7_greatestDivisor_11 sp_1000 <|
  s_icmp_ge (tgt := 45) h dX7_greatestDivisor_14 (by decide) (kt := fun qx => absurd qx (nI_ge (show i < 1000 from by omega) (by decide))) (kf := fun _ => ?_)
    refine s_lload h dX7_greatestDivisor_17 rfl <|
  s_lconst h dX7_greatestDivisor_19 lc_0 <|
  s_lcmp h dX7_greatestDivisor_20 <|
  s_if_eq (tgt := 45) h dX7_greatestDivisor_21 (by decide) (kf := fun qx => absurd (lg_cmp0.mpr (by rw [hb0]; rfl)) qx) (kt := fun _ => ?_)
    refine s_lload h dX7_greatestDivisor_45 rfl <|
  s_lret h he dX7_greatestDivisor_47 ⟨Nat.le_refl _, Nat.le_refl _⟩ ?_
    exact PE.eq (by rw [← hg, hb0]; simp) rfl
  | succ m ih =>
    intro a b i hab ha hm hi hg
    by_cases hb0 : b = 0
    · refine s_iload h dX7_greatestDivisor_9 rfl <|
  s_sipush h dX7_greatestDivisor_11 sp_1000 <|
  s_icmp_ge (tgt := 45) h dX7_greatestDivisor_14 (by decide) (kt := fun qx => absurd qx (nI_ge (show i < 1000 from by omega) (by decide))) (kf := fun _ => ?_)
      refine s_lload h dX7_greatestDivisor_17 rfl <|
  s_lconst h dX7_greatestDivisor_19 lc_0 <|
  s_lcmp h dX7_greatestDivisor_20 <|
  s_if_eq (tgt := 45) h dX7_greatestDivisor_21 (by decide) (kf := fun qx => absurd (lg_cmp0.mpr (by rw [hb0]; rfl)) qx) (kt := fun _ => ?_)
      refine s_lload h dX7_greatestDivisor_45 rfl <|
  s_lret h he dX7_greatestDivisor_47 ⟨Nat.le_refl _, Nat.le_refl _⟩ ?_
      exact PE.eq (by rw [← hg, hb0]; simp) rfl
    · have hb1 : ¬ b = 0 := hb0
      have hbp : 0 < b := Nat.pos_of_ne_zero hb1
      refine s_iload h dX7_greatestDivisor_9 rfl <|
  s_sipush h dX7_greatestDivisor_11 sp_1000 <|
  s_icmp_ge (tgt := 45) h dX7_greatestDivisor_14 (by decide) (kt := fun qx => absurd qx (nI_ge (show i < 1000 from by omega) (by decide))) (kf := fun _ => ?_)
      refine s_lload h dX7_greatestDivisor_17 rfl <|
  s_lconst h dX7_greatestDivisor_19 lc_0 <|
  s_lcmp h dX7_greatestDivisor_20 <|
  s_if_eq (tgt := 45) h dX7_greatestDivisor_21 (by decide) (kt := fun qx => absurd qx (fun q => hb1 ((pk_lEQ (by omega) (by decide)).mp (lg_cmp0.mp q)))) (kf := fun _ => ?_)
      refine s_lload h dX7_greatestDivisor_24 rfl <|
  s_lload h dX7_greatestDivisor_26 rfl <|
  s_lrem h dX7_greatestDivisor_28 (show ¬ lN b = 0 from fun q => hb1 ((pk_lEQ (by omega) (by decide)).mp q)) <|
  s_topl (lN (a % b)) (pk_lRem (by omega) (Nat.pos_of_ne_zero hb1) (by omega)) <|
  s_lstore h dX7_greatestDivisor_29 rfl <|
  s_lload h dX7_greatestDivisor_31 rfl <|
  s_lstore h dX7_greatestDivisor_33 rfl <|
  s_lload h dX7_greatestDivisor_35 rfl <|
  s_lstore h dX7_greatestDivisor_37 rfl <|
  s_iincR h dX7_greatestDivisor_39 rfl rfl ic_1 (nI_1 i) <|
  s_goto (tgt := 9) h dX7_greatestDivisor_42 (by decide) <|
  ?_
      exact SX.loc (ih b (a % b) (i + 1) (Nat.le_of_lt (Nat.mod_lt _ hbp)) (by omega) (gcd_bound hab hbp hm) (by omega) (by rw [← hg, Nat.gcd_comm b, ← Nat.gcd_rec, Nat.gcd_comm])) ⟨rfl, rfl, rfl, rfl, rfl, trivial⟩
theorem c_X7_greatestDivisor {l : Launch} {D : va_G} {N : Nat} {adr : Nat → Nat} {G : Nat → va_E} {a b : Nat} (ha31 : a < 2 ^ 31) (hb31 : b < 2 ^ 31) (hbp : 0 < b) :
    CT l D yX7_greatestDivisor cX7_greatestDivisor 11 (some FieldType.long) (rl 0) [.long (lN a), .long (lN b)] N adr G (PE (some (.long (lN (Nat.gcd a b)))) N adr G) := by
  have hb1 : ¬ b = 0 := by omega
  refine CT.of (by decide +kernel) (Nat.le_of_ble_eq_true rfl) (fun Γ h he => ?_)
  have h : cx l D (rl 0) RX7 cX7_greatestDivisor 11 Γ := h
  show SX Γ 0 0 0 [(0, .long (lN a)), (2, .long (lN b))] [] N adr G
  refine s_lload_n h dX7_greatestDivisor_0 rfl <|
    s_lstore h dX7_greatestDivisor_1 rfl <|
    s_lload_n h dX7_greatestDivisor_3 rfl <|
    s_lstore h dX7_greatestDivisor_4 rfl <|
    s_iconst h dX7_greatestDivisor_6 ic_0 <|
    s_istore h dX7_greatestDivisor_7 rfl <|
    ?_
  refine s_iload h dX7_greatestDivisor_9 rfl <|
    s_sipush h dX7_greatestDivisor_11 sp_1000 <|
    s_icmp_ge (tgt := 45) h dX7_greatestDivisor_14 (by decide) (kt := fun qx => absurd qx (nI_ge (show (0 : Nat) < 1000 from by omega) (by decide))) (kf := fun _ => ?_)
  refine s_lload h dX7_greatestDivisor_17 rfl <|
    s_lconst h dX7_greatestDivisor_19 lc_0 <|
    s_lcmp h dX7_greatestDivisor_20 <|
    s_if_eq (tgt := 45) h dX7_greatestDivisor_21 (by decide) (kt := fun qx => absurd qx (fun q => hb1 ((pk_lEQ (by omega) (by decide)).mp (lg_cmp0.mp q)))) (kf := fun _ => ?_)
  refine s_lload h dX7_greatestDivisor_24 rfl <|
    s_lload h dX7_greatestDivisor_26 rfl <|
    s_lrem h dX7_greatestDivisor_28 (show ¬ lN b = 0 from fun q => hb1 ((pk_lEQ (by omega) (by decide)).mp q)) <|
    s_topl (lN (a % b)) (pk_lRem (by omega) hbp (by omega)) <|
    s_lstore h dX7_greatestDivisor_29 rfl <|
    s_lload h dX7_greatestDivisor_31 rfl <|
    s_lstore h dX7_greatestDivisor_33 rfl <|
    s_lload h dX7_greatestDivisor_35 rfl <|
    s_lstore h dX7_greatestDivisor_37 rfl <|
    s_iincR h dX7_greatestDivisor_39 rfl rfl ic_1 (show (0 : Int32) + 1 = nI 1 from rfl) <|
    s_goto (tgt := 9) h dX7_greatestDivisor_42 (by decide) <|
    ?_
  exact SX.loc (gd_loop (x0 := lN a) (y0 := lN b) h he 62 b (a % b) 1 (Nat.le_of_lt (Nat.mod_lt _ hbp)) hb31 (Nat.lt_of_le_of_lt (Nat.mul_le_mul_left b (Nat.le_of_lt (Nat.mod_lt a hbp))) (by have := Nat.mul_lt_mul_of_lt_of_le hb31 (Nat.le_of_lt hb31) (by decide); omega)) (by omega) (by rw [Nat.gcd_comm b, ← Nat.gcd_rec, Nat.gcd_comm])) ⟨rfl, rfl, rfl, rfl, rfl, trivial⟩
/-- in how many ways of n times, each with t tenths, j are late -/
def Wn (t : Nat) : Nat → Nat → Nat
  | 0, j => if j = 0 then 1 else 0
  | n + 1, j => if j = 0 then Wn t n 0 * (10 - t) else Wn t n j * (10 - t) + Wn t n (j - 1) * t
theorem tn_sub {t : Nat} (h : t ≤ 10) : ((10 : Int32) - nI t).toInt64 = lN (10 - t) := by
  have e : (10 : Int32) - nI t = nI (10 - t) := by
    have : nI (10 - t) + nI t = nI 10 := by rw [nI_add]; congr 1; omega
    rw [show (10 : Int32) = nI 10 from rfl, ← this, Int32.add_sub_cancel]
  rw [e, nI_l (by omega)]
theorem updL_eq (f : Nat → Int64) (k : Nat) (x : Int64) : vp_updL f k x k = x := by simp [vp_updL]
theorem updL_ne (f : Nat → Int64) {k j : Nat} (x : Int64) (h : j ≠ k) : vp_updL f k x j = f j := by simp [vp_updL, h]
theorem c_X5_waysOf {l : Launch} {D : va_G} {N : Nat} {adr : Nat → Nat} {G : Nat → va_E} {k : Nat} {wy : Nat → Int64} (hk1 : k + 1 < N) (hg : G k = .inr (4, [.ref (adr (k + 1))])) (hf : G (k + 1) = aJ D 9 wy) {j : Nat} (hj : j < 9) :
    CT l D yX5_waysOf cX5_waysOf 2 (some FieldType.long) (rl 1) [.ref (adr k), .int (nI j)] N adr G (PE (some (.long (wy j))) N adr G) := by
  refine CT.of (by decide +kernel) (Nat.le_of_ble_eq_true rfl) (fun Γ h he => ?_)
  have h : cx l D (rl 1) RX5 cX5_waysOf 2 Γ := h
  show SX Γ 0 0 0 [(0, .ref (adr k)), (1, .int (nI j))] [] N adr G
  refine s_iload_n h dX5_waysOf_0 rfl <|
    s_iconst h dX5_waysOf_1 ic_0 <|
    s_aload_n h dX5_waysOf_2 rfl <|
    g_X5_9 h dX5_waysOf_3 (by omega) hg <|
    s_alenJ h dX5_waysOf_6 hk1 hf (show Int32.ofNat 9 = 9 from rfl) <|
    s_iconst h dX5_waysOf_7 ic_1 <|
    s_isub h dX5_waysOf_8 <|
    k_X5_15 h (c_X7_within) rfl rfl dX5_waysOf_9 <|
    PE.go <|
    s_if_eq (tgt := 24) h dX5_waysOf_12 (by decide) (kt := fun qx => absurd qx (by rw [show (9 : Int32) - 1 = 8 from by decide, show wb (nI j) 0 8 = true from wn (n := 8) hj (by decide) rfl]; decide)) (kf := fun _ => ?_)
  refine s_aload_n h dX5_waysOf_15 rfl <|
    g_X5_9 h dX5_waysOf_16 (by omega) hg <|
    s_iload_n h dX5_waysOf_19 rfl <|
    s_lald h dX5_waysOf_20 hk1 hf (ix_n hj (by decide)) rfl <|
    s_goto (tgt := 25) h dX5_waysOf_21 (by decide) <|
    s_lret h he dX5_waysOf_25 ⟨Nat.le_refl _, Nat.le_refl _⟩ ?_
  exact PE.is
theorem c_X5_setChances {l : Launch} {D : va_G} {N : Nat} {adr : Nat → Nat} {G : Nat → va_E} {k : Nat} {wy : Nat → Int64} (hk1 : k + 1 < N) (hg : G k = .inr (4, [.ref (adr (k + 1))])) (hf : G (k + 1) = aJ D 9 wy) {T t : Nat} (hT8 : T ≤ 8) (ht : t ≤ 10) :
    CT l D yX5_setChances cX5_setChances 5 (none) (rl 0) [.ref (adr k), .int (nI T), .int (nI t)] N adr G (PR none N adr (fun W => ∃ wz, W (k + 1) = aJ D 9 wz ∧ (∀ j, j < 9 → wz j = lN (Wn t T j)) ∧ ∀ j, j ≠ k + 1 → W j = G j)) := by
  refine CT.of (by decide +kernel) (Nat.le_of_ble_eq_true rfl) (fun Γ h he => ?_)
  have h : cx l D (rl 0) RX5 cX5_setChances 5 Γ := h
  show SX Γ 0 0 0 [(0, .ref (adr k)), (1, .int (nI T)), (2, .int (nI t))] [] N adr G
  refine s_iconst h dX5_setChances_0 ic_0 <|
    s_istore_n h dX5_setChances_1 rfl <|
    ?_
  refine SX.loc (up_ind (n := 9) (Q := fun i => ∀ (V : Nat → va_E) (wz : Nat → Int64), (V (k + 1) = aJ D 9 wz ∧ (∀ j, j < i → wz j = 0) ∧ ∀ j, j ≠ k + 1 → V j = G j) → SX Γ 0 0 2 [(0, .ref (adr k)), (1, .int (nI T)), (2, .int (nI t)), (3, .int (nI i))] [] N adr V) ?_ ?_ 0 (Nat.zero_le _) _ _ ⟨hf, fun j hj => absurd hj (Nat.not_lt_zero j), fun _ _ => rfl⟩) ⟨rfl, rfl, rfl, rfl, trivial⟩
  · intro V wz hH
    show SX _ _ _ _ _ _ _ _ _
    refine s_iload_n h dX5_setChances_2 rfl <|
    s_aload_n h dX5_setChances_3 rfl <|
    g_X5_9 h dX5_setChances_4 (by omega) ((hH.2.2 k (by omega)).trans hg) <|
    s_alenJ h dX5_setChances_7 hk1 hH.1 (show Int32.ofNat 9 = 9 from rfl) <|
    s_icmp_ge (tgt := 24) h dX5_setChances_8 (by decide) (kf := fun qx => absurd (by decide +kernel) qx) (kt := fun _ => ?_)
    refine s_aload_n h dX5_setChances_24 rfl <|
    g_X5_9 h dX5_setChances_25 (by omega) ((hH.2.2 k (by omega)).trans hg) <|
    s_iconst h dX5_setChances_28 ic_0 <|
    s_lconst h dX5_setChances_29 lc_1 <|
    s_last h dX5_setChances_30 hk1 hH.1 (show ix 0 0 9 from ⟨by decide, by decide, by decide⟩) <|
    s_iconst h dX5_setChances_31 ic_0 <|
    s_istore_n h dX5_setChances_32 rfl <|
    ?_
    have hstart : (va_up V (k + 1) (aJ D 9 (vp_updL wz 0 1))) (k + 1) = aJ D 9 (vp_updL wz 0 1) ∧ (∀ j, j < 9 → vp_updL wz 0 1 j = lN (Wn t 0 j)) ∧ ∀ j, j ≠ k + 1 → (va_up V (k + 1) (aJ D 9 (vp_updL wz 0 1))) j = G j := by
      refine ⟨up_eq _ _ _, fun j hj => ?_, fun j hj => (up_ne _ _ hj).trans (hH.2.2 j hj)⟩
      by_cases q : j = 0
      · subst q; rw [updL_eq]; rfl
      · rw [updL_ne _ _ q, hH.2.1 j hj]
        show 0 = lN (if j = 0 then 1 else 0)
        rw [if_neg q]; rfl
    refine SX.loc (up_ind (n := T) (Q := fun i => ∀ (V : Nat → va_E) (wz : Nat → Int64), (V (k + 1) = aJ D 9 wz ∧ (∀ j, j < 9 → wz j = lN (Wn t i j)) ∧ ∀ j, j ≠ k + 1 → V j = G j) → SX Γ 0 0 33 [(0, .ref (adr k)), (1, .int (nI T)), (2, .int (nI t)), (3, .int (nI i))] [] N adr V) ?_ ?_ 0 (Nat.zero_le _) _ _ hstart) ⟨rfl, rfl, rfl, rfl, trivial⟩
    · intro V wz hH
      show SX _ _ _ _ _ _ _ _ _
      refine s_iload_n h dX5_setChances_33 rfl <|
      s_iload_n h dX5_setChances_34 rfl <|
      s_icmp_ge (tgt := 117) h dX5_setChances_35 (by decide) (kf := fun qx => absurd (nI_le (Nat.le_refl T) (by omega)) qx) (kt := fun _ => ?_)
      refine s_vret h he dX5_setChances_117 ⟨Nat.le_refl _, Nat.le_refl _⟩ ?_
      exact PR.is ⟨wz, hH.1, hH.2.1, hH.2.2⟩
    · intro i hi ih V wz hH
      show SX _ _ _ _ _ _ _ _ _
      refine s_iload_n h dX5_setChances_33 rfl <|
      s_iload_n h dX5_setChances_34 rfl <|
      s_icmp_ge (tgt := 117) h dX5_setChances_35 (by decide) (kt := fun qx => absurd qx (nI_ge hi (by omega))) (kf := fun _ => ?_)
      refine s_iload_n h dX5_setChances_38 rfl <|
      s_bipush h dX5_setChances_39 bp_8 <|
      s_icmp_ge (tgt := 117) h dX5_setChances_41 (by decide) (kt := fun qx => absurd qx (nI_ge (show i < 8 from by omega) (by decide))) (kf := fun _ => ?_)
      refine s_aload_n h dX5_setChances_44 rfl <|
      g_X5_9 h dX5_setChances_45 (by omega) ((hH.2.2 k (by omega)).trans hg) <|
      s_alenJ h dX5_setChances_48 hk1 hH.1 (show Int32.ofNat 9 = 9 from rfl) <|
      s_iconst h dX5_setChances_49 ic_1 <|
      s_isub h dX5_setChances_50 <|
      s_istore h dX5_setChances_51 rfl <|
      ?_
      refine SX.loc (dn_ind (n := 8) (Q := fun b => ∀ (U : Nat → va_E) (wu : Nat → Int64), (U (k + 1) = aJ D 9 wu ∧ (∀ j, j < 9 → wu j = if b < j then lN (Wn t (i + 1) j) else lN (Wn t i j)) ∧ ∀ j, j ≠ k + 1 → U j = G j) → SX Γ 0 0 53 [(0, .ref (adr k)), (1, .int (nI T)), (2, .int (nI t)), (3, .int (nI i)), (4, .int (nI b))] [] N adr U) ?_ ?_ 8 (Nat.le_refl _) V wz ⟨hH.1, fun j hj => (hH.2.1 j hj).trans (if_neg (by omega)).symm, hH.2.2⟩) ⟨rfl, rfl, rfl, rfl, rfl, trivial⟩
      · intro U wu hU
        show SX Γ 0 0 53 [(0, .ref (adr k)), (1, .int (nI T)), (2, .int (nI t)), (3, .int (nI i)), (4, .int (nI 0))] [] N adr U
        refine s_iload h dX5_setChances_53 rfl <|
        s_if_le (tgt := 97) h dX5_setChances_55 (by decide) (kf := fun qx => absurd (by decide +kernel) qx) (kt := fun _ => ?_)
        refine s_aload_n h dX5_setChances_97 rfl <|
        g_X5_9 h dX5_setChances_98 (by omega) ((hU.2.2 k (by omega)).trans hg) <|
        s_iconst h dX5_setChances_101 ic_0 <|
        s_dup2 h dX5_setChances_102 rfl rfl <|
        s_lald h dX5_setChances_103 hk1 hU.1 (show ix 0 0 9 from ⟨by decide, by decide, by decide⟩) (hU.2.1 0 (by decide)) <|
        s_bipush h dX5_setChances_104 bp_10 <|
        s_iload_n h dX5_setChances_106 rfl <|
        s_isub h dX5_setChances_107 <|
        s_i2l h dX5_setChances_108 <|
        s_lmul h dX5_setChances_109 <|
        s_topl (lN (Wn t (i + 1) 0)) (by rw [if_neg (by decide), tn_sub ht, lN_mul]; rfl) <|
        s_last h dX5_setChances_110 hk1 hU.1 (show ix 0 0 9 from ⟨by decide, by decide, by decide⟩) <|
        s_iincR h dX5_setChances_111 rfl rfl ic_1 (nI_1 i) <|
        s_goto (tgt := 33) h dX5_setChances_114 (by decide) <|
        ?_
        refine SX.loc (ih _ (vp_updL wu 0 (lN (Wn t (i + 1) 0))) ⟨up_eq _ _ _, fun j hj => ?_, fun j hj => (up_ne _ _ hj).trans (hU.2.2 j hj)⟩) ⟨rfl, rfl, rfl, rfl, trivial⟩
        by_cases q : j = 0
        · subst q; rw [updL_eq]
        · rw [updL_ne _ _ q, hU.2.1 j hj, if_pos (by omega)]
      · intro b hb8 jh U wu hU
        show SX Γ 0 0 53 [(0, .ref (adr k)), (1, .int (nI T)), (2, .int (nI t)), (3, .int (nI i)), (4, .int (nI (b + 1)))] [] N adr U
        refine s_iload h dX5_setChances_53 rfl <|
        s_if_le (tgt := 97) h dX5_setChances_55 (by decide) (kt := fun qx => absurd qx (nI_nle (by omega) (by omega))) (kf := fun _ => ?_)
        refine s_aload_n h dX5_setChances_58 rfl <|
        g_X5_9 h dX5_setChances_59 (by omega) ((hU.2.2 k (by omega)).trans hg) <|
        s_iload h dX5_setChances_62 rfl <|
        s_aload_n h dX5_setChances_64 rfl <|
        g_X5_9 h dX5_setChances_65 (by omega) ((hU.2.2 k (by omega)).trans hg) <|
        s_iload h dX5_setChances_68 rfl <|
        s_lald h dX5_setChances_70 hk1 hU.1 (ix_n (show b + 1 < 9 from by omega) (by decide)) (hU.2.1 (b + 1) (by omega)) <|
        s_bipush h dX5_setChances_71 bp_10 <|
        s_iload_n h dX5_setChances_73 rfl <|
        s_isub h dX5_setChances_74 <|
        s_i2l h dX5_setChances_75 <|
        s_lmul h dX5_setChances_76 <|
        s_aload_n h dX5_setChances_77 rfl <|
        g_X5_9 h dX5_setChances_78 (by omega) ((hU.2.2 k (by omega)).trans hg) <|
        s_iload h dX5_setChances_81 rfl <|
        s_iconst h dX5_setChances_83 ic_1 <|
        s_isub h dX5_setChances_84 <|
        s_topi (nI b) (nI_pred b) <|
        s_lald h dX5_setChances_85 hk1 hU.1 (ix_n (show b < 9 from by omega) (by decide)) (hU.2.1 b (by omega)) <|
        s_iload_n h dX5_setChances_86 rfl <|
        s_i2l h dX5_setChances_87 <|
        s_lmul h dX5_setChances_88 <|
        s_ladd h dX5_setChances_89 <|
        s_topl (lN (Wn t (i + 1) (b + 1))) (by rw [if_neg (by omega), if_neg (by omega), tn_sub ht, nI_l (by omega), lN_mul, lN_mul, lN_add]; rfl) <|
        s_last h dX5_setChances_90 hk1 hU.1 (ix_n (show b + 1 < 9 from by omega) (by decide)) <|
        s_iincR h dX5_setChances_91 rfl rfl ic_m1 (dv_s (b + 1)) <|
        s_goto (tgt := 53) h dX5_setChances_94 (by decide) <|
        ?_
        refine SX.loc (jh _ (vp_updL wu (b + 1) (lN (Wn t (i + 1) (b + 1)))) ⟨up_eq _ _ _, fun j hj => ?_, fun j hj => (up_ne _ _ hj).trans (hU.2.2 j hj)⟩) ⟨rfl, rfl, rfl, rfl, rfl, trivial⟩
        by_cases q : j = b + 1
        · subst q; rw [updL_eq, if_pos (by omega)]
        · rw [updL_ne _ _ q, hU.2.1 j hj]
          by_cases q2 : b + 1 < j
          · rw [if_pos q2, if_pos (by omega)]
          · rw [if_neg q2, if_neg (by omega)]
  · intro i hi ih V wz hH
    show SX _ _ _ _ _ _ _ _ _
    refine s_iload_n h dX5_setChances_2 rfl <|
    s_aload_n h dX5_setChances_3 rfl <|
    g_X5_9 h dX5_setChances_4 (by omega) ((hH.2.2 k (by omega)).trans hg) <|
    s_alenJ h dX5_setChances_7 hk1 hH.1 (show Int32.ofNat 9 = 9 from rfl) <|
    s_icmp_ge (tgt := 24) h dX5_setChances_8 (by decide) (kt := fun qx => absurd qx (nI_ge hi (by decide))) (kf := fun _ => ?_)
    refine s_aload_n h dX5_setChances_11 rfl <|
    g_X5_9 h dX5_setChances_12 (by omega) ((hH.2.2 k (by omega)).trans hg) <|
    s_iload_n h dX5_setChances_15 rfl <|
    s_lconst h dX5_setChances_16 lc_0 <|
    s_last h dX5_setChances_17 hk1 hH.1 (ix_n hi (by decide)) <|
    s_iincR h dX5_setChances_18 rfl rfl ic_1 (nI_1 i) <|
    s_goto (tgt := 2) h dX5_setChances_21 (by decide) <|
    ?_
    refine SX.loc (ih _ (vp_updL wz i 0) ⟨up_eq _ _ _, fun j hj => ?_, fun j hj => (up_ne _ _ hj).trans (hH.2.2 j hj)⟩) ⟨rfl, rfl, rfl, rfl, trivial⟩
    by_cases q : j = i
    · subst q; rw [updL_eq]
    · rw [updL_ne _ _ q]; exact hH.2.1 j (by omega)
