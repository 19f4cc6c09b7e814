theorem lN_n0 {b : Nat} (h : 0 < b) (h2 : b < 2 ^ 63) : ¬ lN b = 0 := fun q => by
  have := (pk_lEQ h2 (by decide)).mp (q.trans l0)
  omega
theorem lw_loop {l : Launch} {D : va_G} {N : Nat} {adr : Nat → Nat} {G : Nat → va_E} {Γ : GT} {u o : Nat} {pt : Int32} {g : Nat} (hu : u < 2 ^ 31) (ho : o < 2 ^ 31) (hg0 : 0 < g) (hg1 : g < 2 ^ 31) (h : cx l D (rl 0) RX8 cX8_lowest 11 Γ) (he : ex yX8_lowest.name (some .long) (PE (some (.long (lN ((if pt = 0 then u else o) / g)))) N adr G) (rl 0).cells (rl 0).slots Γ) :
    ∀ (m b c : Nat), b ≤ m → b < 2 ^ 31 → c < 2 ^ 31 → Nat.gcd c b = g → SX Γ 0 0 6 [(0, .long (lN u)), (2, .long (lN o)), (4, .int pt), (5, .long (lN c)), (7, .long (lN b))] [] N adr G := by
  intro m
  induction m with
  | zero =>
    intro b c hbm hb hc hg
    have hb0 : b = 0 := by omega
    subst hb0
    have hcg : c = g := by rw [← hg]; simp
    subst hcg
    refine s_lload h dX8_lowest_6 rfl <|
      s_lconst h dX8_lowest_8 lc_0 <|
      s_lcmp h dX8_lowest_9 <|
      s_if_eq (tgt := 31) h dX8_lowest_10 (by decide) (kf := fun qx => absurd (lg_cmp0.mpr rfl) qx) (kt := fun _ => ?_)
    refine s_iload h dX8_lowest_31 rfl <|
      s_if_ne (tgt := 43) h dX8_lowest_33 (by decide) (fun c33 => ?_) (fun c33 => ?_)
    · refine s_lload_n h dX8_lowest_43 rfl <|
        s_lload h dX8_lowest_44 rfl <|
        s_ldiv h dX8_lowest_46 (lN_n0 hg0 (by omega)) <|
        s_lret h he dX8_lowest_47 ⟨Nat.le_refl _, Nat.le_refl _⟩ ?_
      first
        | (have q : pt = 0 := c33; exact PE.eq (by rw [if_pos q, pk_lDiv (by omega) hg0 (by omega)]) rfl)
        | (have q : ¬ pt = 0 := c33; exact PE.eq (by rw [if_neg q, pk_lDiv (by omega) hg0 (by omega)]) rfl)
    · refine s_lload_n h dX8_lowest_36 rfl <|
        s_lload h dX8_lowest_37 rfl <|
        s_ldiv h dX8_lowest_39 (lN_n0 hg0 (by omega)) <|
        s_goto (tgt := 47) h dX8_lowest_40 (by decide) <|
        s_lret h he dX8_lowest_47 ⟨Nat.le_refl _, Nat.le_refl _⟩ ?_
      first
        | (have q : pt = 0 := c33; exact PE.eq (by rw [if_pos q, pk_lDiv (by omega) hg0 (by omega)]) rfl)
        | (have q : ¬ pt = 0 := c33; exact PE.eq (by rw [if_neg q, pk_lDiv (by omega) hg0 (by omega)]) rfl)
  | succ m ih =>
    intro b c hbm hb hc hg
    by_cases hb0 : b = 0
    · subst hb0
      have hcg : c = g := by rw [← hg]; simp
      subst hcg
      refine s_lload h dX8_lowest_6 rfl <|
        s_lconst h dX8_lowest_8 lc_0 <|
        s_lcmp h dX8_lowest_9 <|
        s_if_eq (tgt := 31) h dX8_lowest_10 (by decide) (kf := fun qx => absurd (lg_cmp0.mpr rfl) qx) (kt := fun _ => ?_)
      refine s_iload h dX8_lowest_31 rfl <|
        s_if_ne (tgt := 43) h dX8_lowest_33 (by decide) (fun c33 => ?_) (fun c33 => ?_)
      · refine s_lload_n h dX8_lowest_43 rfl <|
          s_lload h dX8_lowest_44 rfl <|
          s_ldiv h dX8_lowest_46 (lN_n0 hg0 (by omega)) <|
          s_lret h he dX8_lowest_47 ⟨Nat.le_refl _, Nat.le_refl _⟩ ?_
        first
          | (have q : pt = 0 := c33; exact PE.eq (by rw [if_pos q, pk_lDiv (by omega) hg0 (by omega)]) rfl)
          | (have q : ¬ pt = 0 := c33; exact PE.eq (by rw [if_neg q, pk_lDiv (by omega) hg0 (by omega)]) rfl)
      · refine s_lload_n h dX8_lowest_36 rfl <|
          s_lload h dX8_lowest_37 rfl <|
          s_ldiv h dX8_lowest_39 (lN_n0 hg0 (by omega)) <|
          s_goto (tgt := 47) h dX8_lowest_40 (by decide) <|
          s_lret h he dX8_lowest_47 ⟨Nat.le_refl _, Nat.le_refl _⟩ ?_
        first
          | (have q : pt = 0 := c33; exact PE.eq (by rw [if_pos q, pk_lDiv (by omega) hg0 (by omega)]) rfl)
          | (have q : ¬ pt = 0 := c33; exact PE.eq (by rw [if_neg q, pk_lDiv (by omega) hg0 (by omega)]) rfl)
    · have hbp : 0 < b := Nat.pos_of_ne_zero hb0
      refine s_lload h dX8_lowest_6 rfl <|
        s_lconst h dX8_lowest_8 lc_0 <|
        s_lcmp h dX8_lowest_9 <|
        s_if_eq (tgt := 31) h dX8_lowest_10 (by decide) (kt := fun qx => absurd qx (fun q => lN_n0 hbp (by omega) (lg_cmp0.mp q))) (kf := fun _ => ?_)
      refine s_lload h dX8_lowest_13 rfl <|
        s_lload h dX8_lowest_15 rfl <|
        s_lrem h dX8_lowest_17 (lN_n0 hbp (by omega)) <|
        s_topl (lN (c % b)) (pk_lRem (by omega) hbp (by omega)) <|
        s_lstore h dX8_lowest_18 rfl <|
        s_lload h dX8_lowest_20 rfl <|
        s_lstore h dX8_lowest_22 rfl <|
        s_lload h dX8_lowest_24 rfl <|
        s_lstore h dX8_lowest_26 rfl <|
        s_goto (tgt := 6) h dX8_lowest_28 (by decide) <|
        ?_
      have hl := Nat.mod_lt c hbp
      exact SX.loc (ih (c % b) b (by omega) (by omega) hb (by rw [← hg, Nat.gcd_comm b, ← Nat.gcd_rec, Nat.gcd_comm])) ⟨rfl, rfl, rfl, rfl, rfl, trivial⟩
theorem c_X8_lowest {l : Launch} {D : va_G} {N : Nat} {adr : Nat → Nat} {G : Nat → va_E} {u o : Nat} (hu : u < 2 ^ 31) (ho : o < 2 ^ 31) (hop : 0 < o) {pt : Int32} :
    CT l D yX8_lowest cX8_lowest 11 (some FieldType.long) (rl 0) [.long (lN u), .long (lN o), .int pt] N adr G (PE (some (.long (lN ((if pt = 0 then u else o) / Nat.gcd u o)))) N adr G) := by
  have hgp : 0 < Nat.gcd u o := Nat.gcd_pos_of_pos_right u hop
  have hgl : Nat.gcd u o < 2 ^ 31 := Nat.lt_of_le_of_lt (Nat.le_of_dvd hop (Nat.gcd_dvd_right u o)) ho
  refine CT.of (by decide +kernel) (Nat.le_of_ble_eq_true rfl) (fun Γ h he => ?_)
  have h : cx l D (rl 0) RX8 cX8_lowest 11 Γ := h
  show SX Γ 0 0 0 [(0, .long (lN u)), (2, .long (lN o)), (4, .int pt)] [] N adr G
  refine s_lload_n h dX8_lowest_0 rfl <|
    s_lstore h dX8_lowest_1 rfl <|
    s_lload_n h dX8_lowest_3 rfl <|
    s_lstore h dX8_lowest_4 rfl <|
    ?_
  exact SX.loc (lw_loop hu ho hgp hgl h he u u o (Nat.le_refl u) hu ho (Nat.gcd_comm o u)) ⟨rfl, rfl, rfl, rfl, rfl, trivial⟩
theorem and256 : ∀ x, x < 256 → nI x &&& 1023 = nI x := by decide +kernel
theorem pw256 : ∀ k, k < 9 → 2 ^ k ≤ 256 := by decide
/-- what the set mk of k times weighs -/
def wtN (t mk : Nat) (n : Nat) : Nat := fN (fun i x => if Nat.testBit mk i then x * t else x * (10 - t)) 1 n
theorem wtN_s (t mk n : Nat) : wtN t mk (n + 1) = if Nat.testBit mk n then wtN t mk n * t else wtN t mk n * (10 - t) := rfl
theorem tb256 : ∀ m, m < 256 → ∀ i, i < 8 → decide (nI m >>> (nI i &&& 31) &&& 1 = 1) = Nat.testBit m i := by decide +kernel
theorem sh1 : ∀ k, k < 9 → (1 : Int32) <<< (nI k &&& 31) = nI (2 ^ k) := by decide +kernel
def kMt (sc : Nat → Nat → Int32) (c m st : Int32) (mk : Nat) : Int32 := kW (sCol sc c m) (sCol sc (c + st) (m + bC (nI mk)))
def uM (sc : Nat → Nat → Int32) (c m st kd : Int32) (t k n : Nat) : Nat := fN (fun mk x => if kMt sc c m st mk = kd then x + wtN t mk k else x) 0 n
theorem uM_s (sc : Nat → Nat → Int32) (c m st kd : Int32) (t k n : Nat) : uM sc c m st kd t k (n + 1) = if kMt sc c m st n = kd then uM sc c m st kd t k n + wtN t n k else uM sc c m st kd t k n := rfl
def aM (t k n : Nat) : Nat := fN (fun mk x => x + wtN t mk k) 0 n
theorem aM_s (t k n : Nat) : aM t k (n + 1) = aM t k n + wtN t n k := rfl
theorem aM_all : ∀ k, k < 9 → ∀ t, t < 11 → aM t k (2 ^ k) = 10 ^ k := by decide +kernel
theorem uM_le (sc : Nat → Nat → Int32) (c m st kd : Int32) (t k : Nat) : ∀ n, uM sc c m st kd t k n ≤ aM t k n
  | 0 => Nat.le_refl _
  | n + 1 => by
    rw [uM_s, aM_s]
    have := uM_le sc c m st kd t k n
    split <;> omega
def laM2 (sc : Nat → Nat → Int32) (c m st k t kd pt : Int32) : Int64 := if laOk c m st k t kd pt then lN ((if pt = 0 then uM sc c m st kd t.toNatClampNeg k.toNatClampNeg (2 ^ k.toNatClampNeg) else 10 ^ k.toNatClampNeg) / Nat.gcd (uM sc c m st kd t.toNatClampNeg k.toNatClampNeg (2 ^ k.toNatClampNeg)) (10 ^ k.toNatClampNeg)) else -1000000000000000002
theorem laM2_0 {sc : Nat → Nat → Int32} {c m st k t kd pt : Int32} (h : laOk c m st k t kd pt = false) : laM2 sc c m st k t kd pt = -1000000000000000002 := if_neg (fun z => Bool.false_ne_true (h.symm.trans z))
theorem laM2_1 {sc : Nat → Nat → Int32} {c m st k t kd pt : Int32} {kk tt : Nat} (h : laOk c m st k t kd pt = true) (hk : k.toNatClampNeg = kk) (ht : t.toNatClampNeg = tt) : laM2 sc c m st k t kd pt = lN ((if pt = 0 then uM sc c m st kd tt kk (2 ^ kk) else 10 ^ kk) / Nat.gcd (uM sc c m st kd tt kk (2 ^ kk)) (10 ^ kk)) := by
  unfold laM2; rw [if_pos h, hk, ht]
theorem c_X8_late {l : Launch} {D : va_G} {N : Nat} {adr : Nat → Nat} {G : Nat → va_E} {G0 : Nat → va_E} {f : Nat → Int32} {a : Nat → Nat → Int32} (hN : 115 ≤ N) (hM : isMF D adr G0 G f a) (hwf : wfT (mS f a)) {c m st k t kd pt : Int32} :
    CT l D yX8_late cX8_late 16 (some FieldType.long) (rl 4) [.ref (adr 103), .int c, .int m, .int st, .int k, .int t, .int kd, .int pt] N adr G (PE (some (.long (laM2 (mS f a) c m st k t kd pt))) N adr G) := by
  refine CT.of (by decide +kernel) (Nat.le_of_ble_eq_true rfl) (fun Γ h he => ?_)
  have h : cx l D (rl 4) RX8 cX8_late 16 Γ := h
  show SX Γ 0 0 0 [(0, .ref (adr 103)), (1, .int c), (2, .int m), (3, .int st), (4, .int k), (5, .int t), (6, .int kd), (7, .int pt)] [] N adr G
  refine s_iload_n h dX8_late_0 rfl <|
    k_X8_68 h (c_X8_isHundred) rfl rfl dX8_late_1 <|
    PE.go <|
    s_if_eq (tgt := 76) h dX8_late_4 (by decide) (fun c4 => ?_) (fun c4 => ?_)
  · (try have e4 := bI_1 c4)
    (try have e4 := bI_0 c4)
    (try have e11 := bI_1 c11)
    (try have e11 := bI_0 c11)
    (try have e23 := bI_1 c23)
    (try have e23 := bI_0 c23)
    (try have e36 := bI_1 c36)
    (try have e36 := bI_0 c36)
    (try have e49 := bI_1 c49)
    (try have e49 := bI_0 c49)
    (try have e62 := bI_1 c62)
    (try have e62 := bI_0 c62)
    (try have e73 := bI_1 c73)
    (try have e73 := bI_0 c73)
    
    refine s_ldc2 h dX8_late_76 tw867 <|
      s_lret h he dX8_late_79 ⟨Nat.le_refl _, Nat.le_refl _⟩ ?_
    exact PE.eq (by rw [laM2_0 (by simp [laOk, *])]) rfl
  · refine s_iload_n h dX8_late_7 rfl <|
      k_X8_68 h (c_X8_isHundred) rfl rfl dX8_late_8 <|
      PE.go <|
      s_if_eq (tgt := 76) h dX8_late_11 (by decide) (fun c11 => ?_) (fun c11 => ?_)
    · (try have e4 := bI_1 c4)
      (try have e4 := bI_0 c4)
      (try have e11 := bI_1 c11)
      (try have e11 := bI_0 c11)
      (try have e23 := bI_1 c23)
      (try have e23 := bI_0 c23)
      (try have e36 := bI_1 c36)
      (try have e36 := bI_0 c36)
      (try have e49 := bI_1 c49)
      (try have e49 := bI_0 c49)
      (try have e62 := bI_1 c62)
      (try have e62 := bI_0 c62)
      (try have e73 := bI_1 c73)
      (try have e73 := bI_0 c73)
      
      refine s_ldc2 h dX8_late_76 tw867 <|
        s_lret h he dX8_late_79 ⟨Nat.le_refl _, Nat.le_refl _⟩ ?_
      exact PE.eq (by rw [laM2_0 (by simp [laOk, *])]) rfl
    · refine s_iload_n h dX8_late_14 rfl <|
        s_i2l h dX8_late_15 <|
        s_lconst h dX8_late_16 lc_1 <|
        s_ldc2 h dX8_late_17 tw723 <|
        k_X8_50 h (c_X8_inw (a := 1) (b := 40) (by decide) (by decide)) rfl rfl dX8_late_20 <|
        PE.go <|
        s_if_eq (tgt := 76) h dX8_late_23 (by decide) (fun c23 => ?_) (fun c23 => ?_)
      · (try have e4 := bI_1 c4)
        (try have e4 := bI_0 c4)
        (try have e11 := bI_1 c11)
        (try have e11 := bI_0 c11)
        (try have e23 := bI_1 c23)
        (try have e23 := bI_0 c23)
        (try have e36 := bI_1 c36)
        (try have e36 := bI_0 c36)
        (try have e49 := bI_1 c49)
        (try have e49 := bI_0 c49)
        (try have e62 := bI_1 c62)
        (try have e62 := bI_0 c62)
        (try have e73 := bI_1 c73)
        (try have e73 := bI_0 c73)
        
        refine s_ldc2 h dX8_late_76 tw867 <|
          s_lret h he dX8_late_79 ⟨Nat.le_refl _, Nat.le_refl _⟩ ?_
        exact PE.eq (by rw [laM2_0 (by simp [laOk, *])]) rfl
      · refine s_iload h dX8_late_26 rfl <|
          s_i2l h dX8_late_28 <|
          s_lconst h dX8_late_29 lc_0 <|
          s_ldc2 h dX8_late_30 tw865 <|
          k_X8_50 h (c_X8_inw (a := 0) (b := 8) (by decide) (by decide)) rfl rfl dX8_late_33 <|
          PE.go <|
          s_if_eq (tgt := 76) h dX8_late_36 (by decide) (fun c36 => ?_) (fun c36 => ?_)
        · (try have e4 := bI_1 c4)
          (try have e4 := bI_0 c4)
          (try have e11 := bI_1 c11)
          (try have e11 := bI_0 c11)
          (try have e23 := bI_1 c23)
          (try have e23 := bI_0 c23)
          (try have e36 := bI_1 c36)
          (try have e36 := bI_0 c36)
          (try have e49 := bI_1 c49)
          (try have e49 := bI_0 c49)
          (try have e62 := bI_1 c62)
          (try have e62 := bI_0 c62)
          (try have e73 := bI_1 c73)
          (try have e73 := bI_0 c73)
          
          refine s_ldc2 h dX8_late_76 tw867 <|
            s_lret h he dX8_late_79 ⟨Nat.le_refl _, Nat.le_refl _⟩ ?_
          exact PE.eq (by rw [laM2_0 (by simp [laOk, *])]) rfl
        · refine s_iload h dX8_late_39 rfl <|
            s_i2l h dX8_late_41 <|
            s_lconst h dX8_late_42 lc_0 <|
            s_ldc2 h dX8_late_43 tw866 <|
            k_X8_50 h (c_X8_inw (a := 0) (b := 10) (by decide) (by decide)) rfl rfl dX8_late_46 <|
            PE.go <|
            s_if_eq (tgt := 76) h dX8_late_49 (by decide) (fun c49 => ?_) (fun c49 => ?_)
          · (try have e4 := bI_1 c4)
            (try have e4 := bI_0 c4)
            (try have e11 := bI_1 c11)
            (try have e11 := bI_0 c11)
            (try have e23 := bI_1 c23)
            (try have e23 := bI_0 c23)
            (try have e36 := bI_1 c36)
            (try have e36 := bI_0 c36)
            (try have e49 := bI_1 c49)
            (try have e49 := bI_0 c49)
            (try have e62 := bI_1 c62)
            (try have e62 := bI_0 c62)
            (try have e73 := bI_1 c73)
            (try have e73 := bI_0 c73)
            
            refine s_ldc2 h dX8_late_76 tw867 <|
              s_lret h he dX8_late_79 ⟨Nat.le_refl _, Nat.le_refl _⟩ ?_
            exact PE.eq (by rw [laM2_0 (by simp [laOk, *])]) rfl
          · refine s_iload h dX8_late_52 rfl <|
              s_i2l h dX8_late_54 <|
              s_lconst h dX8_late_55 lc_0 <|
              s_ldc2 h dX8_late_56 tw767 <|
              k_X8_50 h (c_X8_inw (a := 0) (b := 3) (by decide) (by decide)) rfl rfl dX8_late_59 <|
              PE.go <|
              s_if_eq (tgt := 76) h dX8_late_62 (by decide) (fun c62 => ?_) (fun c62 => ?_)
            · (try have e4 := bI_1 c4)
              (try have e4 := bI_0 c4)
              (try have e11 := bI_1 c11)
              (try have e11 := bI_0 c11)
              (try have e23 := bI_1 c23)
              (try have e23 := bI_0 c23)
              (try have e36 := bI_1 c36)
              (try have e36 := bI_0 c36)
              (try have e49 := bI_1 c49)
              (try have e49 := bI_0 c49)
              (try have e62 := bI_1 c62)
              (try have e62 := bI_0 c62)
              (try have e73 := bI_1 c73)
              (try have e73 := bI_0 c73)
              
              refine s_ldc2 h dX8_late_76 tw867 <|
                s_lret h he dX8_late_79 ⟨Nat.le_refl _, Nat.le_refl _⟩ ?_
              exact PE.eq (by rw [laM2_0 (by simp [laOk, *])]) rfl
            · refine s_iload h dX8_late_65 rfl <|
                s_i2l h dX8_late_67 <|
                s_lconst h dX8_late_68 lc_0 <|
                s_lconst h dX8_late_69 lc_1 <|
                k_X8_50 h (c_X8_inw (a := 0) (b := 1) (by decide) (by decide)) rfl rfl dX8_late_70 <|
                PE.go <|
                s_if_ne (tgt := 80) h dX8_late_73 (by decide) (fun c73 => ?_) (fun c73 => ?_)
              · (try have e4 := bI_1 c4)
                (try have e4 := bI_0 c4)
                (try have e11 := bI_1 c11)
                (try have e11 := bI_0 c11)
                (try have e23 := bI_1 c23)
                (try have e23 := bI_0 c23)
                (try have e36 := bI_1 c36)
                (try have e36 := bI_0 c36)
                (try have e49 := bI_1 c49)
                (try have e49 := bI_0 c49)
                (try have e62 := bI_1 c62)
                (try have e62 := bI_0 c62)
                (try have e73 := bI_1 c73)
                (try have e73 := bI_0 c73)
                have hok : laOk c m st k t kd pt = true := by simp [laOk, *]
                have hixk := wb_ix (n := 8) (by decide) rfl e36
                have hixt := wb_ix (n := 10) (by decide) rfl e49
                obtain ⟨kk, hkk⟩ : ∃ kk, k.toNatClampNeg = kk := ⟨_, rfl⟩
                obtain ⟨tt, htt⟩ : ∃ tt, t.toNatClampNeg = tt := ⟨_, rfl⟩
                have hke := ix_eq hixk
                have hte := ix_eq hixt
                rw [hkk] at hke hixk
                rw [htt] at hte hixt
                have hk9 : kk < 9 := hixk.2.2
                have ht11 : tt < 11 := hixt.2.2
                subst hke
                subst hte
                have hp2 := pw256 kk hk9
                have hp10 := pow8 kk hk9
                have hpp := hp10.2
                have hul := uM_le (mS f a) c m st kd tt kk (2 ^ kk)
                rw [aM_all kk hk9 tt ht11] at hul
                refine s_lconst h dX8_late_80 lc_0 <|
                  s_lstore h dX8_late_81 rfl <|
                  s_lconst h dX8_late_83 lc_0 <|
                  s_lstore h dX8_late_84 rfl <|
                  s_iconst h dX8_late_86 ic_0 <|
                  s_istore h dX8_late_87 rfl <|
                  ?_
                refine SX.loc (up_ind (n := (2 ^ kk)) (Q := fun q => SX Γ 0 0 89 [(0, .ref (adr 103)), (1, .int c), (2, .int m), (3, .int st), (4, .int (nI kk)), (5, .int (nI tt)), (6, .int kd), (7, .int pt), (8, .long (lN (uM (mS f a) c m st kd tt kk q))), (10, .long (lN (aM tt kk q))), (12, .int (nI q))] [] N adr G) ?_ ?_ 0 (Nat.zero_le _)) ⟨rfl, rfl, rfl, rfl, rfl, rfl, rfl, rfl, rfl, rfl, rfl, trivial⟩
                · show SX _ _ _ _ _ _ _ _ _
                  refine s_iload h dX8_late_89 rfl <|
                  s_iconst h dX8_late_91 ic_1 <|
                  s_iload h dX8_late_92 rfl <|
                  s_ishl h dX8_late_94 <|
                  s_topi (nI (2 ^ kk)) (sh1 kk hk9) <|
                  s_icmp_ge (tgt := 186) h dX8_late_95 (by decide) (kf := fun qx => absurd (nI_le (Nat.le_refl (2 ^ kk)) (by omega)) qx) (kt := fun _ => ?_)
                  refine s_lload h dX8_late_186 rfl <|
                  s_lload h dX8_late_188 rfl <|
                  s_iload h dX8_late_190 rfl <|
                  ?_
                  rw [aM_all kk hk9 tt ht11]
                  refine k_X8_186 h (c_X8_lowest (by omega) (by omega) hpp) rfl rfl dX8_late_192 <|
                  PE.go <|
                  s_lret h he dX8_late_195 ⟨Nat.le_refl _, Nat.le_refl _⟩ ?_
                  exact PE.eq (by rw [laM2_1 hok hkk htt]) rfl
                · intro q hq jh 
                  show SX _ _ _ _ _ _ _ _ _
                  have hq256 : q < 256 := by omega
                  refine s_iload h dX8_late_89 rfl <|
                  s_iconst h dX8_late_91 ic_1 <|
                  s_iload h dX8_late_92 rfl <|
                  s_ishl h dX8_late_94 <|
                  s_topi (nI (2 ^ kk)) (sh1 kk hk9) <|
                  s_icmp_ge (tgt := 186) h dX8_late_95 (by decide) (kt := fun qx => absurd qx (nI_ge hq (by omega))) (kf := fun _ => ?_)
                  refine s_lconst h dX8_late_98 lc_1 <|
                  s_lstore h dX8_late_99 rfl <|
                  s_iconst h dX8_late_101 ic_0 <|
                  s_istore h dX8_late_102 rfl <|
                  ?_
                  refine SX.loc (up_ind (n := kk) (Q := fun i => SX Γ 0 0 104 [(0, .ref (adr 103)), (1, .int c), (2, .int m), (3, .int st), (4, .int (nI kk)), (5, .int (nI tt)), (6, .int kd), (7, .int pt), (8, .long (lN (uM (mS f a) c m st kd tt kk q))), (10, .long (lN (aM tt kk q))), (12, .int (nI q)), (13, .long (lN (wtN tt q i))), (15, .int (nI i))] [] N adr G) ?_ ?_ 0 (Nat.zero_le _)) ⟨rfl, rfl, rfl, rfl, rfl, rfl, rfl, rfl, rfl, rfl, rfl, rfl, rfl, trivial⟩
                  · show SX _ _ _ _ _ _ _ _ _
                    refine s_iload h dX8_late_104 rfl <|
                    s_iload h dX8_late_106 rfl <|
                    s_icmp_ge (tgt := 145) h dX8_late_108 (by decide) (kf := fun qx => absurd (nI_le (Nat.le_refl kk) (by omega)) qx) (kt := fun _ => ?_)
                    refine s_lload h dX8_late_145 rfl <|
                    s_lload h dX8_late_147 rfl <|
                    s_ladd h dX8_late_149 <|
                    s_topl (lN (aM tt kk (q + 1))) (by rw [lN_add]; rfl) <|
                    s_lstore h dX8_late_150 rfl <|
                    s_lload h dX8_late_152 rfl <|
                    s_aload_n h dX8_late_154 rfl <|
                    s_iload_n h dX8_late_155 rfl <|
                    s_iload_n h dX8_late_156 rfl <|
                    s_iload_n h dX8_late_157 rfl <|
                    s_iload h dX8_late_158 rfl <|
                    k_X8_75 h (c_X8_onesM (and256 q hq256)) rfl rfl dX8_late_160 <|
                    PE.go <|
                    k_X8_182 h (c_X8_lateKind hN hM hwf) (by omega) hM.o rfl rfl dX8_late_163 <|
                    PE.go <|
                    s_iload h dX8_late_166 rfl <|
                    s_icmp_ne (tgt := 176) h dX8_late_168 (by decide) (fun c168 => ?_) (fun c168 => ?_)
                    · refine s_lconst h dX8_late_176 lc_0 <|
                      s_ladd h dX8_late_177 <|
                      s_topl (lN (uM (mS f a) c m st kd tt kk (q + 1))) (by
                        rw [uM_s]
                        first
                          | (have y : kMt (mS f a) c m st q = kd := c168; rw [if_pos y, lN_add])
                          | (have y : ¬ kMt (mS f a) c m st q = kd := c168; rw [if_neg y, show (0 : Int64) = lN 0 from rfl, lN_add, Nat.add_zero])) <|
                      s_lstore h dX8_late_178 rfl <|
                      s_iincR h dX8_late_180 rfl rfl ic_1 (nI_1 q) <|
                      s_goto (tgt := 89) h dX8_late_183 (by decide) <|
                      ?_
                      exact SX.loc (jh) ⟨rfl, rfl, rfl, rfl, rfl, rfl, rfl, rfl, rfl, rfl, rfl, trivial⟩
                    · refine s_lload h dX8_late_171 rfl <|
                      s_goto (tgt := 177) h dX8_late_173 (by decide) <|
                      s_ladd h dX8_late_177 <|
                      s_topl (lN (uM (mS f a) c m st kd tt kk (q + 1))) (by
                        rw [uM_s]
                        first
                          | (have y : kMt (mS f a) c m st q = kd := c168; rw [if_pos y, lN_add])
                          | (have y : ¬ kMt (mS f a) c m st q = kd := c168; rw [if_neg y, show (0 : Int64) = lN 0 from rfl, lN_add, Nat.add_zero])) <|
                      s_lstore h dX8_late_178 rfl <|
                      s_iincR h dX8_late_180 rfl rfl ic_1 (nI_1 q) <|
                      s_goto (tgt := 89) h dX8_late_183 (by decide) <|
                      ?_
                      exact SX.loc (jh) ⟨rfl, rfl, rfl, rfl, rfl, rfl, rfl, rfl, rfl, rfl, rfl, trivial⟩
                  · intro i hi ih 
                    show SX _ _ _ _ _ _ _ _ _
                    refine s_iload h dX8_late_104 rfl <|
                    s_iload h dX8_late_106 rfl <|
                    s_icmp_ge (tgt := 145) h dX8_late_108 (by decide) (kt := fun qx => absurd qx (nI_ge hi (by omega))) (kf := fun _ => ?_)
                    refine s_lload h dX8_late_111 rfl <|
                    s_iload h dX8_late_113 rfl <|
                    s_iload h dX8_late_115 rfl <|
                    s_ishr h dX8_late_117 <|
                    s_iconst h dX8_late_118 ic_1 <|
                    s_iand h dX8_late_119 <|
                    s_iconst h dX8_late_120 ic_1 <|
                    s_icmp_ne (tgt := 130) h dX8_late_121 (by decide) (fun c121 => ?_) (fun c121 => ?_)
                    · refine s_bipush h dX8_late_130 bp_10 <|
                      s_iload h dX8_late_132 rfl <|
                      s_isub h dX8_late_134 <|
                      s_i2l h dX8_late_135 <|
                      s_lmul h dX8_late_136 <|
                      s_topl (lN (wtN tt q (i + 1))) (by
                        have z := tb256 q (by omega) i (by omega)
                        rw [wtN_s]
                        first
                          | (have y := z.symm.trans (decide_eq_true c121); rw [bool_if y, nI_l (by omega), lN_mul])
                          | (have y := z.symm.trans (decide_eq_false c121); rw [bool_ifn y, tn_sub (by omega), lN_mul])) <|
                      s_lstore h dX8_late_137 rfl <|
                      s_iincR h dX8_late_139 rfl rfl ic_1 (nI_1 i) <|
                      s_goto (tgt := 104) h dX8_late_142 (by decide) <|
                      ?_
                      exact SX.loc (ih) ⟨rfl, rfl, rfl, rfl, rfl, rfl, rfl, rfl, rfl, rfl, rfl, rfl, rfl, trivial⟩
                    · refine s_iload h dX8_late_124 rfl <|
                      s_i2l h dX8_late_126 <|
                      s_goto (tgt := 136) h dX8_late_127 (by decide) <|
                      s_lmul h dX8_late_136 <|
                      s_topl (lN (wtN tt q (i + 1))) (by
                        have z := tb256 q (by omega) i (by omega)
                        rw [wtN_s]
                        first
                          | (have y := z.symm.trans (decide_eq_true c121); rw [bool_if y, nI_l (by omega), lN_mul])
                          | (have y := z.symm.trans (decide_eq_false c121); rw [bool_ifn y, tn_sub (by omega), lN_mul])) <|
                      s_lstore h dX8_late_137 rfl <|
                      s_iincR h dX8_late_139 rfl rfl ic_1 (nI_1 i) <|
                      s_goto (tgt := 104) h dX8_late_142 (by decide) <|
                      ?_
                      exact SX.loc (ih) ⟨rfl, rfl, rfl, rfl, rfl, rfl, rfl, rfl, rfl, rfl, rfl, rfl, rfl, trivial⟩
              · (try have e4 := bI_1 c4)
                (try have e4 := bI_0 c4)
                (try have e11 := bI_1 c11)
                (try have e11 := bI_0 c11)
                (try have e23 := bI_1 c23)
                (try have e23 := bI_0 c23)
                (try have e36 := bI_1 c36)
                (try have e36 := bI_0 c36)
                (try have e49 := bI_1 c49)
                (try have e49 := bI_0 c49)
                (try have e62 := bI_1 c62)
                (try have e62 := bI_0 c62)
                (try have e73 := bI_1 c73)
                (try have e73 := bI_0 c73)
                
                refine s_ldc2 h dX8_late_76 tw867 <|
                  s_lret h he dX8_late_79 ⟨Nat.le_refl _, Nat.le_refl _⟩ ?_
                exact PE.eq (by rw [laM2_0 (by simp [laOk, *])]) rfl
theorem kP_ok6 {sc : Nat → Nat → Int32} {a b : Int32} (h : okP sc a b = true) : kP sc a b = kW (sc (6 + a.toNatClampNeg)) (sc (6 + b.toNatClampNeg)) := kP_ok h
theorem yX_n {z : Nat} (hz : z < 65537) : ∀ i, ∃ y, y < 65537 ∧ yX (nI z) i = nI y
  | 0 => ⟨z, hz, rfl⟩
  | i + 1 => by
    obtain ⟨y, hy, e⟩ := yX_n hz i
    refine ⟨(75 * y + 74) % 65537, Nat.mod_lt _ (by decide), ?_⟩
    rw [yX_s, e, show (75 : Int32) = nI 75 from rfl, show (74 : Int32) = nI 74 from rfl, nI_mulI, nI_add]
    exact nI_rem (b := 65537) (by omega) (by decide)
theorem yX_l {z : Nat} (hz : z < 65537) (i : Nat) : ((75 : Int64) * (yX (nI z) i).toInt64 + 74 - (75 * (yX (nI z) i).toInt64 + 74) / 65537 * 65537).toInt32 = yX (nI z) (i + 1) := by
  obtain ⟨y, hy, e⟩ := yX_n hz i
  rw [yX_s, e, nI_l (by omega), show (75 : Int64) = lN 75 from rfl, show (74 : Int64) = lN 74 from rfl, lN_mul, lN_add, show (75 : Int32) = nI 75 from rfl, show (74 : Int32) = nI 74 from rfl, nI_mulI, nI_add]
  rw [show (65537 : Int64) = lN 65537 from rfl, pk_lRem (by omega) (by decide) (by decide), lN_i]
  exact (nI_rem (b := 65537) (by omega) (by decide)).symm
theorem yeR_0 {sc : Nat → Nat → Int32} {s m kd : Int32} (h : (wb s 0 9999 && (wb m 1 99 && wb kd 0 3)) = false) : yeR sc s m kd = -2 := if_neg (fun z => Bool.false_ne_true (h.symm.trans z))
theorem yeR_1 {sc : Nat → Nat → Int32} {s m kd : Int32} {M : Nat} (h : (wb s 0 9999 && (wb m 1 99 && wb kd 0 3)) = true) (hm : m.toNatClampNeg = M) : yeR sc s m kd = yC sc s kd M := by
  unfold yeR; rw [if_pos h, hm]
theorem m1_kd {kd : Int32} (h : wb kd 0 3 = true) : ¬ (-1 : Int32) = kd := by
  intro q; rw [← q] at h; exact absurd h (by decide)
theorem c_X8_year {l : Launch} {D : va_G} {N : Nat} {adr : Nat → Nat} {G : Nat → va_E} {G0 : Nat → va_E} {f : Nat → Int32} {a : Nat → Nat → Int32} (hN : 115 ≤ N) (hM : isMF D adr G0 G f a) (hwc : wfC (mS f a)) {s m kd : Int32} :
    CT l D yX8_year cX8_year 9 (some FieldType.int) (rl 3) [.ref (adr 103), .int s, .int m, .int kd] N adr G (PE (some (.int (yeR (mS f a) s m kd))) N adr G) := by
  refine CT.of (by decide +kernel) (Nat.le_of_ble_eq_true rfl) (fun Γ h he => ?_)
  have h : cx l D (rl 3) RX8 cX8_year 9 Γ := h
  show SX Γ 0 0 0 [(0, .ref (adr 103)), (1, .int s), (2, .int m), (3, .int kd)] [] N adr G
  refine s_iload_n h dX8_year_0 rfl <|
    s_i2l h dX8_year_1 <|
    s_lconst h dX8_year_2 lc_0 <|
    s_ldc2 h dX8_year_3 tw891 <|
    k_X8_50 h (c_X8_inw (a := 0) (b := 9999) (by decide) (by decide)) rfl rfl dX8_year_6 <|
    PE.go <|
    s_if_eq (tgt := 36) h dX8_year_9 (by decide) (fun c9 => ?_) (fun c9 => ?_)
  · (try have e9 := bI_1 c9)
    (try have e9 := bI_0 c9)
    (try have e21 := bI_1 c21)
    (try have e21 := bI_0 c21)
    (try have e33 := bI_1 c33)
    (try have e33 := bI_0 c33)
    
    refine s_bipush h dX8_year_36 bp_m2 <|
      s_iret h he rfl dX8_year_38 ⟨Nat.le_refl _, Nat.le_refl _⟩ ?_
    exact PE.eq (by rw [yeR_0 (by simp [*])]) rfl
  · refine s_iload_n h dX8_year_12 rfl <|
      s_i2l h dX8_year_13 <|
      s_lconst h dX8_year_14 lc_1 <|
      s_ldc2 h dX8_year_15 tw704 <|
      k_X8_50 h (c_X8_inw (a := 1) (b := 99) (by decide) (by decide)) rfl rfl dX8_year_18 <|
      PE.go <|
      s_if_eq (tgt := 36) h dX8_year_21 (by decide) (fun c21 => ?_) (fun c21 => ?_)
    · (try have e9 := bI_1 c9)
      (try have e9 := bI_0 c9)
      (try have e21 := bI_1 c21)
      (try have e21 := bI_0 c21)
      (try have e33 := bI_1 c33)
      (try have e33 := bI_0 c33)
      
      refine s_bipush h dX8_year_36 bp_m2 <|
        s_iret h he rfl dX8_year_38 ⟨Nat.le_refl _, Nat.le_refl _⟩ ?_
      exact PE.eq (by rw [yeR_0 (by simp [*])]) rfl
    · refine s_iload_n h dX8_year_24 rfl <|
        s_i2l h dX8_year_25 <|
        s_lconst h dX8_year_26 lc_0 <|
        s_ldc2 h dX8_year_27 tw767 <|
        k_X8_50 h (c_X8_inw (a := 0) (b := 3) (by decide) (by decide)) rfl rfl dX8_year_30 <|
        PE.go <|
        s_if_ne (tgt := 39) h dX8_year_33 (by decide) (fun c33 => ?_) (fun c33 => ?_)
      · (try have e9 := bI_1 c9)
        (try have e9 := bI_0 c9)
        (try have e21 := bI_1 c21)
        (try have e21 := bI_0 c21)
        (try have e33 := bI_1 c33)
        (try have e33 := bI_0 c33)
        have hok : (wb s 0 9999 && (wb m 1 99 && wb kd 0 3)) = true := by rw [e9, e21, e33]; rfl
        have hixm := wb_ix (n := 99) (by decide) rfl (wb_1 e21)
        have hixs := wb_ix (n := 9999) (by decide) rfl e9
        obtain ⟨M, hMM⟩ : ∃ M, m.toNatClampNeg = M := ⟨_, rfl⟩
        obtain ⟨z, hzz⟩ : ∃ z, s.toNatClampNeg = z := ⟨_, rfl⟩
        have hme := ix_eq hixm
        have hse := ix_eq hixs
        rw [hMM] at hme hixm
        rw [hzz] at hse hixs
        have hM99 := hixm.2.2
        have hz : z < 65537 := by have := hixs.2.2; omega
        subst hme
        subst hse
        refine s_iload_n h dX8_year_39 rfl <|
          s_istore h dX8_year_40 rfl <|
          s_iconst h dX8_year_42 ic_0 <|
          s_istore h dX8_year_43 rfl <|
          s_iconst h dX8_year_45 ic_0 <|
          s_istore h dX8_year_46 rfl <|
          ?_
        refine SX.loc (up_ind (n := M) (Q := fun i => SX Γ 0 0 48 [(0, .ref (adr 103)), (1, .int (nI z)), (2, .int (nI M)), (3, .int kd), (4, .int (yX (nI z) i)), (5, .int (yC (mS f a) (nI z) kd i)), (6, .int (nI i))] [] N adr G) ?_ ?_ 0 (Nat.zero_le _)) ⟨rfl, rfl, rfl, rfl, rfl, rfl, rfl, trivial⟩
        · show SX _ _ _ _ _ _ _ _ _
          refine s_iload h dX8_year_48 rfl <|
          s_iload_n h dX8_year_50 rfl <|
          s_icmp_ge (tgt := 128) h dX8_year_51 (by decide) (kf := fun qx => absurd (nI_le (Nat.le_refl M) (by omega)) qx) (kt := fun _ => ?_)
          refine s_iload h dX8_year_128 rfl <|
          s_iret h he rfl dX8_year_130 ⟨Nat.le_refl _, Nat.le_refl _⟩ ?_
          exact PE.eq (by rw [yeR_1 hok hMM]) rfl
        · intro i hi ih 
          show SX _ _ _ _ _ _ _ _ _
          refine s_iload h dX8_year_48 rfl <|
          s_iload_n h dX8_year_50 rfl <|
          s_icmp_ge (tgt := 128) h dX8_year_51 (by decide) (kt := fun qx => absurd qx (nI_ge hi (by omega))) (kf := fun _ => ?_)
          refine s_ldc2 h dX8_year_54 tw892 <|
          s_iload h dX8_year_57 rfl <|
          s_i2l h dX8_year_59 <|
          s_lmul h dX8_year_60 <|
          s_ldc2 h dX8_year_61 tw893 <|
          s_ladd h dX8_year_64 <|
          s_ldc2 h dX8_year_65 tw894 <|
          s_lrem h dX8_year_68 (by decide) <|
          s_l2i h dX8_year_69 <|
          s_topi (yX (nI z) (i + 1)) (yX_l hz i) <|
          s_istore h dX8_year_70 rfl <|
          s_iload h dX8_year_72 rfl <|
          s_bipush h dX8_year_74 bp_10 <|
          s_irem h dX8_year_76 (by decide) <|
          s_istore h dX8_year_77 rfl <|
          s_iload h dX8_year_79 rfl <|
          s_bipush h dX8_year_81 bp_10 <|
          s_idiv h dX8_year_83 (by decide) <|
          s_bipush h dX8_year_84 bp_10 <|
          s_irem h dX8_year_86 (by decide) <|
          s_istore h dX8_year_87 rfl <|
          s_iload h dX8_year_89 rfl <|
          s_aload_n h dX8_year_91 rfl <|
          s_iload h dX8_year_92 rfl <|
          s_iload h dX8_year_94 rfl <|
          k_X8_143 h (c_X8_areTwo hN hM) (by omega) hM.o rfl rfl dX8_year_96 <|
          PE.go <|
          s_if_eq (tgt := 118) h dX8_year_99 (by decide) (fun c99 => ?_) (fun c99 => ?_)
          · refine s_iconst h dX8_year_118 ic_0 <|
            s_iadd h dX8_year_119 <|
            s_topi (yC (mS f a) (nI z) kd (i + 1)) (by
              rw [yC_s]
              unfold yK
              first
                | (rw [kP_no (bI_0 c99), if_neg (m1_kd e33), Int32.add_zero])
                | rw [kP_ok6 (bI_1 c99), if_pos c111]
                | rw [kP_ok6 (bI_1 c99), if_neg c111, Int32.add_zero]) <|
            s_istore h dX8_year_120 rfl <|
            s_iincR h dX8_year_122 rfl rfl ic_1 (nI_1 i) <|
            s_goto (tgt := 48) h dX8_year_125 (by decide) <|
            ?_
            exact SX.loc (ih) ⟨rfl, rfl, rfl, rfl, rfl, rfl, rfl, trivial⟩
          · have hix := okP_ix (bI_1 c99)
            refine s_aload_n h dX8_year_102 rfl <|
            s_iload h dX8_year_103 rfl <|
            s_iload h dX8_year_105 rfl <|
            k_X8_139 h (c_X8_kindOf hN hM hix.1 hix.2 hwc) (by omega) hM.o rfl rfl dX8_year_107 <|
            PE.go <|
            s_iload_n h dX8_year_110 rfl <|
            s_icmp_ne (tgt := 118) h dX8_year_111 (by decide) (fun c111 => ?_) (fun c111 => ?_)
            · refine s_iconst h dX8_year_118 ic_0 <|
              s_iadd h dX8_year_119 <|
              s_topi (yC (mS f a) (nI z) kd (i + 1)) (by
              rw [yC_s]
              unfold yK
              first
                | (rw [kP_no (bI_0 c99), if_neg (m1_kd e33), Int32.add_zero])
                | rw [kP_ok6 (bI_1 c99), if_pos c111]
                | rw [kP_ok6 (bI_1 c99), if_neg c111, Int32.add_zero]) <|
              s_istore h dX8_year_120 rfl <|
              s_iincR h dX8_year_122 rfl rfl ic_1 (nI_1 i) <|
              s_goto (tgt := 48) h dX8_year_125 (by decide) <|
              ?_
              exact SX.loc (ih) ⟨rfl, rfl, rfl, rfl, rfl, rfl, rfl, trivial⟩
            · refine s_iconst h dX8_year_114 ic_1 <|
              s_goto (tgt := 119) h dX8_year_115 (by decide) <|
              s_iadd h dX8_year_119 <|
              s_topi (yC (mS f a) (nI z) kd (i + 1)) (by
              rw [yC_s]
              unfold yK
              first
                | (rw [kP_no (bI_0 c99), if_neg (m1_kd e33), Int32.add_zero])
                | rw [kP_ok6 (bI_1 c99), if_pos c111]
                | rw [kP_ok6 (bI_1 c99), if_neg c111, Int32.add_zero]) <|
              s_istore h dX8_year_120 rfl <|
              s_iincR h dX8_year_122 rfl rfl ic_1 (nI_1 i) <|
              s_goto (tgt := 48) h dX8_year_125 (by decide) <|
              ?_
              exact SX.loc (ih) ⟨rfl, rfl, rfl, rfl, rfl, rfl, rfl, trivial⟩
      · (try have e9 := bI_1 c9)
        (try have e9 := bI_0 c9)
        (try have e21 := bI_1 c21)
        (try have e21 := bI_0 c21)
        (try have e33 := bI_1 c33)
        (try have e33 := bI_0 c33)
        
        refine s_bipush h dX8_year_36 bp_m2 <|
          s_iret h he rfl dX8_year_38 ⟨Nat.le_refl _, Nat.le_refl _⟩ ?_
        exact PE.eq (by rw [yeR_0 (by simp [*])]) rfl
def eyP (sc : Nat → Nat → Int32) (k : Nat) : Bool := decide (kP sc (nI (k / 100)) (nI (k / 10 % 10)) = 0) && decide (kP sc (nI (k / 10 % 10)) (nI (k % 10)) = 0) && !decide (nI (k / 100) = nI (k % 10))
def eyM (sc : Nat → Nat → Int32) (n : Nat) : Int32 := fN (fun k x => if eyP sc k then x + 1 else x) 0 n
theorem eyM_s (sc : Nat → Nat → Int32) (n : Nat) : eyM sc (n + 1) = if eyP sc n then eyM sc n + 1 else eyM sc n := rfl
theorem kP_n {sc : Nat → Nat → Int32} {p q : Nat} (hp : p < 10) (hq : q < 10) (h : okP sc (nI p) (nI q) = true) : kP sc (nI p) (nI q) = kW (sc (6 + p)) (sc (6 + q)) := by
  rw [kP_ok h]; unfold cA; rw [nI_clamp (by omega), nI_clamp (by omega)]
theorem c_X8_eyes {l : Launch} {D : va_G} {N : Nat} {adr : Nat → Nat} {G : Nat → va_E} {G0 : Nat → va_E} {f : Nat → Int32} {a : Nat → Nat → Int32} (hN : 115 ≤ N) (hM : isMF D adr G0 G f a) (hwc : wfC (mS f a)) :
    CT l D yX8_eyes cX8_eyes 7 (some FieldType.int) (rl 3) [.ref (adr 103)] N adr G (PE (some (.int (eyM (mS f a) 1000))) N adr G) := by
  refine CT.of (by decide +kernel) (Nat.le_of_ble_eq_true rfl) (fun Γ h he => ?_)
  have h : cx l D (rl 3) RX8 cX8_eyes 7 Γ := h
  show SX Γ 0 0 0 [(0, .ref (adr 103))] [] N adr G
  refine s_iconst h dX8_eyes_0 ic_0 <|
    s_istore_n h dX8_eyes_1 rfl <|
    s_iconst h dX8_eyes_2 ic_0 <|
    s_istore_n h dX8_eyes_3 rfl <|
    ?_
  refine SX.loc (up_ind (n := 1000) (Q := fun i => SX Γ 0 0 4 [(0, .ref (adr 103)), (1, .int (eyM (mS f a) i)), (2, .int (nI i))] [] N adr G) ?_ ?_ 0 (Nat.zero_le _)) ⟨rfl, rfl, rfl, trivial⟩
  · show SX _ _ _ _ _ _ _ _ _
    refine s_iload_n h dX8_eyes_4 rfl <|
    s_sipush h dX8_eyes_5 sp_1000 <|
    s_icmp_ge (tgt := 105) h dX8_eyes_8 (by decide) (kf := fun qx => absurd (by decide +kernel) qx) (kt := fun _ => ?_)
    refine s_iload_n h dX8_eyes_105 rfl <|
    s_iret h he rfl dX8_eyes_106 ⟨Nat.le_refl _, Nat.le_refl _⟩ ?_
    exact PE.is
  · intro i hi ih 
    show SX _ _ _ _ _ _ _ _ _
    have J65 : SX Γ 0 0 65 [(0, .ref (adr 103)), (1, .int (eyM (mS f a) i)), (2, .int (nI i)), (3, .int (nI (i / 100))), (4, .int (nI (i / 10 % 10))), (5, .int (nI (i % 10))), (6, .int (bI (okP (mS f a) (nI (i / 100)) (nI (i / 10 % 10)) && (okP (mS f a) (nI (i / 10 % 10)) (nI (i % 10)) && !decide (nI (i / 100) = nI (i % 10))))))] [] N adr G := by
      refine s_iload_n h dX8_eyes_65 rfl <|
        s_iload h dX8_eyes_66 rfl <|
        s_if_eq (tgt := 96) h dX8_eyes_68 (by decide) (fun c68 => ?_) (fun c68 => ?_)
      · refine s_iconst h dX8_eyes_96 ic_0 <|
          s_iadd h dX8_eyes_97 <|
          s_topi (eyM (mS f a) (i + 1)) (by
          rw [eyM_s]
          unfold eyP
          first
            | (have q := bI_0 c68
               have q2 : (decide (kP (mS f a) (nI (i / 100)) (nI (i / 10 % 10)) = 0) && decide (kP (mS f a) (nI (i / 10 % 10)) (nI (i % 10)) = 0) && !decide (nI (i / 100) = nI (i % 10))) = false := by
                 cases z1 : okP (mS f a) (nI (i / 100)) (nI (i / 10 % 10)) with
                 | false => rw [kP_no z1]; rfl
                 | true =>
                   cases z2 : okP (mS f a) (nI (i / 10 % 10)) (nI (i % 10)) with
                   | false => rw [kP_no z2, Bool.and_assoc]; exact Bool.and_false _
                   | true => rw [z1, z2, Bool.true_and, Bool.true_and] at q; rw [q, Bool.and_false]
               rw [q2]; exact Int32.add_zero _)
            | (have q := bI_1 c68
               have z1 : okP (mS f a) (nI (i / 100)) (nI (i / 10 % 10)) = true := by revert q; cases okP (mS f a) (nI (i / 100)) (nI (i / 10 % 10)) <;> simp
               have z2 : okP (mS f a) (nI (i / 10 % 10)) (nI (i % 10)) = true := by revert q; cases okP (mS f a) (nI (i / 10 % 10)) (nI (i % 10)) <;> simp
               have z3 : (!decide (nI (i / 100) = nI (i % 10))) = true := by revert q; cases (!decide (nI (i / 100) = nI (i % 10))) <;> simp
               rw [kP_n (show i / 100 < 10 from by omega) (show i / 10 % 10 < 10 from by omega) z1, kP_n (show i / 10 % 10 < 10 from by omega) (show i % 10 < 10 from by omega) z2, z3]
               first
                 | (rw [decide_eq_false c78]; exact Int32.add_zero _)
                 | (rw [decide_eq_true c78, decide_eq_false c89]; exact Int32.add_zero _)
                 | (rw [decide_eq_true c78, decide_eq_true c89]; rfl))) <|
          s_istore_n h dX8_eyes_98 rfl <|
          s_iincR h dX8_eyes_99 rfl rfl ic_1 (nI_1 i) <|
          s_goto (tgt := 4) h dX8_eyes_102 (by decide) <|
          ?_
        exact SX.loc (ih) ⟨rfl, rfl, rfl, trivial⟩
      · refine s_aload_n h dX8_eyes_71 rfl <|
          s_iload_n h dX8_eyes_72 rfl <|
          s_iload h dX8_eyes_73 rfl <|
          k_X8_139 h (c_X8_kindOf hN hM (ix_n (show i / 100 < 10 from by omega) (by decide)) (ix_n (show i / 10 % 10 < 10 from by omega) (by decide)) hwc) (by omega) hM.o rfl rfl dX8_eyes_75 <|
          PE.go <|
          s_if_ne (tgt := 96) h dX8_eyes_78 (by decide) (fun c78 => ?_) (fun c78 => ?_)
        · refine s_iconst h dX8_eyes_96 ic_0 <|
            s_iadd h dX8_eyes_97 <|
            s_topi (eyM (mS f a) (i + 1)) (by
          rw [eyM_s]
          unfold eyP
          first
            | (have q := bI_0 c68
               have q2 : (decide (kP (mS f a) (nI (i / 100)) (nI (i / 10 % 10)) = 0) && decide (kP (mS f a) (nI (i / 10 % 10)) (nI (i % 10)) = 0) && !decide (nI (i / 100) = nI (i % 10))) = false := by
                 cases z1 : okP (mS f a) (nI (i / 100)) (nI (i / 10 % 10)) with
                 | false => rw [kP_no z1]; rfl
                 | true =>
                   cases z2 : okP (mS f a) (nI (i / 10 % 10)) (nI (i % 10)) with
                   | false => rw [kP_no z2, Bool.and_assoc]; exact Bool.and_false _
                   | true => rw [z1, z2, Bool.true_and, Bool.true_and] at q; rw [q, Bool.and_false]
               rw [q2]; exact Int32.add_zero _)
            | (have q := bI_1 c68
               have z1 : okP (mS f a) (nI (i / 100)) (nI (i / 10 % 10)) = true := by revert q; cases okP (mS f a) (nI (i / 100)) (nI (i / 10 % 10)) <;> simp
               have z2 : okP (mS f a) (nI (i / 10 % 10)) (nI (i % 10)) = true := by revert q; cases okP (mS f a) (nI (i / 10 % 10)) (nI (i % 10)) <;> simp
               have z3 : (!decide (nI (i / 100) = nI (i % 10))) = true := by revert q; cases (!decide (nI (i / 100) = nI (i % 10))) <;> simp
               rw [kP_n (show i / 100 < 10 from by omega) (show i / 10 % 10 < 10 from by omega) z1, kP_n (show i / 10 % 10 < 10 from by omega) (show i % 10 < 10 from by omega) z2, z3]
               first
                 | (rw [decide_eq_false c78]; exact Int32.add_zero _)
                 | (rw [decide_eq_true c78, decide_eq_false c89]; exact Int32.add_zero _)
                 | (rw [decide_eq_true c78, decide_eq_true c89]; rfl))) <|
            s_istore_n h dX8_eyes_98 rfl <|
            s_iincR h dX8_eyes_99 rfl rfl ic_1 (nI_1 i) <|
            s_goto (tgt := 4) h dX8_eyes_102 (by decide) <|
            ?_
          exact SX.loc (ih) ⟨rfl, rfl, rfl, trivial⟩
        · refine s_aload_n h dX8_eyes_81 rfl <|
            s_iload h dX8_eyes_82 rfl <|
            s_iload h dX8_eyes_84 rfl <|
            k_X8_139 h (c_X8_kindOf hN hM (ix_n (show i / 10 % 10 < 10 from by omega) (by decide)) (ix_n (show i % 10 < 10 from by omega) (by decide)) hwc) (by omega) hM.o rfl rfl dX8_eyes_86 <|
            PE.go <|
            s_if_ne (tgt := 96) h dX8_eyes_89 (by decide) (fun c89 => ?_) (fun c89 => ?_)
          · refine s_iconst h dX8_eyes_96 ic_0 <|
              s_iadd h dX8_eyes_97 <|
              s_topi (eyM (mS f a) (i + 1)) (by
          rw [eyM_s]
          unfold eyP
          first
            | (have q := bI_0 c68
               have q2 : (decide (kP (mS f a) (nI (i / 100)) (nI (i / 10 % 10)) = 0) && decide (kP (mS f a) (nI (i / 10 % 10)) (nI (i % 10)) = 0) && !decide (nI (i / 100) = nI (i % 10))) = false := by
                 cases z1 : okP (mS f a) (nI (i / 100)) (nI (i / 10 % 10)) with
                 | false => rw [kP_no z1]; rfl
                 | true =>
                   cases z2 : okP (mS f a) (nI (i / 10 % 10)) (nI (i % 10)) with
                   | false => rw [kP_no z2, Bool.and_assoc]; exact Bool.and_false _
                   | true => rw [z1, z2, Bool.true_and, Bool.true_and] at q; rw [q, Bool.and_false]
               rw [q2]; exact Int32.add_zero _)
            | (have q := bI_1 c68
               have z1 : okP (mS f a) (nI (i / 100)) (nI (i / 10 % 10)) = true := by revert q; cases okP (mS f a) (nI (i / 100)) (nI (i / 10 % 10)) <;> simp
               have z2 : okP (mS f a) (nI (i / 10 % 10)) (nI (i % 10)) = true := by revert q; cases okP (mS f a) (nI (i / 10 % 10)) (nI (i % 10)) <;> simp
               have z3 : (!decide (nI (i / 100) = nI (i % 10))) = true := by revert q; cases (!decide (nI (i / 100) = nI (i % 10))) <;> simp
               rw [kP_n (show i / 100 < 10 from by omega) (show i / 10 % 10 < 10 from by omega) z1, kP_n (show i / 10 % 10 < 10 from by omega) (show i % 10 < 10 from by omega) z2, z3]
               first
                 | (rw [decide_eq_false c78]; exact Int32.add_zero _)
                 | (rw [decide_eq_true c78, decide_eq_false c89]; exact Int32.add_zero _)
                 | (rw [decide_eq_true c78, decide_eq_true c89]; rfl))) <|
              s_istore_n h dX8_eyes_98 rfl <|
              s_iincR h dX8_eyes_99 rfl rfl ic_1 (nI_1 i) <|
              s_goto (tgt := 4) h dX8_eyes_102 (by decide) <|
              ?_
            exact SX.loc (ih) ⟨rfl, rfl, rfl, trivial⟩
          · refine s_iconst h dX8_eyes_92 ic_1 <|
              s_goto (tgt := 97) h dX8_eyes_93 (by decide) <|
              s_iadd h dX8_eyes_97 <|
              s_topi (eyM (mS f a) (i + 1)) (by
          rw [eyM_s]
          unfold eyP
          first
            | (have q := bI_0 c68
               have q2 : (decide (kP (mS f a) (nI (i / 100)) (nI (i / 10 % 10)) = 0) && decide (kP (mS f a) (nI (i / 10 % 10)) (nI (i % 10)) = 0) && !decide (nI (i / 100) = nI (i % 10))) = false := by
                 cases z1 : okP (mS f a) (nI (i / 100)) (nI (i / 10 % 10)) with
                 | false => rw [kP_no z1]; rfl
                 | true =>
                   cases z2 : okP (mS f a) (nI (i / 10 % 10)) (nI (i % 10)) with
                   | false => rw [kP_no z2, Bool.and_assoc]; exact Bool.and_false _
                   | true => rw [z1, z2, Bool.true_and, Bool.true_and] at q; rw [q, Bool.and_false]
               rw [q2]; exact Int32.add_zero _)
            | (have q := bI_1 c68
               have z1 : okP (mS f a) (nI (i / 100)) (nI (i / 10 % 10)) = true := by revert q; cases okP (mS f a) (nI (i / 100)) (nI (i / 10 % 10)) <;> simp
               have z2 : okP (mS f a) (nI (i / 10 % 10)) (nI (i % 10)) = true := by revert q; cases okP (mS f a) (nI (i / 10 % 10)) (nI (i % 10)) <;> simp
               have z3 : (!decide (nI (i / 100) = nI (i % 10))) = true := by revert q; cases (!decide (nI (i / 100) = nI (i % 10))) <;> simp
               rw [kP_n (show i / 100 < 10 from by omega) (show i / 10 % 10 < 10 from by omega) z1, kP_n (show i / 10 % 10 < 10 from by omega) (show i % 10 < 10 from by omega) z2, z3]
               first
                 | (rw [decide_eq_false c78]; exact Int32.add_zero _)
                 | (rw [decide_eq_true c78, decide_eq_false c89]; exact Int32.add_zero _)
                 | (rw [decide_eq_true c78, decide_eq_true c89]; rfl))) <|
              s_istore_n h dX8_eyes_98 rfl <|
              s_iincR h dX8_eyes_99 rfl rfl ic_1 (nI_1 i) <|
              s_goto (tgt := 4) h dX8_eyes_102 (by decide) <|
              ?_
            exact SX.loc (ih) ⟨rfl, rfl, rfl, trivial⟩
    refine s_iload_n h dX8_eyes_4 rfl <|
    s_sipush h dX8_eyes_5 sp_1000 <|
    s_icmp_ge (tgt := 105) h dX8_eyes_8 (by decide) (kt := fun qx => absurd qx (nI_ge hi (by decide))) (kf := fun _ => ?_)
    refine s_iload_n h dX8_eyes_11 rfl <|
    s_bipush h dX8_eyes_12 bp_100 <|
    s_idiv h dX8_eyes_14 (by decide) <|
    s_topi (nI (i / 100)) (nI_div (b := 100) (by omega) (by decide)) <|
    s_istore_n h dX8_eyes_15 rfl <|
    s_iload_n h dX8_eyes_16 rfl <|
    s_bipush h dX8_eyes_17 bp_10 <|
    s_idiv h dX8_eyes_19 (by decide) <|
    s_topi (nI (i / 10)) (nI_div (b := 10) (by omega) (by decide)) <|
    s_bipush h dX8_eyes_20 bp_10 <|
    s_irem h dX8_eyes_22 (by decide) <|
    s_topi (nI (i / 10 % 10)) (nI_rem (b := 10) (by omega) (by decide)) <|
    s_istore h dX8_eyes_23 rfl <|
    s_iload_n h dX8_eyes_25 rfl <|
    s_bipush h dX8_eyes_26 bp_10 <|
    s_irem h dX8_eyes_28 (by decide) <|
    s_topi (nI (i % 10)) (nI_rem (b := 10) (by omega) (by decide)) <|
    s_istore h dX8_eyes_29 rfl <|
    s_aload_n h dX8_eyes_31 rfl <|
    s_iload_n h dX8_eyes_32 rfl <|
    s_iload h dX8_eyes_33 rfl <|
    k_X8_143 h (c_X8_areTwo hN hM) (by omega) hM.o rfl rfl dX8_eyes_35 <|
    PE.go <|
    s_if_eq (tgt := 62) h dX8_eyes_38 (by decide) (fun c38 => ?_) (fun c38 => ?_)
    · refine s_iconst h dX8_eyes_62 ic_0 <|
      s_topi (bI (okP (mS f a) (nI (i / 100)) (nI (i / 10 % 10)) && (okP (mS f a) (nI (i / 10 % 10)) (nI (i % 10)) && !decide (nI (i / 100) = nI (i % 10))))) (by
        first
          | (rw [bI_0 c38]; rfl)
          | (rw [bI_1 c38, bI_0 c49]; rfl)
          | (rw [bI_1 c38, bI_1 c49, decide_eq_true c55]; rfl)
          | (rw [bI_1 c38, bI_1 c49, decide_eq_false c55]; rfl)) <|
      s_istore h dX8_eyes_63 rfl <|
      ?_
      exact SX.loc (J65) ⟨rfl, rfl, rfl, rfl, rfl, rfl, rfl, trivial⟩
    · refine s_aload_n h dX8_eyes_41 rfl <|
      s_iload h dX8_eyes_42 rfl <|
      s_iload h dX8_eyes_44 rfl <|
      k_X8_143 h (c_X8_areTwo hN hM) (by omega) hM.o rfl rfl dX8_eyes_46 <|
      PE.go <|
      s_if_eq (tgt := 62) h dX8_eyes_49 (by decide) (fun c49 => ?_) (fun c49 => ?_)
      · refine s_iconst h dX8_eyes_62 ic_0 <|
        s_topi (bI (okP (mS f a) (nI (i / 100)) (nI (i / 10 % 10)) && (okP (mS f a) (nI (i / 10 % 10)) (nI (i % 10)) && !decide (nI (i / 100) = nI (i % 10))))) (by
        first
          | (rw [bI_0 c38]; rfl)
          | (rw [bI_1 c38, bI_0 c49]; rfl)
          | (rw [bI_1 c38, bI_1 c49, decide_eq_true c55]; rfl)
          | (rw [bI_1 c38, bI_1 c49, decide_eq_false c55]; rfl)) <|
        s_istore h dX8_eyes_63 rfl <|
        ?_
        exact SX.loc (J65) ⟨rfl, rfl, rfl, rfl, rfl, rfl, rfl, trivial⟩
      · refine s_iload_n h dX8_eyes_52 rfl <|
        s_iload h dX8_eyes_53 rfl <|
        s_icmp_eq (tgt := 62) h dX8_eyes_55 (by decide) (fun c55 => ?_) (fun c55 => ?_)
        · refine s_iconst h dX8_eyes_62 ic_0 <|
          s_topi (bI (okP (mS f a) (nI (i / 100)) (nI (i / 10 % 10)) && (okP (mS f a) (nI (i / 10 % 10)) (nI (i % 10)) && !decide (nI (i / 100) = nI (i % 10))))) (by
        first
          | (rw [bI_0 c38]; rfl)
          | (rw [bI_1 c38, bI_0 c49]; rfl)
          | (rw [bI_1 c38, bI_1 c49, decide_eq_true c55]; rfl)
          | (rw [bI_1 c38, bI_1 c49, decide_eq_false c55]; rfl)) <|
          s_istore h dX8_eyes_63 rfl <|
          ?_
          exact SX.loc (J65) ⟨rfl, rfl, rfl, rfl, rfl, rfl, rfl, trivial⟩
        · refine s_iconst h dX8_eyes_58 ic_1 <|
          s_goto (tgt := 63) h dX8_eyes_59 (by decide) <|
          s_topi (bI (okP (mS f a) (nI (i / 100)) (nI (i / 10 % 10)) && (okP (mS f a) (nI (i / 10 % 10)) (nI (i % 10)) && !decide (nI (i / 100) = nI (i % 10))))) (by
        first
          | (rw [bI_0 c38]; rfl)
          | (rw [bI_1 c38, bI_0 c49]; rfl)
          | (rw [bI_1 c38, bI_1 c49, decide_eq_true c55]; rfl)
          | (rw [bI_1 c38, bI_1 c49, decide_eq_false c55]; rfl)) <|
          s_istore h dX8_eyes_63 rfl <|
          ?_
          exact SX.loc (J65) ⟨rfl, rfl, rfl, rfl, rfl, rfl, rfl, trivial⟩
