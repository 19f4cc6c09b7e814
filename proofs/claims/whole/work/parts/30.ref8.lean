theorem upd_self (g : Nat → Int32) (i : Nat) : upd g i (g i) = g := by
  funext x; simp only [upd]; split
  · rename_i q; rw [q]
  · rfl
theorem uA_self (a : Nat → Nat → Int32) (k : Nat) : uA a k (a k) = a := by
  funext x; simp only [uA]; split
  · rename_i q; rw [q]
  · rfl
theorem uA_up (a : Nat → Nat → Int32) (k : Nat) (g : Nat → Int32) (j : Nat) (x : Int32) : uA (uA a k g) k (upd (uA a k g k) j x) = uA a k (upd g j x) := by
  funext y; simp only [uA]
  split
  · simp
  · rfl
theorem isMF.idA {D : va_G} {adr : Nat → Nat} {G0 G : Nat → va_E} {g : Nat → Int32} {b : Nat → Nat → Int32} {k i : Nat} {x : Int32} (h : isMF D adr G0 G g (uA b k (upd (b k) i x))) (e : x = b k i) : isMF D adr G0 G g b := by
  subst e
  rw [upd_self, uA_self] at h
  exact h
theorem isMF.idF {D : va_G} {adr : Nat → Nat} {G0 G : Nat → va_E} {g : Nat → Int32} {b : Nat → Nat → Int32} {i : Nat} {x : Int32} (h : isMF D adr G0 G (upd g i x) b) (e : x = g i) : isMF D adr G0 G g b := by
  subst e
  rw [upd_self] at h
  exact h
/-- p's column row, i things in -/
def cF (sc : Nat → Nat → Int32) (r : Nat → Int32) (p : Nat) (c m : Int32) (n : Nat) : Nat → Int32 := fN (fun i g => upd g (6 * p + i) (sCol sc c m i)) r n
theorem cF_s (sc : Nat → Nat → Int32) (r : Nat → Int32) (p : Nat) (c m : Int32) (n : Nat) : cF sc r p c m (n + 1) = upd (cF sc r p c m n) (6 * p + n) (sCol sc c m n) := rfl
def mtkF (f : Nat → Int32) (p c m : Int32) : Nat → Int32 := if wb p 0 9 && okC c m then upd f 5 (f 5 ||| ((1 : Int32) <<< (p &&& 31))) else f
def mtkA (f : Nat → Int32) (a : Nat → Nat → Int32) (p c m : Int32) : Nat → Nat → Int32 := if wb p 0 9 && okC c m then uA a 107 (cF (mS f a) (a 107) p.toNatClampNeg c m 6) else a
theorem tkR_1 {sc : Nat → Nat → Int32} {t c m : Int32} (h : wb t 0 9 = true) (h2 : okC c m = true) : tkR sc t c m = shB (sCol sc c m) 6 := by
  unfold tkR; rw [if_pos h, if_pos h2]
theorem c_X8_take {l : Launch} {D : va_G} {N : Nat} {adr : Nat → Nat} {G : Nat → va_E} {G0 : Nat → va_E} {f : Nat → Int32} {a : Nat → Nat → Int32} (hN : 115 ≤ N) (hM : isMF D adr G0 G f a) (hwf : wfT (mS f a)) {p c m : Int32} :
    CT l D yX8_take cX8_take 7 (some FieldType.int) (rl 3) [.ref (adr 103), .int p, .int c, .int m] N adr G (PR (some (.int (tkR (mS f a) p c m))) N adr (fun W => isMF D adr G0 W (mtkF f p c m) (mtkA f a p c m))) := by
  refine CT.of (by decide +kernel) (Nat.le_of_ble_eq_true rfl) (fun Γ h he => ?_)
  have h : cx l D (rl 3) RX8 cX8_take 7 Γ := h
  show SX Γ 0 0 0 [(0, .ref (adr 103)), (1, .int p), (2, .int c), (3, .int m)] [] N adr G
  refine s_iload_n h dX8_take_0 rfl <|
    s_i2l h dX8_take_1 <|
    s_lconst h dX8_take_2 lc_0 <|
    s_ldc2 h dX8_take_3 tw706 <|
    k_X8_50 h (c_X8_inw (a := 0) (b := 9) (by decide) (by decide)) rfl rfl dX8_take_6 <|
    PE.go <|
    s_if_ne (tgt := 14) h dX8_take_9 (by decide) (fun c9 => ?_) (fun c9 => ?_)
  · refine s_iload_n h dX8_take_14 rfl <|
      k_X8_68 h (c_X8_isHundred) rfl rfl dX8_take_15 <|
      PE.go <|
      s_if_eq (tgt := 28) h dX8_take_18 (by decide) (fun c18 => ?_) (fun c18 => ?_)
    · refine s_bipush h dX8_take_28 bp_m2 <|
        s_iret h he rfl dX8_take_30 ⟨Nat.le_refl _, Nat.le_refl _⟩ ?_
      (try have e9 := bI_1 c9)
      (try have e9 := bI_0 c9)
      (try have e18 := bI_1 c18)
      (try have e18 := bI_0 c18)
      (try have e25 := bI_1 c25)
      (try have e25 := bI_0 c25)
      have hok : okC c m = false := by simp [okC, *]
      exact PR.eq (by simp [tkR, *]) (by simpa [mtkF, mtkA, *] using hM)
    · refine s_iload_n h dX8_take_21 rfl <|
        k_X8_68 h (c_X8_isHundred) rfl rfl dX8_take_22 <|
        PE.go <|
        s_if_ne (tgt := 31) h dX8_take_25 (by decide) (fun c25 => ?_) (fun c25 => ?_)
      · (try have e9 := bI_1 c9)
        (try have e9 := bI_0 c9)
        (try have e18 := bI_1 c18)
        (try have e18 := bI_0 c18)
        (try have e25 := bI_1 c25)
        (try have e25 := bI_0 c25)
        have hix := wb_ix (n := 9) (by decide) rfl e9
        have hok : okC c m = true := by simp [okC, *]
        refine s_iconst h dX8_take_31 ic_0 <|
          s_istore h dX8_take_32 rfl <|
          s_iconst h dX8_take_34 ic_0 <|
          s_istore h dX8_take_35 rfl <|
          ?_
        refine SX.loc (up_ind (n := 6) (Q := fun i => ∀ (W : Nat → va_E), (isMF D adr G0 W f (uA a 107 (cF (mS f a) (a 107) p.toNatClampNeg c m i))) → SX Γ 0 0 37 [(0, .ref (adr 103)), (1, .int p), (2, .int c), (3, .int m), (4, .int (shB (sCol (mS f a) c m) i)), (5, .int (nI i))] [] N adr W) ?_ ?_ 0 (Nat.zero_le _) _ ((uA_self a 107).symm ▸ hM)) ⟨rfl, rfl, rfl, rfl, rfl, rfl, trivial⟩
        · intro W hM
          show SX _ _ _ _ _ _ _ _ _
          refine s_iload h dX8_take_37 rfl <|
          s_bipush h dX8_take_39 bp_6 <|
          s_icmp_ge (tgt := 92) h dX8_take_41 (by decide) (kf := fun qx => absurd (by decide +kernel) qx) (kt := fun _ => ?_)
          refine s_aload_n h dX8_take_92 rfl <|
          s_dup h dX8_take_93 rfl <|
          gm_61 h dX8_take_94 hN hM <|
          s_iconst h dX8_take_97 ic_1 <|
          s_iload_n h dX8_take_98 rfl <|
          s_ishl h dX8_take_99 <|
          s_ior h dX8_take_100 <|
          pm_61 h dX8_take_101 hN hM <|
          fun W hM =>
          s_iload h dX8_take_104 rfl <|
          s_iret h he rfl dX8_take_106 ⟨Nat.le_refl _, Nat.le_refl _⟩ ?_
          exact PR.eq (by rw [tkR_1 e9 hok]) (by unfold mtkF mtkA; rw [e9, hok]; exact hM)
        · intro i hi ih W hM
          show SX _ _ _ _ _ _ _ _ _
          have hwf2 : wfT (mS f (uA a 107 (cF (mS f a) (a 107) p.toNatClampNeg c m i))) := hwf
          refine s_iload h dX8_take_37 rfl <|
          s_bipush h dX8_take_39 bp_6 <|
          s_icmp_ge (tgt := 92) h dX8_take_41 (by decide) (kt := fun qx => absurd qx (nI_ge hi (by decide))) (kf := fun _ => ?_)
          refine s_aload_n h dX8_take_44 rfl <|
          s_iload h dX8_take_45 rfl <|
          s_iload_n h dX8_take_47 rfl <|
          s_iload_n h dX8_take_48 rfl <|
          k_X8_86 h (c_X8_columnOf hN hM hwf2 hi) (by omega) hM.o rfl rfl dX8_take_49 <|
          PE.go <|
          s_istore h dX8_take_52 rfl <|
          s_aload_n h dX8_take_54 rfl <|
          gm_19 h dX8_take_55 hN hM <|
          s_bipush h dX8_take_58 bp_6 <|
          s_iload_n h dX8_take_60 rfl <|
          s_imul h dX8_take_61 <|
          s_iload h dX8_take_62 rfl <|
          s_iadd h dX8_take_64 <|
          s_iload h dX8_take_65 rfl <|
          sm_107 h dX8_take_67 hN hM (ixc hix (ix_n hi (by decide))) <|
          fun W hM =>
          s_iload h dX8_take_68 rfl <|
          s_iload h dX8_take_70 rfl <|
          s_if_lt (tgt := 82) h dX8_take_72 (by decide) (fun c72 => ?_) (fun c72 => ?_)
          · refine s_iconst h dX8_take_82 ic_0 <|
            s_ior h dX8_take_83 <|
            s_topi (shB (sCol (mS f a) c m) (i + 1)) (by
              rw [shB_s]
              first
                | (have q := (sCol_lt (mS f a) c m i).mp c72; rw [if_pos q]; exact Int32.or_zero)
                | (have q : ¬ sCol (mS f a) c m i = -6 := fun z => c72 ((sCol_lt (mS f a) c m i).mpr z); rw [if_neg q])) <|
            s_istore h dX8_take_84 rfl <|
            s_iincR h dX8_take_86 rfl rfl ic_1 (nI_1 i) <|
            s_goto (tgt := 37) h dX8_take_89 (by decide) <|
            ?_
            exact SX.loc (ih _ ((uA_up a 107 _ _ _) ▸ hM)) ⟨rfl, rfl, rfl, rfl, rfl, rfl, trivial⟩
          · refine s_iconst h dX8_take_75 ic_1 <|
            s_iload h dX8_take_76 rfl <|
            s_ishl h dX8_take_78 <|
            s_goto (tgt := 83) h dX8_take_79 (by decide) <|
            s_ior h dX8_take_83 <|
            s_topi (shB (sCol (mS f a) c m) (i + 1)) (by
              rw [shB_s]
              first
                | (have q := (sCol_lt (mS f a) c m i).mp c72; rw [if_pos q]; exact Int32.or_zero)
                | (have q : ¬ sCol (mS f a) c m i = -6 := fun z => c72 ((sCol_lt (mS f a) c m i).mpr z); rw [if_neg q])) <|
            s_istore h dX8_take_84 rfl <|
            s_iincR h dX8_take_86 rfl rfl ic_1 (nI_1 i) <|
            s_goto (tgt := 37) h dX8_take_89 (by decide) <|
            ?_
            exact SX.loc (ih _ ((uA_up a 107 _ _ _) ▸ hM)) ⟨rfl, rfl, rfl, rfl, rfl, rfl, trivial⟩
      · refine s_bipush h dX8_take_28 bp_m2 <|
          s_iret h he rfl dX8_take_30 ⟨Nat.le_refl _, Nat.le_refl _⟩ ?_
        (try have e9 := bI_1 c9)
        (try have e9 := bI_0 c9)
        (try have e18 := bI_1 c18)
        (try have e18 := bI_0 c18)
        (try have e25 := bI_1 c25)
        (try have e25 := bI_0 c25)
        have hok : okC c m = false := by simp [okC, *]
        exact PR.eq (by simp [tkR, *]) (by simpa [mtkF, mtkA, *] using hM)
  · refine s_iconst h dX8_take_12 ic_m1 <|
      s_iret h he rfl dX8_take_13 ⟨Nat.le_refl _, Nat.le_refl _⟩ ?_
    (try have e9 := bI_1 c9)
    (try have e9 := bI_0 c9)
    (try have e18 := bI_1 c18)
    (try have e18 := bI_0 c18)
    (try have e25 := bI_1 c25)
    (try have e25 := bI_0 c25)
    exact PR.eq (by simp [tkR, *]) (by simpa [mtkF, mtkA, *] using hM)
theorem c_X8_pass_w {l : Launch} {D : va_G} {N : Nat} {adr : Nat → Nat} {G : Nat → va_E} {G0 : Nat → va_E} {f : Nat → Int32} {a : Nat → Nat → Int32} (hN : 115 ≤ N) (hM : isMF D adr G0 G f a) (h23 : f 23 = 1) {q : Nat} (h22 : f 22 = nI q) (hq : q < 200) {v : Int32} :
    CT l D yX8_pass cX8_pass 3 (some FieldType.int) (rl 0) [.ref (adr 103), .int v] N adr G (PR (some (.int v)) N adr (fun W => isMF D adr G0 W (upd f 22 (nI (q + 1))) (uA a 113 (upd (a 113) q v)))) := by
  have hix : ix (f 22) q 200 := by rw [h22]; exact ix_n hq (by decide)
  refine CT.of (by decide +kernel) (Nat.le_of_ble_eq_true rfl) (fun Γ h he => ?_)
  have h : cx l D (rl 0) RX8 cX8_pass 3 Γ := h
  show SX Γ 0 0 0 [(0, .ref (adr 103)), (1, .int v)] [] N adr G
  refine s_aload_n h dX8_pass_0 rfl <|
    gm_201 h dX8_pass_1 hN hM <|
    s_if_eq (tgt := 11) h dX8_pass_4 (by decide) (kt := fun qx => absurd qx (by rw [h23]; decide)) (kf := fun _ => ?_)
  refine s_iload_n h dX8_pass_7 rfl <|
    s_goto (tgt := 20) h dX8_pass_8 (by decide) <|
    s_istore_n h dX8_pass_20 rfl <|
    s_aload_n h dX8_pass_21 rfl <|
    gm_37 h dX8_pass_22 hN hM <|
    s_aload_n h dX8_pass_25 rfl <|
    gm_205 h dX8_pass_26 hN hM <|
    s_iload_n h dX8_pass_29 rfl <|
    sm_113 h dX8_pass_30 hN hM hix <|
    fun W hM =>
    s_aload_n h dX8_pass_31 rfl <|
    s_dup h dX8_pass_32 rfl <|
    gm_205 h dX8_pass_33 hN hM <|
    s_iconst h dX8_pass_36 ic_1 <|
    s_iadd h dX8_pass_37 <|
    s_topi (nI (q + 1)) (by rw [h22]; exact nI_1 q) <|
    pm_205 h dX8_pass_38 hN hM <|
    fun W hM =>
    s_iload_n h dX8_pass_41 rfl <|
    s_iret h he rfl dX8_pass_42 ⟨Nat.le_refl _, Nat.le_refl _⟩ ?_
  exact PR.is hM
theorem c_X8_pass_r {l : Launch} {D : va_G} {N : Nat} {adr : Nat → Nat} {G : Nat → va_E} {G0 : Nat → va_E} {f : Nat → Int32} {a : Nat → Nat → Int32} (hN : 115 ≤ N) (hM : isMF D adr G0 G f a) (h23 : f 23 = 0) {q : Nat} (h22 : f 22 = nI q) (hq : q < 200) {v : Int32} :
    CT l D yX8_pass cX8_pass 3 (some FieldType.int) (rl 0) [.ref (adr 103), .int v] N adr G (PR (some (.int (a 113 q))) N adr (fun W => isMF D adr G0 W (upd f 22 (nI (q + 1))) a)) := by
  have hix : ix (f 22) q 200 := by rw [h22]; exact ix_n hq (by decide)
  refine CT.of (by decide +kernel) (Nat.le_of_ble_eq_true rfl) (fun Γ h he => ?_)
  have h : cx l D (rl 0) RX8 cX8_pass 3 Γ := h
  show SX Γ 0 0 0 [(0, .ref (adr 103)), (1, .int v)] [] N adr G
  refine s_aload_n h dX8_pass_0 rfl <|
    gm_201 h dX8_pass_1 hN hM <|
    s_if_eq (tgt := 11) h dX8_pass_4 (by decide) (kf := fun qx => absurd (h23) qx) (kt := fun _ => ?_)
  refine s_aload_n h dX8_pass_11 rfl <|
    gm_37 h dX8_pass_12 hN hM <|
    s_aload_n h dX8_pass_15 rfl <|
    gm_205 h dX8_pass_16 hN hM <|
    s_iald h dX8_pass_19 (by omega) hM.a113 hix rfl <|
    s_istore_n h dX8_pass_20 rfl <|
    s_aload_n h dX8_pass_21 rfl <|
    gm_37 h dX8_pass_22 hN hM <|
    s_aload_n h dX8_pass_25 rfl <|
    gm_205 h dX8_pass_26 hN hM <|
    s_iload_n h dX8_pass_29 rfl <|
    sm_113 h dX8_pass_30 hN hM hix <|
    fun W hM =>
    s_aload_n h dX8_pass_31 rfl <|
    s_dup h dX8_pass_32 rfl <|
    gm_205 h dX8_pass_33 hN hM <|
    s_iconst h dX8_pass_36 ic_1 <|
    s_iadd h dX8_pass_37 <|
    s_topi (nI (q + 1)) (by rw [h22]; exact nI_1 q) <|
    pm_205 h dX8_pass_38 hN hM <|
    fun W hM =>
    s_iload_n h dX8_pass_41 rfl <|
    s_iret h he rfl dX8_pass_42 ⟨Nat.le_refl _, Nat.le_refl _⟩ ?_
  exact PR.is (hM.idA rfl)
/-- what an image keeps, in its order -/
def img (f : Nat → Int32) (a : Nat → Nat → Int32) (j : Nat) : Int32 := if j = 0 then f 0 else if j = 1 then f 4 else if j = 2 then f 5 else if j < 21 then (if (j - 3) % 3 = 0 then a 104 ((j - 3) / 3) else if (j - 3) % 3 = 1 then a 105 ((j - 3) / 3) else a 106 ((j - 3) / 3)) else a 107 (j - 21)
theorem img_a (f : Nat → Int32) (a : Nat → Nat → Int32) {i : Nat} (h : i < 6) : img f a (3 + 3 * i) = a 104 i := by
  unfold img
  rw [if_neg (by omega), if_neg (by omega), if_neg (by omega), if_pos (by omega), if_pos (by omega), show (3 + 3 * i - 3) / 3 = i from by omega]
theorem img_b (f : Nat → Int32) (a : Nat → Nat → Int32) {i : Nat} (h : i < 6) : img f a (3 + 3 * i + 1) = a 105 i := by
  unfold img
  rw [if_neg (by omega), if_neg (by omega), if_neg (by omega), if_pos (by omega), if_neg (by omega), if_pos (by omega), show (3 + 3 * i + 1 - 3) / 3 = i from by omega]
theorem img_c (f : Nat → Int32) (a : Nat → Nat → Int32) {i : Nat} (h : i < 6) : img f a (3 + 3 * i + 1 + 1) = a 106 i := by
  unfold img
  rw [if_neg (by omega), if_neg (by omega), if_neg (by omega), if_pos (by omega), if_neg (by omega), if_neg (by omega), show (3 + 3 * i + 1 + 1 - 3) / 3 = i from by omega]
theorem img_d (f : Nat → Int32) (a : Nat → Nat → Int32) (j : Nat) : img f a (21 + j) = a 107 j := by
  unfold img
  rw [if_neg (by omega), if_neg (by omega), if_neg (by omega), if_neg (by omega), show 21 + j - 21 = j from by omega]
def wSt (f : Nat → Int32) (a : Nat → Nat → Int32) (B n : Nat) (g : Nat → Int32) (b : Nat → Nat → Int32) : Prop :=
  (g 0 = f 0 ∧ g 4 = f 4 ∧ g 5 = f 5 ∧ g 8 = f 8) ∧ (∀ k, 104 ≤ k → k ≤ 108 → b k = a k) ∧ b 114 = a 114 ∧ (∀ j, j < n → b 113 (B + j) = img f a j) ∧ (∀ x, x < B ∨ B + n ≤ x → b 113 x = a 113 x) ∧ g 23 = 1 ∧ g 22 = nI (B + n)
theorem wSt.step {f : Nat → Int32} {a : Nat → Nat → Int32} {B n : Nat} {g : Nat → Int32} {b : Nat → Nat → Int32} (h : wSt f a B n g b) {v : Int32} (e : v = img f a n) : wSt f a B (n + 1) (upd g 22 (nI (B + n + 1))) (uA b 113 (upd (b 113) (B + n) v)) := by
  obtain ⟨h1, h2, h3, h4, h5, h6, h7⟩ := h
  refine ⟨h1, fun k p q => (uA_ne _ _ (by omega)).trans (h2 k p q), h3, fun j hj => ?_, fun x hx => ?_, h6, rfl⟩
  · show upd (b 113) (B + n) v (B + j) = _
    by_cases q : j = n
    · subst q; simp [upd, e]
    · have : ¬ B + j = B + n := by omega
      simp only [upd, this, if_false]
      exact h4 j (by omega)
  · show upd (b 113) (B + n) v x = _
    have : ¬ x = B + n := by omega
    simp only [upd, this, if_false]
    exact h5 x (by omega)
theorem c_X8_passAll_w {l : Launch} {D : va_G} {N : Nat} {adr : Nat → Nat} {G : Nat → va_E} {G0 : Nat → va_E} {f : Nat → Int32} {a : Nat → Nat → Int32} (hN : 115 ≤ N) (hM : isMF D adr G0 G f a) {B : Nat} (hB : B ≤ 100) (h23 : f 23 = 1) (h22 : f 22 = nI B) :
    CT l D yX8_passAll cX8_passAll 2 (none) (rl 1) [.ref (adr 103)] N adr G (PR none N adr (fun W => ∃ g b, isMF D adr G0 W g b ∧ wSt f a B 81 g b)) := by
  have hw : wSt f a B 0 f a := ⟨⟨rfl, rfl, rfl, rfl⟩, fun _ _ _ => rfl, rfl, fun j hj => absurd hj (Nat.not_lt_zero j), fun _ _ => rfl, h23, h22⟩
  refine CT.of (by decide +kernel) (Nat.le_of_ble_eq_true rfl) (fun Γ h he => ?_)
  have h : cx l D (rl 1) RX8 cX8_passAll 2 Γ := h
  show SX Γ 0 0 0 [(0, .ref (adr 103))] [] N adr G
  refine s_aload_n h dX8_passAll_0 rfl <|
    s_aload_n h dX8_passAll_1 rfl <|
    s_aload_n h dX8_passAll_2 rfl <|
    gm_56 h dX8_passAll_3 hN hM <|
    k_X8_208 h (c_X8_pass_w hN hM hw.2.2.2.2.2.1 hw.2.2.2.2.2.2 (by omega)) (by omega) hM.o rfl rfl dX8_passAll_6 (PR.go fun V hM => ?_)
  refine pm_56 h dX8_passAll_9 hN hM <|
    fun W hM =>
    ?_
  replace hM := hM.idF rfl
  replace hw := hw.step (v := f 0) rfl
  refine s_aload_n h dX8_passAll_12 rfl <|
    s_aload_n h dX8_passAll_13 rfl <|
    s_aload_n h dX8_passAll_14 rfl <|
    gm_44 h dX8_passAll_15 hN hM <|
    k_X8_208 h (c_X8_pass_w hN hM hw.2.2.2.2.2.1 hw.2.2.2.2.2.2 (by omega)) (by omega) hM.o rfl rfl dX8_passAll_18 (PR.go fun V hM => ?_)
  refine pm_44 h dX8_passAll_21 hN hM <|
    fun W hM =>
    ?_
  replace hM := hM.idF rfl
  replace hw := hw.step (v := f 4) rfl
  refine s_aload_n h dX8_passAll_24 rfl <|
    s_aload_n h dX8_passAll_25 rfl <|
    s_aload_n h dX8_passAll_26 rfl <|
    gm_61 h dX8_passAll_27 hN hM <|
    k_X8_208 h (c_X8_pass_w hN hM hw.2.2.2.2.2.1 hw.2.2.2.2.2.2 (by omega)) (by omega) hM.o rfl rfl dX8_passAll_30 (PR.go fun V hM => ?_)
  refine pm_61 h dX8_passAll_33 hN hM <|
    fun W hM =>
    ?_
  replace hM := hM.idF rfl
  replace hw := hw.step (v := f 5) rfl
  refine s_iconst h dX8_passAll_36 ic_0 <|
    s_istore_n h dX8_passAll_37 rfl <|
    ?_
  refine SX.loc (up_ind (n := 6) (Q := fun i => ∀ (W : Nat → va_E) (g : Nat → Int32) (b : Nat → Nat → Int32), (isMF D adr G0 W g b ∧ wSt f a B (3 + 3 * i) g b) → SX Γ 0 0 38 [(0, .ref (adr 103)), (1, .int (nI i))] [] N adr W) ?_ ?_ 0 (Nat.zero_le _) _ _ _ ⟨hM, hw⟩) ⟨rfl, rfl, trivial⟩
  · intro W g b hH
    show SX _ _ _ _ _ _ _ _ _
    obtain ⟨hM, hw⟩ := hH
    refine s_iload_n h dX8_passAll_38 rfl <|
    s_bipush h dX8_passAll_39 bp_6 <|
    s_icmp_ge (tgt := 98) h dX8_passAll_41 (by decide) (kf := fun qx => absurd (by decide +kernel) qx) (kt := fun _ => ?_)
    refine s_iconst h dX8_passAll_98 ic_0 <|
    s_istore_n h dX8_passAll_99 rfl <|
    ?_
    refine SX.loc (up_ind (n := 60) (Q := fun i => ∀ (W : Nat → va_E) (g : Nat → Int32) (b : Nat → Nat → Int32), (isMF D adr G0 W g b ∧ wSt f a B (21 + i) g b) → SX Γ 0 0 100 [(0, .ref (adr 103)), (1, .int (nI i))] [] N adr W) ?_ ?_ 0 (Nat.zero_le _) _ _ _ ⟨hM, hw⟩) ⟨rfl, rfl, trivial⟩
    · intro W g b hH
      show SX _ _ _ _ _ _ _ _ _
      obtain ⟨hM, hw⟩ := hH
      refine s_iload_n h dX8_passAll_100 rfl <|
      s_bipush h dX8_passAll_101 bp_60 <|
      s_icmp_ge (tgt := 128) h dX8_passAll_103 (by decide) (kf := fun qx => absurd (by decide +kernel) qx) (kt := fun _ => ?_)
      refine s_vret h he dX8_passAll_128 ⟨Nat.le_refl _, Nat.le_refl _⟩ ?_
      exact PR.is ⟨_, _, hM, hw⟩
    · intro i hi ih W g b hH
      show SX _ _ _ _ _ _ _ _ _
      obtain ⟨hM, hw⟩ := hH
      refine s_iload_n h dX8_passAll_100 rfl <|
      s_bipush h dX8_passAll_101 bp_60 <|
      s_icmp_ge (tgt := 128) h dX8_passAll_103 (by decide) (kt := fun qx => absurd qx (nI_ge hi (by decide))) (kf := fun _ => ?_)
      refine s_aload_n h dX8_passAll_106 rfl <|
      gm_19 h dX8_passAll_107 hN hM <|
      s_iload_n h dX8_passAll_110 rfl <|
      s_aload_n h dX8_passAll_111 rfl <|
      s_aload_n h dX8_passAll_112 rfl <|
      gm_19 h dX8_passAll_113 hN hM <|
      s_iload_n h dX8_passAll_116 rfl <|
      s_iald h dX8_passAll_117 (by omega) hM.a107 (ix_n hi (by decide)) rfl <|
      k_X8_208 h (c_X8_pass_w hN hM hw.2.2.2.2.2.1 hw.2.2.2.2.2.2 (by omega)) (by omega) hM.o rfl rfl dX8_passAll_118 (PR.go fun V hM => ?_)
      refine sm_107 h dX8_passAll_121 hN hM (ix_n hi (by decide)) <|
      fun W hM =>
      ?_
      replace hM := hM.idA rfl
      replace hw := hw.step (v := b 107 i) (by rw [img_d, hw.2.1 107 (by decide) (by decide)])
      refine s_iincR h dX8_passAll_122 rfl rfl ic_1 (nI_1 i) <|
      s_goto (tgt := 100) h dX8_passAll_125 (by decide) <|
      ?_
      exact SX.loc (ih _ _ _ ⟨hM, hw⟩) ⟨rfl, rfl, trivial⟩
  · intro i hi ih W g b hH
    show SX _ _ _ _ _ _ _ _ _
    obtain ⟨hM, hw⟩ := hH
    refine s_iload_n h dX8_passAll_38 rfl <|
    s_bipush h dX8_passAll_39 bp_6 <|
    s_icmp_ge (tgt := 98) h dX8_passAll_41 (by decide) (kt := fun qx => absurd qx (nI_ge hi (by decide))) (kf := fun _ => ?_)
    refine s_aload_n h dX8_passAll_44 rfl <|
    gm_7 h dX8_passAll_45 hN hM <|
    s_iload_n h dX8_passAll_48 rfl <|
    s_aload_n h dX8_passAll_49 rfl <|
    s_aload_n h dX8_passAll_50 rfl <|
    gm_7 h dX8_passAll_51 hN hM <|
    s_iload_n h dX8_passAll_54 rfl <|
    s_iald h dX8_passAll_55 (by omega) hM.a104 (ix_n hi (by decide)) rfl <|
    k_X8_208 h (c_X8_pass_w hN hM hw.2.2.2.2.2.1 hw.2.2.2.2.2.2 (by omega)) (by omega) hM.o rfl rfl dX8_passAll_56 (PR.go fun V hM => ?_)
    refine sm_104 h dX8_passAll_59 hN hM (ix_n hi (by decide)) <|
    fun W hM =>
    ?_
    replace hM := hM.idA rfl
    replace hw := hw.step (v := b 104 i) (by rw [img_a f a hi, hw.2.1 104 (by decide) (by decide)])
    refine s_aload_n h dX8_passAll_60 rfl <|
    gm_13 h dX8_passAll_61 hN hM <|
    s_iload_n h dX8_passAll_64 rfl <|
    s_aload_n h dX8_passAll_65 rfl <|
    s_aload_n h dX8_passAll_66 rfl <|
    gm_13 h dX8_passAll_67 hN hM <|
    s_iload_n h dX8_passAll_70 rfl <|
    s_iald h dX8_passAll_71 (by omega) hM.a105 (ix_n hi (by decide)) rfl <|
    k_X8_208 h (c_X8_pass_w hN hM hw.2.2.2.2.2.1 hw.2.2.2.2.2.2 (by omega)) (by omega) hM.o rfl rfl dX8_passAll_72 (PR.go fun V hM => ?_)
    refine sm_105 h dX8_passAll_75 hN hM (ix_n hi (by decide)) <|
    fun W hM =>
    ?_
    replace hM := hM.idA rfl
    replace hw := hw.step (v := b 105 i) (by rw [img_b f a hi]; exact congrFun (hw.2.1 105 (by decide) (by decide)) i)
    refine s_aload_n h dX8_passAll_76 rfl <|
    gm_16 h dX8_passAll_77 hN hM <|
    s_iload_n h dX8_passAll_80 rfl <|
    s_aload_n h dX8_passAll_81 rfl <|
    s_aload_n h dX8_passAll_82 rfl <|
    gm_16 h dX8_passAll_83 hN hM <|
    s_iload_n h dX8_passAll_86 rfl <|
    s_iald h dX8_passAll_87 (by omega) hM.a106 (ix_n hi (by decide)) rfl <|
    k_X8_208 h (c_X8_pass_w hN hM hw.2.2.2.2.2.1 hw.2.2.2.2.2.2 (by omega)) (by omega) hM.o rfl rfl dX8_passAll_88 (PR.go fun V hM => ?_)
    refine sm_106 h dX8_passAll_91 hN hM (ix_n hi (by decide)) <|
    fun W hM =>
    ?_
    replace hM := hM.idA rfl
    replace hw := hw.step (v := b 106 i) (by rw [img_c f a hi]; exact congrFun (hw.2.1 106 (by decide) (by decide)) i)
    refine s_iincR h dX8_passAll_92 rfl rfl ic_1 (nI_1 i) <|
    s_goto (tgt := 38) h dX8_passAll_95 (by decide) <|
    ?_
    exact SX.loc (ih _ _ _ ⟨hM, hw⟩) ⟨rfl, rfl, trivial⟩
