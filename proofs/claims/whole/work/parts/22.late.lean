theorem isSW.sh {D : va_G} {adr : Nat → Nat} {G G2 : Nat → va_E} {sc i0 i1 : Nat → Nat → Int32} {kp sg : Nat → Int32} {n : Nat} (h : isSW D adr G sc i0 i1 kp sg n) (hw : ∃ wy, G2 40 = aJ D 9 wy) (e : ∀ j, j ≠ 40 → G2 j = G j) : isSW D adr G2 sc i0 i1 kp sg n := by
  obtain ⟨a, hs, ⟨f, b1, b2⟩, c, ⟨pa, tu, lf, rg, hp⟩, ⟨fr, mo, hm, hm0⟩, ⟨s1, wy, s2⟩, ⟨th, col, p1⟩, ⟨th2, col2, p2⟩, j0, j1⟩ := h
  exact ⟨(e 0 (by omega)).trans a, hs.same (fun j h1 h2 => e j (by omega)), ⟨f, (e 30 (by omega)).trans b1, b2⟩, (e 31 (by omega)).trans c, ⟨pa, tu, lf, rg, hp.same (fun j h1 h2 => e j (by omega))⟩, ⟨fr, mo, hm.same (fun j h1 h2 => e j (by omega)), hm0⟩, ⟨(e 39 (by omega)).trans s1, hw⟩, ⟨th, col, p1.same (e 41 (by omega)) (e 42 (by omega))⟩, ⟨th2, col2, p2.same (e 43 (by omega)) (e 44 (by omega))⟩, j0.same (fun j h1 h2 => e j (by omega)), j1.same (fun j h1 h2 => e j (by omega))⟩
theorem isSW.pl {D : va_G} {adr : Nat → Nat} {G G2 : Nat → va_E} {sc i0 i1 : Nat → Nat → Int32} {kp sg : Nat → Int32} {n : Nat} (h : isSW D adr G sc i0 i1 kp sg n) (h1 : ∃ f, G2 42 = aI D 6 f) (h2 : ∃ f, G2 44 = aI D 6 f) (e : ∀ j, j ≠ 42 → j ≠ 44 → G2 j = G j) : isSW D adr G2 sc i0 i1 kp sg n := by
  obtain ⟨a, hs, ⟨f, b1, b2⟩, c, ⟨pa, tu, lf, rg, hp⟩, ⟨fr, mo, hm, hm0⟩, ⟨s1, wy, s2⟩, ⟨th, col, p1⟩, ⟨th2, col2, p2⟩, j0, j1⟩ := h
  obtain ⟨g1, h1⟩ := h1
  obtain ⟨g2, h2⟩ := h2
  exact ⟨(e 0 (by omega) (by omega)).trans a, hs.same (fun j h1 h2 => e j (by omega) (by omega)), ⟨f, (e 30 (by omega) (by omega)).trans b1, b2⟩, (e 31 (by omega) (by omega)).trans c, ⟨pa, tu, lf, rg, hp.same (fun j h1 h2 => e j (by omega) (by omega))⟩, ⟨fr, mo, hm.same (fun j h1 h2 => e j (by omega) (by omega)), hm0⟩, ⟨(e 39 (by omega) (by omega)).trans s1, wy, (e 40 (by omega) (by omega)).trans s2⟩, ⟨th, g1, (e 41 (by omega) (by omega)).trans p1.1, g1, h1, fun _ _ => rfl⟩, ⟨th2, g2, (e 43 (by omega) (by omega)).trans p2.1, g2, h2, fun _ _ => rfl⟩, j0.same (fun j h1 h2 => e j (by omega) (by omega)), j1.same (fun j h1 h2 => e j (by omega) (by omega))⟩
def kLt (sc : Nat → Nat → Int32) (c m st : Int32) (j : Nat) : Int32 := kW (sCol sc c m) (sCol sc (c + st) (m + nI j))
def uK (sc : Nat → Nat → Int32) (c m st kd : Int32) (t k : Nat) (n : Nat) : Nat := fN (fun j x => if kLt sc c m st j = kd then x + Wn t k j else x) 0 n
theorem uK_s (sc : Nat → Nat → Int32) (c m st kd : Int32) (t k n : Nat) : uK sc c m st kd t k (n + 1) = if kLt sc c m st n = kd then uK sc c m st kd t k n + Wn t k n else uK sc c m st kd t k n := rfl
def oK (t k : Nat) (n : Nat) : Nat := fN (fun j x => x + Wn t k j) 0 n
theorem oK_s (t k n : Nat) : oK t k (n + 1) = oK t k n + Wn t k n := rfl
theorem oK_all : ∀ k, k < 9 → ∀ t, t < 11 → oK t k (k + 1) = 10 ^ k := by decide +kernel
theorem uK_le (sc : Nat → Nat → Int32) (c m st kd : Int32) (t k : Nat) : ∀ n, uK sc c m st kd t k n ≤ oK t k n
  | 0 => Nat.le_refl _
  | n + 1 => by
    rw [uK_s, oK_s]
    have := uK_le sc c m st kd t k n
    split <;> omega
theorem pow8 : ∀ k, k < 9 → 10 ^ k < 2 ^ 31 ∧ 0 < 10 ^ k := by decide +kernel
def laOk (c m st k t kd pt : Int32) : Bool := wb c 0 99 && (wb m 0 99 && (wb st 1 40 && (wb pt 0 1 && (wb k 0 8 && (wb t 0 10 && wb kd 0 3)))))
def laR (sc : Nat → Nat → Int32) (c m st k t kd pt : Int32) : Int64 := if laOk c m st k t kd pt then lN ((if pt = 0 then uK sc c m st kd t.toNatClampNeg k.toNatClampNeg (k.toNatClampNeg + 1) else 10 ^ k.toNatClampNeg) / Nat.gcd (uK sc c m st kd t.toNatClampNeg k.toNatClampNeg (k.toNatClampNeg + 1)) (10 ^ k.toNatClampNeg)) else -1000000000000000002
theorem lgc_ge {x y : Int64} (h : y ≤ x) : 0 ≤ lg_cmp x y := by
  unfold lg_cmp
  by_cases h1 : y < x
  · simp [h1]
  · have h2 : x = y := by
      apply Int64.toInt_inj.mp
      rw [Int64.le_iff_toInt_le] at h
      rw [Int64.lt_iff_toInt_lt] at h1
      omega
    simp [h2]

theorem c_X7_late {l : Launch} {D : va_G} {N : Nat} {adr : Nat → Nat} {G : Nat → va_E} {sc i0 i1 : Nat → Nat → Int32} {kp sg : Nat → Int32} {n : Nat} (hN : 103 ≤ N) (hW : isSW D adr G sc i0 i1 kp sg n) (hwf : wfT sc) {c m st k t kd pt : Int32} :
    CT l D yX7_late cX7_late 14 (some FieldType.long) (rl 4) [.ref (adr 0), .int c, .int m, .int st, .int k, .int t, .int kd, .int pt] N adr G (PR (some (.long (laR sc c m st k t kd pt))) N adr (fun W => isSW D adr W sc i0 i1 kp sg n ∧ frW G W)) := by
  have hS := hW.2.1
  have hT := hS.1
  have hPs := hS.2
  refine CT.of (by decide +kernel) (Nat.le_of_ble_eq_true rfl) (fun Γ h he => ?_)
  have h : cx l D (rl 4) RX7 cX7_late 14 Γ := h
  show SX Γ 0 0 0 [(0, .ref (adr 0)), (1, .int c), (2, .int m), (3, .int st), (4, .int k), (5, .int t), (6, .int kd), (7, .int pt)] [] N adr G
  refine s_iload_n h dX7_late_0 rfl <|
    k_X7_87 h (c_X7_isStand) rfl rfl dX7_late_1 <|
    PE.go <|
    s_if_eq (tgt := 34) h dX7_late_4 (by decide) (fun c4 => ?_) (fun c4 => ?_)
  · refine s_ldc2 h dX7_late_34 tw546 <|
      s_lret h he dX7_late_37 ⟨Nat.le_refl _, Nat.le_refl _⟩ ?_
    (try have e4 := bI_1 c4)
    (try have e4 := bI_0 c4)
    (try have e11 := bI_1 c11)
    (try have e11 := bI_0 c11)
    (try have e21 := bI_1 c21)
    (try have e21 := bI_0 c21)
    (try have e31 := bI_1 c31)
    (try have e31 := bI_0 c31)
    exact PR.eq (by rw [laR, show laOk c m st k t kd pt = false from by simp [laOk, *]]; rfl) ⟨hW, fun j hj => rfl⟩
  · refine s_iload_n h dX7_late_7 rfl <|
      k_X7_91 h (c_X7_isMinute) rfl rfl dX7_late_8 <|
      PE.go <|
      s_if_eq (tgt := 34) h dX7_late_11 (by decide) (fun c11 => ?_) (fun c11 => ?_)
    · refine s_ldc2 h dX7_late_34 tw546 <|
        s_lret h he dX7_late_37 ⟨Nat.le_refl _, Nat.le_refl _⟩ ?_
      (try have e4 := bI_1 c4)
      (try have e4 := bI_0 c4)
      (try have e11 := bI_1 c11)
      (try have e11 := bI_0 c11)
      (try have e21 := bI_1 c21)
      (try have e21 := bI_0 c21)
      (try have e31 := bI_1 c31)
      (try have e31 := bI_0 c31)
      exact PR.eq (by rw [laR, show laOk c m st k t kd pt = false from by simp [laOk, *]]; rfl) ⟨hW, fun j hj => rfl⟩
    · refine s_iload_n h dX7_late_14 rfl <|
        s_iconst h dX7_late_15 ic_1 <|
        s_bipush h dX7_late_16 bp_40 <|
        k_X7_55 h (c_X7_within) rfl rfl dX7_late_18 <|
        PE.go <|
        s_if_eq (tgt := 34) h dX7_late_21 (by decide) (fun c21 => ?_) (fun c21 => ?_)
      · refine s_ldc2 h dX7_late_34 tw546 <|
          s_lret h he dX7_late_37 ⟨Nat.le_refl _, Nat.le_refl _⟩ ?_
        (try have e4 := bI_1 c4)
        (try have e4 := bI_0 c4)
        (try have e11 := bI_1 c11)
        (try have e11 := bI_0 c11)
        (try have e21 := bI_1 c21)
        (try have e21 := bI_0 c21)
        (try have e31 := bI_1 c31)
        (try have e31 := bI_0 c31)
        exact PR.eq (by rw [laR, show laOk c m st k t kd pt = false from by simp [laOk, *]]; rfl) ⟨hW, fun j hj => rfl⟩
      · refine s_iload h dX7_late_24 rfl <|
          s_iconst h dX7_late_26 ic_0 <|
          s_iconst h dX7_late_27 ic_1 <|
          k_X7_55 h (c_X7_within) rfl rfl dX7_late_28 <|
          PE.go <|
          s_if_ne (tgt := 38) h dX7_late_31 (by decide) (fun c31 => ?_) (fun c31 => ?_)
        · refine s_iload h dX7_late_38 rfl <|
            s_iconst h dX7_late_40 ic_0 <|
            s_bipush h dX7_late_41 bp_8 <|
            k_X7_55 h (c_X7_within) rfl rfl dX7_late_43 <|
            PE.go <|
            s_if_eq (tgt := 68) h dX7_late_46 (by decide) (fun c46 => ?_) (fun c46 => ?_)
          · refine s_ldc2 h dX7_late_68 tw546 <|
              s_lret h he dX7_late_71 ⟨Nat.le_refl _, Nat.le_refl _⟩ ?_
            (try have e4 := bI_1 c4)
            (try have e4 := bI_0 c4)
            (try have e11 := bI_1 c11)
            (try have e11 := bI_0 c11)
            (try have e21 := bI_1 c21)
            (try have e21 := bI_0 c21)
            (try have e31 := bI_1 c31)
            (try have e31 := bI_0 c31)
            (try have e46 := bI_1 c46)
            (try have e46 := bI_0 c46)
            (try have e57 := bI_1 c57)
            (try have e57 := bI_0 c57)
            (try have e65 := bI_1 c65)
            (try have e65 := bI_0 c65)
            exact PR.eq (by rw [laR, show laOk c m st k t kd pt = false from by simp [laOk, *]]; rfl) ⟨hW, fun j hj => rfl⟩
          · refine s_iload h dX7_late_49 rfl <|
              s_iconst h dX7_late_51 ic_0 <|
              s_bipush h dX7_late_52 bp_10 <|
              k_X7_55 h (c_X7_within) rfl rfl dX7_late_54 <|
              PE.go <|
              s_if_eq (tgt := 68) h dX7_late_57 (by decide) (fun c57 => ?_) (fun c57 => ?_)
            · refine s_ldc2 h dX7_late_68 tw546 <|
                s_lret h he dX7_late_71 ⟨Nat.le_refl _, Nat.le_refl _⟩ ?_
              (try have e4 := bI_1 c4)
              (try have e4 := bI_0 c4)
              (try have e11 := bI_1 c11)
              (try have e11 := bI_0 c11)
              (try have e21 := bI_1 c21)
              (try have e21 := bI_0 c21)
              (try have e31 := bI_1 c31)
              (try have e31 := bI_0 c31)
              (try have e46 := bI_1 c46)
              (try have e46 := bI_0 c46)
              (try have e57 := bI_1 c57)
              (try have e57 := bI_0 c57)
              (try have e65 := bI_1 c65)
              (try have e65 := bI_0 c65)
              exact PR.eq (by rw [laR, show laOk c m st k t kd pt = false from by simp [laOk, *]]; rfl) ⟨hW, fun j hj => rfl⟩
            · refine s_iload h dX7_late_60 rfl <|
                k_X7_214 h (c_X7_isKind) rfl rfl dX7_late_62 <|
                PE.go <|
                s_if_ne (tgt := 72) h dX7_late_65 (by decide) (fun c65 => ?_) (fun c65 => ?_)
              · (try have e4 := bI_1 c4)
                (try have e4 := bI_0 c4)
                (try have e11 := bI_1 c11)
                (try have e11 := bI_0 c11)
                (try have e21 := bI_1 c21)
                (try have e21 := bI_0 c21)
                (try have e31 := bI_1 c31)
                (try have e31 := bI_0 c31)
                (try have e46 := bI_1 c46)
                (try have e46 := bI_0 c46)
                (try have e57 := bI_1 c57)
                (try have e57 := bI_0 c57)
                (try have e65 := bI_1 c65)
                (try have e65 := bI_0 c65)
                have hixk := wb_ix (n := 8) (by decide) rfl e46
                have hixt := wb_ix (n := 10) (by decide) rfl e57
                obtain ⟨kk, hkk⟩ : ∃ kk, k.toNatClampNeg = kk := ⟨_, rfl⟩
                obtain ⟨tt, htt⟩ : ∃ tt, t.toNatClampNeg = tt := ⟨_, rfl⟩
                have hke := ix_eq hixk
                have hte := ix_eq hixt
                rw [hkk] at hke hixk
                rw [htt] at hte hixt
                have hk8 : kk ≤ 8 := by have := hixk.2.2; omega
                have ht10 : tt ≤ 10 := by have := hixt.2.2; omega
                have hok : laOk c m st k t kd pt = true := by rw [laOk, e4, e11, e21, e31, e46, e57, e65]; rfl
                have eR : laR sc c m st k t kd pt = lN ((if pt = 0 then uK sc c m st kd tt kk (kk + 1) else 10 ^ kk) / Nat.gcd (uK sc c m st kd tt kk (kk + 1)) (10 ^ kk)) := by rw [laR, hok, if_pos rfl, hkk, htt]
                obtain ⟨hp10, hpp⟩ := pow8 kk (by omega)
                have hoK := oK_all kk (by omega) tt (by omega)
                have hUL : uK sc c m st kd tt kk (kk + 1) ≤ 10 ^ kk := by rw [← hoK]; exact uK_le _ _ _ _ _ _ _ _
                have hgp : 0 < Nat.gcd (uK sc c m st kd tt kk (kk + 1)) (10 ^ kk) := Nat.gcd_pos_of_pos_right _ hpp
                have hgl : Nat.gcd (uK sc c m st kd tt kk (kk + 1)) (10 ^ kk) ≤ 10 ^ kk := Nat.gcd_le_right _ hpp
                obtain ⟨hs1, wy, hs2⟩ := hW.2.2.2.2.2.2.1
                obtain ⟨thl, cl, hl0, fl, hl1, -⟩ := hW.2.2.2.2.2.2.2.1
                obtain ⟨thr, cr, hr0, fr, hr1, -⟩ := hW.2.2.2.2.2.2.2.2.1
                refine s_aload_n h dX7_late_72 rfl <|
                  g_X7_41 h dX7_late_73 (by omega) hW.1 <|
                  s_iload h dX7_late_76 rfl <|
                  s_topi (nI kk) hke <|
                  s_iload h dX7_late_78 rfl <|
                  s_topi (nI tt) hte <|
                  k_X7_217 h (c_X5_setChances (k := 39) (by omega) hs1 hs2 hk8 ht10) (by omega) hs1 rfl rfl dX7_late_80 (PR.go0 fun V hV => ?_)
                obtain ⟨wz, hz1, hz2, hz3⟩ := hV
                have hW1 := hW.sh ⟨wz, hz1⟩ hz3
                have hT1 := hW1.2.1.1
                have hl0a := (hz3 41 (by omega)).trans hl0
                have hl1a := (hz3 42 (by omega)).trans hl1
                refine s_aload_n h dX7_late_83 rfl <|
                  g_X7_10 h dX7_late_84 (by omega) hW1.1 <|
                  s_aload_n h dX7_late_87 rfl <|
                  g_X7_48 h dX7_late_88 (by omega) hW1.1 <|
                  s_iload_n h dX7_late_91 rfl <|
                  s_iload_n h dX7_late_92 rfl <|
                  k_X7_220 h (c_X3_expose (k := 1) (k2 := 41) (by omega) hT1 hwf (by omega) hl0a hl1a (by omega)) (by omega) hT1.1 rfl rfl dX7_late_93 <|
                  PE.go0 <|
                  s_lconst h dX7_late_96 lc_0 <|
                  s_lstore h dX7_late_97 rfl <|
                  s_lconst h dX7_late_99 lc_0 <|
                  s_lstore h dX7_late_100 rfl <|
                  s_iconst h dX7_late_102 ic_0 <|
                  s_istore h dX7_late_103 rfl <|
                  ?_
                have hb0 : (va_up V (41 + 1) (aI D 6 (cpF fl (sCol sc c m) 6))) 0 = .inr (6, [.ref (adr 1), .ref (adr 30), .ref (adr 31), .ref (adr 32), .ref (adr 36), .ref (adr 39), .ref (adr 41), .ref (adr 43)]) := (up_ne _ _ (by omega)).trans hW1.1
                have hbT : isTh D adr (va_up V (41 + 1) (aI D 6 (cpF fl (sCol sc c m) 6))) 1 sc := hT1.same (fun j q1 q2 q3 => up_ne _ _ (by omega))
                have hbr0 : (va_up V (41 + 1) (aI D 6 (cpF fl (sCol sc c m) 6))) 43 = .inr (2, [.int thr, .ref (adr (43 + 1))]) := (up_ne _ _ (by omega)).trans ((hz3 43 (by omega)).trans hr0)
                have hbr1 : (va_up V (41 + 1) (aI D 6 (cpF fl (sCol sc c m) 6))) 44 = aI D 6 fr := (up_ne _ _ (by omega)).trans ((hz3 44 (by omega)).trans hr1)
                have hb39 : (va_up V (41 + 1) (aI D 6 (cpF fl (sCol sc c m) 6))) 39 = .inr (4, [.ref (adr (39 + 1))]) := (up_ne _ _ (by omega)).trans ((hz3 39 (by omega)).trans hs1)
                have hb40 : (va_up V (41 + 1) (aI D 6 (cpF fl (sCol sc c m) 6))) 40 = aJ D 9 wz := (up_ne _ _ (by omega)).trans hz1
                have hb41 : (va_up V (41 + 1) (aI D 6 (cpF fl (sCol sc c m) 6))) 41 = .inr (2, [.int thl, .ref (adr (41 + 1))]) := (up_ne _ _ (by omega)).trans hl0a
                refine SX.loc (up_ind (n := kk + 1) (Q := fun i => ∀ (U : Nat → va_E) (g : Nat → Int32), (U 44 = aI D 6 g ∧ ∀ j, j ≠ 44 → U j = (va_up V (41 + 1) (aI D 6 (cpF fl (sCol sc c m) 6))) j) → SX Γ 0 0 105 [(0, .ref (adr 0)), (1, .int c), (2, .int m), (3, .int st), (4, .int k), (5, .int t), (6, .int kd), (7, .int pt), (8, .long (lN (uK sc c m st kd tt kk i))), (10, .long (lN (oK tt kk i))), (12, .int (nI i))] [] N adr U) ?_ ?_ 0 (Nat.zero_le _) (va_up V (41 + 1) (aI D 6 (cpF fl (sCol sc c m) 6))) fr ⟨hbr1, fun _ _ => rfl⟩) ⟨rfl, rfl, rfl, rfl, rfl, rfl, rfl, rfl, rfl, rfl, rfl, trivial⟩
                · intro U g hU
                  show SX _ _ _ _ _ _ _ _ _
                  refine s_iload h dX7_late_105 rfl <|
                  s_iload h dX7_late_107 rfl <|
                  s_icmp_gt (tgt := 180) h dX7_late_109 (by decide) (kf := fun qx => absurd (by rw [hke]; exact nI_lt (Nat.lt_succ_self kk) (by omega)) qx) (kt := fun _ => ?_)
                  rw [hoK]
                  refine s_lload h dX7_late_180 rfl <|
                  s_lload h dX7_late_182 rfl <|
                  k_X7_231 h (c_X7_greatestDivisor (by omega) (by omega) hpp) rfl rfl dX7_late_184 <|
                  PE.go <|
                  s_lstore h dX7_late_187 rfl <|
                  s_iload h dX7_late_189 rfl <|
                  s_if_ne (tgt := 199) h dX7_late_191 (by decide) (fun c191 => ?_) (fun c191 => ?_)
                  · refine s_lload h dX7_late_199 rfl <|
                    s_lload h dX7_late_201 rfl <|
                    s_lconst h dX7_late_203 lc_1 <|
                    s_lcmp h dX7_late_204 <|
                    s_if_ge (tgt := 212) h dX7_late_205 (by decide) (kf := fun qx => absurd (lgc_ge ((pk_lLE (by decide) (by omega)).mpr hgp)) qx) (kt := fun _ => ?_)
                    refine s_lload h dX7_late_212 rfl <|
                    s_ldiv h dX7_late_214 (show ¬ lN (Nat.gcd (uK sc c m st kd tt kk (kk + 1)) (10 ^ kk)) = lN 0 from fun q => Nat.ne_of_gt hgp ((pk_lEQ (by omega) (by decide)).mp q)) <|
                    s_lret h he dX7_late_215 ⟨Nat.le_refl _, Nat.le_refl _⟩ ?_
                    have hW9 : isSW D adr U sc i0 i1 kp sg n := hW1.pl ⟨_, (hU.2 42 (by omega)).trans (up_eq _ _ _)⟩ ⟨g, hU.1⟩ (fun j q1 q2 => (hU.2 j q2).trans (up_ne _ _ q1))
                    refine PR.eq ?_ ⟨hW9, fun j hj => (hU.2 j (by omega)).trans ((up_ne _ _ (by omega)).trans (hz3 j (by omega)))⟩
                    rw [eR]
                    first
                      | (have q : pt = 0 := c191
                         rw [if_pos q, pk_lDiv (by omega) hgp (by omega)])
                      | (have q : ¬ pt = 0 := c191
                         rw [if_neg q, pk_lDiv (by omega) hgp (by omega)])
                  · refine s_lload h dX7_late_194 rfl <|
                    s_goto (tgt := 201) h dX7_late_196 (by decide) <|
                    s_lload h dX7_late_201 rfl <|
                    s_lconst h dX7_late_203 lc_1 <|
                    s_lcmp h dX7_late_204 <|
                    s_if_ge (tgt := 212) h dX7_late_205 (by decide) (kf := fun qx => absurd (lgc_ge ((pk_lLE (by decide) (by omega)).mpr hgp)) qx) (kt := fun _ => ?_)
                    refine s_lload h dX7_late_212 rfl <|
                    s_ldiv h dX7_late_214 (show ¬ lN (Nat.gcd (uK sc c m st kd tt kk (kk + 1)) (10 ^ kk)) = lN 0 from fun q => Nat.ne_of_gt hgp ((pk_lEQ (by omega) (by decide)).mp q)) <|
                    s_lret h he dX7_late_215 ⟨Nat.le_refl _, Nat.le_refl _⟩ ?_
                    have hW9 : isSW D adr U sc i0 i1 kp sg n := hW1.pl ⟨_, (hU.2 42 (by omega)).trans (up_eq _ _ _)⟩ ⟨g, hU.1⟩ (fun j q1 q2 => (hU.2 j q2).trans (up_ne _ _ q1))
                    refine PR.eq ?_ ⟨hW9, fun j hj => (hU.2 j (by omega)).trans ((up_ne _ _ (by omega)).trans (hz3 j (by omega)))⟩
                    rw [eR]
                    first
                      | (have q : pt = 0 := c191
                         rw [if_pos q, pk_lDiv (by omega) hgp (by omega)])
                      | (have q : ¬ pt = 0 := c191
                         rw [if_neg q, pk_lDiv (by omega) hgp (by omega)])
                · intro i hi ih U g hU
                  show SX _ _ _ _ _ _ _ _ _
                  have u0 : U 0 = .inr (6, [.ref (adr 1), .ref (adr 30), .ref (adr 31), .ref (adr 32), .ref (adr 36), .ref (adr 39), .ref (adr 41), .ref (adr 43)]) := (hU.2 0 (by omega)).trans hb0
                  have uT : isTh D adr U 1 sc := hbT.same (fun j q1 q2 q3 => hU.2 j (by omega))
                  have ur0 : U 43 = .inr (2, [.int thr, .ref (adr (43 + 1))]) := (hU.2 43 (by omega)).trans hbr0
                  have x0 : (va_up U (43 + 1) (aI D 6 (cpF g (sCol sc (c + st) (m + nI i)) 6))) 0 = .inr (6, [.ref (adr 1), .ref (adr 30), .ref (adr 31), .ref (adr 32), .ref (adr 36), .ref (adr 39), .ref (adr 41), .ref (adr 43)]) := (up_ne _ _ (by omega)).trans u0
                  have x39 : (va_up U (43 + 1) (aI D 6 (cpF g (sCol sc (c + st) (m + nI i)) 6))) 39 = .inr (4, [.ref (adr (39 + 1))]) := (up_ne _ _ (by omega)).trans ((hU.2 39 (by omega)).trans hb39)
                  have x40 : (va_up U (43 + 1) (aI D 6 (cpF g (sCol sc (c + st) (m + nI i)) 6))) (39 + 1) = aJ D 9 wz := (up_ne _ _ (by omega)).trans ((hU.2 40 (by omega)).trans hb40)
                  have x41 : (va_up U (43 + 1) (aI D 6 (cpF g (sCol sc (c + st) (m + nI i)) 6))) 41 = .inr (2, [.int thl, .ref (adr (41 + 1))]) := (up_ne _ _ (by omega)).trans ((hU.2 41 (by omega)).trans hb41)
                  have x42 : (va_up U (43 + 1) (aI D 6 (cpF g (sCol sc (c + st) (m + nI i)) 6))) (41 + 1) = aI D 6 (cpF fl (sCol sc c m) 6) := (up_ne _ _ (by omega)).trans ((hU.2 42 (by omega)).trans (up_eq _ _ _))
                  have x43 : (va_up U (43 + 1) (aI D 6 (cpF g (sCol sc (c + st) (m + nI i)) 6))) 43 = .inr (2, [.int thr, .ref (adr (43 + 1))]) := (up_ne _ _ (by omega)).trans ur0
                  have x44 : (va_up U (43 + 1) (aI D 6 (cpF g (sCol sc (c + st) (m + nI i)) 6))) (43 + 1) = aI D 6 (cpF g (sCol sc (c + st) (m + nI i)) 6) := up_eq _ _ _
                  have ek : kW (cpF fl (sCol sc c m) 6) (cpF g (sCol sc (c + st) (m + nI i)) 6) = kLt sc c m st i := kW_congr (fun j hj => cpF_lt hj) (fun j hj => cpF_lt hj)
                  refine s_iload h dX7_late_105 rfl <|
                  s_iload h dX7_late_107 rfl <|
                  s_icmp_gt (tgt := 180) h dX7_late_109 (by decide) (kt := fun qx => absurd qx (by rw [hke]; exact nI_nlt (show i ≤ kk from by omega) (by omega))) (kf := fun _ => ?_)
                  refine s_aload_n h dX7_late_112 rfl <|
                  g_X7_10 h dX7_late_113 (by omega) u0 <|
                  s_aload_n h dX7_late_116 rfl <|
                  g_X7_52 h dX7_late_117 (by omega) u0 <|
                  s_iload_n h dX7_late_120 rfl <|
                  s_iload_n h dX7_late_121 rfl <|
                  s_iadd h dX7_late_122 <|
                  s_iload_n h dX7_late_123 rfl <|
                  s_iload h dX7_late_124 rfl <|
                  s_iadd h dX7_late_126 <|
                  k_X7_220 h (c_X3_expose (k := 1) (k2 := 43) (by omega) uT hwf (by omega) ur0 hU.1 (by omega)) (by omega) uT.1 rfl rfl dX7_late_127 <|
                  PE.go0 <|
                  s_lload h dX7_late_130 rfl <|
                  s_aload_n h dX7_late_132 rfl <|
                  g_X7_41 h dX7_late_133 (by omega) x0 <|
                  s_iload h dX7_late_136 rfl <|
                  k_X7_224 h (c_X5_waysOf (k := 39) (by omega) x39 x40 (show i < 9 from by omega)) (by omega) x39 rfl rfl dX7_late_138 <|
                  PE.go <|
                  s_ladd h dX7_late_141 <|
                  s_topl (lN (oK tt kk (i + 1))) (by rw [hz2 i (by omega), lN_add]; rfl) <|
                  s_lstore h dX7_late_142 rfl <|
                  s_aload_n h dX7_late_144 rfl <|
                  g_X7_48 h dX7_late_145 (by omega) x0 <|
                  s_aload_n h dX7_late_148 rfl <|
                  g_X7_52 h dX7_late_149 (by omega) x0 <|
                  k_X7_228 h (c_X2_kindWith (k := 41) (k2 := 43) (by omega) x41 x42 (by omega) x43 x44) (by omega) x41 rfl rfl dX7_late_152 <|
                  PE.go <|
                  s_iload h dX7_late_155 rfl <|
                  s_icmp_ne (tgt := 174) h dX7_late_157 (by decide) (fun c157 => ?_) (fun c157 => ?_)
                  · refine s_iincR h dX7_late_174 rfl rfl ic_1 (nI_1 i) <|
                    s_goto (tgt := 105) h dX7_late_177 (by decide) <|
                    ?_
                    first
                      | (have q : kLt sc c m st i = kd := ek.symm.trans c157
                         have z := (uK_s sc c m st kd tt kk i).trans (if_pos q)
                         refine SX.loc (ih (va_up U (43 + 1) (aI D 6 (cpF g (sCol sc (c + st) (m + nI i)) 6))) (cpF g (sCol sc (c + st) (m + nI i)) 6) ⟨up_eq _ _ _, fun j hj => (up_ne _ _ hj).trans (hU.2 j hj)⟩) ⟨rfl, rfl, rfl, rfl, rfl, rfl, rfl, rfl, ?_, rfl, rfl, trivial⟩
                         rw [z]; rfl)
                      | (have q : ¬ kLt sc c m st i = kd := fun y => c157 (ek.trans y)
                         have z := (uK_s sc c m st kd tt kk i).trans (if_neg q)
                         refine SX.loc (ih (va_up U (43 + 1) (aI D 6 (cpF g (sCol sc (c + st) (m + nI i)) 6))) (cpF g (sCol sc (c + st) (m + nI i)) 6) ⟨up_eq _ _ _, fun j hj => (up_ne _ _ hj).trans (hU.2 j hj)⟩) ⟨rfl, rfl, rfl, rfl, rfl, rfl, rfl, rfl, ?_, rfl, rfl, trivial⟩
                         rw [z]; rfl)
                  · refine s_lload h dX7_late_160 rfl <|
                    s_aload_n h dX7_late_162 rfl <|
                    g_X7_41 h dX7_late_163 (by omega) x0 <|
                    s_iload h dX7_late_166 rfl <|
                    k_X7_224 h (c_X5_waysOf (k := 39) (by omega) x39 x40 (show i < 9 from by omega)) (by omega) x39 rfl rfl dX7_late_168 <|
                    PE.go <|
                    s_ladd h dX7_late_171 <|
                    s_topl (lN (uK sc c m st kd tt kk i + Wn tt kk i)) (by rw [hz2 i (by omega), lN_add]) <|
                    s_lstore h dX7_late_172 rfl <|
                    s_iincR h dX7_late_174 rfl rfl ic_1 (nI_1 i) <|
                    s_goto (tgt := 105) h dX7_late_177 (by decide) <|
                    ?_
                    first
                      | (have q : kLt sc c m st i = kd := ek.symm.trans c157
                         have z := (uK_s sc c m st kd tt kk i).trans (if_pos q)
                         refine SX.loc (ih (va_up U (43 + 1) (aI D 6 (cpF g (sCol sc (c + st) (m + nI i)) 6))) (cpF g (sCol sc (c + st) (m + nI i)) 6) ⟨up_eq _ _ _, fun j hj => (up_ne _ _ hj).trans (hU.2 j hj)⟩) ⟨rfl, rfl, rfl, rfl, rfl, rfl, rfl, rfl, ?_, rfl, rfl, trivial⟩
                         rw [z]; rfl)
                      | (have q : ¬ kLt sc c m st i = kd := fun y => c157 (ek.trans y)
                         have z := (uK_s sc c m st kd tt kk i).trans (if_neg q)
                         refine SX.loc (ih (va_up U (43 + 1) (aI D 6 (cpF g (sCol sc (c + st) (m + nI i)) 6))) (cpF g (sCol sc (c + st) (m + nI i)) 6) ⟨up_eq _ _ _, fun j hj => (up_ne _ _ hj).trans (hU.2 j hj)⟩) ⟨rfl, rfl, rfl, rfl, rfl, rfl, rfl, rfl, ?_, rfl, rfl, trivial⟩
                         rw [z]; rfl)
              · refine s_ldc2 h dX7_late_68 tw546 <|
                  s_lret h he dX7_late_71 ⟨Nat.le_refl _, Nat.le_refl _⟩ ?_
                (try have e4 := bI_1 c4)
                (try have e4 := bI_0 c4)
                (try have e11 := bI_1 c11)
                (try have e11 := bI_0 c11)
                (try have e21 := bI_1 c21)
                (try have e21 := bI_0 c21)
                (try have e31 := bI_1 c31)
                (try have e31 := bI_0 c31)
                (try have e46 := bI_1 c46)
                (try have e46 := bI_0 c46)
                (try have e57 := bI_1 c57)
                (try have e57 := bI_0 c57)
                (try have e65 := bI_1 c65)
                (try have e65 := bI_0 c65)
                exact PR.eq (by rw [laR, show laOk c m st k t kd pt = false from by simp [laOk, *]]; rfl) ⟨hW, fun j hj => rfl⟩
        · refine s_ldc2 h dX7_late_34 tw546 <|
            s_lret h he dX7_late_37 ⟨Nat.le_refl _, Nat.le_refl _⟩ ?_
          (try have e4 := bI_1 c4)
          (try have e4 := bI_0 c4)
          (try have e11 := bI_1 c11)
          (try have e11 := bI_0 c11)
          (try have e21 := bI_1 c21)
          (try have e21 := bI_0 c21)
          (try have e31 := bI_1 c31)
          (try have e31 := bI_0 c31)
          exact PR.eq (by rw [laR, show laOk c m st k t kd pt = false from by simp [laOk, *]]; rfl) ⟨hW, fun j hj => rfl⟩
theorem i32_ext {x y : Int32} (h : ∀ i, i < 32 → x.toBitVec.getLsbD i = y.toBitVec.getLsbD i) : x = y := Int32.toBitVec_inj.mp (BitVec.eq_of_getLsbD_eq h)
theorem and1023 {s : Int32} (h : s &&& 1023 = s) : ∃ S, S < 1024 ∧ s = nI S := by
  refine ⟨s.toBitVec.toNat, ?_, ?_⟩
  · rw [← h, Int32.toBitVec_and, BitVec.toNat_and]
    exact Nat.lt_of_le_of_lt Nat.and_le_right (by decide)
  · apply Int32.toBitVec_inj.mp
    show s.toBitVec = BitVec.ofNat 32 s.toBitVec.toNat
    rw [BitVec.ofNat_toNat]
    simp
theorem sub_and {s b : Int32} (h : s &&& (b ^^^ -1) = 0) : s &&& b = s := by
  apply i32_ext
  intro i hi
  have h2 := congrArg (fun z : Int32 => z.toBitVec.getLsbD i) h
  simp only [Int32.toBitVec_and, Int32.toBitVec_xor, BitVec.getLsbD_and, BitVec.getLsbD_xor] at h2 ⊢
  have h3 : (-1 : Int32).toBitVec.getLsbD i = true := by
    rw [show (-1 : Int32).toBitVec = BitVec.allOnes 32 from by decide, BitVec.getLsbD_allOnes]; simpa using hi
  have h4 : (0 : Int32).toBitVec.getLsbD i = false := by
    rw [show (0 : Int32).toBitVec = 0#32 from rfl, BitVec.getLsbD_zero]
  rw [h3, h4] at h2
  revert h2
  cases s.toBitVec.getLsbD i <;> cases b.toBitVec.getLsbD i <;> simp
theorem bit1023 : ∀ j, j < 10 → ((1 : Int32) <<< (nI j &&& 31)) &&& 1023 = (1 : Int32) <<< (nI j &&& 31) := by decide +kernel
theorem i32_or_and (a b c : Int32) : (a ||| b) &&& c = (a &&& c) ||| (b &&& c) := by
  apply Int32.toBitVec_inj.mp
  simp only [Int32.toBitVec_and, Int32.toBitVec_or]
  apply BitVec.eq_of_getLsbD_eq
  intro i hi
  simp only [BitVec.getLsbD_and, BitVec.getLsbD_or]
  cases a.toBitVec.getLsbD i <;> cases b.toBitVec.getLsbD i <;> cases c.toBitVec.getLsbD i <;> rfl
theorem tB1023 (g : Nat → Int32) : ∀ n, n ≤ 10 → tB g n &&& 1023 = tB g n
  | 0, _ => by show (0 : Int32) &&& 1023 = 0; decide
  | n + 1, h => by
    rw [tB_s]
    split
    · exact tB1023 g n (by omega)
    · rw [i32_or_and, tB1023 g n (by omega), bit1023 n (by omega)]
theorem set_of {g : Nat → Int32} {s : Int32} (h : s &&& (tB g 10 ^^^ -1) = 0) : ∃ S, S < 1024 ∧ s = nI S := by
  apply and1023
  have h1 := sub_and h
  have h2 := tB1023 g 10 (by omega)
  conv => lhs; rw [← h1]
  rw [Int32.and_assoc, h2, h1]
theorem moN_0 (fr mo : Nat → Int32) : ∀ n, moN fr mo n 0 = mo 0
  | 0 => rfl
  | n + 1 => by
    rw [moN_s]
    show upd _ (n + 1) _ 0 = _
    simp only [upd, show ¬ (0 : Nat) = n + 1 from by omega, if_false]
    exact moN_0 fr mo n
def maOk (sc : Nat → Nat → Int32) (s p : Int32) : Bool := decide (s &&& (tB (sc 5) 10 ^^^ -1) = 0) && (decide (p = -1) || (wb p 0 9 && hb s p))
def maR (sc : Nat → Nat → Int32) (fr mo : Nat → Int32) (s p : Int32) : Int32 := if maOk sc s p then (if p = -1 then mPr (moN fr mo s.toNatClampNeg) s else ptR fr (moN fr mo s.toNatClampNeg) p s) else -1
def PMt (D : va_G) (adr : Nat → Nat) (G : Nat → va_E) (sc i0 i1 : Nat → Nat → Int32) (kp sg : Nat → Int32) (n : Nat) (s p : Int32) (N : Nat) : PT := fun v N' adr' W => N' = N ∧ adr' = adr ∧ ∃ fr mo, (∀ j, j < 10 → fr j = frB sc (nI j) 10) ∧ mo 0 = 0 ∧ v = some (.int (maR sc fr mo s p)) ∧ isSW D adr W sc i0 i1 kp sg n ∧ frW G W
theorem c_X7_match {l : Launch} {D : va_G} {N : Nat} {adr : Nat → Nat} {G : Nat → va_E} {sc i0 i1 : Nat → Nat → Int32} {kp sg : Nat → Int32} {n : Nat} (hN : 103 ≤ N) (hW : isSW D adr G sc i0 i1 kp sg n) {s p : Int32} :
    CT l D yX7_match cX7_match 3 (some FieldType.int) (rl 7) [.ref (adr 0), .int s, .int p] N adr G (PMt D adr G sc i0 i1 kp sg n s p N) := by
  have hS := hW.2.1
  have hT := hS.1
  have hPs := hS.2
  obtain ⟨fr0, mo, hm, hm0⟩ := hW.2.2.2.2.2.1
  refine CT.of (by decide +kernel) (Nat.le_of_ble_eq_true rfl) (fun Γ h he => ?_)
  have h : cx l D (rl 7) RX7 cX7_match 3 Γ := h
  show SX Γ 0 0 0 [(0, .ref (adr 0)), (1, .int s), (2, .int p)] [] N adr G
  refine s_iload_n h dX7_match_0 rfl <|
    s_aload_n h dX7_match_1 rfl <|
    g_X7_10 h dX7_match_2 (by omega) hW.1 <|
    k_X7_110 h (c_X3_pictureBits (k := 1) (by omega) hT hPs) (by omega) hT.1 rfl rfl dX7_match_5 <|
    PE.go <|
    s_iconst h dX7_match_8 ic_m1 <|
    s_ixor h dX7_match_9 <|
    s_iand h dX7_match_10 <|
    s_if_eq (tgt := 16) h dX7_match_11 (by decide) (fun c11 => ?_) (fun c11 => ?_)
  · refine s_iload_n h dX7_match_16 rfl <|
      s_iconst h dX7_match_17 ic_m1 <|
      s_icmp_eq (tgt := 41) h dX7_match_18 (by decide) (fun c18 => ?_) (fun c18 => ?_)
    · obtain ⟨S, hS10, hSe⟩ := set_of c11
      have hSn : s.toNatClampNeg = S := by rw [hSe, nI_clamp (by omega)]
      refine s_aload_n h dX7_match_41 rfl <|
        g_X7_34 h dX7_match_42 (by omega) hW.1 <|
        s_aload_n h dX7_match_45 rfl <|
        g_X7_10 h dX7_match_46 (by omega) hW.1 <|
        s_iload_n h dX7_match_49 rfl <|
        s_topi (nI S) hSe <|
        k_X7_165 h (c_X0_prepare (k := 36) (ks := 1) (by omega) hm (by omega) hT hPs (by omega) hS10) (by omega) hm.1 rfl rfl dX7_match_50 (PR.go0 fun V hV => ?_)
      obtain ⟨fr2, hm2, hf2, hfr⟩ := hV
      have hW2 := hW.mt ⟨_, _, hm2, (moN_0 fr2 mo S).trans hm0⟩ hfr
      refine s_iload_n h dX7_match_53 rfl <|
        s_iconst h dX7_match_54 ic_m1 <|
        s_icmp_ne (tgt := 69) h dX7_match_55 (by decide) (fun c55 => ?_) (fun c55 => ?_)
      · refine s_aload_n h dX7_match_69 rfl <|
          g_X7_34 h dX7_match_70 (by omega) hW2.1 <|
          s_iload_n h dX7_match_73 rfl <|
          s_iload_n h dX7_match_74 rfl <|
          k_X7_172 h (c_X0_partnerOf (k := 36) (by omega) hm2) (by omega) hm2.1 rfl rfl dX7_match_75 <|
          PE.go <|
          s_iret h he rfl dX7_match_78 ⟨Nat.le_refl _, Nat.le_refl _⟩ ?_
        have hok : maOk sc s p = true := by
          rw [maOk, decide_eq_true c11, Bool.true_and]
          first
            | (rw [decide_eq_true c55]; rfl)
            | exact absurd c18 c55
            | (rw [decide_eq_false c55, bI_1 c28, bI_1 c36]; rfl)
        refine ⟨rfl, rfl, fr2, mo, hf2, hm0, ?_, hW2, fun j hj => hfr j (by omega)⟩
        first
          | (have q : p = -1 := c55
             rw [maR, hok, if_pos rfl, if_pos q, hSn])
          | (have q : ¬ p = -1 := c55
             rw [maR, hok, if_pos rfl, if_neg q, hSn])
      · refine s_aload_n h dX7_match_58 rfl <|
          g_X7_34 h dX7_match_59 (by omega) hW2.1 <|
          s_iload_n h dX7_match_62 rfl <|
          k_X7_169 h (c_X0_mostPairs (k := 36) (by omega) hm2) (by omega) hm2.1 rfl rfl dX7_match_63 <|
          PE.go <|
          s_goto (tgt := 78) h dX7_match_66 (by decide) <|
          s_iret h he rfl dX7_match_78 ⟨Nat.le_refl _, Nat.le_refl _⟩ ?_
        have hok : maOk sc s p = true := by
          rw [maOk, decide_eq_true c11, Bool.true_and]
          first
            | (rw [decide_eq_true c55]; rfl)
            | exact absurd c18 c55
            | (rw [decide_eq_false c55, bI_1 c28, bI_1 c36]; rfl)
        refine ⟨rfl, rfl, fr2, mo, hf2, hm0, ?_, hW2, fun j hj => hfr j (by omega)⟩
        first
          | (have q : p = -1 := c55
             rw [maR, hok, if_pos rfl, if_pos q, hSn])
          | (have q : ¬ p = -1 := c55
             rw [maR, hok, if_pos rfl, if_neg q, hSn])
    · refine s_iload_n h dX7_match_21 rfl <|
        s_iconst h dX7_match_22 ic_0 <|
        s_bipush h dX7_match_23 bp_9 <|
        k_X7_55 h (c_X7_within) rfl rfl dX7_match_25 <|
        PE.go <|
        s_if_eq (tgt := 39) h dX7_match_28 (by decide) (fun c28 => ?_) (fun c28 => ?_)
      · refine s_iconst h dX7_match_39 ic_m1 <|
          s_iret h he rfl dX7_match_40 ⟨Nat.le_refl _, Nat.le_refl _⟩ ?_
        have hbad : maOk sc s p = false := by
          rw [maOk, decide_eq_false c18, Bool.false_or]
          first
            | (have q := bI_0 c28; rw [q, Bool.false_and, Bool.and_false])
            | (have q := bI_0 c36; rw [q, Bool.and_false, Bool.and_false])
        exact ⟨rfl, rfl, fun j => frB sc (nI j) 10, fun _ => 0, fun _ _ => rfl, rfl, by rw [maR, hbad]; rfl, hW, fun j hj => rfl⟩
      · refine s_iload_n h dX7_match_31 rfl <|
          s_iload_n h dX7_match_32 rfl <|
          k_X7_161 h (c_X7_hasBit) rfl rfl dX7_match_33 <|
          PE.go <|
          s_if_ne (tgt := 41) h dX7_match_36 (by decide) (fun c36 => ?_) (fun c36 => ?_)
        · obtain ⟨S, hS10, hSe⟩ := set_of c11
          have hSn : s.toNatClampNeg = S := by rw [hSe, nI_clamp (by omega)]
          refine s_aload_n h dX7_match_41 rfl <|
            g_X7_34 h dX7_match_42 (by omega) hW.1 <|
            s_aload_n h dX7_match_45 rfl <|
            g_X7_10 h dX7_match_46 (by omega) hW.1 <|
            s_iload_n h dX7_match_49 rfl <|
            s_topi (nI S) hSe <|
            k_X7_165 h (c_X0_prepare (k := 36) (ks := 1) (by omega) hm (by omega) hT hPs (by omega) hS10) (by omega) hm.1 rfl rfl dX7_match_50 (PR.go0 fun V hV => ?_)
          obtain ⟨fr2, hm2, hf2, hfr⟩ := hV
          have hW2 := hW.mt ⟨_, _, hm2, (moN_0 fr2 mo S).trans hm0⟩ hfr
          refine s_iload_n h dX7_match_53 rfl <|
            s_iconst h dX7_match_54 ic_m1 <|
            s_icmp_ne (tgt := 69) h dX7_match_55 (by decide) (fun c55 => ?_) (fun c55 => ?_)
          · refine s_aload_n h dX7_match_69 rfl <|
              g_X7_34 h dX7_match_70 (by omega) hW2.1 <|
              s_iload_n h dX7_match_73 rfl <|
              s_iload_n h dX7_match_74 rfl <|
              k_X7_172 h (c_X0_partnerOf (k := 36) (by omega) hm2) (by omega) hm2.1 rfl rfl dX7_match_75 <|
              PE.go <|
              s_iret h he rfl dX7_match_78 ⟨Nat.le_refl _, Nat.le_refl _⟩ ?_
            have hok : maOk sc s p = true := by
              rw [maOk, decide_eq_true c11, Bool.true_and]
              first
                | (rw [decide_eq_true c55]; rfl)
                | exact absurd c18 c55
                | (rw [decide_eq_false c55, bI_1 c28, bI_1 c36]; rfl)
            refine ⟨rfl, rfl, fr2, mo, hf2, hm0, ?_, hW2, fun j hj => hfr j (by omega)⟩
            first
              | (have q : p = -1 := c55
                 rw [maR, hok, if_pos rfl, if_pos q, hSn])
              | (have q : ¬ p = -1 := c55
                 rw [maR, hok, if_pos rfl, if_neg q, hSn])
          · refine s_aload_n h dX7_match_58 rfl <|
              g_X7_34 h dX7_match_59 (by omega) hW2.1 <|
              s_iload_n h dX7_match_62 rfl <|
              k_X7_169 h (c_X0_mostPairs (k := 36) (by omega) hm2) (by omega) hm2.1 rfl rfl dX7_match_63 <|
              PE.go <|
              s_goto (tgt := 78) h dX7_match_66 (by decide) <|
              s_iret h he rfl dX7_match_78 ⟨Nat.le_refl _, Nat.le_refl _⟩ ?_
            have hok : maOk sc s p = true := by
              rw [maOk, decide_eq_true c11, Bool.true_and]
              first
                | (rw [decide_eq_true c55]; rfl)
                | exact absurd c18 c55
                | (rw [decide_eq_false c55, bI_1 c28, bI_1 c36]; rfl)
            refine ⟨rfl, rfl, fr2, mo, hf2, hm0, ?_, hW2, fun j hj => hfr j (by omega)⟩
            first
              | (have q : p = -1 := c55
                 rw [maR, hok, if_pos rfl, if_pos q, hSn])
              | (have q : ¬ p = -1 := c55
                 rw [maR, hok, if_pos rfl, if_neg q, hSn])
        · refine s_iconst h dX7_match_39 ic_m1 <|
            s_iret h he rfl dX7_match_40 ⟨Nat.le_refl _, Nat.le_refl _⟩ ?_
          have hbad : maOk sc s p = false := by
            rw [maOk, decide_eq_false c18, Bool.false_or]
            first
              | (have q := bI_0 c28; rw [q, Bool.false_and, Bool.and_false])
              | (have q := bI_0 c36; rw [q, Bool.and_false, Bool.and_false])
          exact ⟨rfl, rfl, fun j => frB sc (nI j) 10, fun _ => 0, fun _ _ => rfl, rfl, by rw [maR, hbad]; rfl, hW, fun j hj => rfl⟩
  · refine s_iconst h dX7_match_14 ic_m1 <|
      s_iret h he rfl dX7_match_15 ⟨Nat.le_refl _, Nat.le_refl _⟩ ?_
    have hbad : maOk sc s p = false := by rw [maOk, decide_eq_false c11]; rfl
    exact ⟨rfl, rfl, fun j => frB sc (nI j) 10, fun _ => 0, fun _ _ => rfl, rfl, by rw [maR, hbad]; rfl, hW, fun j hj => rfl⟩
