theorem ffO_lt {p : Nat → Bool} {n j : Nat} (h : ffO p n = some j) : j < n := by
  rw [ffO] at h
  exact List.mem_range.mp (List.mem_of_find?_eq_some h)
theorem oI_ne {p : Nat → Bool} {n : Nat} (h : ¬ oI (ffO p n) = -6) : ∃ j, j < n ∧ ffO p n = some j := by
  cases e : ffO p n with
  | none => rw [e] at h; exact absurd rfl h
  | some j => exact ⟨j, ffO_lt e, rfl⟩
theorem iOf_congr {lf rg lf2 rg2 : Nat → Int32} {p : Int32} {e : Nat} (h : lf e = lf2 e ∧ rg e = rg2 e) : iOf lf rg p e = iOf lf2 rg2 p e := by
  unfold iOf; rw [h.1, h.2]
theorem wN_congr {sc : Nat → Nat → Int32} {lf rg lf2 rg2 : Nat → Int32} {q : Nat} (h : ∀ j, j < q → lf j = lf2 j ∧ rg j = rg2 j) {j : Nat} (hj : j < q) : wN sc lf rg j = wN sc lf2 rg2 j := by
  unfold wN
  rw [(h j hj).1, (h j hj).2, ffO_congr (p := wNp lf rg j) (q := wNp lf2 rg2 j) (fun e he => by
    unfold wNp
    rw [(h j hj).1, (h j hj).2, iOf_congr (h e (by omega)), iOf_congr (h e (by omega))])]
theorem wNz_congr {sc : Nat → Nat → Int32} {lf rg lf2 rg2 : Nat → Int32} {q : Nat} (h : ∀ j, j < q → lf j = lf2 j ∧ rg j = rg2 j) : ffO (wNz sc lf rg) q = ffO (wNz sc lf2 rg2) q :=
  ffO_congr (fun j hj => by unfold wNz; rw [wN_congr h hj])
theorem nGd_congr {sc : Nat → Nat → Int32} {lf rg lf2 rg2 : Nat → Int32} {q : Nat} (h : ∀ j, j < q → lf j = lf2 j ∧ rg j = rg2 j) : ffO (nGd sc lf rg) q = ffO (nGd sc lf2 rg2) q :=
  ffO_congr (fun j hj => by unfold nGd; rw [(h j hj).1, (h j hj).2])
theorem cKd_congr {sc : Nat → Nat → Int32} {lf rg lf2 rg2 : Nat → Int32} {kd : Int32} {q : Nat} (h : ∀ j, j < q → lf j = lf2 j ∧ rg j = rg2 j) : cKd sc lf rg kd q = cKd sc lf2 rg2 kd q := by
  unfold cKd
  exact fN_congr (fun j x hj => by rw [(h j hj).1, (h j hj).2])
/-- of an album without fault: how many pairs, pages turned, lefts, rights -/
def aN (sg : Nat → Int32) (n : Nat) : Nat := (pA sg n).2.1
def aU (sg : Nat → Int32) (n : Nat) : Nat := (pA sg n).2.2.1
def aL (sg : Nat → Int32) (n : Nat) : Nat → Int32 := (pA sg n).2.2.2.1
def aR (sg : Nat → Int32) (n : Nat) : Nat → Int32 := (pA sg n).2.2.2.2
def wrR (sc : Nat → Nat → Int32) (sg : Nat → Int32) (n : Nat) : Int32 := oI (ffO (wNz sc (aL sg n) (aR sg n)) (aN sg n))
def juR (sc : Nat → Nat → Int32) (sg : Nat → Int32) (n : Nat) (x : Int32) : Int32 := if wb x 0 3 then (if rdR sg n = -6 then (if x = 0 then wrR sc sg n else if x = 1 then (if wrR sc sg n = -6 then -6 else wN sc (aL sg n) (aR sg n) (wrR sc sg n).toNatClampNeg) else if wrR sc sg n = -6 then (if x = 2 then nI (aN sg n) else nI (aU sg n) + 1) else -3) else -5) else -2
def kiR (sc : Nat → Nat → Int32) (sg : Nat → Int32) (n : Nat) (x : Int32) : Int32 := if wb x 0 5 then (if rdR sg n = -6 then (if wrR sc sg n = -6 then (if x = 4 then oI (ffO (nGd sc (aL sg n) (aR sg n)) (aN sg n)) else if x = 5 then cKd sc (aL sg n) (aR sg n) 0 (aN sg n) + cKd sc (aL sg n) (aR sg n) 2 (aN sg n) else cKd sc (aL sg n) (aR sg n) x (aN sg n)) else -3) else -5) else -2
theorem aN_le {sg : Nat → Int32} {n : Nat} (hn : n ≤ 60) : aN sg n ≤ 30 := by
  have := pA_bound sg n
  unfold aN
  omega
theorem c_X7_judge {l : Launch} {D : va_G} {N : Nat} {adr : Nat → Nat} {G : Nat → va_E} {sc i0 i1 : Nat → Nat → Int32} {kp sg : Nat → Int32} {n : Nat} (hN : 103 ≤ N) (hW : isSW D adr G sc i0 i1 kp sg n) (hn60 : n ≤ 60) {x : Int32} :
    CT l D yX7_judge cX7_judge 3 (some FieldType.int) (rl 5) [.ref (adr 0), .int x] N adr G (PR (some (.int (juR sc sg n x))) N adr (fun W => isSW D adr W (sc) i0 i1 kp sg n ∧ frW G W)) := by
  have hS := hW.2.1
  have hT := hS.1
  have hPs := hS.2
  obtain ⟨pa, tu, lf, rg, hp⟩ := hW.2.2.2.2.1
  refine CT.of (by decide +kernel) (Nat.le_of_ble_eq_true rfl) (fun Γ h he => ?_)
  have h : cx l D (rl 5) RX7 cX7_judge 3 Γ := h
  show SX Γ 0 0 0 [(0, .ref (adr 0)), (1, .int x)] [] N adr G
  refine s_iload_n h dX7_judge_0 rfl <|
    s_iconst h dX7_judge_1 ic_0 <|
    s_iconst h dX7_judge_2 ic_3 <|
    k_X7_55 h (c_X7_within) rfl rfl dX7_judge_3 <|
    PE.go <|
    s_if_ne (tgt := 12) h dX7_judge_6 (by decide) (fun c6 => ?_) (fun c6 => ?_)
  · refine s_aload_n h dX7_judge_12 rfl <|
      g_X7_27 h dX7_judge_13 (by omega) hW.1 <|
      k_X7_119 h (c_X1_read (k := 32) (by omega) hp hn60) (by omega) hp.1 rfl rfl dX7_judge_16 (PR.go fun V hV => ?_)
    obtain ⟨lf2, rg2, pa2, tu2, hp2, hfr, hr⟩ := hV
    have hW2 := hW.pad ⟨_, _, _, _, hp2⟩ hfr
    have hT2 := hW2.2.1.1
    have hPs2 := hW2.2.1.2
    refine s_bipush h dX7_judge_19 bp_m6 <|
      s_icmp_eq (tgt := 27) h dX7_judge_21 (by decide) (fun c21 => ?_) (fun c21 => ?_)
    · obtain ⟨rfl, rfl, hEq⟩ := hr c21
      have hE2 : ∀ j, j < aN sg n → lf2 j = aL sg n j ∧ rg2 j = aR sg n j := hEq
      have hq : aN sg n ≤ 30 := aN_le hn60
      have hp3 : isPad D adr V 32 sg (nI n) (nI (aN sg n)) (nI (aU sg n)) lf2 rg2 := hp2
      have e1 := wNz_congr (sc := sc) hEq
      refine s_aload_n h dX7_judge_27 rfl <|
        g_X7_27 h dX7_judge_28 (by omega) hW2.1 <|
        s_aload_n h dX7_judge_31 rfl <|
        g_X7_10 h dX7_judge_32 (by omega) hW2.1 <|
        k_X7_122 h (c_X1_firstWrongPair (k := 32) (ks := 1) (by omega) hp3 hq (by omega) hT2 hPs2) (by omega) hp2.1 rfl rfl dX7_judge_35 <|
        PE.go <|
        s_topi (wrR sc sg n) (congrArg oI e1) <|
        s_istore_n h dX7_judge_38 rfl <|
        s_iload_n h dX7_judge_39 rfl <|
        s_if_ne (tgt := 45) h dX7_judge_40 (by decide) (fun c40 => ?_) (fun c40 => ?_)
      · refine s_iload_n h dX7_judge_45 rfl <|
          s_iconst h dX7_judge_46 ic_1 <|
          s_icmp_ne (tgt := 74) h dX7_judge_47 (by decide) (fun c47 => ?_) (fun c47 => ?_)
        · refine s_iload_n h dX7_judge_74 rfl <|
            s_bipush h dX7_judge_75 bp_m6 <|
            s_icmp_eq (tgt := 83) h dX7_judge_77 (by decide) (fun c77 => ?_) (fun c77 => ?_)
          · refine s_iload_n h dX7_judge_83 rfl <|
              s_iconst h dX7_judge_84 ic_2 <|
              s_icmp_ne (tgt := 98) h dX7_judge_85 (by decide) (fun c85 => ?_) (fun c85 => ?_)
            · refine s_aload_n h dX7_judge_98 rfl <|
                g_X7_27 h dX7_judge_99 (by omega) hW2.1 <|
                g_X7_133 h dX7_judge_102 (by omega) hp3.1 <|
                s_iconst h dX7_judge_105 ic_1 <|
                s_iadd h dX7_judge_106 <|
                s_iret h he rfl dX7_judge_107 ⟨Nat.le_refl _, Nat.le_refl _⟩ ?_
              (try have e6 := bI_1 c6)
              (try have e6 := bI_0 c6)
              have q21 : rdR sg n = -6 := c21
              have q77 : wrR sc sg n = -6 := c77
              first
                | exact PR.eq (by rw [juR, e6, if_pos rfl, if_pos q21, if_neg c40, if_neg c47, if_pos q77, if_pos c85]) ⟨hW2, fun j hj => hfr j (by omega)⟩
                | exact PR.eq (by rw [juR, e6, if_pos rfl, if_pos q21, if_neg c40, if_neg c47, if_pos q77, if_neg c85]) ⟨hW2, fun j hj => hfr j (by omega)⟩
            · refine s_aload_n h dX7_judge_88 rfl <|
                g_X7_27 h dX7_judge_89 (by omega) hW2.1 <|
                g_X7_130 h dX7_judge_92 (by omega) hp3.1 <|
                s_goto (tgt := 107) h dX7_judge_95 (by decide) <|
                s_iret h he rfl dX7_judge_107 ⟨Nat.le_refl _, Nat.le_refl _⟩ ?_
              (try have e6 := bI_1 c6)
              (try have e6 := bI_0 c6)
              have q21 : rdR sg n = -6 := c21
              have q77 : wrR sc sg n = -6 := c77
              first
                | exact PR.eq (by rw [juR, e6, if_pos rfl, if_pos q21, if_neg c40, if_neg c47, if_pos q77, if_pos c85]) ⟨hW2, fun j hj => hfr j (by omega)⟩
                | exact PR.eq (by rw [juR, e6, if_pos rfl, if_pos q21, if_neg c40, if_neg c47, if_pos q77, if_neg c85]) ⟨hW2, fun j hj => hfr j (by omega)⟩
          · refine s_bipush h dX7_judge_80 bp_m3 <|
              s_iret h he rfl dX7_judge_82 ⟨Nat.le_refl _, Nat.le_refl _⟩ ?_
            (try have e6 := bI_1 c6)
            (try have e6 := bI_0 c6)
            have q21 : rdR sg n = -6 := c21
            have q77 : ¬ wrR sc sg n = -6 := c77
            exact PR.eq (by rw [juR, e6, if_pos rfl, if_pos q21, if_neg c40, if_neg c47, if_neg q77]) ⟨hW2, fun j hj => hfr j (by omega)⟩
        · refine s_iload_n h dX7_judge_50 rfl <|
            s_bipush h dX7_judge_51 bp_m6 <|
            s_icmp_ne (tgt := 61) h dX7_judge_53 (by decide) (fun c53 => ?_) (fun c53 => ?_)
          · obtain ⟨j0, hj0, ej0⟩ := oI_ne (show ¬ oI (ffO (wNz sc (aL sg n) (aR sg n)) (aN sg n)) = -6 from c53)
            have hw : wrR sc sg n = nI j0 := congrArg oI ej0
            refine s_aload_n h dX7_judge_61 rfl <|
              g_X7_27 h dX7_judge_62 (by omega) hW2.1 <|
              s_iload_n h dX7_judge_65 rfl <|
              s_topi (nI j0) hw <|
              s_aload_n h dX7_judge_66 rfl <|
              g_X7_10 h dX7_judge_67 (by omega) hW2.1 <|
              k_X7_126 h (c_X1_whyNot (k := 32) (ks := 1) (by omega) hp3 (by omega) hT2 hPs2 (Nat.lt_of_lt_of_le hj0 hq)) (by omega) hp3.1 rfl rfl dX7_judge_70 <|
              PE.go <|
              s_iret h he rfl dX7_judge_73 ⟨Nat.le_refl _, Nat.le_refl _⟩ ?_
            (try have e6 := bI_1 c6)
            (try have e6 := bI_0 c6)
            have q21 : rdR sg n = -6 := c21
            first
              | (have q53 : wrR sc sg n = -6 := c53
                 exact PR.eq (by rw [juR, e6, if_pos rfl, if_pos q21, if_neg c40, if_pos c47, if_pos q53]) ⟨hW2, fun j hj => hfr j (by omega)⟩)
              | (have q53 : ¬ wrR sc sg n = -6 := c53
                 have hj30 : j0 < 30 := Nat.lt_of_lt_of_le hj0 hq
                 exact PR.eq (by rw [juR, e6, if_pos rfl, if_pos q21, if_neg c40, if_pos c47, if_neg q53, hw, nI_clamp (by omega), wN_congr hEq hj0]; rfl) ⟨hW2, fun j hj => hfr j (by omega)⟩)
          · refine s_bipush h dX7_judge_56 bp_m6 <|
              s_goto (tgt := 73) h dX7_judge_58 (by decide) <|
              s_iret h he rfl dX7_judge_73 ⟨Nat.le_refl _, Nat.le_refl _⟩ ?_
            (try have e6 := bI_1 c6)
            (try have e6 := bI_0 c6)
            have q21 : rdR sg n = -6 := c21
            first
              | (have q53 : wrR sc sg n = -6 := c53
                 exact PR.eq (by rw [juR, e6, if_pos rfl, if_pos q21, if_neg c40, if_pos c47, if_pos q53]) ⟨hW2, fun j hj => hfr j (by omega)⟩)
              | (have q53 : ¬ wrR sc sg n = -6 := c53
                 have hj30 : j0 < 30 := Nat.lt_of_lt_of_le hj0 hq
                 exact PR.eq (by rw [juR, e6, if_pos rfl, if_pos q21, if_neg c40, if_pos c47, if_neg q53, hw, nI_clamp (by omega), wN_congr hEq hj0]; rfl) ⟨hW2, fun j hj => hfr j (by omega)⟩)
      · refine s_iload_n h dX7_judge_43 rfl <|
          s_iret h he rfl dX7_judge_44 ⟨Nat.le_refl _, Nat.le_refl _⟩ ?_
        (try have e6 := bI_1 c6)
        (try have e6 := bI_0 c6)
        have q21 : rdR sg n = -6 := c21
        exact PR.eq (by rw [juR, e6, if_pos rfl, if_pos q21, if_pos c40]) ⟨hW2, fun j hj => hfr j (by omega)⟩
    · refine s_bipush h dX7_judge_24 bp_m5 <|
        s_iret h he rfl dX7_judge_26 ⟨Nat.le_refl _, Nat.le_refl _⟩ ?_
      (try have e6 := bI_1 c6)
      (try have e6 := bI_0 c6)
      have q21 : ¬ rdR sg n = -6 := c21
      exact PR.eq (by rw [juR, e6, if_pos rfl, if_neg q21]) ⟨hW2, fun j hj => hfr j (by omega)⟩
  · refine s_bipush h dX7_judge_9 bp_m2 <|
      s_iret h he rfl dX7_judge_11 ⟨Nat.le_refl _, Nat.le_refl _⟩ ?_
    (try have e6 := bI_1 c6)
    (try have e6 := bI_0 c6)
    exact PR.eq (by simp [juR, e6]) ⟨hW, fun j hj => rfl⟩
theorem c_X7_kinds {l : Launch} {D : va_G} {N : Nat} {adr : Nat → Nat} {G : Nat → va_E} {sc i0 i1 : Nat → Nat → Int32} {kp sg : Nat → Int32} {n : Nat} (hN : 103 ≤ N) (hW : isSW D adr G sc i0 i1 kp sg n) (hn60 : n ≤ 60) {x : Int32} :
    CT l D yX7_kinds cX7_kinds 2 (some FieldType.int) (rl 6) [.ref (adr 0), .int x] N adr G (PR (some (.int (kiR sc sg n x))) N adr (fun W => isSW D adr W (sc) i0 i1 kp sg n ∧ frW G W)) := by
  have hS := hW.2.1
  have hT := hS.1
  have hPs := hS.2
  obtain ⟨pa, tu, lf, rg, hp⟩ := hW.2.2.2.2.1
  refine CT.of (by decide +kernel) (Nat.le_of_ble_eq_true rfl) (fun Γ h he => ?_)
  have h : cx l D (rl 6) RX7 cX7_kinds 2 Γ := h
  show SX Γ 0 0 0 [(0, .ref (adr 0)), (1, .int x)] [] N adr G
  refine s_iload_n h dX7_kinds_0 rfl <|
    s_iconst h dX7_kinds_1 ic_0 <|
    s_iconst h dX7_kinds_2 ic_5 <|
    k_X7_55 h (c_X7_within) rfl rfl dX7_kinds_3 <|
    PE.go <|
    s_if_ne (tgt := 12) h dX7_kinds_6 (by decide) (fun c6 => ?_) (fun c6 => ?_)
  · refine s_aload_n h dX7_kinds_12 rfl <|
      g_X7_27 h dX7_kinds_13 (by omega) hW.1 <|
      k_X7_119 h (c_X1_read (k := 32) (by omega) hp hn60) (by omega) hp.1 rfl rfl dX7_kinds_16 (PR.go fun V hV => ?_)
    obtain ⟨lf2, rg2, pa2, tu2, hp2, hfr, hr⟩ := hV
    have hW2 := hW.pad ⟨_, _, _, _, hp2⟩ hfr
    have hT2 := hW2.2.1.1
    have hPs2 := hW2.2.1.2
    refine s_bipush h dX7_kinds_19 bp_m6 <|
      s_icmp_eq (tgt := 27) h dX7_kinds_21 (by decide) (fun c21 => ?_) (fun c21 => ?_)
    · obtain ⟨rfl, rfl, hEq⟩ := hr c21
      have hE2 : ∀ j, j < aN sg n → lf2 j = aL sg n j ∧ rg2 j = aR sg n j := hEq
      have hq : aN sg n ≤ 30 := aN_le hn60
      have hp3 : isPad D adr V 32 sg (nI n) (nI (aN sg n)) (nI (aU sg n)) lf2 rg2 := hp2
      have e1 := wNz_congr (sc := sc) hEq
      refine s_aload_n h dX7_kinds_27 rfl <|
        g_X7_27 h dX7_kinds_28 (by omega) hW2.1 <|
        s_aload_n h dX7_kinds_31 rfl <|
        g_X7_10 h dX7_kinds_32 (by omega) hW2.1 <|
        k_X7_122 h (c_X1_firstWrongPair (k := 32) (ks := 1) (by omega) hp3 hq (by omega) hT2 hPs2) (by omega) hp2.1 rfl rfl dX7_kinds_35 <|
        PE.go <|
        s_bipush h dX7_kinds_38 bp_m6 <|
        s_icmp_eq (tgt := 46) h dX7_kinds_40 (by decide) (fun c40 => ?_) (fun c40 => ?_)
      · refine s_iload_n h dX7_kinds_46 rfl <|
          s_iconst h dX7_kinds_47 ic_4 <|
          s_icmp_ne (tgt := 63) h dX7_kinds_48 (by decide) (fun c48 => ?_) (fun c48 => ?_)
        · refine s_iload_n h dX7_kinds_63 rfl <|
            s_iconst h dX7_kinds_64 ic_5 <|
            s_icmp_ne (tgt := 94) h dX7_kinds_65 (by decide) (fun c65 => ?_) (fun c65 => ?_)
          · refine s_aload_n h dX7_kinds_94 rfl <|
              g_X7_27 h dX7_kinds_95 (by omega) hW2.1 <|
              s_iload_n h dX7_kinds_98 rfl <|
              s_aload_n h dX7_kinds_99 rfl <|
              g_X7_10 h dX7_kinds_100 (by omega) hW2.1 <|
              k_X7_139 h (c_X1_countOfKind (k := 32) (ks := 1) (by omega) hp3 hq (by omega) hT2 hPs2) (by omega) hp2.1 rfl rfl dX7_kinds_103 <|
              PE.go <|
              s_iret h he rfl dX7_kinds_106 ⟨Nat.le_refl _, Nat.le_refl _⟩ ?_
            (try have e6 := bI_1 c6)
            (try have e6 := bI_0 c6)
            have q21 : rdR sg n = -6 := c21
            have q40 : wrR sc sg n = -6 := (congrArg oI e1).symm.trans c40
            exact PR.eq (by rw [kiR, e6, if_pos rfl, if_pos q21, if_pos q40, if_neg c48, if_neg c65, cKd_congr hE2]) ⟨hW2, fun j hj => hfr j (by omega)⟩
          · refine s_aload_n h dX7_kinds_68 rfl <|
              g_X7_27 h dX7_kinds_69 (by omega) hW2.1 <|
              s_iconst h dX7_kinds_72 ic_0 <|
              s_aload_n h dX7_kinds_73 rfl <|
              g_X7_10 h dX7_kinds_74 (by omega) hW2.1 <|
              k_X7_139 h (c_X1_countOfKind (k := 32) (ks := 1) (by omega) hp3 hq (by omega) hT2 hPs2) (by omega) hp2.1 rfl rfl dX7_kinds_77 <|
              PE.go <|
              s_aload_n h dX7_kinds_80 rfl <|
              g_X7_27 h dX7_kinds_81 (by omega) hW2.1 <|
              s_iconst h dX7_kinds_84 ic_2 <|
              s_aload_n h dX7_kinds_85 rfl <|
              g_X7_10 h dX7_kinds_86 (by omega) hW2.1 <|
              k_X7_139 h (c_X1_countOfKind (k := 32) (ks := 1) (by omega) hp3 hq (by omega) hT2 hPs2) (by omega) hp2.1 rfl rfl dX7_kinds_89 <|
              PE.go <|
              s_iadd h dX7_kinds_92 <|
              s_iret h he rfl dX7_kinds_93 ⟨Nat.le_refl _, Nat.le_refl _⟩ ?_
            (try have e6 := bI_1 c6)
            (try have e6 := bI_0 c6)
            have q21 : rdR sg n = -6 := c21
            have q40 : wrR sc sg n = -6 := (congrArg oI e1).symm.trans c40
            exact PR.eq (by rw [kiR, e6, if_pos rfl, if_pos q21, if_pos q40, if_neg c48, if_pos c65, cKd_congr hE2, cKd_congr hE2]) ⟨hW2, fun j hj => hfr j (by omega)⟩
        · refine s_aload_n h dX7_kinds_51 rfl <|
            g_X7_27 h dX7_kinds_52 (by omega) hW2.1 <|
            s_aload_n h dX7_kinds_55 rfl <|
            g_X7_10 h dX7_kinds_56 (by omega) hW2.1 <|
            k_X7_136 h (c_X1_firstNotGood (k := 32) (ks := 1) (by omega) hp3 hq (by omega) hT2 hPs2) (by omega) hp2.1 rfl rfl dX7_kinds_59 <|
            PE.go <|
            s_iret h he rfl dX7_kinds_62 ⟨Nat.le_refl _, Nat.le_refl _⟩ ?_
          (try have e6 := bI_1 c6)
          (try have e6 := bI_0 c6)
          have q21 : rdR sg n = -6 := c21
          have q40 : wrR sc sg n = -6 := (congrArg oI e1).symm.trans c40
          exact PR.eq (by rw [kiR, e6, if_pos rfl, if_pos q21, if_pos q40, if_pos c48, nGd_congr hE2]) ⟨hW2, fun j hj => hfr j (by omega)⟩
      · refine s_bipush h dX7_kinds_43 bp_m3 <|
          s_iret h he rfl dX7_kinds_45 ⟨Nat.le_refl _, Nat.le_refl _⟩ ?_
        (try have e6 := bI_1 c6)
        (try have e6 := bI_0 c6)
        have q21 : rdR sg n = -6 := c21
        have q40 : ¬ wrR sc sg n = -6 := fun z => c40 ((congrArg oI e1).trans z)
        exact PR.eq (by rw [kiR, e6, if_pos rfl, if_pos q21, if_neg q40]) ⟨hW2, fun j hj => hfr j (by omega)⟩
    · refine s_bipush h dX7_kinds_24 bp_m5 <|
        s_iret h he rfl dX7_kinds_26 ⟨Nat.le_refl _, Nat.le_refl _⟩ ?_
      (try have e6 := bI_1 c6)
      (try have e6 := bI_0 c6)
      have q21 : ¬ rdR sg n = -6 := c21
      exact PR.eq (by rw [kiR, e6, if_pos rfl, if_neg q21]) ⟨hW2, fun j hj => hfr j (by omega)⟩
  · refine s_bipush h dX7_kinds_9 bp_m2 <|
      s_iret h he rfl dX7_kinds_11 ⟨Nat.le_refl _, Nat.le_refl _⟩ ?_
    (try have e6 := bI_1 c6)
    (try have e6 := bI_0 c6)
    exact PR.eq (by simp [kiR, e6]) ⟨hW, fun j hj => rfl⟩
def stR (sc : Nat → Nat → Int32) (p i : Int32) : Int32 := if pE sc p then (if i = -1 then cSt sc (cA sc p) 100 else sAt sc (cA sc p) i) else -1
def fgR (sc : Nat → Nat → Int32) (p x : Int32) : Int32 := if pE sc p then (if wb x 0 1 then (if x = 0 then bC (fFk sc (cA sc p) 10000) else fFk sc (cA sc p) 10000) else -2) else -1
def fiM (sc : Nat → Nat → Int32) (p : Int32) : Int32 := oI (ffO (minP sc (cA sc p)) 100)
def laM (sc : Nat → Nat → Int32) (p : Int32) : Int32 := oI (lfO (minP sc (cA sc p)) 100)
def ahR (sc : Nat → Nat → Int32) (a b : Int32) : Int32 := if okP sc a b then (if fiM sc a = -6 ∨ fiM sc b = -6 then -6 else if laM sc a < fiM sc b then 1 else if laM sc b < fiM sc a then 2 else 0) else -1
def msR (sc : Nat → Nat → Int32) (p t x : Int32) : Int32 := if pE sc p && tE sc t then (if wb x 0 2 then (if x = 0 then lC (cWk sc (cA sc p) t.toNatClampNeg 10000) else if x = 1 then oI (ffO (shP (cWk sc (cA sc p) t.toNatClampNeg 10000)) 61) else oI (lfO (shP (cWk sc (cA sc p) t.toNatClampNeg 10000)) 61)) else -2) else -1
theorem c_X7_stood {l : Launch} {D : va_G} {N : Nat} {adr : Nat → Nat} {G : Nat → va_E} {sc i0 i1 : Nat → Nat → Int32} {kp sg : Nat → Int32} {n : Nat} (hN : 103 ≤ N) (hW : isSW D adr G sc i0 i1 kp sg n) (hwf : wfT sc) {p i : Int32} :
    CT l D yX7_stood cX7_stood 4 (some FieldType.int) (rl 6) [.ref (adr 0), .int p, .int i] N adr G (PE (some (.int (stR sc p i))) N adr G) := by
  have hS := hW.2.1
  have hT := hS.1
  have hPs := hS.2
  refine CT.of (by decide +kernel) (Nat.le_of_ble_eq_true rfl) (fun Γ h he => ?_)
  have h : cx l D (rl 6) RX7 cX7_stood 4 Γ := h
  show SX Γ 0 0 0 [(0, .ref (adr 0)), (1, .int p), (2, .int i)] [] N adr G
  cases he1 : pE sc p
  · refine s_aload_n h dX7_stood_0 rfl <|
      g_X7_10 h dX7_stood_1 (by omega) hW.1 <|
      s_iload_n h dX7_stood_4 rfl <|
      k_X7_98 h (c_X3_pictureAt_f (k := 1) (by omega) hT hPs he1) (by omega) hT.1 rfl rfl dX7_stood_5 <|
      PE.go <|
      s_astore_nN h dX7_stood_8 rfl <|
      s_aload_nN h dX7_stood_9 rfl <|
      s_ifnonnullN h dX7_stood_10 <|
      s_iconst h dX7_stood_13 ic_m1 <|
      s_iret h he rfl dX7_stood_14 ⟨Nat.le_refl _, Nat.le_refl _⟩ ?_
    exact PE.eq (by simp [stR, he1]) rfl
  · obtain ⟨hix, -⟩ := pE_t he1
    have hi := hix.2.2
    obtain ⟨hp0, fc, hp1, hp2⟩ := hPs.2 _ hi
    refine s_aload_n h dX7_stood_0 rfl <|
      g_X7_10 h dX7_stood_1 (by omega) hW.1 <|
      s_iload_n h dX7_stood_4 rfl <|
      k_X7_98 h (c_X3_pictureAt_t (k := 1) (by omega) hT hPs he1) (by omega) hT.1 rfl rfl dX7_stood_5 <|
      PE.go <|
      s_astore_n h dX7_stood_8 rfl <|
      s_aload_n h dX7_stood_9 rfl <|
      s_ifnonnull (tgt := 15) h dX7_stood_10 (by decide) <|
      s_iload_n h dX7_stood_15 rfl <|
      s_iconst h dX7_stood_16 ic_m1 <|
      s_icmp_ne (tgt := 31) h dX7_stood_17 (by decide) (fun c17 => ?_) (fun c17 => ?_)
    · refine s_aload_n h dX7_stood_31 rfl <|
        g_X7_10 h dX7_stood_32 (by omega) hW.1 <|
        s_aload_n h dX7_stood_35 rfl <|
        s_iload_n h dX7_stood_36 rfl <|
        k_X7_181 h (c_X4_standAt (k := 1) (k2 := 1 + 9 + 2 * p.toNatClampNeg) (by omega) hT hwf (by omega) hp0 hp1 hp2) rfl rfl dX7_stood_37 <|
        PE.go <|
        s_iret h he rfl dX7_stood_40 ⟨Nat.le_refl _, Nat.le_refl _⟩ ?_
      first
        | exact PE.eq (by rw [stR, he1, if_pos rfl, if_pos c17]; rfl) rfl
        | exact PE.eq (by rw [stR, he1, if_pos rfl, if_neg c17]; rfl) rfl
    · refine s_aload_n h dX7_stood_20 rfl <|
        g_X7_10 h dX7_stood_21 (by omega) hW.1 <|
        s_aload_n h dX7_stood_24 rfl <|
        k_X7_175 h (c_X4_countStands (k := 1) (k2 := 1 + 9 + 2 * p.toNatClampNeg) (by omega) hT hwf (by omega) hp0 hp1 hp2) rfl rfl dX7_stood_25 <|
        PE.go <|
        s_goto (tgt := 40) h dX7_stood_28 (by decide) <|
        s_iret h he rfl dX7_stood_40 ⟨Nat.le_refl _, Nat.le_refl _⟩ ?_
      first
        | exact PE.eq (by rw [stR, he1, if_pos rfl, if_pos c17]; rfl) rfl
        | exact PE.eq (by rw [stR, he1, if_pos rfl, if_neg c17]; rfl) rfl
theorem c_X7_forged {l : Launch} {D : va_G} {N : Nat} {adr : Nat → Nat} {G : Nat → va_E} {sc i0 i1 : Nat → Nat → Int32} {kp sg : Nat → Int32} {n : Nat} (hN : 103 ≤ N) (hW : isSW D adr G sc i0 i1 kp sg n) (hwf : wfT sc) {p x : Int32} :
    CT l D yX7_forged cX7_forged 5 (some FieldType.int) (rl 5) [.ref (adr 0), .int p, .int x] N adr G (PE (some (.int (fgR sc p x))) N adr G) := by
  have hS := hW.2.1
  have hT := hS.1
  have hPs := hS.2
  refine CT.of (by decide +kernel) (Nat.le_of_ble_eq_true rfl) (fun Γ h he => ?_)
  have h : cx l D (rl 5) RX7 cX7_forged 5 Γ := h
  show SX Γ 0 0 0 [(0, .ref (adr 0)), (1, .int p), (2, .int x)] [] N adr G
  cases he1 : pE sc p
  · refine s_aload_n h dX7_forged_0 rfl <|
      g_X7_10 h dX7_forged_1 (by omega) hW.1 <|
      s_iload_n h dX7_forged_4 rfl <|
      k_X7_98 h (c_X3_pictureAt_f (k := 1) (by omega) hT hPs he1) (by omega) hT.1 rfl rfl dX7_forged_5 <|
      PE.go <|
      s_astore_nN h dX7_forged_8 rfl <|
      s_aload_nN h dX7_forged_9 rfl <|
      s_ifnonnullN h dX7_forged_10 <|
      s_iconst h dX7_forged_13 ic_m1 <|
      s_iret h he rfl dX7_forged_14 ⟨Nat.le_refl _, Nat.le_refl _⟩ ?_
    exact PE.eq (by simp [fgR, he1]) rfl
  · obtain ⟨hix, -⟩ := pE_t he1
    have hi := hix.2.2
    obtain ⟨hp0, fc, hp1, hp2⟩ := hPs.2 _ hi
    refine s_aload_n h dX7_forged_0 rfl <|
      g_X7_10 h dX7_forged_1 (by omega) hW.1 <|
      s_iload_n h dX7_forged_4 rfl <|
      k_X7_98 h (c_X3_pictureAt_t (k := 1) (by omega) hT hPs he1) (by omega) hT.1 rfl rfl dX7_forged_5 <|
      PE.go <|
      s_astore_n h dX7_forged_8 rfl <|
      s_aload_n h dX7_forged_9 rfl <|
      s_ifnonnull (tgt := 15) h dX7_forged_10 (by decide) <|
      s_iload_n h dX7_forged_15 rfl <|
      s_iconst h dX7_forged_16 ic_0 <|
      s_iconst h dX7_forged_17 ic_1 <|
      k_X7_55 h (c_X7_within) rfl rfl dX7_forged_18 <|
      PE.go <|
      s_if_ne (tgt := 27) h dX7_forged_21 (by decide) (fun c21 => ?_) (fun c21 => ?_)
    · refine s_aload_n h dX7_forged_27 rfl <|
        g_X7_10 h dX7_forged_28 (by omega) hW.1 <|
        s_aload_n h dX7_forged_31 rfl <|
        k_X7_185 h (c_X4_fewestForged (k := 1) (k2 := 1 + 9 + 2 * p.toNatClampNeg) (by omega) hT hwf (by omega) hp0 hp1 hp2) rfl rfl dX7_forged_32 <|
        PE.go <|
        s_istore h dX7_forged_35 rfl <|
        s_iload_n h dX7_forged_37 rfl <|
        s_if_ne (tgt := 49) h dX7_forged_38 (by decide) (fun c38 => ?_) (fun c38 => ?_)
      · refine s_iload h dX7_forged_49 rfl <|
          s_iret h he rfl dX7_forged_51 ⟨Nat.le_refl _, Nat.le_refl _⟩ ?_
        (try have e21 := bI_1 c21)
        (try have e21 := bI_0 c21)
        first
          | exact PE.eq (by rw [fgR, he1, e21, if_pos rfl, if_pos rfl, if_pos c38]; rfl) rfl
          | exact PE.eq (by rw [fgR, he1, e21, if_pos rfl, if_pos rfl, if_neg c38]; rfl) rfl
      · refine s_iload h dX7_forged_41 rfl <|
          k_X7_67 h (c_J6_bitCount_0f7a4) rfl rfl dX7_forged_43 <|
          PE.go <|
          s_goto (tgt := 51) h dX7_forged_46 (by decide) <|
          s_iret h he rfl dX7_forged_51 ⟨Nat.le_refl _, Nat.le_refl _⟩ ?_
        (try have e21 := bI_1 c21)
        (try have e21 := bI_0 c21)
        first
          | exact PE.eq (by rw [fgR, he1, e21, if_pos rfl, if_pos rfl, if_pos c38]; rfl) rfl
          | exact PE.eq (by rw [fgR, he1, e21, if_pos rfl, if_pos rfl, if_neg c38]; rfl) rfl
    · refine s_bipush h dX7_forged_24 bp_m2 <|
        s_iret h he rfl dX7_forged_26 ⟨Nat.le_refl _, Nat.le_refl _⟩ ?_
      (try have e21 := bI_1 c21)
      (try have e21 := bI_0 c21)
      exact PE.eq (by simp [fgR, he1, e21]) rfl
theorem c_X7_ahead {l : Launch} {D : va_G} {N : Nat} {adr : Nat → Nat} {G : Nat → va_E} {sc i0 i1 : Nat → Nat → Int32} {kp sg : Nat → Int32} {n : Nat} (hN : 103 ≤ N) (hW : isSW D adr G sc i0 i1 kp sg n) (hwf : wfT sc) {a b : Int32} :
    CT l D yX7_ahead cX7_ahead 7 (some FieldType.int) (rl 6) [.ref (adr 0), .int a, .int b] N adr G (PE (some (.int (ahR sc a b))) N adr G) := by
  have hS := hW.2.1
  have hT := hS.1
  have hPs := hS.2
  refine CT.of (by decide +kernel) (Nat.le_of_ble_eq_true rfl) (fun Γ h he => ?_)
  have h : cx l D (rl 6) RX7 cX7_ahead 7 Γ := h
  show SX Γ 0 0 0 [(0, .ref (adr 0)), (1, .int a), (2, .int b)] [] N adr G
  cases ha : pE sc a
  · refine s_aload_n h dX7_ahead_0 rfl <|
      g_X7_10 h dX7_ahead_1 (by omega) hW.1 <|
      s_iload_n h dX7_ahead_4 rfl <|
      k_X7_98 h (c_X3_pictureAt_f (k := 1) (by omega) hT hPs ha) (by omega) hT.1 rfl rfl dX7_ahead_5 <|
      PE.go <|
      s_astore_nN h dX7_ahead_8 rfl <|
      s_aload_n h dX7_ahead_9 rfl <|
      g_X7_10 h dX7_ahead_10 (by omega) hW.1 <|
      s_iload_n h dX7_ahead_13 rfl <|
      ?_
    cases hb : pE sc b
    · refine k_X7_98 h (c_X3_pictureAt_f (k := 1) (by omega) hT hPs hb) (by omega) hT.1 rfl rfl dX7_ahead_14 <|
        PE.go <|
        s_astoreN h dX7_ahead_17 rfl <|
        s_aload_nN h dX7_ahead_19 rfl <|
        s_ifnullN (tgt := 33) h dX7_ahead_20 (by decide) <|
        s_iconst h dX7_ahead_33 ic_m1 <|
        s_iret h he rfl dX7_ahead_34 ⟨Nat.le_refl _, Nat.le_refl _⟩ ?_
      exact PE.eq (by simp [ahR, okP, *]) rfl
    · refine k_X7_98 h (c_X3_pictureAt_t (k := 1) (by omega) hT hPs hb) (by omega) hT.1 rfl rfl dX7_ahead_14 <|
        PE.go <|
        s_astore h dX7_ahead_17 rfl <|
        s_aload_nN h dX7_ahead_19 rfl <|
        s_ifnullN (tgt := 33) h dX7_ahead_20 (by decide) <|
        s_iconst h dX7_ahead_33 ic_m1 <|
        s_iret h he rfl dX7_ahead_34 ⟨Nat.le_refl _, Nat.le_refl _⟩ ?_
      exact PE.eq (by simp [ahR, okP, *]) rfl
  · refine s_aload_n h dX7_ahead_0 rfl <|
      g_X7_10 h dX7_ahead_1 (by omega) hW.1 <|
      s_iload_n h dX7_ahead_4 rfl <|
      k_X7_98 h (c_X3_pictureAt_t (k := 1) (by omega) hT hPs ha) (by omega) hT.1 rfl rfl dX7_ahead_5 <|
      PE.go <|
      s_astore_n h dX7_ahead_8 rfl <|
      s_aload_n h dX7_ahead_9 rfl <|
      g_X7_10 h dX7_ahead_10 (by omega) hW.1 <|
      s_iload_n h dX7_ahead_13 rfl <|
      ?_
    obtain ⟨hixa, -⟩ := pE_t ha
    have hia := hixa.2.2
    obtain ⟨hp0, fa, hp1, hp2⟩ := hPs.2 _ hia
    cases hb : pE sc b
    · refine k_X7_98 h (c_X3_pictureAt_f (k := 1) (by omega) hT hPs hb) (by omega) hT.1 rfl rfl dX7_ahead_14 <|
        PE.go <|
        s_astoreN h dX7_ahead_17 rfl <|
        s_aload_n h dX7_ahead_19 rfl <|
        s_ifnull h dX7_ahead_20 <|
        s_aloadN h dX7_ahead_23 rfl <|
        s_ifnullN (tgt := 33) h dX7_ahead_25 (by decide) <|
        s_iconst h dX7_ahead_33 ic_m1 <|
        s_iret h he rfl dX7_ahead_34 ⟨Nat.le_refl _, Nat.le_refl _⟩ ?_
      exact PE.eq (by simp [ahR, okP, *]) rfl
    · obtain ⟨hixb, -⟩ := pE_t hb
      have hib := hixb.2.2
      obtain ⟨hq0, fb, hq1, hq2⟩ := hPs.2 _ hib
      refine k_X7_98 h (c_X3_pictureAt_t (k := 1) (by omega) hT hPs hb) (by omega) hT.1 rfl rfl dX7_ahead_14 <|
        PE.go <|
        s_astore h dX7_ahead_17 rfl <|
        s_aload_n h dX7_ahead_19 rfl <|
        s_ifnull h dX7_ahead_20 <|
        s_aload h dX7_ahead_23 rfl <|
        s_ifnull h dX7_ahead_25 <|
        s_iload_n h dX7_ahead_28 rfl <|
        s_iload_n h dX7_ahead_29 rfl <|
        s_icmp_ne (tgt := 35) h dX7_ahead_30 (by decide) (fun c30 => ?_) (fun c30 => ?_)
      · refine s_aload_n h dX7_ahead_35 rfl <|
          g_X7_10 h dX7_ahead_36 (by omega) hW.1 <|
          s_aload_n h dX7_ahead_39 rfl <|
          k_X7_188 h (c_X4_firstMinute (k := 1) (k2 := 1 + 9 + 2 * a.toNatClampNeg) (by omega) hT hwf (by omega) hp0 hp1 hp2) rfl rfl dX7_ahead_40 <|
          PE.go <|
          s_topi (fiM sc a) rfl <|
          s_istore h dX7_ahead_43 rfl <|
          s_aload_n h dX7_ahead_45 rfl <|
          g_X7_10 h dX7_ahead_46 (by omega) hW.1 <|
          s_aload h dX7_ahead_49 rfl <|
          k_X7_188 h (c_X4_firstMinute (k := 1) (k2 := 1 + 9 + 2 * b.toNatClampNeg) (by omega) hT hwf (by omega) hq0 hq1 hq2) rfl rfl dX7_ahead_51 <|
          PE.go <|
          s_topi (fiM sc b) rfl <|
          s_istore h dX7_ahead_54 rfl <|
          s_iload h dX7_ahead_56 rfl <|
          s_bipush h dX7_ahead_58 bp_m6 <|
          s_icmp_eq (tgt := 70) h dX7_ahead_60 (by decide) (fun c60 => ?_) (fun c60 => ?_)
        · refine s_bipush h dX7_ahead_70 bp_m6 <|
            s_iret h he rfl dX7_ahead_72 ⟨Nat.le_refl _, Nat.le_refl _⟩ ?_
          have q30 : ¬ a = b := c30
          have ok : okP sc a b = true := by simp [okP, ha, hb, q30]
          first
            | exact PE.eq (by rw [ahR, ok, if_pos rfl, if_pos (Or.inl c60)]) rfl
            | exact PE.eq (by rw [ahR, ok, if_pos rfl, if_pos (Or.inr c67)]) rfl
        · refine s_iload h dX7_ahead_63 rfl <|
            s_bipush h dX7_ahead_65 bp_m6 <|
            s_icmp_ne (tgt := 73) h dX7_ahead_67 (by decide) (fun c67 => ?_) (fun c67 => ?_)
          · refine s_aload_n h dX7_ahead_73 rfl <|
              g_X7_10 h dX7_ahead_74 (by omega) hW.1 <|
              s_aload_n h dX7_ahead_77 rfl <|
              k_X7_191 h (c_X4_lastMinute (k := 1) (k2 := 1 + 9 + 2 * a.toNatClampNeg) (by omega) hT hwf (by omega) hp0 hp1 hp2) rfl rfl dX7_ahead_78 <|
              PE.go <|
              s_topi (laM sc a) rfl <|
              s_iload h dX7_ahead_81 rfl <|
              s_icmp_ge (tgt := 88) h dX7_ahead_83 (by decide) (fun c83 => ?_) (fun c83 => ?_)
            · refine s_aload_n h dX7_ahead_88 rfl <|
                g_X7_10 h dX7_ahead_89 (by omega) hW.1 <|
                s_aload h dX7_ahead_92 rfl <|
                k_X7_191 h (c_X4_lastMinute (k := 1) (k2 := 1 + 9 + 2 * b.toNatClampNeg) (by omega) hT hwf (by omega) hq0 hq1 hq2) rfl rfl dX7_ahead_94 <|
                PE.go <|
                s_topi (laM sc b) rfl <|
                s_iload h dX7_ahead_97 rfl <|
                s_icmp_ge (tgt := 106) h dX7_ahead_99 (by decide) (fun c99 => ?_) (fun c99 => ?_)
              · refine s_iconst h dX7_ahead_106 ic_0 <|
                  s_iret h he rfl dX7_ahead_107 ⟨Nat.le_refl _, Nat.le_refl _⟩ ?_
                have q30 : ¬ a = b := c30
                have ok : okP sc a b = true := by simp [okP, ha, hb, q30]
                first
                  | exact PE.eq (by rw [ahR, ok, if_pos rfl, if_neg (fun z => z.elim c60 c67), if_neg (i32_nlt.mpr c83), if_pos (i32_nle.mp c99)]) rfl
                  | exact PE.eq (by rw [ahR, ok, if_pos rfl, if_neg (fun z => z.elim c60 c67), if_neg (i32_nlt.mpr c83), if_neg (i32_nlt.mpr c99)]) rfl
              · refine s_iconst h dX7_ahead_102 ic_2 <|
                  s_goto (tgt := 107) h dX7_ahead_103 (by decide) <|
                  s_iret h he rfl dX7_ahead_107 ⟨Nat.le_refl _, Nat.le_refl _⟩ ?_
                have q30 : ¬ a = b := c30
                have ok : okP sc a b = true := by simp [okP, ha, hb, q30]
                first
                  | exact PE.eq (by rw [ahR, ok, if_pos rfl, if_neg (fun z => z.elim c60 c67), if_neg (i32_nlt.mpr c83), if_pos (i32_nle.mp c99)]) rfl
                  | exact PE.eq (by rw [ahR, ok, if_pos rfl, if_neg (fun z => z.elim c60 c67), if_neg (i32_nlt.mpr c83), if_neg (i32_nlt.mpr c99)]) rfl
            · refine s_iconst h dX7_ahead_86 ic_1 <|
                s_iret h he rfl dX7_ahead_87 ⟨Nat.le_refl _, Nat.le_refl _⟩ ?_
              have q30 : ¬ a = b := c30
              have ok : okP sc a b = true := by simp [okP, ha, hb, q30]
              exact PE.eq (by rw [ahR, ok, if_pos rfl, if_neg (fun z => z.elim c60 c67), if_pos (i32_nle.mp c83)]) rfl
          · refine s_bipush h dX7_ahead_70 bp_m6 <|
              s_iret h he rfl dX7_ahead_72 ⟨Nat.le_refl _, Nat.le_refl _⟩ ?_
            have q30 : ¬ a = b := c30
            have ok : okP sc a b = true := by simp [okP, ha, hb, q30]
            first
              | exact PE.eq (by rw [ahR, ok, if_pos rfl, if_pos (Or.inl c60)]) rfl
              | exact PE.eq (by rw [ahR, ok, if_pos rfl, if_pos (Or.inr c67)]) rfl
      · refine s_iconst h dX7_ahead_33 ic_m1 <|
          s_iret h he rfl dX7_ahead_34 ⟨Nat.le_refl _, Nat.le_refl _⟩ ?_
        exact PE.eq (by simp [ahR, okP, *]) rfl
theorem c_X7_missing {l : Launch} {D : va_G} {N : Nat} {adr : Nat → Nat} {G : Nat → va_E} {sc i0 i1 : Nat → Nat → Int32} {kp sg : Nat → Int32} {n : Nat} (hN : 103 ≤ N) (hW : isSW D adr G sc i0 i1 kp sg n) (hwf : wfT sc) {p t x : Int32} :
    CT l D yX7_missing cX7_missing 7 (some FieldType.int) (rl 5) [.ref (adr 0), .int p, .int t, .int x] N adr G (PE (some (.int (msR sc p t x))) N adr G) := by
  have hS := hW.2.1
  have hT := hS.1
  have hPs := hS.2
  refine CT.of (by decide +kernel) (Nat.le_of_ble_eq_true rfl) (fun Γ h he => ?_)
  have h : cx l D (rl 5) RX7 cX7_missing 7 Γ := h
  show SX Γ 0 0 0 [(0, .ref (adr 0)), (1, .int p), (2, .int t), (3, .int x)] [] N adr G
  cases he1 : pE sc p
  · refine s_aload_n h dX7_missing_0 rfl <|
      g_X7_10 h dX7_missing_1 (by omega) hW.1 <|
      s_iload_n h dX7_missing_4 rfl <|
      k_X7_98 h (c_X3_pictureAt_f (k := 1) (by omega) hT hPs he1) (by omega) hT.1 rfl rfl dX7_missing_5 <|
      PE.go <|
      s_astoreN h dX7_missing_8 rfl <|
      s_aloadN h dX7_missing_10 rfl <|
      s_ifnullN (tgt := 26) h dX7_missing_12 (by decide) <|
      s_iconst h dX7_missing_26 ic_m1 <|
      s_iret h he rfl dX7_missing_27 ⟨Nat.le_refl _, Nat.le_refl _⟩ ?_
    exact PE.eq (by simp [msR, *]) rfl
  · obtain ⟨hix, -⟩ := pE_t he1
    have hi := hix.2.2
    obtain ⟨hp0, fc, hp1, hp2⟩ := hPs.2 _ hi
    cases he2 : tE sc t
    · refine s_aload_n h dX7_missing_0 rfl <|
        g_X7_10 h dX7_missing_1 (by omega) hW.1 <|
        s_iload_n h dX7_missing_4 rfl <|
        k_X7_98 h (c_X3_pictureAt_t (k := 1) (by omega) hT hPs he1) (by omega) hT.1 rfl rfl dX7_missing_5 <|
        PE.go <|
        s_astore h dX7_missing_8 rfl <|
        s_aload h dX7_missing_10 rfl <|
        s_ifnull h dX7_missing_12 <|
        s_aload_n h dX7_missing_15 rfl <|
        g_X7_10 h dX7_missing_16 (by omega) hW.1 <|
        s_iload_n h dX7_missing_19 rfl <|
        k_X7_73 h (c_X3_thingAt_f (k := 1) (by omega) hT he2) (by omega) hT.1 rfl rfl dX7_missing_20 <|
        PE.go <|
        s_ifnonnullN h dX7_missing_23 <|
        s_iconst h dX7_missing_26 ic_m1 <|
        s_iret h he rfl dX7_missing_27 ⟨Nat.le_refl _, Nat.le_refl _⟩ ?_
      exact PE.eq (by simp [msR, *]) rfl
    · obtain ⟨hixt, -⟩ := tE_t he2
      refine s_aload_n h dX7_missing_0 rfl <|
        g_X7_10 h dX7_missing_1 (by omega) hW.1 <|
        s_iload_n h dX7_missing_4 rfl <|
        k_X7_98 h (c_X3_pictureAt_t (k := 1) (by omega) hT hPs he1) (by omega) hT.1 rfl rfl dX7_missing_5 <|
        PE.go <|
        s_astore h dX7_missing_8 rfl <|
        s_aload h dX7_missing_10 rfl <|
        s_ifnull h dX7_missing_12 <|
        s_aload_n h dX7_missing_15 rfl <|
        g_X7_10 h dX7_missing_16 (by omega) hW.1 <|
        s_iload_n h dX7_missing_19 rfl <|
        k_X7_73 h (c_X3_thingAt_t (k := 1) (by omega) hT he2) (by omega) hT.1 rfl rfl dX7_missing_20 <|
        PE.go <|
        s_ifnonnull (tgt := 28) h dX7_missing_23 (by decide) <|
        s_iload_n h dX7_missing_28 rfl <|
        s_iconst h dX7_missing_29 ic_0 <|
        s_iconst h dX7_missing_30 ic_2 <|
        k_X7_55 h (c_X7_within) rfl rfl dX7_missing_31 <|
        PE.go <|
        s_if_ne (tgt := 40) h dX7_missing_34 (by decide) (fun c34 => ?_) (fun c34 => ?_)
      · refine s_aload_n h dX7_missing_40 rfl <|
          g_X7_10 h dX7_missing_41 (by omega) hW.1 <|
          s_aload h dX7_missing_44 rfl <|
          s_iload_n h dX7_missing_46 rfl <|
          s_topi (nI t.toNatClampNeg) (ix_eq hixt) <|
          k_X7_194 h (c_X4_columnsWithout (k := 1) (k2 := 1 + 9 + 2 * p.toNatClampNeg) (by omega) hT hwf (by omega) hp0 hp1 hp2 hixt.2.2) rfl rfl dX7_missing_47 <|
          PE.go <|
          s_lstore h dX7_missing_50 rfl <|
          s_iload_n h dX7_missing_52 rfl <|
          s_if_ne (tgt := 62) h dX7_missing_53 (by decide) (fun c53 => ?_) (fun c53 => ?_)
        · refine s_iload_n h dX7_missing_62 rfl <|
            s_iconst h dX7_missing_63 ic_1 <|
            s_icmp_ne (tgt := 75) h dX7_missing_64 (by decide) (fun c64 => ?_) (fun c64 => ?_)
          · refine s_lload h dX7_missing_75 rfl <|
              k_X7_206 h (c_X4_greatestShown) rfl rfl dX7_missing_77 <|
              PE.go <|
              s_iret h he rfl dX7_missing_80 ⟨Nat.le_refl _, Nat.le_refl _⟩ ?_
            (try have e34 := bI_1 c34)
            (try have e34 := bI_0 c34)
            first
              | exact PE.eq (by rw [msR, he1, he2, e34]; simp only [Bool.and_self, if_true, if_neg c53, if_pos c64]; rfl) rfl
              | exact PE.eq (by rw [msR, he1, he2, e34]; simp only [Bool.and_self, if_true, if_neg c53, if_neg c64]; rfl) rfl
          · refine s_lload h dX7_missing_67 rfl <|
              k_X7_203 h (c_X4_leastShown) rfl rfl dX7_missing_69 <|
              PE.go <|
              s_goto (tgt := 80) h dX7_missing_72 (by decide) <|
              s_iret h he rfl dX7_missing_80 ⟨Nat.le_refl _, Nat.le_refl _⟩ ?_
            (try have e34 := bI_1 c34)
            (try have e34 := bI_0 c34)
            first
              | exact PE.eq (by rw [msR, he1, he2, e34]; simp only [Bool.and_self, if_true, if_neg c53, if_pos c64]; rfl) rfl
              | exact PE.eq (by rw [msR, he1, he2, e34]; simp only [Bool.and_self, if_true, if_neg c53, if_neg c64]; rfl) rfl
        · refine s_lload h dX7_missing_56 rfl <|
            k_X7_198 h (c_J13_bitCount_95d88) rfl rfl dX7_missing_58 <|
            PE.go <|
            s_iret h he rfl dX7_missing_61 ⟨Nat.le_refl _, Nat.le_refl _⟩ ?_
          (try have e34 := bI_1 c34)
          (try have e34 := bI_0 c34)
          exact PE.eq (by rw [msR, he1, he2, e34]; simp only [Bool.and_self, if_true, if_pos c53]; rfl) rfl
      · refine s_bipush h dX7_missing_37 bp_m2 <|
          s_iret h he rfl dX7_missing_39 ⟨Nat.le_refl _, Nat.le_refl _⟩ ?_
        (try have e34 := bI_1 c34)
        (try have e34 := bI_0 c34)
        exact PE.eq (by simp [msR, he1, he2, e34]) rfl
