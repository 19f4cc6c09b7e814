theorem sub8 : ∀ L, L < 513 → (nI L - 8).toInt = (L : Int) - 8 := by decide +kernel
theorem and31 (x : Int32) : ∃ m, m < 32 ∧ x &&& 31 = nI m := by
  obtain ⟨n, hn, e⟩ := wb_of32 x
  refine ⟨n % 32, Nat.mod_lt _ (by decide), ?_⟩
  rw [e, show (31 : Int32) = nI (2 ^ 5 - 1) from rfl, nI_and, Nat.and_two_pow_sub_one_eq_mod]
theorem lwloop {l : Launch} {D : va_G} {adr : Nat → Nat} {Γ : GT} {ce sl b L : Nat} {xs : Nat → Int32} (h : cx l D room_1 RL cL_law 4 Γ) (hX : sX b L xs Γ) (hc : ce ≤ 600000 ∧ sl ≤ 7302250) (hL : L ≤ 512) (kend : ∀ G2 lv, SX Γ ce sl 1048 lv [] 115 adr G2) : ∀ d i G, L < i + d → i ≤ L + 8 → LwI D adr G → SX Γ ce sl 18 [(0, .ref b), (1, .ref (adr 0)), (2, .ref (adr 103)), (3, .int (nI i))] [] 115 adr G := by
  intro d
  induction d with
  | zero =>
    intro i G hd hi hI
    refine s_iload_n h dL_law_18 rfl <|
      s_aload_n h dL_law_19 rfl <|
      s_sln h hX dL_law_20 <|
      s_bipush h dL_law_21 bp_8 <|
      s_isub h dL_law_23 <|
      s_icmp_gt (tgt := 1048) h dL_law_24 (by decide) (fun _ => kend _ _) (fun q => absurd ?_ q)
    rw [Int32.lt_iff_toInt_lt, sub8 L (by omega), nI_toInt (by omega)]
    omega
  | succ d ih =>
    intro i G hd hi hI
    refine s_iload_n h dL_law_18 rfl <|
      s_aload_n h dL_law_19 rfl <|
      s_sln h hX dL_law_20 <|
      s_bipush h dL_law_21 bp_8 <|
      s_isub h dL_law_23 <|
      s_icmp_gt (tgt := 1048) h dL_law_24 (by decide) (fun _ => kend _ _) (fun q => ?_)
    have hi8 : i + 8 ≤ L := by
      rw [Int32.lt_iff_toInt_lt, sub8 L (by omega), nI_toInt (by omega)] at q
      omega
    obtain ⟨m, hm, e⟩ := and31 (xs i)
    refine s_aload_n h dL_law_27 rfl <|
      s_iload_n h dL_law_28 rfl <|
      s_sld h hX dL_law_29 (show i < L by omega) hL <|
      s_bipush h dL_law_30 bp_31 <|
      s_iand h dL_law_32 <|
      s_topi (nI m) e ?_
    have k_ : ∀ G2, LwI D adr G2 → SX Γ ce sl 1042 [(0, .ref b), (1, .ref (adr 0)), (2, .ref (adr 103)), (3, .int (nI i))] [] 115 adr G2 := by
      intro G2 hI2
      refine s_iincR h dL_law_1042 rfl rfl ic_8 (nI_add i 8) <|
        s_goto (tgt := 18) h dL_law_1045 (by decide) <|
        ?_
      exact SX.loc (ih (i + 8) G2 (by omega) (by omega) hI2) ⟨rfl, rfl, rfl, rfl, trivial⟩
    by_cases h27 : m < 27
    · rcases (show m = 0 ∨ m = 1 ∨ m = 2 ∨ m = 3 ∨ m = 4 ∨ m = 5 ∨ m = 6 ∨ m = 7 ∨ m = 8 ∨ m = 9 ∨ m = 10 ∨ m = 11 ∨ m = 12 ∨ m = 13 ∨ m = 14 ∨ m = 15 ∨ m = 16 ∨ m = 17 ∨ m = 18 ∨ m = 19 ∨ m = 20 ∨ m = 21 ∨ m = 22 ∨ m = 23 ∨ m = 24 ∨ m = 25 ∨ m = 26 by omega) with rfl | rfl | rfl | rfl | rfl | rfl | rfl | rfl | rfl | rfl | rfl | rfl | rfl | rfl | rfl | rfl | rfl | rfl | rfl | rfl | rfl | rfl | rfl | rfl | rfl | rfl | rfl
      · exact s_tableIn (tgt := 156) (off := 123) h dL_law_33 (by decide) (by decide) rfl (by decide) (lw_c0 h hX hc hi8 hL hI k_)
      · exact s_tableIn (tgt := 209) (off := 176) h dL_law_33 (by decide) (by decide) rfl (by decide) (lw_c1 h hX hc hi8 hL hI k_)
      · exact s_tableIn (tgt := 232) (off := 199) h dL_law_33 (by decide) (by decide) rfl (by decide) (lw_c2 h hX hc hi8 hL hI k_)
      · exact s_tableIn (tgt := 255) (off := 222) h dL_law_33 (by decide) (by decide) rfl (by decide) (lw_c3 h hX hc hi8 hL hI k_)
      · exact s_tableIn (tgt := 298) (off := 265) h dL_law_33 (by decide) (by decide) rfl (by decide) (lw_c4 h hX hc hi8 hL hI k_)
      · exact s_tableIn (tgt := 341) (off := 308) h dL_law_33 (by decide) (by decide) rfl (by decide) (lw_c5 h hX hc hi8 hL hI k_)
      · exact s_tableIn (tgt := 364) (off := 331) h dL_law_33 (by decide) (by decide) rfl (by decide) (lw_c6 h hX hc hi8 hL hI k_)
      · exact s_tableIn (tgt := 387) (off := 354) h dL_law_33 (by decide) (by decide) rfl (by decide) (lw_c7 h hX hc hi8 hL hI k_)
      · exact s_tableIn (tgt := 400) (off := 367) h dL_law_33 (by decide) (by decide) rfl (by decide) (lw_c8 h hX hc hi8 hL hI k_)
      · exact s_tableIn (tgt := 413) (off := 380) h dL_law_33 (by decide) (by decide) rfl (by decide) (lw_c9 h hX hc hi8 hL hI k_)
      · exact s_tableIn (tgt := 436) (off := 403) h dL_law_33 (by decide) (by decide) rfl (by decide) (lw_c10 h hX hc hi8 hL hI k_)
      · exact s_tableIn (tgt := 459) (off := 426) h dL_law_33 (by decide) (by decide) rfl (by decide) (lw_c11 h hX hc hi8 hL hI k_)
      · exact s_tableIn (tgt := 492) (off := 459) h dL_law_33 (by decide) (by decide) rfl (by decide) (lw_c12 h hX hc hi8 hL hI k_)
      · exact s_tableIn (tgt := 535) (off := 502) h dL_law_33 (by decide) (by decide) rfl (by decide) (lw_c13 h hX hc hi8 hL hI k_)
      · exact s_tableIn (tgt := 578) (off := 545) h dL_law_33 (by decide) (by decide) rfl (by decide) (lw_c14 h hX hc hi8 hL hI k_)
      · exact s_tableIn (tgt := 611) (off := 578) h dL_law_33 (by decide) (by decide) rfl (by decide) (lw_c15 h hX hc hi8 hL hI k_)
      · exact s_tableIn (tgt := 644) (off := 611) h dL_law_33 (by decide) (by decide) rfl (by decide) (lw_c16 h hX hc hi8 hL hI k_)
      · exact s_tableIn (tgt := 677) (off := 644) h dL_law_33 (by decide) (by decide) rfl (by decide) (lw_c17 h hX hc hi8 hL hI k_)
      · exact s_tableIn (tgt := 710) (off := 677) h dL_law_33 (by decide) (by decide) rfl (by decide) (lw_c18 h hX hc hi8 hL hI k_)
      · exact s_tableIn (tgt := 753) (off := 720) h dL_law_33 (by decide) (by decide) rfl (by decide) (lw_c19 h hX hc hi8 hL hI k_)
      · exact s_tableIn (tgt := 766) (off := 733) h dL_law_33 (by decide) (by decide) rfl (by decide) (lw_c20 h hX hc hi8 hL hI k_)
      · exact s_tableIn (tgt := 854) (off := 821) h dL_law_33 (by decide) (by decide) rfl (by decide) (lw_c21 h hX hc hi8 hL hI k_)
      · exact s_tableIn (tgt := 897) (off := 864) h dL_law_33 (by decide) (by decide) rfl (by decide) (lw_c22 h hX hc hi8 hL hI k_)
      · exact s_tableIn (tgt := 930) (off := 897) h dL_law_33 (by decide) (by decide) rfl (by decide) (lw_c23 h hX hc hi8 hL hI k_)
      · exact s_tableIn (tgt := 973) (off := 940) h dL_law_33 (by decide) (by decide) rfl (by decide) (lw_c24 h hX hc hi8 hL hI k_)
      · exact s_tableIn (tgt := 996) (off := 963) h dL_law_33 (by decide) (by decide) rfl (by decide) (lw_c25 h hX hc hi8 hL hI k_)
      · exact s_tableIn (tgt := 1019) (off := 986) h dL_law_33 (by decide) (by decide) rfl (by decide) (lw_c26 h hX hc hi8 hL hI k_)
    · refine s_tableOut (tgt := 1042) h dL_law_33 (Or.inr ?_) (by decide) (k_ G hI)
      rw [nI_toInt (by omega)]
      omega
theorem isSW.mv {D : va_G} {adr adr2 : Nat → Nat} {G G2 : Nat → va_E} {sc i0 i1 : Nat → Nat → Int32} {kp sg : Nat → Int32} {n : Nat} (h : isSW D adr G sc i0 i1 kp sg n) (ea : ∀ j, j < 103 → adr2 j = adr j) (e : ∀ j, j < 103 → G2 j = G j) : isSW D adr2 G2 sc i0 i1 kp sg n := by
  obtain ⟨a, hs, ⟨f, b1, b2, b3⟩, c, ⟨pa, tu, lf, rg, hp⟩, ⟨fr, mo, hm, hm0⟩, ⟨s1, wy, s2⟩, ⟨th, col, p1⟩, ⟨th2, col2, p2⟩, j0, j1⟩ := h
  refine ⟨?_, hs.mv (fun j h1 h2 => ea j (by omega)) (fun j h1 h2 => e j (by omega)), ⟨f, (e 30 (by omega)).trans b1, by rw [ea 45 (by omega)]; exact b2, by rw [ea 74 (by omega)]; exact b3⟩, (e 31 (by omega)).trans c, ⟨pa, tu, lf, rg, hp.mv (fun j h1 h2 => ea j (by omega)) (fun j h1 h2 => e j (by omega))⟩, ⟨fr, mo, hm.mv (fun j h1 h2 => ea j (by omega)) (fun j h1 h2 => e j (by omega)), hm0⟩, ⟨?_, wy, (e 40 (by omega)).trans s2⟩, ⟨th, col, p1.mv (ea _ (by omega)) (e 41 (by omega)) (e 42 (by omega))⟩, ⟨th2, col2, p2.mv (ea _ (by omega)) (e 43 (by omega)) (e 44 (by omega))⟩, j0.mv (fun j h1 h2 => ea j (by omega)) (fun j h1 h2 => e j (by omega)), j1.mv (fun j h1 h2 => ea j (by omega)) (fun j h1 h2 => e j (by omega))⟩
  · rw [e 0 (by omega), ea 1 (by omega), ea 30 (by omega), ea 31 (by omega), ea 32 (by omega), ea 36 (by omega), ea 39 (by omega), ea 41 (by omega), ea 43 (by omega)]; exact a
  · rw [e 39 (by omega), ea 40 (by omega)]; exact s1
theorem hb_0 : ∀ j, j < 10 → hb 0 (nI j) = false := by decide +kernel
theorem LwI.first {D : va_G} {adr : Nat → Nat} {G : Nat → va_E} (hW : isSW D adr G sc0 sc0 sc0 (fun _ => 0) (fun _ => 0) 0) (hM : isM D adr G m0 (fun _ _ => 0)) : LwI D adr G := by
  have ag : agS sc0 (mS m0 (fun _ _ => 0)) := by
    refine ⟨rfl, fun i hi => ⟨?_, rfl, rfl, rfl⟩, fun i hi => ⟨?_, fun j hj => ?_⟩⟩
    · rw [mS_1, show m0 0 = 0 from rfl, hb_0 i (by omega)]; rfl
    · rw [mS_5, show m0 5 = 0 from rfl, hb_0 i hi]; rfl
    · rw [mS_col]
      show (0 : Int32) = if 6 + i = 0 then 20 else 0
      rw [if_neg (by omega)]
  have hz : wfZ sc0 := ⟨fun i _ => Or.inl rfl, fun i _ => Or.inl rfl⟩
  refine ⟨m0, fun _ _ => 0, sc0, sc0, 0, hW.cong ag, hM, rfl, Nat.zero_le _, ⟨by decide, by decide, wfT_of (fun i hi q => ?_), wfC_of (fun j hj => Or.inr ⟨by decide, by decide⟩)⟩, hz, hz, Or.inl rfl, Or.inl rfl⟩
  rw [show m0 0 = 0 from rfl, hb_0 i (by omega)] at q
  exact absurd q (by decide)
theorem ar_prim {s : State} {args : Array Value} {t : FieldType} (h : (Cond.arrayClass t).before args s = true) (hr : ∀ cA, s.vm.findClass ("[" ++ t.toString) = some cA → va_RA s cA t) : ∃ cA, ArrOfT s cA t ∧ va_RA s cA t := by
  obtain ⟨cA, kA, comp, h1, h2, h3⟩ := Cond.arrayClass_spec h
  exact ⟨cA, fun n z => ⟨(fun k h => by cases h), kA, h2, comp, h3⟩, hr cA h1⟩
theorem ar_obj {s : State} {args : Array Value} {C : String} (h : (Cond.arrayOver (.object C)).before args s = true) : ∃ cA, ArrOfT s cA (.object C) ∧ va_RA s cA (.object C) := by
  obtain ⟨comp, cA, kA, h1, h2, h3, h4, h5⟩ := Cond.arrayOver_spec h
  exact ⟨cA, fun n z => ⟨(fun k h => by cases h), kA, h3, comp, h4⟩, kA, comp, h3, h4, h1, h5⟩
theorem tt_tbl {w : Cond} (h : w ∈ TT) : w ∈ lw_tbl := (List.mem_filter.mp h).1
theorem nw_tbl {w : Cond} (h : w ∈ NW) : w ∈ lw_tbl := (List.mem_filter.mp h).1
theorem nw_of {w : Cond} {args : Array Value} {s : State} (hi : isNW w = true) (h : w.before args s = true) : va_Nw w s := by
  unfold isNW at hi
  split at hi
  · exact va_Nw.of rfl h
  · exact va_Nw.of rfl h
  · exact h
  · cases hi
theorem tbl_D {s : State} {args : Array Value} (hts : ∀ w ∈ lw_tbl, w.before args s = true) : ∃ D : va_G, va_K D vwCl (tyW D) s := by
  have ht : ∀ w ∈ TT, w.before args s = true := fun w h => hts w (tt_tbl h)
  have hn : ∀ w ∈ NW, w.before args s = true := fun w h => hts w (nw_tbl h)
  obtain ⟨c0, f0, k0⟩ := u_known ht inX0 (ht _ tw178)
  obtain ⟨c1, f1, k1⟩ := u_known ht inX1 (ht _ tw149)
  obtain ⟨c2, f2, k2⟩ := u_known ht inX2 (ht _ tw121)
  obtain ⟨c3, f3, k3⟩ := u_known ht inX3 (ht _ tw86)
  obtain ⟨c4, f4, k4⟩ := u_known ht inX5 (ht _ tw191)
  obtain ⟨c5, f5, k5⟩ := u_known ht inX6 (ht _ tw95)
  obtain ⟨c6, f6, k6⟩ := u_known ht inX7 (ht _ tw78)
  obtain ⟨c7, f7, k7⟩ := u_known ht inX8 (ht _ tw615)
  obtain ⟨a0, b0, d0⟩ := ar_prim (ht _ tw135) (fun _ h => h)
  obtain ⟨a1, b1, d1⟩ := ar_prim (ht _ tw200) (fun _ h => h)
  obtain ⟨a2, b2, d2⟩ := ar_prim (ht _ tw176) (fun _ h => h)
  obtain ⟨a3, b3, d3⟩ := ar_obj (hn _ tw94)
  obtain ⟨a4, b4, d4⟩ := ar_obj (hn _ tw147)
  obtain ⟨a5, b5, d5⟩ := ar_obj (hn _ tw92)
  refine ⟨(fun i => match i with | 0 => c0 | 1 => c1 | 2 => c2 | 3 => c3 | 4 => c4 | 5 => c5 | 6 => c6 | 7 => c7 | 100 => a0 | 101 => a1 | 102 => a2 | 103 => a3 | 104 => a4 | 105 => a5 | _ => c0, fun i => match i with | 0 => f0 | 1 => f1 | 2 => f2 | 3 => f3 | 4 => f4 | 5 => f5 | 6 => f6 | 7 => f7 | _ => f0), fun i q hq => ?_, fun i q hq => ?_⟩
  · match i, hq with
    | 0, hq => cases hq; exact k0
    | 1, hq => cases hq; exact k1
    | 2, hq => cases hq; exact k2
    | 3, hq => cases hq; exact k3
    | 4, hq => cases hq; exact k4
    | 5, hq => cases hq; exact k5
    | 6, hq => cases hq; exact k6
    | 7, hq => cases hq; exact k7
    | i + 8, hq => cases hq
  · match i, hq with
    | 0, hq => cases hq; exact ⟨b0, d0⟩
    | 1, hq => cases hq; exact ⟨b1, d1⟩
    | 2, hq => cases hq; exact ⟨b2, d2⟩
    | 3, hq => cases hq; exact ⟨b3, d3⟩
    | 4, hq => cases hq; exact ⟨b4, d4⟩
    | 5, hq => cases hq; exact ⟨b5, d5⟩
    | i + 6, hq => cases hq
