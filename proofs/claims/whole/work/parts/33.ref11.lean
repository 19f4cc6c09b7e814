theorem ffO_cases (p : Nat → Bool) : ∀ n, (ffO p n = none ∧ ∀ j, j < n → p j = false) ∨ ∃ j, j < n ∧ p j = true ∧ (∀ i, i < j → p i = false) ∧ ffO p n = some j
  | 0 => Or.inl ⟨ffO_none nh_0, nh_0⟩
  | n + 1 => by
    rcases ffO_cases p n with ⟨h1, h2⟩ | ⟨j, h1, h2, h3, h4⟩
    · cases q : p n with
      | true => exact Or.inr ⟨n, by omega, q, h2, ffO_some (by omega) q h2⟩
      | false => exact Or.inl ⟨ffO_none (nh_s h2 q), nh_s h2 q⟩
    · exact Or.inr ⟨j, by omega, h2, h3, ffO_some (by omega) h2 h3⟩
def firN (p : Nat → Bool) (n : Nat) : Int32 := fN (fun j x => if p j && decide (x < 0) then nI j else x) (-6) n
theorem firN_s (p : Nat → Bool) (n : Nat) : firN p (n + 1) = if p n && decide (firN p n < 0) then nI n else firN p n := rfl
theorem firN_0 {p : Nat → Bool} : ∀ {n : Nat}, (∀ j, j < n → p j = false) → firN p n = -6
  | 0, _ => rfl
  | n + 1, h => by
    rw [firN_s, h n (by omega), Bool.false_and]
    exact firN_0 (fun j hj => h j (by omega))
theorem firN_1 {p : Nat → Bool} {j : Nat} (h : p j = true) (h2 : ∀ i, i < j → p i = false) : ∀ d, j + d < 2 ^ 31 → firN p (j + 1 + d) = nI j
  | 0, _ => by
    show firN p (j + 1) = nI j
    rw [firN_s, h, firN_0 h2]; rfl
  | d + 1, q => by
    show firN p (j + 1 + d + 1) = nI j
    rw [firN_s, firN_1 h h2 d (by omega), decide_eq_false (nI_pos (by omega)), Bool.and_false]
    rfl
theorem firN_ffO (p : Nat → Bool) {n : Nat} (hn : n < 2 ^ 31) : firN p n = oI (ffO p n) := by
  rcases ffO_cases p n with ⟨h1, h2⟩ | ⟨j, h1, h2, h3, h4⟩
  · rw [h1, firN_0 h2]; rfl
  · rw [h4]
    have := firN_1 h2 h3 (n - j - 1) (by omega)
    rw [show j + 1 + (n - j - 1) = n from by omega] at this
    exact this
theorem rdR_v (sg : Nat → Int32) {n : Nat} : rdR sg n = -6 ∨ ∃ j, j ≤ n ∧ rdR sg n = nI j := by
  rcases ffO_cases (rdP sg) n with ⟨h1, h2⟩ | ⟨j, h1, h2, h3, h4⟩
  · rw [rdR_none h1]
    split
    · exact Or.inl rfl
    · exact Or.inr ⟨n, Nat.le_refl n, rfl⟩
  · exact Or.inr ⟨j, by omega, rdR_some h4⟩
theorem rdR_lt (sg : Nat → Int32) {n : Nat} (hn : n ≤ 60) : rdR sg n < 0 ↔ rdR sg n = -6 := by
  constructor
  · intro q
    rcases rdR_v sg (n := n) with h | ⟨j, hj, h⟩
    · exact h
    · rw [h] at q; exact absurd q (nI_pos (by omega))
  · intro q; rw [q]; decide
theorem wN_le (sc : Nat → Nat → Int32) (lf rg : Nat → Int32) (j : Nat) : wN sc lf rg j = 0 ∨ 0 < wN sc lf rg j := by
  unfold wN
  split
  · exact Or.inr (by decide)
  · split
    · exact Or.inr (by decide)
    · rcases ffO_cases (wNp lf rg j) j with ⟨h1, h2⟩ | ⟨i, h1, h2, h3, h4⟩
      · rw [h1]; exact Or.inl rfl
      · rw [h4]; exact Or.inr (show (0 : Int32) < 3 from by decide)
theorem wN_z {sc : Nat → Nat → Int32} {lf rg : Nat → Int32} {j : Nat} (h : wN sc lf rg j = 0) : okP sc (lf j) (rg j) = true := by
  unfold wN at h
  split at h
  · exact absurd h (by decide)
  · rename_i q
    split at h
    · exact absurd h (by decide)
    · rename_i q2
      unfold okP
      rw [decide_eq_false q2]
      revert q
      cases pE sc (lf j) <;> cases pE sc (rg j) <;> simp
theorem wrR_none {sc : Nat → Nat → Int32} {sg : Nat → Int32} {n : Nat} (h : ffO (wNz sc (aL sg n) (aR sg n)) (aN sg n) = none) : wrR sc sg n = -6 := congrArg oI h
theorem wrR_all {sc : Nat → Nat → Int32} {sg : Nat → Int32} {n : Nat} (hn : n ≤ 60) (h : wrR sc sg n = -6) : ∀ j, j < aN sg n → wN sc (aL sg n) (aR sg n) j = 0 := by
  rcases ffO_cases (wNz sc (aL sg n) (aR sg n)) (aN sg n) with ⟨h1, h2⟩ | ⟨i, h1, h2, h3, h4⟩
  · intro j hj
    have := h2 j hj
    unfold wNz at this
    simpa using this
  · exfalso
    have z : wrR sc sg n = nI i := congrArg oI h4
    rw [h] at z
    exact nI_m6 (by have := aN_le (sg := sg) hn; omega) z.symm
def rfR (sc : Nat → Nat → Int32) (sg : Nat → Int32) (n : Nat) : Int32 := if rdR sg n = -6 then (if wrR sc sg n = -6 then -6 else -3) else -5
def whR (sc : Nat → Nat → Int32) (sg : Nat → Int32) (n : Nat) : Int32 := if wrR sc sg n = -6 then -6 else wN sc (aL sg n) (aR sg n) (wrR sc sg n).toNatClampNeg
theorem rfR_5 {sc : Nat → Nat → Int32} {sg : Nat → Int32} {n : Nat} (h : ¬ rdR sg n = -6) : rfR sc sg n = -5 := if_neg h
theorem rfR_6 {sc : Nat → Nat → Int32} {sg : Nat → Int32} {n : Nat} (h : rdR sg n = -6) (h2 : wrR sc sg n = -6) : rfR sc sg n = -6 := by unfold rfR; rw [if_pos h, if_pos h2]
theorem rfR_3 {sc : Nat → Nat → Int32} {sg : Nat → Int32} {n : Nat} (h : rdR sg n = -6) (h2 : ¬ wrR sc sg n = -6) : rfR sc sg n = -3 := by unfold rfR; rw [if_pos h, if_neg h2]
/-- what a refusal leaves -/
def fRef (sc : Nat → Nat → Int32) (sg : Nat → Int32) (n : Nat) (g : Nat → Int32) (b : Nat → Nat → Int32) : Prop := fEnd sg n g b ∧ g 14 = wrR sc sg n ∧ g 15 = whR sc sg n
theorem c_X8_whyNotS {l : Launch} {D : va_G} {N : Nat} {adr : Nat → Nat} {G : Nat → va_E} {G0 : Nat → va_E} {f f0 : Nat → Int32} {a a0 : Nat → Nat → Int32} (hN : 115 ≤ N) (hM : isMF D adr G0 G f a) (hs : sM f0 a0 f a) {n : Nat} (hn60 : n ≤ 60) (hE : fEnd (a0 108) n f a) {j : Nat} (hj : j < aN (a0 108) n) : CT l D yX8_whyNot cX8_whyNot 4 (some FieldType.int) (rl 2) [.ref (adr 103), .int (nI j)] N adr G (PE (some (.int (wN (mS f0 a0) (aL (a0 108) n) (aR (a0 108) n) j))) N adr G) := by
  have z := c_X8_whyNot (l := l) (D := D) hN hM (j := j) (by have := aN_le (sg := a0 108) hn60; omega)
  rw [hs.eS, wN_congr hE.2.2 hj] at z
  exact z
theorem c_X8_refusal {l : Launch} {D : va_G} {N : Nat} {adr : Nat → Nat} {G : Nat → va_E} {G0 : Nat → va_E} {f f0 : Nat → Int32} {a a0 : Nat → Nat → Int32} (hN : 115 ≤ N) (hM : isMF D adr G0 G f a) (hs : sM f0 a0 f a) {n : Nat} (hf8 : f0 8 = nI n) (hn60 : n ≤ 60) :
    CT l D yX8_refusal cX8_refusal 3 (some FieldType.int) (rl 3) [.ref (adr 103)] N adr G (PR (some (.int (rfR (mS f0 a0) (a0 108) n))) N adr (fun W => ∃ g b, isMF D adr G0 W g b ∧ sM f0 a0 g b ∧ (rdR (a0 108) n = -6 → fRef (mS f0 a0) (a0 108) n g b))) := by
  refine CT.of (by decide +kernel) (Nat.le_of_ble_eq_true rfl) (fun Γ h he => ?_)
  have h : cx l D (rl 3) RX8 cX8_refusal 3 Γ := h
  show SX Γ 0 0 0 [(0, .ref (adr 103))] [] N adr G
  refine s_aload_n h dX8_refusal_0 rfl <|
    k_X8_121 h (c_X8_fault hN hM hs hf8 hn60) (by omega) hM.o rfl rfl dX8_refusal_1 (PR.go fun V hV => ?_)
  obtain ⟨g1, b1, hM, hs, hF⟩ := hV
  have hq30 := aN_le (sg := a0 108) hn60
  refine s_if_lt (tgt := 10) h dX8_refusal_4 (by decide) (fun c4 => ?_) (fun c4 => ?_)
  · have hrd := (rdR_lt _ hn60).mp c4
    have hE := hF hrd
    refine s_aload_n h dX8_refusal_10 rfl <|
      s_bipush h dX8_refusal_11 bp_m6 <|
      pm_125 h dX8_refusal_13 hN hM <|
      fun W hM =>
      s_aload_n h dX8_refusal_16 rfl <|
      s_bipush h dX8_refusal_17 bp_m6 <|
      pm_128 h dX8_refusal_19 hN hM <|
      fun W hM =>
      s_iconst h dX8_refusal_22 ic_0 <|
      s_istore_n h dX8_refusal_23 rfl <|
      ?_
    refine SX.loc (up_ind (n := (aN (a0 108) n)) (Q := fun i => ∀ (W : Nat → va_E) (g : Nat → Int32) (b : Nat → Nat → Int32), (isMF D adr G0 W g b ∧ sM f0 a0 g b ∧ fEnd (a0 108) n g b ∧ g 14 = -6 ∧ g 15 = -6 ∧ ∀ j, j < i → (wNz (mS f0 a0) (aL (a0 108) n) (aR (a0 108) n)) j = false) → SX Γ 0 0 24 [(0, .ref (adr 103)), (1, .int (nI i))] [] N adr W) ?_ ?_ 0 (Nat.zero_le _) _ _ _ ⟨hM, (hs.fl 14 _ (by decide)).fl 15 _ (by decide), ⟨hE.1, hE.2.1, hE.2.2⟩, rfl, rfl, nh_0⟩) ⟨rfl, rfl, trivial⟩
    · intro W g b hH
      show SX _ _ _ _ _ _ _ _ _
      obtain ⟨hM, hs, hE, h14, h15, hH⟩ := hH
      refine s_iload_n h dX8_refusal_24 rfl <|
      s_aload_n h dX8_refusal_25 rfl <|
      gm_97 h dX8_refusal_26 hN hM <|
      s_topi (nI (aN (a0 108) n)) hE.1 <|
      s_icmp_ge (tgt := 79) h dX8_refusal_29 (by decide) (kf := fun qx => absurd (nI_le (Nat.le_refl _) (by omega)) qx) (kt := fun _ => ?_)
      refine s_aload_n h dX8_refusal_79 rfl <|
      gm_125 h dX8_refusal_80 hN hM <|
      s_if_lt (tgt := 91) h dX8_refusal_83 (by decide) (kf := fun qx => absurd (by rw [h14]; decide) qx) (kt := fun _ => ?_)
      refine s_bipush h dX8_refusal_91 bp_m6 <|
      s_iret h he rfl dX8_refusal_93 ⟨Nat.le_refl _, Nat.le_refl _⟩ ?_
      exact PR.eq (by rw [rfR_6 hrd (wrR_none (ffO_none hH))]) ⟨_, _, hM, hs, fun _ => ⟨hE, h14.trans (wrR_none (ffO_none hH)).symm, h15.trans (by unfold whR; rw [if_pos (wrR_none (ffO_none hH))])⟩⟩
    · intro i hi ih W g b hH
      show SX _ _ _ _ _ _ _ _ _
      obtain ⟨hM, hs, hE, h14, h15, hH⟩ := hH
      have hi30 : i < 30 := by omega
      refine s_iload_n h dX8_refusal_24 rfl <|
      s_aload_n h dX8_refusal_25 rfl <|
      gm_97 h dX8_refusal_26 hN hM <|
      s_topi (nI (aN (a0 108) n)) hE.1 <|
      s_icmp_ge (tgt := 79) h dX8_refusal_29 (by decide) (kt := fun qx => absurd qx (nI_ge hi (by omega))) (kf := fun _ => ?_)
      rcases wN_le (mS f0 a0) (aL (a0 108) n) (aR (a0 108) n) i with hz | hz0
      · refine s_aload_n h dX8_refusal_32 rfl <|
          gm_125 h dX8_refusal_33 hN hM <|
          s_if_ge (tgt := 79) h dX8_refusal_36 (by decide) (kt := fun qx => absurd qx (by rw [h14]; decide)) (kf := fun _ => ?_)
        refine s_aload_n h dX8_refusal_39 rfl <|
          s_iload_n h dX8_refusal_40 rfl <|
          k_X8_131 h (c_X8_whyNotS hN hM hs hn60 hE hi) (by omega) hM.o rfl rfl dX8_refusal_41 <|
          PE.go <|
          s_istore_n h dX8_refusal_44 rfl <|
          s_aload_n h dX8_refusal_45 rfl <|
          s_iload_n h dX8_refusal_46 rfl <|
          s_if_le (tgt := 54) h dX8_refusal_47 (by decide) (kf := fun qx => absurd (by rw [hz]; decide) qx) (kt := fun _ => ?_)
        refine s_bipush h dX8_refusal_54 bp_m6 <|
          pm_125 h dX8_refusal_56 hN hM <|
          fun W hM =>
          s_aload_n h dX8_refusal_59 rfl <|
          s_iload_n h dX8_refusal_60 rfl <|
          s_if_le (tgt := 68) h dX8_refusal_61 (by decide) (kf := fun qx => absurd (by rw [hz]; decide) qx) (kt := fun _ => ?_)
        refine s_bipush h dX8_refusal_68 bp_m6 <|
          pm_128 h dX8_refusal_70 hN hM <|
          fun W hM =>
          s_iincR h dX8_refusal_73 rfl rfl ic_1 (nI_1 i) <|
          s_goto (tgt := 24) h dX8_refusal_76 (by decide) <|
          ?_
        exact SX.loc (ih _ _ _ ⟨hM, (hs.fl 14 _ (by decide)).fl 15 _ (by decide), ⟨hE.1, hE.2.1, hE.2.2⟩, rfl, rfl, nh_s hH (by unfold wNz; rw [hz]; rfl)⟩) ⟨rfl, rfl, trivial⟩
      · have hz : ¬ (wN (mS f0 a0) (aL (a0 108) n) (aR (a0 108) n) i) = 0 := fun q => by rw [q] at hz0; exact absurd hz0 (by decide)
        have hwr : wrR (mS f0 a0) (a0 108) n = nI i := congrArg oI (ffO_some (n := aN (a0 108) n) hi (by unfold wNz; rw [decide_eq_false hz]; rfl) hH)
        have hwn : ¬ wrR (mS f0 a0) (a0 108) n = -6 := by rw [hwr]; exact nI_m6 (by omega)
        have J2 : ∀ (W : Nat → va_E) (g : Nat → Int32) (b : Nat → Nat → Int32), (isMF D adr G0 W g b ∧ sM f0 a0 g b ∧ fEnd (a0 108) n g b ∧ g 14 = nI i ∧ g 15 = (wN (mS f0 a0) (aL (a0 108) n) (aR (a0 108) n) i)) → SX Γ 0 0 24 [(0, .ref (adr 103)), (1, .int (nI (i + 1)))] [] N adr W := by
          intro W g b hH
          obtain ⟨hM, hs, hE, h14, h15⟩ := hH
          refine s_iload_n h dX8_refusal_24 rfl <|
            s_aload_n h dX8_refusal_25 rfl <|
            gm_97 h dX8_refusal_26 hN hM <|
            s_topi (nI (aN (a0 108) n)) hE.1 <|
            s_icmp_ge (tgt := 79) h dX8_refusal_29 (by decide) (fun c29 => ?_) (fun c29 => ?_)
          · refine s_aload_n h dX8_refusal_79 rfl <|
              gm_125 h dX8_refusal_80 hN hM <|
              s_if_lt (tgt := 91) h dX8_refusal_83 (by decide) (kt := fun qx => absurd qx (by rw [h14]; exact nI_pos (by omega))) (kf := fun _ => ?_)
            refine s_bipush h dX8_refusal_86 bp_m3 <|
              s_goto (tgt := 93) h dX8_refusal_88 (by decide) <|
              s_iret h he rfl dX8_refusal_93 ⟨Nat.le_refl _, Nat.le_refl _⟩ ?_
            exact PR.eq (by rw [rfR_3 hrd hwn]) ⟨_, _, hM, hs, fun _ => ⟨hE, h14.trans hwr.symm, h15.trans (by unfold whR; rw [if_neg hwn, hwr, nI_clamp (by omega)])⟩⟩
          · refine s_aload_n h dX8_refusal_32 rfl <|
              gm_125 h dX8_refusal_33 hN hM <|
              s_if_ge (tgt := 79) h dX8_refusal_36 (by decide) (kf := fun qx => absurd (by rw [h14]; exact i32_nlt.mp (nI_pos (by omega))) qx) (kt := fun _ => ?_)
            refine s_aload_n h dX8_refusal_79 rfl <|
              gm_125 h dX8_refusal_80 hN hM <|
              s_if_lt (tgt := 91) h dX8_refusal_83 (by decide) (kt := fun qx => absurd qx (by rw [h14]; exact nI_pos (by omega))) (kf := fun _ => ?_)
            refine s_bipush h dX8_refusal_86 bp_m3 <|
              s_goto (tgt := 93) h dX8_refusal_88 (by decide) <|
              s_iret h he rfl dX8_refusal_93 ⟨Nat.le_refl _, Nat.le_refl _⟩ ?_
            exact PR.eq (by rw [rfR_3 hrd hwn]) ⟨_, _, hM, hs, fun _ => ⟨hE, h14.trans hwr.symm, h15.trans (by unfold whR; rw [if_neg hwn, hwr, nI_clamp (by omega)])⟩⟩
        refine s_aload_n h dX8_refusal_32 rfl <|
          gm_125 h dX8_refusal_33 hN hM <|
          s_if_ge (tgt := 79) h dX8_refusal_36 (by decide) (kt := fun qx => absurd qx (by rw [h14]; decide)) (kf := fun _ => ?_)
        refine s_aload_n h dX8_refusal_39 rfl <|
          s_iload_n h dX8_refusal_40 rfl <|
          k_X8_131 h (c_X8_whyNotS hN hM hs hn60 hE hi) (by omega) hM.o rfl rfl dX8_refusal_41 <|
          PE.go <|
          s_istore_n h dX8_refusal_44 rfl <|
          s_aload_n h dX8_refusal_45 rfl <|
          s_iload_n h dX8_refusal_46 rfl <|
          s_if_le (tgt := 54) h dX8_refusal_47 (by decide) (kt := fun qx => absurd qx (i32_nle.mpr hz0)) (kf := fun _ => ?_)
        refine s_iload_n h dX8_refusal_50 rfl <|
          s_goto (tgt := 56) h dX8_refusal_51 (by decide) <|
          pm_125 h dX8_refusal_56 hN hM <|
          fun W hM =>
          s_aload_n h dX8_refusal_59 rfl <|
          s_iload_n h dX8_refusal_60 rfl <|
          s_if_le (tgt := 68) h dX8_refusal_61 (by decide) (kt := fun qx => absurd qx (i32_nle.mpr hz0)) (kf := fun _ => ?_)
        refine s_iload_n h dX8_refusal_64 rfl <|
          s_goto (tgt := 70) h dX8_refusal_65 (by decide) <|
          pm_128 h dX8_refusal_70 hN hM <|
          fun W hM =>
          s_iincR h dX8_refusal_73 rfl rfl ic_1 (nI_1 i) <|
          s_goto (tgt := 24) h dX8_refusal_76 (by decide) <|
          ?_
        refine SX.loc (J2 _ _ _ ⟨hM, (hs.fl 14 _ (by decide)).fl 15 _ (by decide), ⟨hE.1, hE.2.1, hE.2.2⟩, rfl, rfl⟩) ⟨rfl, rfl, trivial⟩
  · refine s_bipush h dX8_refusal_7 bp_m5 <|
      s_iret h he rfl dX8_refusal_9 ⟨Nat.le_refl _, Nat.le_refl _⟩ ?_
    have hrd : ¬ rdR (a0 108) n = -6 := fun z => c4 ((rdR_lt _ hn60).mpr z)
    exact PR.eq (by rw [rfR_5 hrd]) ⟨_, _, hM, hs, fun z => absurd z hrd⟩
