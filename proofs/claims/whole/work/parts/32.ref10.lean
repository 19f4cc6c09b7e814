theorem c_X8_keepLeft_0 {l : Launch} {D : va_G} {N : Nat} {adr : Nat → Nat} {G : Nat → va_E} {G0 : Nat → va_E} {f : Nat → Int32} {a : Nat → Nat → Int32} (hN : 115 ≤ N) (hM : isMF D adr G0 G f a) {v : Int32} (hv : v = 0) :
    CT l D yX8_keepLeft cX8_keepLeft 2 (none) (rl 0) [.ref (adr 103), .int v] N adr G (PE none N adr G) := by
  refine CT.of (by decide +kernel) (Nat.le_of_ble_eq_true rfl) (fun Γ h he => ?_)
  have h : cx l D (rl 0) RX8 cX8_keepLeft 2 Γ := h
  show SX Γ 0 0 0 [(0, .ref (adr 103)), (1, .int v)] [] N adr G
  refine s_iload_n h dX8_keepLeft_0 rfl <|
    s_if_eq (tgt := 26) h dX8_keepLeft_1 (by decide) (kf := fun qx => absurd (hv) qx) (kt := fun _ => ?_)
  refine s_vret h he dX8_keepLeft_26 ⟨Nat.le_refl _, Nat.le_refl _⟩ ?_
  exact PE.is
theorem c_X8_keepLeft_1 {l : Launch} {D : va_G} {N : Nat} {adr : Nat → Nat} {G : Nat → va_E} {G0 : Nat → va_E} {f : Nat → Int32} {a : Nat → Nat → Int32} (hN : 115 ≤ N) (hM : isMF D adr G0 G f a) {v : Int32} (hv : v = 1) {q : Nat} (h11 : f 11 = nI q) (hq : q < 30) :
    CT l D yX8_keepLeft cX8_keepLeft 2 (none) (rl 0) [.ref (adr 103), .int v] N adr G (PR none N adr (fun W => isMF D adr G0 W f (uA a 109 (upd (a 109) q (f 13))))) := by
  have hix : ix (f 11) q 30 := by rw [h11]; exact ix_n hq (by decide)
  refine CT.of (by decide +kernel) (Nat.le_of_ble_eq_true rfl) (fun Γ h he => ?_)
  have h : cx l D (rl 0) RX8 cX8_keepLeft 2 Γ := h
  show SX Γ 0 0 0 [(0, .ref (adr 103)), (1, .int v)] [] N adr G
  refine s_iload_n h dX8_keepLeft_0 rfl <|
    s_if_eq (tgt := 26) h dX8_keepLeft_1 (by decide) (kt := fun qx => absurd qx (by rw [hv]; decide)) (kf := fun _ => ?_)
  refine s_aload_n h dX8_keepLeft_4 rfl <|
    gm_97 h dX8_keepLeft_5 hN hM <|
    s_bipush h dX8_keepLeft_8 bp_30 <|
    s_icmp_ge (tgt := 26) h dX8_keepLeft_10 (by decide) (kt := fun qx => absurd qx (by rw [h11]; exact nI_ge hq (by decide))) (kf := fun _ => ?_)
  refine s_aload_n h dX8_keepLeft_13 rfl <|
    gm_25 h dX8_keepLeft_14 hN hM <|
    s_aload_n h dX8_keepLeft_17 rfl <|
    gm_97 h dX8_keepLeft_18 hN hM <|
    s_aload_n h dX8_keepLeft_21 rfl <|
    gm_103 h dX8_keepLeft_22 hN hM <|
    sm_109 h dX8_keepLeft_25 hN hM hix <|
    fun W hM =>
    s_vret h he dX8_keepLeft_26 ⟨Nat.le_refl _, Nat.le_refl _⟩ ?_
  exact PR.is hM
/-- the reference's reading of the first i signs stands in fields 11 to 13 and rows 109, 110 -/
def fSt (sg : Nat → Int32) (i : Nat) (g : Nat → Int32) (b : Nat → Nat → Int32) : Prop :=
  g 11 = nI (pA sg i).2.1 ∧ g 12 = nI (pA sg i).2.2.1 ∧ (¬ (pA sg i).1 = -6 → g 13 = (pA sg i).1 ∧ b 109 (pA sg i).2.1 = (pA sg i).1) ∧ pEq (b 109) (b 110) (pA sg i)
theorem pEq_put {lf rg : Nat → Int32} {st : PSt} (h : pEq lf rg st) (v : Int32) : pEq (upd lf st.2.1 v) rg st := by
  intro j hj
  obtain ⟨h1, h2⟩ := h j hj
  exact ⟨by simp only [upd, show ¬ j = st.2.1 from by omega, if_false]; exact h1, h2⟩
theorem fSt_let {sg : Nat → Int32} {i : Nat} {g : Nat → Int32} {b : Nat → Nat → Int32} (h : fSt sg i g b) (hp : pIs (sg i) = true) (hd : (pA sg i).1 = -6) : fSt sg (i + 1) (upd g 13 (sg i - 97)) (uA b 109 (upd (b 109) (pA sg i).2.1 (sg i - 97))) := by
  obtain ⟨h1, h2, h3, h4⟩ := h
  have e := pA_let hp hd
  have z := pEq_let hp hd (pEq_put h4 (sg i - 97))
  refine ⟨?_, ?_, fun _ => ⟨?_, ?_⟩, z⟩
  · rw [e]; exact h1
  · rw [e]; exact h2
  · rw [e]; rfl
  · rw [e]
    show upd (b 109) (pA sg i).2.1 (sg i - 97) (pA sg i).2.1 = _
    simp [upd]
theorem fSt_pair {sg : Nat → Int32} {i : Nat} {g : Nat → Int32} {b : Nat → Nat → Int32} (h : fSt sg i g b) (hp : pIs (sg i) = true) (hd : ¬ (pA sg i).1 = -6) : fSt sg (i + 1) (upd g 11 (g 11 + 1)) (uA b 110 (upd (b 110) (pA sg i).2.1 (sg i - 97))) := by
  obtain ⟨h1, h2, h3, h4⟩ := h
  have e := pA_pair hp hd
  have z := pEq_pair hp hd h4
  rw [← (h3 hd).2, upd_self] at z
  refine ⟨?_, ?_, fun q => absurd (by rw [e]) q, z⟩
  · rw [e]; show g 11 + 1 = nI ((pA sg i).2.1 + 1); rw [h1, nI_1]
  · rw [e]; exact h2
theorem fSt_turn {sg : Nat → Int32} {i : Nat} {g : Nat → Int32} {b : Nat → Nat → Int32} (h : fSt sg i g b) (hp : pIs (sg i) = false) (hd : (pA sg i).1 = -6) : fSt sg (i + 1) (upd g 12 (g 12 + 1)) b := by
  obtain ⟨h1, h2, h3, h4⟩ := h
  have e := pA_turn hp
  refine ⟨?_, ?_, fun q => absurd (by rw [e]; exact hd) q, pEq_turn hp h4⟩
  · rw [e]; exact h1
  · rw [e]; show g 12 + 1 = nI ((pA sg i).2.2.1 + 1); rw [h2, nI_1]
def dueB (sg : Nat → Int32) (i : Nat) : Bool := !decide ((pA sg i).1 = -6)
theorem due_0 {sg : Nat → Int32} {i : Nat} (h : (pA sg i).1 = -6) : bI (dueB sg i) = 0 := by unfold dueB; rw [h]; rfl
theorem due_1 {sg : Nat → Int32} {i : Nat} (h : ¬ (pA sg i).1 = -6) : ¬ bI (dueB sg i) = 0 := by unfold dueB; rw [decide_eq_false h]; decide
theorem pA_q30 {sg : Nat → Int32} {i : Nat} (hi : i < 60) (h : ¬ (pA sg i).1 = -6) : (pA sg i).2.1 < 30 := by
  have := pA_bound sg i
  rw [if_neg h] at this
  omega
theorem pA_q30s {sg : Nat → Int32} {i : Nat} (hi : i < 60) (hp : pIs (sg i) = true) (h : (pA sg i).1 = -6) : (pA sg i).2.1 < 30 := by
  have := pA_bound sg (i + 1)
  rw [pA_let hp h, if_neg (show ¬ (sg i - 97, (pA sg i).2).1 = -6 from wb9 hp)] at this
  have q : 2 * (pA sg i).2.1 + 1 ≤ i + 1 := this
  omega
/-- what a whole reading leaves -/
def fEnd (sg : Nat → Int32) (n : Nat) (g : Nat → Int32) (b : Nat → Nat → Int32) : Prop := g 11 = nI (aN sg n) ∧ g 12 = nI (aU sg n) ∧ ∀ j, j < aN sg n → b 109 j = aL sg n j ∧ b 110 j = aR sg n j
theorem c_X8_fault {l : Launch} {D : va_G} {N : Nat} {adr : Nat → Nat} {G : Nat → va_E} {G0 : Nat → va_E} {f f0 : Nat → Int32} {a a0 : Nat → Nat → Int32} (hN : 115 ≤ N) (hM : isMF D adr G0 G f a) (hs : sM f0 a0 f a) {n : Nat} (hf8 : f0 8 = nI n) (hn60 : n ≤ 60) :
    CT l D yX8_fault cX8_fault 5 (some FieldType.int) (rl 2) [.ref (adr 103)] N adr G (PR (some (.int (rdR (a0 108) n))) N adr (fun W => ∃ g b, isMF D adr G0 W g b ∧ sM f0 a0 g b ∧ (rdR (a0 108) n = -6 → fEnd (a0 108) n g b))) := by
  refine CT.of (by decide +kernel) (Nat.le_of_ble_eq_true rfl) (fun Γ h he => ?_)
  have h : cx l D (rl 2) RX8 cX8_fault 5 Γ := h
  show SX Γ 0 0 0 [(0, .ref (adr 103))] [] N adr G
  refine s_aload_n h dX8_fault_0 rfl <|
    s_iconst h dX8_fault_1 ic_0 <|
    pm_97 h dX8_fault_2 hN hM <|
    fun W hM =>
    s_aload_n h dX8_fault_5 rfl <|
    s_iconst h dX8_fault_6 ic_0 <|
    pm_100 h dX8_fault_7 hN hM <|
    fun W hM =>
    s_iconst h dX8_fault_10 ic_0 <|
    s_istore_n h dX8_fault_11 rfl <|
    s_iconst h dX8_fault_12 ic_0 <|
    s_istore_n h dX8_fault_13 rfl <|
    ?_
  refine SX.loc (up_ind (n := n) (Q := fun i => ∀ (W : Nat → va_E) (g : Nat → Int32) (b : Nat → Nat → Int32), (isMF D adr G0 W g b ∧ sM f0 a0 g b ∧ fSt (a0 108) i g b ∧ ∀ j, j < i → rdP (a0 108) j = false) → SX Γ 0 0 14 [(0, .ref (adr 103)), (1, .int (bI (dueB (a0 108) i))), (2, .int (nI i))] [] N adr W) ?_ ?_ 0 (Nat.zero_le _) _ _ _ ⟨hM, (hs.fl 11 _ (by decide)).fl 12 _ (by decide), ⟨rfl, rfl, fun q => absurd rfl q, fun j hj => absurd hj (Nat.not_lt_zero j)⟩, nh_0⟩) ⟨rfl, rfl, rfl, trivial⟩
  · intro W g b hH
    show SX _ _ _ _ _ _ _ _ _
    obtain ⟨hM, hs, hF, hH⟩ := hH
    have h8 : g 8 = nI n := hs.1.2.2.2.trans hf8
    refine s_iload_n h dX8_fault_14 rfl <|
    s_aload_n h dX8_fault_15 rfl <|
    gm_94 h dX8_fault_16 hN hM <|
    s_topi (nI n) h8 <|
    s_icmp_ge (tgt := 141) h dX8_fault_19 (by decide) (kf := fun qx => absurd (nI_le (Nat.le_refl n) (by omega)) qx) (kt := fun _ => ?_)
    refine s_iload_n h dX8_fault_141 rfl <|
    s_if_eq (tgt := 152) h dX8_fault_142 (by decide) (fun c142 => ?_) (fun c142 => ?_)
    · refine s_bipush h dX8_fault_152 bp_m6 <|
      s_iret h he rfl dX8_fault_154 ⟨Nat.le_refl _, Nat.le_refl _⟩ ?_
      first
        | (have q : ¬ (pA (a0 108) n).1 = -6 := fun z => c142 (due_0 z)
           exact PR.eq (by rw [rdR_none (ffO_none hH), if_neg q, h8]) ⟨_, _, hM, hs, fun _ => ⟨hF.1, hF.2.1, fun j hj => hF.2.2.2 j hj⟩⟩)
        | (have q : (pA (a0 108) n).1 = -6 := Decidable.byContradiction fun z => due_1 z c142
           exact PR.eq (by rw [rdR_none (ffO_none hH), if_pos q]) ⟨_, _, hM, hs, fun _ => ⟨hF.1, hF.2.1, fun j hj => hF.2.2.2 j hj⟩⟩)
    · refine s_aload_n h dX8_fault_145 rfl <|
      gm_94 h dX8_fault_146 hN hM <|
      s_goto (tgt := 154) h dX8_fault_149 (by decide) <|
      s_iret h he rfl dX8_fault_154 ⟨Nat.le_refl _, Nat.le_refl _⟩ ?_
      first
        | (have q : ¬ (pA (a0 108) n).1 = -6 := fun z => c142 (due_0 z)
           exact PR.eq (by rw [rdR_none (ffO_none hH), if_neg q, h8]) ⟨_, _, hM, hs, fun _ => ⟨hF.1, hF.2.1, fun j hj => hF.2.2.2 j hj⟩⟩)
        | (have q : (pA (a0 108) n).1 = -6 := Decidable.byContradiction fun z => due_1 z c142
           exact PR.eq (by rw [rdR_none (ffO_none hH), if_pos q]) ⟨_, _, hM, hs, fun _ => ⟨hF.1, hF.2.1, fun j hj => hF.2.2.2 j hj⟩⟩)
  · intro i hi ih W g b hH
    show SX _ _ _ _ _ _ _ _ _
    obtain ⟨hM, hs, hF, hH⟩ := hH
    have h8 : g 8 = nI n := hs.1.2.2.2.trans hf8
    refine s_iload_n h dX8_fault_14 rfl <|
    s_aload_n h dX8_fault_15 rfl <|
    gm_94 h dX8_fault_16 hN hM <|
    s_topi (nI n) h8 <|
    s_icmp_ge (tgt := 141) h dX8_fault_19 (by decide) (kt := fun qx => absurd qx (nI_ge hi (by omega))) (kf := fun _ => ?_)
    cases hp : pIs (a0 108 i)
    · by_cases hd : (pA (a0 108) i).1 = -6
      · refine s_aload_n h dX8_fault_22 rfl <|
          gm_22 h dX8_fault_23 hN hM <|
          s_iload_n h dX8_fault_26 rfl <|
          s_iald h dX8_fault_27 (by omega) hM.a108 (ix_n (show i < 60 from by omega) (by decide)) (congrFun (hs.2.1 108 (by decide) (by decide)) i) <|
          s_bipush h dX8_fault_28 bp_97 <|
          s_isub h dX8_fault_30 <|
          s_istore_n h dX8_fault_31 rfl <|
          s_iload_n h dX8_fault_32 rfl <|
          s_i2l h dX8_fault_33 <|
          s_lconst h dX8_fault_34 lc_0 <|
          s_ldc2 h dX8_fault_35 tw706 <|
          k_X8_50 h (c_X8_inw (a := 0) (b := 9) (by decide) (by decide)) rfl rfl dX8_fault_38 <|
          PE.go <|
          s_istore h dX8_fault_41 rfl <|
          s_iload h dX8_fault_43 rfl <|
          s_if_ne (tgt := 65) h dX8_fault_45 (by decide) (kt := fun qx => absurd (by rw [show wb (a0 108 i - 97) 0 9 = false from hp]; rfl) qx) (kf := fun _ => ?_)
        refine s_iload_n h dX8_fault_48 rfl <|
          s_if_ne (tgt := 63) h dX8_fault_49 (by decide) (kt := fun qx => absurd (due_0 hd) qx) (kf := fun _ => ?_)
        refine s_aload_n h dX8_fault_52 rfl <|
          gm_22 h dX8_fault_53 hN hM <|
          s_iload_n h dX8_fault_56 rfl <|
          s_iald h dX8_fault_57 (by omega) hM.a108 (ix_n (show i < 60 from by omega) (by decide)) (congrFun (hs.2.1 108 (by decide) (by decide)) i) <|
          s_bipush h dX8_fault_58 bp_47 <|
          s_icmp_eq (tgt := 65) h dX8_fault_60 (by decide) (fun c60 => ?_) (fun c60 => ?_)
        · refine s_iload_n h dX8_fault_65 rfl <|
            s_if_eq (tgt := 92) h dX8_fault_66 (by decide) (kf := fun qx => absurd (due_0 hd) qx) (kt := fun _ => ?_)
          refine s_iload h dX8_fault_92 rfl <|
            s_if_eq (tgt := 105) h dX8_fault_94 (by decide) (kf := fun qx => absurd (by rw [show wb (a0 108 i - 97) 0 9 = false from hp]; rfl) qx) (kt := fun _ => ?_)
          refine s_aload_n h dX8_fault_105 rfl <|
            s_dup h dX8_fault_106 rfl <|
            gm_100 h dX8_fault_107 hN hM <|
            s_iconst h dX8_fault_110 ic_1 <|
            s_iadd h dX8_fault_111 <|
            pm_100 h dX8_fault_112 hN hM <|
            fun W hM =>
            s_iload_n h dX8_fault_115 rfl <|
            s_if_ne (tgt := 128) h dX8_fault_116 (by decide) (kt := fun qx => absurd (due_0 hd) qx) (kf := fun _ => ?_)
          refine s_iload h dX8_fault_119 rfl <|
            s_if_eq (tgt := 128) h dX8_fault_121 (by decide) (kf := fun qx => absurd (by rw [show wb (a0 108 i - 97) 0 9 = false from hp]; rfl) qx) (kt := fun _ => ?_)
          refine s_iconst h dX8_fault_128 ic_0 <|
            s_topi (bI (dueB (a0 108) (i + 1))) (by unfold dueB; rw [pA_turn hp, hd]; rfl) <|
            s_istore_n h dX8_fault_129 rfl <|
            s_aload_n h dX8_fault_130 rfl <|
            s_iload_n h dX8_fault_131 rfl <|
            k_X8_106 h (c_X8_keepLeft_0 hN hM (by unfold dueB; rw [pA_turn hp, hd]; rfl)) (by omega) hM.o rfl rfl dX8_fault_132 <|
            PE.go0 <|
            s_iincR h dX8_fault_135 rfl rfl ic_1 (nI_1 i) <|
            s_goto (tgt := 14) h dX8_fault_138 (by decide) <|
            ?_
          exact SX.loc (ih _ _ _ ⟨hM, hs.fl 12 _ (by decide), fSt_turn hF hp hd, nh_s hH (rdP_f (by unfold pOk; rw [hp, decide_eq_true c60, decide_eq_true hd]; rfl))⟩) ⟨rfl, rfl, rfl, trivial⟩
        · refine s_iload_n h dX8_fault_63 rfl <|
            s_iret h he rfl dX8_fault_64 ⟨Nat.le_refl _, Nat.le_refl _⟩ ?_
          exact PR.eq (by rw [rdR_some (ffO_some (n := n) hi (by unfold rdP pOk; rw [hp, decide_eq_false c60]; rfl) hH)]) ⟨_, _, hM, hs, fun q => absurd ((rdR_some (ffO_some (n := n) hi (by unfold rdP pOk; rw [hp, decide_eq_false c60]; rfl) hH)).symm.trans q) (nI_m6 (by omega))⟩
      · refine s_aload_n h dX8_fault_22 rfl <|
          gm_22 h dX8_fault_23 hN hM <|
          s_iload_n h dX8_fault_26 rfl <|
          s_iald h dX8_fault_27 (by omega) hM.a108 (ix_n (show i < 60 from by omega) (by decide)) (congrFun (hs.2.1 108 (by decide) (by decide)) i) <|
          s_bipush h dX8_fault_28 bp_97 <|
          s_isub h dX8_fault_30 <|
          s_istore_n h dX8_fault_31 rfl <|
          s_iload_n h dX8_fault_32 rfl <|
          s_i2l h dX8_fault_33 <|
          s_lconst h dX8_fault_34 lc_0 <|
          s_ldc2 h dX8_fault_35 tw706 <|
          k_X8_50 h (c_X8_inw (a := 0) (b := 9) (by decide) (by decide)) rfl rfl dX8_fault_38 <|
          PE.go <|
          s_istore h dX8_fault_41 rfl <|
          s_iload h dX8_fault_43 rfl <|
          s_if_ne (tgt := 65) h dX8_fault_45 (by decide) (kt := fun qx => absurd (by rw [show wb (a0 108 i - 97) 0 9 = false from hp]; rfl) qx) (kf := fun _ => ?_)
        refine s_iload_n h dX8_fault_48 rfl <|
          s_if_ne (tgt := 63) h dX8_fault_49 (by decide) (kf := fun qx => absurd qx (due_1 hd)) (kt := fun _ => ?_)
        refine s_iload_n h dX8_fault_63 rfl <|
          s_iret h he rfl dX8_fault_64 ⟨Nat.le_refl _, Nat.le_refl _⟩ ?_
        exact PR.eq (by rw [rdR_some (ffO_some (n := n) hi (by unfold rdP pOk; rw [hp, decide_eq_false hd, Bool.and_false]; rfl) hH)]) ⟨_, _, hM, hs, fun q => absurd ((rdR_some (ffO_some (n := n) hi (by unfold rdP pOk; rw [hp, decide_eq_false hd, Bool.and_false]; rfl) hH)).symm.trans q) (nI_m6 (by omega))⟩
    · by_cases hd : (pA (a0 108) i).1 = -6
      · refine s_aload_n h dX8_fault_22 rfl <|
          gm_22 h dX8_fault_23 hN hM <|
          s_iload_n h dX8_fault_26 rfl <|
          s_iald h dX8_fault_27 (by omega) hM.a108 (ix_n (show i < 60 from by omega) (by decide)) (congrFun (hs.2.1 108 (by decide) (by decide)) i) <|
          s_bipush h dX8_fault_28 bp_97 <|
          s_isub h dX8_fault_30 <|
          s_istore_n h dX8_fault_31 rfl <|
          s_iload_n h dX8_fault_32 rfl <|
          s_i2l h dX8_fault_33 <|
          s_lconst h dX8_fault_34 lc_0 <|
          s_ldc2 h dX8_fault_35 tw706 <|
          k_X8_50 h (c_X8_inw (a := 0) (b := 9) (by decide) (by decide)) rfl rfl dX8_fault_38 <|
          PE.go <|
          s_istore h dX8_fault_41 rfl <|
          s_iload h dX8_fault_43 rfl <|
          s_if_ne (tgt := 65) h dX8_fault_45 (by decide) (kf := fun qx => absurd qx (by rw [show wb (a0 108 i - 97) 0 9 = true from hp]; decide)) (kt := fun _ => ?_)
        refine s_iload_n h dX8_fault_65 rfl <|
          s_if_eq (tgt := 92) h dX8_fault_66 (by decide) (kf := fun qx => absurd (due_0 hd) qx) (kt := fun _ => ?_)
        refine s_iload h dX8_fault_92 rfl <|
          s_if_eq (tgt := 105) h dX8_fault_94 (by decide) (kt := fun qx => absurd qx (by rw [show wb (a0 108 i - 97) 0 9 = true from hp]; decide)) (kf := fun _ => ?_)
        refine s_aload_n h dX8_fault_97 rfl <|
          s_iload_n h dX8_fault_98 rfl <|
          pm_103 h dX8_fault_99 hN hM <|
          fun W hM =>
          s_goto (tgt := 115) h dX8_fault_102 (by decide) <|
          s_iload_n h dX8_fault_115 rfl <|
          s_if_ne (tgt := 128) h dX8_fault_116 (by decide) (kt := fun qx => absurd (due_0 hd) qx) (kf := fun _ => ?_)
        refine s_iload h dX8_fault_119 rfl <|
          s_if_eq (tgt := 128) h dX8_fault_121 (by decide) (kt := fun qx => absurd qx (by rw [show wb (a0 108 i - 97) 0 9 = true from hp]; decide)) (kf := fun _ => ?_)
        refine s_iconst h dX8_fault_124 ic_1 <|
          s_goto (tgt := 129) h dX8_fault_125 (by decide) <|
          s_topi (bI (dueB (a0 108) (i + 1))) (by unfold dueB; rw [pA_let hp hd, decide_eq_false (show ¬ (a0 108 i - 97, (pA (a0 108) i).2).1 = -6 from wb9 hp)]; rfl) <|
          s_istore_n h dX8_fault_129 rfl <|
          s_aload_n h dX8_fault_130 rfl <|
          s_iload_n h dX8_fault_131 rfl <|
          k_X8_106 h (c_X8_keepLeft_1 hN hM (by unfold dueB; rw [pA_let hp hd, decide_eq_false (show ¬ (a0 108 i - 97, (pA (a0 108) i).2).1 = -6 from wb9 hp)]; rfl) hF.1 (pA_q30s (by omega) hp hd)) (by omega) hM.o rfl rfl dX8_fault_132 (PR.go0 fun V hM => ?_)
        refine s_iincR h dX8_fault_135 rfl rfl ic_1 (nI_1 i) <|
          s_goto (tgt := 14) h dX8_fault_138 (by decide) <|
          ?_
        exact SX.loc (ih _ _ _ ⟨hM, (hs.fl 13 _ (by decide)).ar 109 _ (by decide), fSt_let hF hp hd, nh_s hH (rdP_f (by unfold pOk; rw [hp]; rfl))⟩) ⟨rfl, rfl, rfl, trivial⟩
      · refine s_aload_n h dX8_fault_22 rfl <|
          gm_22 h dX8_fault_23 hN hM <|
          s_iload_n h dX8_fault_26 rfl <|
          s_iald h dX8_fault_27 (by omega) hM.a108 (ix_n (show i < 60 from by omega) (by decide)) (congrFun (hs.2.1 108 (by decide) (by decide)) i) <|
          s_bipush h dX8_fault_28 bp_97 <|
          s_isub h dX8_fault_30 <|
          s_istore_n h dX8_fault_31 rfl <|
          s_iload_n h dX8_fault_32 rfl <|
          s_i2l h dX8_fault_33 <|
          s_lconst h dX8_fault_34 lc_0 <|
          s_ldc2 h dX8_fault_35 tw706 <|
          k_X8_50 h (c_X8_inw (a := 0) (b := 9) (by decide) (by decide)) rfl rfl dX8_fault_38 <|
          PE.go <|
          s_istore h dX8_fault_41 rfl <|
          s_iload h dX8_fault_43 rfl <|
          s_if_ne (tgt := 65) h dX8_fault_45 (by decide) (kf := fun qx => absurd qx (by rw [show wb (a0 108 i - 97) 0 9 = true from hp]; decide)) (kt := fun _ => ?_)
        refine s_iload_n h dX8_fault_65 rfl <|
          s_if_eq (tgt := 92) h dX8_fault_66 (by decide) (kt := fun qx => absurd qx (due_1 hd)) (kf := fun _ => ?_)
        refine s_aload_n h dX8_fault_69 rfl <|
          gm_28 h dX8_fault_70 hN hM <|
          s_aload_n h dX8_fault_73 rfl <|
          gm_97 h dX8_fault_74 hN hM <|
          s_iload_n h dX8_fault_77 rfl <|
          sm_110 h dX8_fault_78 hN hM (show ix (g 11) (pA (a0 108) i).2.1 30 from by rw [hF.1]; exact ix_n (pA_q30 (by omega) hd) (by decide)) <|
          fun W hM =>
          s_aload_n h dX8_fault_79 rfl <|
          s_dup h dX8_fault_80 rfl <|
          gm_97 h dX8_fault_81 hN hM <|
          s_iconst h dX8_fault_84 ic_1 <|
          s_iadd h dX8_fault_85 <|
          pm_97 h dX8_fault_86 hN hM <|
          fun W hM =>
          s_goto (tgt := 115) h dX8_fault_89 (by decide) <|
          s_iload_n h dX8_fault_115 rfl <|
          s_if_ne (tgt := 128) h dX8_fault_116 (by decide) (kf := fun qx => absurd qx (due_1 hd)) (kt := fun _ => ?_)
        refine s_iconst h dX8_fault_128 ic_0 <|
          s_topi (bI (dueB (a0 108) (i + 1))) (by unfold dueB; rw [pA_pair hp hd]; rfl) <|
          s_istore_n h dX8_fault_129 rfl <|
          s_aload_n h dX8_fault_130 rfl <|
          s_iload_n h dX8_fault_131 rfl <|
          k_X8_106 h (c_X8_keepLeft_0 hN hM (by unfold dueB; rw [pA_pair hp hd]; rfl)) (by omega) hM.o rfl rfl dX8_fault_132 <|
          PE.go0 <|
          s_iincR h dX8_fault_135 rfl rfl ic_1 (nI_1 i) <|
          s_goto (tgt := 14) h dX8_fault_138 (by decide) <|
          ?_
        exact SX.loc (ih _ _ _ ⟨hM, (hs.ar 110 _ (by decide)).fl 11 _ (by decide), fSt_pair hF hp hd, nh_s hH (rdP_f (by unfold pOk; rw [hp]; rfl))⟩) ⟨rfl, rfl, rfl, trivial⟩
theorem wNp_i (lf rg : Nat → Int32) (j e : Nat) : wNp lf rg j e = ((decide (lf e = lf j) || decide (rg e = lf j)) || (decide (lf e = rg j) || decide (rg e = rg j))) := rfl
def anyN (p : Nat → Bool) (n : Nat) : Bool := fN (fun e u => u || p e) false n
theorem anyN_s (p : Nat → Bool) (n : Nat) : anyN p (n + 1) = (anyN p n || p n) := rfl
theorem anyN_0 {p : Nat → Bool} : ∀ {n : Nat}, anyN p n = false → ∀ j, j < n → p j = false
  | 0, _ => fun j hj => absurd hj (Nat.not_lt_zero j)
  | n + 1, h => by
    rw [anyN_s, Bool.or_eq_false_iff] at h
    exact nh_s (anyN_0 h.1) h.2
theorem anyN_1 {p : Nat → Bool} : ∀ {n : Nat}, anyN p n = true → ∃ j, ffO p n = some j
  | n, h => by
    cases e : ffO p n with
    | some j => exact ⟨j, rfl⟩
    | none =>
      exfalso
      rw [ffO, List.find?_eq_none] at e
      have z : ∀ m, m ≤ n → anyN p m = false := by
        intro m
        induction m with
        | zero => intro _; rfl
        | succ m ih =>
          intro hm
          rw [anyN_s, ih (by omega), Bool.false_or]
          have := e m (List.mem_range.mpr (by omega))
          cases q : p m
          · rfl
          · exact absurd q this
      rw [z n (Nat.le_refl n)] at h
      exact Bool.false_ne_true h
theorem wN_u0 {sc : Nat → Nat → Int32} {lf rg : Nat → Int32} {j : Nat} (h : pE sc (lf j) = true) (h2 : pE sc (rg j) = true) (e : ¬ lf j = rg j) (u : anyN (wNp lf rg j) j = false) : wN sc lf rg j = 0 := by
  rw [wN_3 h h2 e, ffO_none (anyN_0 u)]
theorem wN_u1 {sc : Nat → Nat → Int32} {lf rg : Nat → Int32} {j : Nat} (h : pE sc (lf j) = true) (h2 : pE sc (rg j) = true) (e : ¬ lf j = rg j) (u : anyN (wNp lf rg j) j = true) : wN sc lf rg j = 3 := by
  obtain ⟨i, q⟩ := anyN_1 u
  rw [wN_3 h h2 e, q]
theorem c_X8_whyNot {l : Launch} {D : va_G} {N : Nat} {adr : Nat → Nat} {G : Nat → va_E} {G0 : Nat → va_E} {f : Nat → Int32} {a : Nat → Nat → Int32} (hN : 115 ≤ N) (hM : isMF D adr G0 G f a) {j : Nat} (hj : j < 30) :
    CT l D yX8_whyNot cX8_whyNot 4 (some FieldType.int) (rl 2) [.ref (adr 103), .int (nI j)] N adr G (PE (some (.int (wN (mS f a) (a 109) (a 110) j))) N adr G) := by
  refine CT.of (by decide +kernel) (Nat.le_of_ble_eq_true rfl) (fun Γ h he => ?_)
  have h : cx l D (rl 2) RX8 cX8_whyNot 4 Γ := h
  show SX Γ 0 0 0 [(0, .ref (adr 103)), (1, .int (nI j))] [] N adr G
  refine s_aload_n h dX8_whyNot_0 rfl <|
    s_aload_n h dX8_whyNot_1 rfl <|
    gm_25 h dX8_whyNot_2 hN hM <|
    s_iload_n h dX8_whyNot_5 rfl <|
    s_iald h dX8_whyNot_6 (by omega) hM.a109 (ix_n hj (by decide)) rfl <|
    k_X8_64 h (c_X8_isPicture hN hM) (by omega) hM.o rfl rfl dX8_whyNot_7 <|
    PE.go <|
    s_if_eq (tgt := 26) h dX8_whyNot_10 (by decide) (fun c10 => ?_) (fun c10 => ?_)
  · refine s_iconst h dX8_whyNot_26 ic_1 <|
      s_iret h he rfl dX8_whyNot_27 ⟨Nat.le_refl _, Nat.le_refl _⟩ ?_
    first
      | (have q := bI_0 c10; exact PE.eq (by rw [wN_1 (Or.inl q)]) rfl)
      | (have q := bI_0 c23; exact PE.eq (by rw [wN_1 (Or.inr q)]) rfl)
      | (have q := bI_1 c131; exact PE.eq (by rw [wN_u1 (bI_1 c10) (bI_1 c23) c40 q]) rfl)
      | (have q := bI_0 c131; exact PE.eq (by rw [wN_u0 (bI_1 c10) (bI_1 c23) c40 q]) rfl)
      | (have q : a 109 j = a 110 j := c40; exact PE.eq (by rw [wN_2 (bI_1 c10) (bI_1 c23) q]) rfl)
  · refine s_aload_n h dX8_whyNot_13 rfl <|
      s_aload_n h dX8_whyNot_14 rfl <|
      gm_28 h dX8_whyNot_15 hN hM <|
      s_iload_n h dX8_whyNot_18 rfl <|
      s_iald h dX8_whyNot_19 (by omega) hM.a110 (ix_n hj (by decide)) rfl <|
      k_X8_64 h (c_X8_isPicture hN hM) (by omega) hM.o rfl rfl dX8_whyNot_20 <|
      PE.go <|
      s_if_ne (tgt := 28) h dX8_whyNot_23 (by decide) (fun c23 => ?_) (fun c23 => ?_)
    · refine s_aload_n h dX8_whyNot_28 rfl <|
        gm_25 h dX8_whyNot_29 hN hM <|
        s_iload_n h dX8_whyNot_32 rfl <|
        s_iald h dX8_whyNot_33 (by omega) hM.a109 (ix_n hj (by decide)) rfl <|
        s_aload_n h dX8_whyNot_34 rfl <|
        gm_28 h dX8_whyNot_35 hN hM <|
        s_iload_n h dX8_whyNot_38 rfl <|
        s_iald h dX8_whyNot_39 (by omega) hM.a110 (ix_n hj (by decide)) rfl <|
        s_icmp_ne (tgt := 45) h dX8_whyNot_40 (by decide) (fun c40 => ?_) (fun c40 => ?_)
      · refine s_iconst h dX8_whyNot_45 ic_0 <|
          s_istore_n h dX8_whyNot_46 rfl <|
          s_iconst h dX8_whyNot_47 ic_0 <|
          s_istore_n h dX8_whyNot_48 rfl <|
          ?_
        refine SX.loc (up_ind (n := j) (Q := fun i => SX Γ 0 0 49 [(0, .ref (adr 103)), (1, .int (nI j)), (2, .int (bI (anyN (wNp (a 109) (a 110) j) i))), (3, .int (nI i))] [] N adr G) ?_ ?_ 0 (Nat.zero_le _)) ⟨rfl, rfl, rfl, rfl, trivial⟩
        · show SX _ _ _ _ _ _ _ _ _
          refine s_iload_n h dX8_whyNot_49 rfl <|
          s_iload_n h dX8_whyNot_50 rfl <|
          s_icmp_ge (tgt := 130) h dX8_whyNot_51 (by decide) (kf := fun qx => absurd (nI_le (Nat.le_refl j) (by omega)) qx) (kt := fun _ => ?_)
          refine s_iload_n h dX8_whyNot_130 rfl <|
          s_if_eq (tgt := 138) h dX8_whyNot_131 (by decide) (fun c131 => ?_) (fun c131 => ?_)
          · refine s_iconst h dX8_whyNot_138 ic_0 <|
            s_iret h he rfl dX8_whyNot_139 ⟨Nat.le_refl _, Nat.le_refl _⟩ ?_
            first
              | (have q := bI_0 c10; exact PE.eq (by rw [wN_1 (Or.inl q)]) rfl)
              | (have q := bI_0 c23; exact PE.eq (by rw [wN_1 (Or.inr q)]) rfl)
              | (have q := bI_1 c131; exact PE.eq (by rw [wN_u1 (bI_1 c10) (bI_1 c23) c40 q]) rfl)
              | (have q := bI_0 c131; exact PE.eq (by rw [wN_u0 (bI_1 c10) (bI_1 c23) c40 q]) rfl)
              | (have q : a 109 j = a 110 j := c40; exact PE.eq (by rw [wN_2 (bI_1 c10) (bI_1 c23) q]) rfl)
          · refine s_iconst h dX8_whyNot_134 ic_3 <|
            s_goto (tgt := 139) h dX8_whyNot_135 (by decide) <|
            s_iret h he rfl dX8_whyNot_139 ⟨Nat.le_refl _, Nat.le_refl _⟩ ?_
            first
              | (have q := bI_0 c10; exact PE.eq (by rw [wN_1 (Or.inl q)]) rfl)
              | (have q := bI_0 c23; exact PE.eq (by rw [wN_1 (Or.inr q)]) rfl)
              | (have q := bI_1 c131; exact PE.eq (by rw [wN_u1 (bI_1 c10) (bI_1 c23) c40 q]) rfl)
              | (have q := bI_0 c131; exact PE.eq (by rw [wN_u0 (bI_1 c10) (bI_1 c23) c40 q]) rfl)
              | (have q : a 109 j = a 110 j := c40; exact PE.eq (by rw [wN_2 (bI_1 c10) (bI_1 c23) q]) rfl)
        · intro i hi ih 
          show SX _ _ _ _ _ _ _ _ _
          refine s_iload_n h dX8_whyNot_49 rfl <|
          s_iload_n h dX8_whyNot_50 rfl <|
          s_icmp_ge (tgt := 130) h dX8_whyNot_51 (by decide) (kt := fun qx => absurd qx (nI_ge hi (by omega))) (kf := fun _ => ?_)
          refine s_iload_n h dX8_whyNot_54 rfl <|
          s_if_ne (tgt := 118) h dX8_whyNot_55 (by decide) (fun c55 => ?_) (fun c55 => ?_)
          · refine s_iconst h dX8_whyNot_118 ic_1 <|
            s_goto (tgt := 123) h dX8_whyNot_119 (by decide) <|
            s_topi (bI (anyN (wNp (a 109) (a 110) j) (i + 1))) (by
              rw [anyN_s, wNp_i]
              first
                | (rw [bI_1 c55]; rfl)
                | (rw [bI_0 c55, decide_eq_true c70]; rfl)
                | (rw [bI_0 c55, decide_eq_false c70, decide_eq_true c85]; simp [bI])
                | (rw [bI_0 c55, decide_eq_false c70, decide_eq_false c85, decide_eq_true c100]; rfl)
                | (rw [bI_0 c55, decide_eq_false c70, decide_eq_false c85, decide_eq_false c100, decide_eq_true c115]; rfl)
                | (rw [bI_0 c55, decide_eq_false c70, decide_eq_false c85, decide_eq_false c100, decide_eq_false c115]; rfl)) <|
            s_istore_n h dX8_whyNot_123 rfl <|
            s_iincR h dX8_whyNot_124 rfl rfl ic_1 (nI_1 i) <|
            s_goto (tgt := 49) h dX8_whyNot_127 (by decide) <|
            ?_
            exact SX.loc (ih) ⟨rfl, rfl, rfl, rfl, trivial⟩
          · refine s_aload_n h dX8_whyNot_58 rfl <|
            gm_25 h dX8_whyNot_59 hN hM <|
            s_iload_n h dX8_whyNot_62 rfl <|
            s_iald h dX8_whyNot_63 (by omega) hM.a109 (ix_n (show i < 30 from by omega) (by decide)) rfl <|
            s_aload_n h dX8_whyNot_64 rfl <|
            gm_25 h dX8_whyNot_65 hN hM <|
            s_iload_n h dX8_whyNot_68 rfl <|
            s_iald h dX8_whyNot_69 (by omega) hM.a109 (ix_n hj (by decide)) rfl <|
            s_icmp_eq (tgt := 118) h dX8_whyNot_70 (by decide) (fun c70 => ?_) (fun c70 => ?_)
            · refine s_iconst h dX8_whyNot_118 ic_1 <|
              s_goto (tgt := 123) h dX8_whyNot_119 (by decide) <|
              s_topi (bI (anyN (wNp (a 109) (a 110) j) (i + 1))) (by
              rw [anyN_s, wNp_i]
              first
                | (rw [bI_1 c55]; rfl)
                | (rw [bI_0 c55, decide_eq_true c70]; rfl)
                | (rw [bI_0 c55, decide_eq_false c70, decide_eq_true c85]; simp [bI])
                | (rw [bI_0 c55, decide_eq_false c70, decide_eq_false c85, decide_eq_true c100]; rfl)
                | (rw [bI_0 c55, decide_eq_false c70, decide_eq_false c85, decide_eq_false c100, decide_eq_true c115]; rfl)
                | (rw [bI_0 c55, decide_eq_false c70, decide_eq_false c85, decide_eq_false c100, decide_eq_false c115]; rfl)) <|
              s_istore_n h dX8_whyNot_123 rfl <|
              s_iincR h dX8_whyNot_124 rfl rfl ic_1 (nI_1 i) <|
              s_goto (tgt := 49) h dX8_whyNot_127 (by decide) <|
              ?_
              exact SX.loc (ih) ⟨rfl, rfl, rfl, rfl, trivial⟩
            · refine s_aload_n h dX8_whyNot_73 rfl <|
              gm_25 h dX8_whyNot_74 hN hM <|
              s_iload_n h dX8_whyNot_77 rfl <|
              s_iald h dX8_whyNot_78 (by omega) hM.a109 (ix_n (show i < 30 from by omega) (by decide)) rfl <|
              s_aload_n h dX8_whyNot_79 rfl <|
              gm_28 h dX8_whyNot_80 hN hM <|
              s_iload_n h dX8_whyNot_83 rfl <|
              s_iald h dX8_whyNot_84 (by omega) hM.a110 (ix_n hj (by decide)) rfl <|
              s_icmp_eq (tgt := 118) h dX8_whyNot_85 (by decide) (fun c85 => ?_) (fun c85 => ?_)
              · refine s_iconst h dX8_whyNot_118 ic_1 <|
                s_goto (tgt := 123) h dX8_whyNot_119 (by decide) <|
                s_topi (bI (anyN (wNp (a 109) (a 110) j) (i + 1))) (by
              rw [anyN_s, wNp_i]
              first
                | (rw [bI_1 c55]; rfl)
                | (rw [bI_0 c55, decide_eq_true c70]; rfl)
                | (rw [bI_0 c55, decide_eq_false c70, decide_eq_true c85]; simp [bI])
                | (rw [bI_0 c55, decide_eq_false c70, decide_eq_false c85, decide_eq_true c100]; rfl)
                | (rw [bI_0 c55, decide_eq_false c70, decide_eq_false c85, decide_eq_false c100, decide_eq_true c115]; rfl)
                | (rw [bI_0 c55, decide_eq_false c70, decide_eq_false c85, decide_eq_false c100, decide_eq_false c115]; rfl)) <|
                s_istore_n h dX8_whyNot_123 rfl <|
                s_iincR h dX8_whyNot_124 rfl rfl ic_1 (nI_1 i) <|
                s_goto (tgt := 49) h dX8_whyNot_127 (by decide) <|
                ?_
                exact SX.loc (ih) ⟨rfl, rfl, rfl, rfl, trivial⟩
              · refine s_aload_n h dX8_whyNot_88 rfl <|
                gm_28 h dX8_whyNot_89 hN hM <|
                s_iload_n h dX8_whyNot_92 rfl <|
                s_iald h dX8_whyNot_93 (by omega) hM.a110 (ix_n (show i < 30 from by omega) (by decide)) rfl <|
                s_aload_n h dX8_whyNot_94 rfl <|
                gm_25 h dX8_whyNot_95 hN hM <|
                s_iload_n h dX8_whyNot_98 rfl <|
                s_iald h dX8_whyNot_99 (by omega) hM.a109 (ix_n hj (by decide)) rfl <|
                s_icmp_eq (tgt := 118) h dX8_whyNot_100 (by decide) (fun c100 => ?_) (fun c100 => ?_)
                · refine s_iconst h dX8_whyNot_118 ic_1 <|
                  s_goto (tgt := 123) h dX8_whyNot_119 (by decide) <|
                  s_topi (bI (anyN (wNp (a 109) (a 110) j) (i + 1))) (by
              rw [anyN_s, wNp_i]
              first
                | (rw [bI_1 c55]; rfl)
                | (rw [bI_0 c55, decide_eq_true c70]; rfl)
                | (rw [bI_0 c55, decide_eq_false c70, decide_eq_true c85]; simp [bI])
                | (rw [bI_0 c55, decide_eq_false c70, decide_eq_false c85, decide_eq_true c100]; rfl)
                | (rw [bI_0 c55, decide_eq_false c70, decide_eq_false c85, decide_eq_false c100, decide_eq_true c115]; rfl)
                | (rw [bI_0 c55, decide_eq_false c70, decide_eq_false c85, decide_eq_false c100, decide_eq_false c115]; rfl)) <|
                  s_istore_n h dX8_whyNot_123 rfl <|
                  s_iincR h dX8_whyNot_124 rfl rfl ic_1 (nI_1 i) <|
                  s_goto (tgt := 49) h dX8_whyNot_127 (by decide) <|
                  ?_
                  exact SX.loc (ih) ⟨rfl, rfl, rfl, rfl, trivial⟩
                · refine s_aload_n h dX8_whyNot_103 rfl <|
                  gm_28 h dX8_whyNot_104 hN hM <|
                  s_iload_n h dX8_whyNot_107 rfl <|
                  s_iald h dX8_whyNot_108 (by omega) hM.a110 (ix_n (show i < 30 from by omega) (by decide)) rfl <|
                  s_aload_n h dX8_whyNot_109 rfl <|
                  gm_28 h dX8_whyNot_110 hN hM <|
                  s_iload_n h dX8_whyNot_113 rfl <|
                  s_iald h dX8_whyNot_114 (by omega) hM.a110 (ix_n hj (by decide)) rfl <|
                  s_icmp_ne (tgt := 122) h dX8_whyNot_115 (by decide) (fun c115 => ?_) (fun c115 => ?_)
                  · refine s_iconst h dX8_whyNot_122 ic_0 <|
                    s_topi (bI (anyN (wNp (a 109) (a 110) j) (i + 1))) (by
              rw [anyN_s, wNp_i]
              first
                | (rw [bI_1 c55]; rfl)
                | (rw [bI_0 c55, decide_eq_true c70]; rfl)
                | (rw [bI_0 c55, decide_eq_false c70, decide_eq_true c85]; simp [bI])
                | (rw [bI_0 c55, decide_eq_false c70, decide_eq_false c85, decide_eq_true c100]; rfl)
                | (rw [bI_0 c55, decide_eq_false c70, decide_eq_false c85, decide_eq_false c100, decide_eq_true c115]; rfl)
                | (rw [bI_0 c55, decide_eq_false c70, decide_eq_false c85, decide_eq_false c100, decide_eq_false c115]; rfl)) <|
                    s_istore_n h dX8_whyNot_123 rfl <|
                    s_iincR h dX8_whyNot_124 rfl rfl ic_1 (nI_1 i) <|
                    s_goto (tgt := 49) h dX8_whyNot_127 (by decide) <|
                    ?_
                    exact SX.loc (ih) ⟨rfl, rfl, rfl, rfl, trivial⟩
                  · refine s_iconst h dX8_whyNot_118 ic_1 <|
                    s_goto (tgt := 123) h dX8_whyNot_119 (by decide) <|
                    s_topi (bI (anyN (wNp (a 109) (a 110) j) (i + 1))) (by
              rw [anyN_s, wNp_i]
              first
                | (rw [bI_1 c55]; rfl)
                | (rw [bI_0 c55, decide_eq_true c70]; rfl)
                | (rw [bI_0 c55, decide_eq_false c70, decide_eq_true c85]; simp [bI])
                | (rw [bI_0 c55, decide_eq_false c70, decide_eq_false c85, decide_eq_true c100]; rfl)
                | (rw [bI_0 c55, decide_eq_false c70, decide_eq_false c85, decide_eq_false c100, decide_eq_true c115]; rfl)
                | (rw [bI_0 c55, decide_eq_false c70, decide_eq_false c85, decide_eq_false c100, decide_eq_false c115]; rfl)) <|
                    s_istore_n h dX8_whyNot_123 rfl <|
                    s_iincR h dX8_whyNot_124 rfl rfl ic_1 (nI_1 i) <|
                    s_goto (tgt := 49) h dX8_whyNot_127 (by decide) <|
                    ?_
                    exact SX.loc (ih) ⟨rfl, rfl, rfl, rfl, trivial⟩
      · refine s_iconst h dX8_whyNot_43 ic_2 <|
          s_iret h he rfl dX8_whyNot_44 ⟨Nat.le_refl _, Nat.le_refl _⟩ ?_
        first
          | (have q := bI_0 c10; exact PE.eq (by rw [wN_1 (Or.inl q)]) rfl)
          | (have q := bI_0 c23; exact PE.eq (by rw [wN_1 (Or.inr q)]) rfl)
          | (have q := bI_1 c131; exact PE.eq (by rw [wN_u1 (bI_1 c10) (bI_1 c23) c40 q]) rfl)
          | (have q := bI_0 c131; exact PE.eq (by rw [wN_u0 (bI_1 c10) (bI_1 c23) c40 q]) rfl)
          | (have q : a 109 j = a 110 j := c40; exact PE.eq (by rw [wN_2 (bI_1 c10) (bI_1 c23) q]) rfl)
    · refine s_iconst h dX8_whyNot_26 ic_1 <|
        s_iret h he rfl dX8_whyNot_27 ⟨Nat.le_refl _, Nat.le_refl _⟩ ?_
      first
        | (have q := bI_0 c10; exact PE.eq (by rw [wN_1 (Or.inl q)]) rfl)
        | (have q := bI_0 c23; exact PE.eq (by rw [wN_1 (Or.inr q)]) rfl)
        | (have q := bI_1 c131; exact PE.eq (by rw [wN_u1 (bI_1 c10) (bI_1 c23) c40 q]) rfl)
        | (have q := bI_0 c131; exact PE.eq (by rw [wN_u0 (bI_1 c10) (bI_1 c23) c40 q]) rfl)
        | (have q : a 109 j = a 110 j := c40; exact PE.eq (by rw [wN_2 (bI_1 c10) (bI_1 c23) q]) rfl)
