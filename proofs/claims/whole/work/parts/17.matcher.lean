theorem tw465b : Cond.code Lib.Math.max.name Lib.Math.max.code 2 (some .int) ∈ TT := tt_at 465 (by decide +kernel) rfl
theorem s_mmax {l : Launch} {D : va_G} {cc : ByteArray} {nL : Nat} {Γ : GT} {ce sl pc : Nat} {lv : List (Nat × Value)} {st : List Value} {N : Nat} {adr : Nat → Nat} {G : Nat → va_E} {n : Nat} {x y : Int32} (h : cx l D (rl (n + 1)) RX0 cc nL Γ) (hcat : Nat.ble (st.map fun v => v.category).sum 8 = true) (d : decode cc pc = .ok (.invokestatic 42, 3)) (k : SX Γ ce sl (pc + 3) lv (.int (if x < y then y else x) :: st) N adr G) (hf : ce ≤ 0 ∧ sl ≤ 0 := by exact ⟨Nat.le_refl _, Nat.le_refl _⟩) : SX Γ ce sl pc lv (.int y :: .int x :: st) N adr G := by
  obtain ⟨p, l', e, R', s, m, args, below, meth, c, D', A, Q, nL'⟩ := Γ
  obtain ⟨rfl, rfl, rfl, rfl, hx, hb, hml, hown, hts, hnw, hK, hA, hlk⟩ := h
  intro H locs ls hP hD hS hl
  have h8 := Nat.le_of_ble_eq_true hcat
  exact va_mmax hx hb (hml.trans hl.1.symm) hown (hts _ tw463) (hts _ tw464) (hts _ tw74) (hts _ tw465b) (show 1 ≤ n + 1 by omega) (show _ + 13 ≤ 36 * (n + 1) by omega) hf.1 hf.2 d (k H locs ls hP hD hS hl)
/-! ===== the matcher ===== -/
def isMt (D : va_G) (adr : Nat → Nat) (G : Nat → va_E) (k : Nat) (fr mo : Nat → Int32) : Prop := G k = .inr (0, [.ref (adr (k + 1)), .ref (adr (k + 2))]) ∧ G (k + 1) = aI D 10 fr ∧ G (k + 2) = aI D 1024 mo
def frP1 (sc : Nat → Nat → Int32) (p : Int32) (j : Nat) : Prop := kP sc p (nI j) = 0 ∨ kP sc p (nI j) = 2
noncomputable def frB (sc : Nat → Nat → Int32) (p : Int32) (n : Nat) : Int32 := fN (fun j b => if kP sc p (nI j) = 0 ∨ kP sc p (nI j) = 2 then b ||| (1 <<< (nI j &&& 31)) else b) 0 n
theorem frB_s (sc : Nat → Nat → Int32) (p : Int32) (n : Nat) : frB sc p (n + 1) = if kP sc p (nI n) = 0 ∨ kP sc p (nI n) = 2 then frB sc p n ||| (1 <<< (nI n &&& 31)) else frB sc p n := rfl
def lsO (x : Int32) : Int32 := bC ((x &&& -x) - 1)
/-- a set without one -/
def wo (s p : Int32) : Int32 := s &&& ((1 <<< (p &&& 31)) ^^^ -1)
def mPr (mo : Nat → Int32) (x : Int32) : Int32 := if wb x 0 1023 then mo x.toNatClampNeg else 0
def cPr (fr : Nat → Int32) (p mate others : Int32) : Bool := if wb p 0 9 then hb (fr p.toNatClampNeg &&& others) mate else false
def imax (x y : Int32) : Int32 := if x < y then y else x
def mOf (fr mo : Nat → Int32) (x : Int32) (n : Nat) : Int32 := fN (fun j r => if cPr fr (lsO x) (nI j) (wo x (lsO x)) then imax r (1 + mPr mo (wo (wo x (lsO x)) (nI j))) else r) (mPr mo (wo x (lsO x))) n
theorem mOf_s (fr mo : Nat → Int32) (x : Int32) (n : Nat) : mOf fr mo x (n + 1) = if cPr fr (lsO x) (nI n) (wo x (lsO x)) then imax (mOf fr mo x n) (1 + mPr mo (wo (wo x (lsO x)) (nI n))) else mOf fr mo x n := rfl
def fMp (fr mo : Nat → Int32) (p s : Int32) (j : Nat) : Bool := cPr fr p (nI j) (wo s p) && decide (1 + mPr mo (wo (wo s p) (nI j)) = mPr mo s)
def fMt (fr mo : Nat → Int32) (p s : Int32) : Int32 := oI (ffO (fMp fr mo p s) 10)
def ptS (fr mo : Nat → Int32) (j : Nat) (s : Int32) : Int32 := if hb s (nI j) then (if fMt fr mo (nI j) s = -6 then wo s (nI j) else wo (wo s (nI j)) (fMt fr mo (nI j) s)) else s
/-- what is left of a set once the first j are served -/
def ptL (fr mo : Nat → Int32) (s : Int32) (n : Nat) : Int32 := fN (ptS fr mo) s n
theorem ptL_s (fr mo : Nat → Int32) (s : Int32) (n : Nat) : ptL fr mo s (n + 1) = ptS fr mo n (ptL fr mo s n) := rfl
def ptH (fr mo : Nat → Int32) (asked s : Int32) (j : Nat) : Bool := hb (ptL fr mo s j) (nI j) && (decide (nI j = asked) || decide (fMt fr mo (nI j) (ptL fr mo s j) = asked))
def ptR (fr mo : Nat → Int32) (asked s : Int32) : Int32 := match ffO (ptH fr mo asked s) 10 with
  | some j => if nI j = asked then fMt fr mo (nI j) (ptL fr mo s j) else nI j
  | none => -6
/-- the row of the most, once the parts 1 to n are done -/
def moN (fr mo : Nat → Int32) (n : Nat) : Nat → Int32 := fN (fun j m => upd m (j + 1) (mOf fr m (nI (j + 1)) 10)) mo n
theorem moN_s (fr mo : Nat → Int32) (n : Nat) : moN fr mo (n + 1) = upd (moN fr mo n) (n + 1) (mOf fr (moN fr mo n) (nI (n + 1)) 10) := rfl
theorem l1023 : (1024 : Int32) - 1 = 1023 := by decide

theorem c_X0_friendsOf {l : Launch} {D : va_G} {N : Nat} {adr : Nat → Nat} {G : Nat → va_E} {ks : Nat} {sc : Nat → Nat → Int32} (hsN : ks + 28 < N) (hT : isTh D adr G ks sc) (hPs : isPs D adr G ks sc) {p : Int32} :
    CT l D yX0_friendsOf cX0_friendsOf 5 (some FieldType.int) (rl 5) [.int p, .ref (adr ks)] N adr G (PE (some (.int (frB sc p 10))) N adr G) := by
  refine CT.of (by decide +kernel) (Nat.le_of_ble_eq_true rfl) (fun Γ h he => ?_)
  have h : cx l D (rl 5) RX0 cX0_friendsOf 5 Γ := h
  show SX Γ 0 0 0 [(0, .int p), (1, .ref (adr ks))] [] N adr G
  refine s_iconst h dX0_friendsOf_0 ic_0 <|
    s_istore_n h dX0_friendsOf_1 rfl <|
    s_iconst h dX0_friendsOf_2 ic_0 <|
    s_istore_n h dX0_friendsOf_3 rfl <|
    ?_
  refine SX.loc (up_ind (n := 10) (Q := fun i => SX Γ 0 0 4 [(0, .int p), (1, .ref (adr ks)), (2, .int (frB sc p i)), (3, .int (nI i))] [] N adr G) ?_ ?_ 0 (Nat.zero_le _)) ⟨rfl, rfl, rfl, rfl, trivial⟩
  · show SX _ _ _ _ _ _ _ _ _
    refine s_iload_n h dX0_friendsOf_4 rfl <|
    s_bipush h dX0_friendsOf_5 bp_10 <|
    s_icmp_ge (tgt := 41) h dX0_friendsOf_7 (by decide) (kf := fun qx => absurd (by decide +kernel) qx) (kt := fun _ => ?_)
    refine s_iload_n h dX0_friendsOf_41 rfl <|
    s_iret h he rfl dX0_friendsOf_42 ⟨Nat.le_refl _, Nat.le_refl _⟩ ?_
    exact PE.is
  · intro i hi ih 
    show SX _ _ _ _ _ _ _ _ _
    refine s_iload_n h dX0_friendsOf_4 rfl <|
    s_bipush h dX0_friendsOf_5 bp_10 <|
    s_icmp_ge (tgt := 41) h dX0_friendsOf_7 (by decide) (kt := fun qx => absurd qx (nI_ge hi (by decide))) (kf := fun _ => ?_)
    refine s_aload_n h dX0_friendsOf_10 rfl <|
    s_iload_n h dX0_friendsOf_11 rfl <|
    s_iload_n h dX0_friendsOf_12 rfl <|
    k_X0_26 h (c_X3_kindOfPair hsN hT hPs) (by omega) hT.1 rfl rfl dX0_friendsOf_13 <|
    PE.go <|
    s_istore h dX0_friendsOf_16 rfl <|
    s_iload h dX0_friendsOf_18 rfl <|
    s_if_eq (tgt := 29) h dX0_friendsOf_20 (by decide) (fun c20 => ?_) (fun c20 => ?_)
    · refine s_iload_n h dX0_friendsOf_29 rfl <|
      s_iconst h dX0_friendsOf_30 ic_1 <|
      s_iload_n h dX0_friendsOf_31 rfl <|
      s_ishl h dX0_friendsOf_32 <|
      s_ior h dX0_friendsOf_33 <|
      s_topi (frB sc p (i + 1)) (by
        refine Eq.symm ((frB_s sc p i).trans (if_pos ?_))
        first
          | exact Or.inl c20
          | exact Or.inr c26) <|
      s_istore_n h dX0_friendsOf_34 rfl <|
      s_iincR h dX0_friendsOf_35 rfl rfl ic_1 (nI_1 i) <|
      s_goto (tgt := 4) h dX0_friendsOf_38 (by decide) <|
      ?_
      first
        | exact SX.loc ih ⟨rfl, rfl, rfl, rfl, trivial⟩
        | (have z := (frB_s sc p i).trans (if_neg (fun q => q.elim c20 c26)); exact SX.loc (lv2 := [(0, .int p), (1, .ref (adr ks)), (2, .int (frB sc p i)), (3, .int (nI (i + 1)))]) (z ▸ ih) ⟨rfl, rfl, rfl, rfl, trivial⟩)
    · refine s_iload h dX0_friendsOf_23 rfl <|
      s_iconst h dX0_friendsOf_25 ic_2 <|
      s_icmp_ne (tgt := 35) h dX0_friendsOf_26 (by decide) (fun c26 => ?_) (fun c26 => ?_)
      · refine s_iincR h dX0_friendsOf_35 rfl rfl ic_1 (nI_1 i) <|
        s_goto (tgt := 4) h dX0_friendsOf_38 (by decide) <|
        ?_
        first
          | exact SX.loc ih ⟨rfl, rfl, rfl, rfl, trivial⟩
          | (have z := (frB_s sc p i).trans (if_neg (fun q => q.elim c20 c26)); exact SX.loc (lv2 := [(0, .int p), (1, .ref (adr ks)), (2, .int (frB sc p i)), (3, .int (nI (i + 1)))]) (z ▸ ih) ⟨rfl, rfl, rfl, rfl, trivial⟩)
      · refine s_iload_n h dX0_friendsOf_29 rfl <|
        s_iconst h dX0_friendsOf_30 ic_1 <|
        s_iload_n h dX0_friendsOf_31 rfl <|
        s_ishl h dX0_friendsOf_32 <|
        s_ior h dX0_friendsOf_33 <|
        s_topi (frB sc p (i + 1)) (by
        refine Eq.symm ((frB_s sc p i).trans (if_pos ?_))
        first
          | exact Or.inl c20
          | exact Or.inr c26) <|
        s_istore_n h dX0_friendsOf_34 rfl <|
        s_iincR h dX0_friendsOf_35 rfl rfl ic_1 (nI_1 i) <|
        s_goto (tgt := 4) h dX0_friendsOf_38 (by decide) <|
        ?_
        first
          | exact SX.loc ih ⟨rfl, rfl, rfl, rfl, trivial⟩
          | (have z := (frB_s sc p i).trans (if_neg (fun q => q.elim c20 c26)); exact SX.loc (lv2 := [(0, .int p), (1, .ref (adr ks)), (2, .int (frB sc p i)), (3, .int (nI (i + 1)))]) (z ▸ ih) ⟨rfl, rfl, rfl, rfl, trivial⟩)
theorem c_X0_leastOf {l : Launch} {D : va_G} {N : Nat} {adr : Nat → Nat} {G : Nat → va_E} {x : Int32} :
    CT l D yX0_leastOf cX0_leastOf 1 (some FieldType.int) (rl 1) [.int x] N adr G (PE (some (.int (lsO x))) N adr G) := by
  refine CT.of (by decide +kernel) (Nat.le_of_ble_eq_true rfl) (fun Γ h he => ?_)
  have h : cx l D (rl 1) RX0 cX0_leastOf 1 Γ := h
  show SX Γ 0 0 0 [(0, .int x)] [] N adr G
  refine s_iload_n h dX0_leastOf_0 rfl <|
    s_iload_n h dX0_leastOf_1 rfl <|
    s_ineg h dX0_leastOf_2 <|
    s_iand h dX0_leastOf_3 <|
    s_iconst h dX0_leastOf_4 ic_1 <|
    s_isub h dX0_leastOf_5 <|
    k_X0_47 h (c_J6_bitCount_0f7a4) rfl rfl dX0_leastOf_6 <|
    PE.go <|
    s_iret h he rfl dX0_leastOf_9 ⟨Nat.le_refl _, Nat.le_refl _⟩ ?_
  exact PE.is
theorem c_X0_canPair {l : Launch} {D : va_G} {N : Nat} {adr : Nat → Nat} {G : Nat → va_E} {k : Nat} {fr mo : Nat → Int32} (hkN : k + 2 < N) (hm : isMt D adr G k fr mo) {p mate others : Int32} :
    CT l D yX0_canPair cX0_canPair 4 (some FieldType.boolean) (rl 1) [.ref (adr k), .int p, .int mate, .int others] N adr G (PE (some (.int (bI (cPr fr p mate others)))) N adr G) := by
  refine CT.of (by decide +kernel) (Nat.le_of_ble_eq_true rfl) (fun Γ h he => ?_)
  have h : cx l D (rl 1) RX0 cX0_canPair 4 Γ := h
  show SX Γ 0 0 0 [(0, .ref (adr k)), (1, .int p), (2, .int mate), (3, .int others)] [] N adr G
  refine s_iload_n h dX0_canPair_0 rfl <|
    s_iconst h dX0_canPair_1 ic_0 <|
    s_aload_n h dX0_canPair_2 rfl <|
    g_X0_9 h dX0_canPair_3 (by omega) hm.1 <|
    s_alenI h dX0_canPair_6 (by omega) hm.2.1 (show Int32.ofNat 10 = 10 from rfl) <|
    s_iconst h dX0_canPair_7 ic_1 <|
    s_isub h dX0_canPair_8 <|
    k_X0_52 h (c_X7_within) rfl rfl dX0_canPair_9 <|
    PE.go <|
    s_if_eq (tgt := 34) h dX0_canPair_12 (by decide) (fun c12 => ?_) (fun c12 => ?_)
  · rw [l101] at c12
    have hw : wb p 0 9 = false := bI_0 c12
    refine s_iconst h dX0_canPair_34 ic_0 <|
      s_iret h he rfl dX0_canPair_35 ⟨Nat.le_refl _, Nat.le_refl _⟩ ?_
    first
      | exact PE.eq (by rw [cPr, bool_ifn hw]; rfl) rfl
      | (have q27 := bI_1 c27; exact PE.eq (by rw [cPr, bool_if hw, q27]; rfl) rfl)
      | (have q27 := bI_0 c27; exact PE.eq (by rw [cPr, bool_if hw, q27]; rfl) rfl)
  · rw [l101] at c12
    have hw : wb p 0 9 = true := bI_1 c12
    have hix := wb_ix (n := 9) (by decide) rfl hw
    refine s_aload_n h dX0_canPair_15 rfl <|
      g_X0_9 h dX0_canPair_16 (by omega) hm.1 <|
      s_iload_n h dX0_canPair_19 rfl <|
      s_iald h dX0_canPair_20 (by omega) hm.2.1 hix rfl <|
      s_iload_n h dX0_canPair_21 rfl <|
      s_iand h dX0_canPair_22 <|
      s_iload_n h dX0_canPair_23 rfl <|
      k_X0_55 h (c_X7_hasBit) rfl rfl dX0_canPair_24 <|
      PE.go <|
      s_if_eq (tgt := 34) h dX0_canPair_27 (by decide) (fun c27 => ?_) (fun c27 => ?_)
    · refine s_iconst h dX0_canPair_34 ic_0 <|
        s_iret h he rfl dX0_canPair_35 ⟨Nat.le_refl _, Nat.le_refl _⟩ ?_
      first
        | exact PE.eq (by rw [cPr, bool_ifn hw]; rfl) rfl
        | (have q27 := bI_1 c27; exact PE.eq (by rw [cPr, bool_if hw, q27]; rfl) rfl)
        | (have q27 := bI_0 c27; exact PE.eq (by rw [cPr, bool_if hw, q27]; rfl) rfl)
    · refine s_iconst h dX0_canPair_30 ic_1 <|
        s_goto (tgt := 35) h dX0_canPair_31 (by decide) <|
        s_iret h he rfl dX0_canPair_35 ⟨Nat.le_refl _, Nat.le_refl _⟩ ?_
      first
        | exact PE.eq (by rw [cPr, bool_ifn hw]; rfl) rfl
        | (have q27 := bI_1 c27; exact PE.eq (by rw [cPr, bool_if hw, q27]; rfl) rfl)
        | (have q27 := bI_0 c27; exact PE.eq (by rw [cPr, bool_if hw, q27]; rfl) rfl)
theorem c_X0_mostPairs {l : Launch} {D : va_G} {N : Nat} {adr : Nat → Nat} {G : Nat → va_E} {k : Nat} {fr mo : Nat → Int32} (hkN : k + 2 < N) (hm : isMt D adr G k fr mo) {x : Int32} :
    CT l D yX0_mostPairs cX0_mostPairs 2 (some FieldType.int) (rl 1) [.ref (adr k), .int x] N adr G (PE (some (.int (mPr mo x))) N adr G) := by
  refine CT.of (by decide +kernel) (Nat.le_of_ble_eq_true rfl) (fun Γ h he => ?_)
  have h : cx l D (rl 1) RX0 cX0_mostPairs 2 Γ := h
  show SX Γ 0 0 0 [(0, .ref (adr k)), (1, .int x)] [] N adr G
  refine s_iload_n h dX0_mostPairs_0 rfl <|
    s_iconst h dX0_mostPairs_1 ic_0 <|
    s_aload_n h dX0_mostPairs_2 rfl <|
    g_X0_15 h dX0_mostPairs_3 (by omega) hm.1 <|
    s_alenI h dX0_mostPairs_6 (by omega) hm.2.2 (show Int32.ofNat 1024 = 1024 from by decide) <|
    s_iconst h dX0_mostPairs_7 ic_1 <|
    s_isub h dX0_mostPairs_8 <|
    k_X0_52 h (c_X7_within) rfl rfl dX0_mostPairs_9 <|
    PE.go <|
    s_if_eq (tgt := 24) h dX0_mostPairs_12 (by decide) (fun c12 => ?_) (fun c12 => ?_)
  · rw [l1023] at c12
    have hw : wb x 0 1023 = false := bI_0 c12
    refine s_iconst h dX0_mostPairs_24 ic_0 <|
      s_iret h he rfl dX0_mostPairs_25 ⟨Nat.le_refl _, Nat.le_refl _⟩ ?_
    first
      | exact PE.eq (by rw [mPr, bool_ifn hw]) rfl
      | exact PE.eq (by rw [mPr, bool_if hw]) rfl
  · rw [l1023] at c12
    have hw : wb x 0 1023 = true := bI_1 c12
    have hix := wb_ix (n := 1023) (by decide) (by decide) hw
    refine s_aload_n h dX0_mostPairs_15 rfl <|
      g_X0_15 h dX0_mostPairs_16 (by omega) hm.1 <|
      s_iload_n h dX0_mostPairs_19 rfl <|
      s_iald h dX0_mostPairs_20 (by omega) hm.2.2 hix rfl <|
      s_goto (tgt := 25) h dX0_mostPairs_21 (by decide) <|
      s_iret h he rfl dX0_mostPairs_25 ⟨Nat.le_refl _, Nat.le_refl _⟩ ?_
    first
      | exact PE.eq (by rw [mPr, bool_ifn hw]) rfl
      | exact PE.eq (by rw [mPr, bool_if hw]) rfl
theorem c_X0_mostOf {l : Launch} {D : va_G} {N : Nat} {adr : Nat → Nat} {G : Nat → va_E} {k : Nat} {fr mo : Nat → Int32} (hkN : k + 2 < N) (hm : isMt D adr G k fr mo) {x : Int32} :
    CT l D yX0_mostOf cX0_mostOf 6 (some FieldType.int) (rl 2) [.ref (adr k), .int x] N adr G (PE (some (.int (mOf fr mo x 10))) N adr G) := by
  refine CT.of (by decide +kernel) (Nat.le_of_ble_eq_true rfl) (fun Γ h he => ?_)
  have h : cx l D (rl 2) RX0 cX0_mostOf 6 Γ := h
  show SX Γ 0 0 0 [(0, .ref (adr k)), (1, .int x)] [] N adr G
  refine s_iload_n h dX0_mostOf_0 rfl <|
    k_X0_32 h (c_X0_leastOf) rfl rfl dX0_mostOf_1 <|
    PE.go <|
    s_istore_n h dX0_mostOf_4 rfl <|
    s_iload_n h dX0_mostOf_5 rfl <|
    s_iconst h dX0_mostOf_6 ic_1 <|
    s_iload_n h dX0_mostOf_7 rfl <|
    s_ishl h dX0_mostOf_8 <|
    s_iconst h dX0_mostOf_9 ic_m1 <|
    s_ixor h dX0_mostOf_10 <|
    s_iand h dX0_mostOf_11 <|
    s_topi (wo x (lsO x)) rfl <|
    s_istore_n h dX0_mostOf_12 rfl <|
    s_aload_n h dX0_mostOf_13 rfl <|
    s_iload_n h dX0_mostOf_14 rfl <|
    k_X0_35 h (c_X0_mostPairs hkN hm) (by omega) hm.1 rfl rfl dX0_mostOf_15 <|
    PE.go <|
    s_istore h dX0_mostOf_18 rfl <|
    s_iconst h dX0_mostOf_20 ic_0 <|
    s_istore h dX0_mostOf_21 rfl <|
    ?_
  refine SX.loc (up_ind (n := 10) (Q := fun i => SX Γ 0 0 23 [(0, .ref (adr k)), (1, .int x), (2, .int (lsO x)), (3, .int (wo x (lsO x))), (4, .int (mOf fr mo x i)), (5, .int (nI i))] [] N adr G) ?_ ?_ 0 (Nat.zero_le _)) ⟨rfl, rfl, rfl, rfl, rfl, rfl, trivial⟩
  · show SX _ _ _ _ _ _ _ _ _
    refine s_iload h dX0_mostOf_23 rfl <|
    s_bipush h dX0_mostOf_25 bp_10 <|
    s_icmp_ge (tgt := 68) h dX0_mostOf_27 (by decide) (kf := fun qx => absurd (by decide +kernel) qx) (kt := fun _ => ?_)
    refine s_iload h dX0_mostOf_68 rfl <|
    s_iret h he rfl dX0_mostOf_70 ⟨Nat.le_refl _, Nat.le_refl _⟩ ?_
    exact PE.is
  · intro i hi ih 
    show SX _ _ _ _ _ _ _ _ _
    refine s_iload h dX0_mostOf_23 rfl <|
    s_bipush h dX0_mostOf_25 bp_10 <|
    s_icmp_ge (tgt := 68) h dX0_mostOf_27 (by decide) (kt := fun qx => absurd qx (nI_ge hi (by decide))) (kf := fun _ => ?_)
    refine s_aload_n h dX0_mostOf_30 rfl <|
    s_iload_n h dX0_mostOf_31 rfl <|
    s_iload h dX0_mostOf_32 rfl <|
    s_iload_n h dX0_mostOf_34 rfl <|
    k_X0_38 h (c_X0_canPair hkN hm) (by omega) hm.1 rfl rfl dX0_mostOf_35 <|
    PE.go <|
    s_if_eq (tgt := 62) h dX0_mostOf_38 (by decide) (fun c38 => ?_) (fun c38 => ?_)
    · refine s_iincR h dX0_mostOf_62 rfl rfl ic_1 (nI_1 i) <|
      s_goto (tgt := 23) h dX0_mostOf_65 (by decide) <|
      ?_
      first
        | exact SX.loc ih ⟨rfl, rfl, rfl, rfl, rfl, rfl, trivial⟩
        | (have z := (mOf_s fr mo x i).trans (bool_ifn (bI_0 c38)); exact SX.loc (lv2 := [(0, .ref (adr k)), (1, .int x), (2, .int (lsO x)), (3, .int (wo x (lsO x))), (4, .int (mOf fr mo x i)), (5, .int (nI (i + 1)))]) (z ▸ ih) ⟨rfl, rfl, rfl, rfl, rfl, rfl, trivial⟩)
    · refine s_iload h dX0_mostOf_41 rfl <|
      s_iconst h dX0_mostOf_43 ic_1 <|
      s_aload_n h dX0_mostOf_44 rfl <|
      s_iload_n h dX0_mostOf_45 rfl <|
      s_iconst h dX0_mostOf_46 ic_1 <|
      s_iload h dX0_mostOf_47 rfl <|
      s_ishl h dX0_mostOf_49 <|
      s_iconst h dX0_mostOf_50 ic_m1 <|
      s_ixor h dX0_mostOf_51 <|
      s_iand h dX0_mostOf_52 <|
      k_X0_35 h (c_X0_mostPairs hkN hm) (by omega) hm.1 rfl rfl dX0_mostOf_53 <|
      PE.go <|
      s_iadd h dX0_mostOf_56 <|
      s_mmax h rfl dX0_mostOf_57 <|
      s_topi (mOf fr mo x (i + 1)) ((mOf_s fr mo x i).trans (bool_if (bI_1 c38))).symm <|
      s_istore h dX0_mostOf_60 rfl <|
      s_iincR h dX0_mostOf_62 rfl rfl ic_1 (nI_1 i) <|
      s_goto (tgt := 23) h dX0_mostOf_65 (by decide) <|
      ?_
      first
        | exact SX.loc ih ⟨rfl, rfl, rfl, rfl, rfl, rfl, trivial⟩
        | (have z := (mOf_s fr mo x i).trans (bool_ifn (bI_0 c38)); exact SX.loc (lv2 := [(0, .ref (adr k)), (1, .int x), (2, .int (lsO x)), (3, .int (wo x (lsO x))), (4, .int (mOf fr mo x i)), (5, .int (nI (i + 1)))]) (z ▸ ih) ⟨rfl, rfl, rfl, rfl, rfl, rfl, trivial⟩)
theorem c_X0_firstMate {l : Launch} {D : va_G} {N : Nat} {adr : Nat → Nat} {G : Nat → va_E} {k : Nat} {fr mo : Nat → Int32} (hkN : k + 2 < N) (hm : isMt D adr G k fr mo) {p s : Int32} :
    CT l D yX0_firstMate cX0_firstMate 5 (some FieldType.int) (rl 2) [.ref (adr k), .int p, .int s] N adr G (PE (some (.int (fMt fr mo p s))) N adr G) := by
  refine CT.of (by decide +kernel) (Nat.le_of_ble_eq_true rfl) (fun Γ h he => ?_)
  have h : cx l D (rl 2) RX0 cX0_firstMate 5 Γ := h
  show SX Γ 0 0 0 [(0, .ref (adr k)), (1, .int p), (2, .int s)] [] N adr G
  refine s_iload_n h dX0_firstMate_0 rfl <|
    s_iconst h dX0_firstMate_1 ic_1 <|
    s_iload_n h dX0_firstMate_2 rfl <|
    s_ishl h dX0_firstMate_3 <|
    s_iconst h dX0_firstMate_4 ic_m1 <|
    s_ixor h dX0_firstMate_5 <|
    s_iand h dX0_firstMate_6 <|
    s_topi (wo s p) rfl <|
    s_istore_n h dX0_firstMate_7 rfl <|
    s_iconst h dX0_firstMate_8 ic_0 <|
    s_istore h dX0_firstMate_9 rfl <|
    ?_
  refine SX.loc (up_ind (n := 10) (Q := fun i => (∀ a, a < i → fMp fr mo p s a = false) → SX Γ 0 0 11 [(0, .ref (adr k)), (1, .int p), (2, .int s), (3, .int (wo s p)), (4, .int (nI i))] [] N adr G) ?_ ?_ 0 (Nat.zero_le _) nh_0) ⟨rfl, rfl, rfl, rfl, rfl, trivial⟩
  · intro hH
    show SX _ _ _ _ _ _ _ _ _
    refine s_iload h dX0_firstMate_11 rfl <|
    s_bipush h dX0_firstMate_13 bp_10 <|
    s_icmp_ge (tgt := 60) h dX0_firstMate_15 (by decide) (kf := fun qx => absurd (by decide +kernel) qx) (kt := fun _ => ?_)
    refine s_bipush h dX0_firstMate_60 bp_m6 <|
    s_iret h he rfl dX0_firstMate_62 ⟨Nat.le_refl _, Nat.le_refl _⟩ ?_
    first
      | (have q26 := bI_1 c26; have q48 : 1 + mPr mo (wo (wo s p) (nI i)) = mPr mo s := c48; exact PE.eq (by rw [fMt, ffO_some hi (by rw [fMp, q26, decide_eq_true q48]; rfl) hH]; rfl) rfl)
      | exact PE.eq (by rw [fMt, ffO_none hH]; rfl) rfl
  · intro i hi ih hH
    show SX _ _ _ _ _ _ _ _ _
    refine s_iload h dX0_firstMate_11 rfl <|
    s_bipush h dX0_firstMate_13 bp_10 <|
    s_icmp_ge (tgt := 60) h dX0_firstMate_15 (by decide) (kt := fun qx => absurd qx (nI_ge hi (by decide))) (kf := fun _ => ?_)
    refine s_aload_n h dX0_firstMate_18 rfl <|
    s_iload_n h dX0_firstMate_19 rfl <|
    s_iload h dX0_firstMate_20 rfl <|
    s_iload_n h dX0_firstMate_22 rfl <|
    k_X0_38 h (c_X0_canPair hkN hm) (by omega) hm.1 rfl rfl dX0_firstMate_23 <|
    PE.go <|
    s_if_eq (tgt := 54) h dX0_firstMate_26 (by decide) (fun c26 => ?_) (fun c26 => ?_)
    · refine s_iincR h dX0_firstMate_54 rfl rfl ic_1 (nI_1 i) <|
      s_goto (tgt := 11) h dX0_firstMate_57 (by decide) <|
      ?_
      first
        | (have q26 := bI_0 c26; exact SX.loc (ih (nh_s hH (by rw [fMp, q26]; rfl))) ⟨rfl, rfl, rfl, rfl, rfl, trivial⟩)
        | (have q48 : ¬ (1 + mPr mo (wo (wo s p) (nI i)) = mPr mo s) := c48; exact SX.loc (ih (nh_s hH (by rw [fMp, decide_eq_false q48, Bool.and_false]))) ⟨rfl, rfl, rfl, rfl, rfl, trivial⟩)
    · refine s_iconst h dX0_firstMate_29 ic_1 <|
      s_aload_n h dX0_firstMate_30 rfl <|
      s_iload_n h dX0_firstMate_31 rfl <|
      s_iconst h dX0_firstMate_32 ic_1 <|
      s_iload h dX0_firstMate_33 rfl <|
      s_ishl h dX0_firstMate_35 <|
      s_iconst h dX0_firstMate_36 ic_m1 <|
      s_ixor h dX0_firstMate_37 <|
      s_iand h dX0_firstMate_38 <|
      k_X0_35 h (c_X0_mostPairs hkN hm) (by omega) hm.1 rfl rfl dX0_firstMate_39 <|
      PE.go <|
      s_iadd h dX0_firstMate_42 <|
      s_aload_n h dX0_firstMate_43 rfl <|
      s_iload_n h dX0_firstMate_44 rfl <|
      k_X0_35 h (c_X0_mostPairs hkN hm) (by omega) hm.1 rfl rfl dX0_firstMate_45 <|
      PE.go <|
      s_icmp_ne (tgt := 54) h dX0_firstMate_48 (by decide) (fun c48 => ?_) (fun c48 => ?_)
      · refine s_iincR h dX0_firstMate_54 rfl rfl ic_1 (nI_1 i) <|
        s_goto (tgt := 11) h dX0_firstMate_57 (by decide) <|
        ?_
        first
          | (have q26 := bI_0 c26; exact SX.loc (ih (nh_s hH (by rw [fMp, q26]; rfl))) ⟨rfl, rfl, rfl, rfl, rfl, trivial⟩)
          | (have q48 : ¬ (1 + mPr mo (wo (wo s p) (nI i)) = mPr mo s) := c48; exact SX.loc (ih (nh_s hH (by rw [fMp, decide_eq_false q48, Bool.and_false]))) ⟨rfl, rfl, rfl, rfl, rfl, trivial⟩)
      · refine s_iload h dX0_firstMate_51 rfl <|
        s_iret h he rfl dX0_firstMate_53 ⟨Nat.le_refl _, Nat.le_refl _⟩ ?_
        first
          | (have q26 := bI_1 c26; have q48 : 1 + mPr mo (wo (wo s p) (nI i)) = mPr mo s := c48; exact PE.eq (by rw [fMt, ffO_some hi (by rw [fMp, q26, decide_eq_true q48]; rfl) hH]; rfl) rfl)
          | exact PE.eq (by rw [fMt, ffO_none hH]; rfl) rfl
theorem c_X0_partnerOf {l : Launch} {D : va_G} {N : Nat} {adr : Nat → Nat} {G : Nat → va_E} {k : Nat} {fr mo : Nat → Int32} (hkN : k + 2 < N) (hm : isMt D adr G k fr mo) {a s : Int32} :
    CT l D yX0_partnerOf cX0_partnerOf 6 (some FieldType.int) (rl 3) [.ref (adr k), .int a, .int s] N adr G (PE (some (.int (ptR fr mo a s))) N adr G) := by
  refine CT.of (by decide +kernel) (Nat.le_of_ble_eq_true rfl) (fun Γ h he => ?_)
  have h : cx l D (rl 3) RX0 cX0_partnerOf 6 Γ := h
  show SX Γ 0 0 0 [(0, .ref (adr k)), (1, .int a), (2, .int s)] [] N adr G
  refine s_iload_n h dX0_partnerOf_0 rfl <|
    s_istore_n h dX0_partnerOf_1 rfl <|
    s_iconst h dX0_partnerOf_2 ic_0 <|
    s_istore h dX0_partnerOf_3 rfl <|
    ?_
  refine SX.loc (up_ind (n := 10) (Q := fun i => (∀ b, b < i → ptH fr mo a s b = false) → SX Γ 0 0 5 [(0, .ref (adr k)), (1, .int a), (2, .int s), (3, .int (ptL fr mo s i)), (4, .int (nI i))] [] N adr G) ?_ ?_ 0 (Nat.zero_le _) nh_0) ⟨rfl, rfl, rfl, rfl, rfl, trivial⟩
  · intro hH
    show SX _ _ _ _ _ _ _ _ _
    refine s_iload h dX0_partnerOf_5 rfl <|
    s_bipush h dX0_partnerOf_7 bp_10 <|
    s_icmp_ge (tgt := 82) h dX0_partnerOf_9 (by decide) (kf := fun qx => absurd (by decide +kernel) qx) (kt := fun _ => ?_)
    refine s_bipush h dX0_partnerOf_82 bp_m6 <|
    s_iret h he rfl dX0_partnerOf_84 ⟨Nat.le_refl _, Nat.le_refl _⟩ ?_
    first
      | (have q18 := bI_1 c18
         exact PE.eq (by rw [ptR, ffO_some hi (by rw [ptH, q18, decide_eq_true c36]; rfl) hH, show (match some i with | some j => if nI j = a then fMt fr mo (nI j) (ptL fr mo s j) else nI j | none => (-6 : Int32)) = if nI i = a then fMt fr mo (nI i) (ptL fr mo s i) else nI i from rfl, if_pos c36]) rfl)
      | (have q18 := bI_1 c18
         exact PE.eq (by rw [ptR, ffO_some hi (by rw [ptH, q18, decide_eq_false c36, decide_eq_true c45]; rfl) hH, show (match some i with | some j => if nI j = a then fMt fr mo (nI j) (ptL fr mo s j) else nI j | none => (-6 : Int32)) = if nI i = a then fMt fr mo (nI i) (ptL fr mo s i) else nI i from rfl, if_neg c36]) rfl)
      | exact PE.eq (by rw [ptR, ffO_none hH]) rfl
  · intro i hi ih hH
    show SX _ _ _ _ _ _ _ _ _
    refine s_iload h dX0_partnerOf_5 rfl <|
    s_bipush h dX0_partnerOf_7 bp_10 <|
    s_icmp_ge (tgt := 82) h dX0_partnerOf_9 (by decide) (kt := fun qx => absurd qx (nI_ge hi (by decide))) (kf := fun _ => ?_)
    refine s_iload_n h dX0_partnerOf_12 rfl <|
    s_iload h dX0_partnerOf_13 rfl <|
    k_X0_55 h (c_X7_hasBit) rfl rfl dX0_partnerOf_15 <|
    PE.go <|
    s_if_ne (tgt := 24) h dX0_partnerOf_18 (by decide) (fun c18 => ?_) (fun c18 => ?_)
    · refine s_aload_n h dX0_partnerOf_24 rfl <|
      s_iload h dX0_partnerOf_25 rfl <|
      s_iload_n h dX0_partnerOf_27 rfl <|
      k_X0_59 h (c_X0_firstMate hkN hm) (by omega) hm.1 rfl rfl dX0_partnerOf_28 <|
      PE.go <|
      s_istore h dX0_partnerOf_31 rfl <|
      s_iload h dX0_partnerOf_33 rfl <|
      s_iload_n h dX0_partnerOf_35 rfl <|
      s_icmp_ne (tgt := 42) h dX0_partnerOf_36 (by decide) (fun c36 => ?_) (fun c36 => ?_)
      · refine s_iload h dX0_partnerOf_42 rfl <|
        s_iload_n h dX0_partnerOf_44 rfl <|
        s_icmp_ne (tgt := 51) h dX0_partnerOf_45 (by decide) (fun c45 => ?_) (fun c45 => ?_)
        · refine s_iload_n h dX0_partnerOf_51 rfl <|
          s_iconst h dX0_partnerOf_52 ic_1 <|
          s_iload h dX0_partnerOf_53 rfl <|
          s_ishl h dX0_partnerOf_55 <|
          s_iconst h dX0_partnerOf_56 ic_m1 <|
          s_ixor h dX0_partnerOf_57 <|
          s_iand h dX0_partnerOf_58 <|
          s_topi (wo (ptL fr mo s i) (nI i)) rfl <|
          s_istore_n h dX0_partnerOf_59 rfl <|
          s_iload h dX0_partnerOf_60 rfl <|
          s_bipush h dX0_partnerOf_62 bp_m6 <|
          s_icmp_eq (tgt := 76) h dX0_partnerOf_64 (by decide) (fun c64 => ?_) (fun c64 => ?_)
          · refine s_iincR h dX0_partnerOf_76 rfl rfl ic_1 (nI_1 i) <|
            s_goto (tgt := 5) h dX0_partnerOf_79 (by decide) <|
            ?_
            first
              | (have q18 := bI_0 c18
                 have z := (ptL_s fr mo s i).trans (bool_ifn q18)
                 exact SX.loc (lv2 := [(0, .ref (adr k)), (1, .int a), (2, .int s), (3, .int (ptL fr mo s i)), (4, .int (nI (i + 1)))]) (z ▸ ih (nh_s hH (by rw [ptH, q18]; rfl))) ⟨rfl, rfl, rfl, rfl, rfl, trivial⟩)
              | (have q18 := bI_1 c18
                 have q64 : fMt fr mo (nI i) (ptL fr mo s i) = -6 := c64
                 have z := (ptL_s fr mo s i).trans ((bool_if q18).trans (if_pos q64))
                 exact SX.loc (lv2 := [(0, .ref (adr k)), (1, .int a), (2, .int s), (3, .int (wo (ptL fr mo s i) (nI i))), (4, .int (nI (i + 1)))]) (z ▸ ih (nh_s hH (by rw [ptH, decide_eq_false c36, decide_eq_false c45]; simp))) ⟨rfl, rfl, rfl, rfl, rfl, trivial⟩)
              | (have q18 := bI_1 c18
                 have q64 : ¬ fMt fr mo (nI i) (ptL fr mo s i) = -6 := c64
                 have z := (ptL_s fr mo s i).trans ((bool_if q18).trans (if_neg q64))
                 exact SX.loc (lv2 := [(0, .ref (adr k)), (1, .int a), (2, .int s), (3, .int (wo (wo (ptL fr mo s i) (nI i)) (fMt fr mo (nI i) (ptL fr mo s i)))), (4, .int (nI (i + 1)))]) (z ▸ ih (nh_s hH (by rw [ptH, decide_eq_false c36, decide_eq_false c45]; simp))) ⟨rfl, rfl, rfl, rfl, rfl, trivial⟩)
          · refine s_iload_n h dX0_partnerOf_67 rfl <|
            s_iconst h dX0_partnerOf_68 ic_1 <|
            s_iload h dX0_partnerOf_69 rfl <|
            s_ishl h dX0_partnerOf_71 <|
            s_iconst h dX0_partnerOf_72 ic_m1 <|
            s_ixor h dX0_partnerOf_73 <|
            s_iand h dX0_partnerOf_74 <|
            s_topi (wo (wo (ptL fr mo s i) (nI i)) (fMt fr mo (nI i) (ptL fr mo s i))) rfl <|
            s_istore_n h dX0_partnerOf_75 rfl <|
            s_iincR h dX0_partnerOf_76 rfl rfl ic_1 (nI_1 i) <|
            s_goto (tgt := 5) h dX0_partnerOf_79 (by decide) <|
            ?_
            first
              | (have q18 := bI_0 c18
                 have z := (ptL_s fr mo s i).trans (bool_ifn q18)
                 exact SX.loc (lv2 := [(0, .ref (adr k)), (1, .int a), (2, .int s), (3, .int (ptL fr mo s i)), (4, .int (nI (i + 1)))]) (z ▸ ih (nh_s hH (by rw [ptH, q18]; rfl))) ⟨rfl, rfl, rfl, rfl, rfl, trivial⟩)
              | (have q18 := bI_1 c18
                 have q64 : fMt fr mo (nI i) (ptL fr mo s i) = -6 := c64
                 have z := (ptL_s fr mo s i).trans ((bool_if q18).trans (if_pos q64))
                 exact SX.loc (lv2 := [(0, .ref (adr k)), (1, .int a), (2, .int s), (3, .int (wo (ptL fr mo s i) (nI i))), (4, .int (nI (i + 1)))]) (z ▸ ih (nh_s hH (by rw [ptH, decide_eq_false c36, decide_eq_false c45]; simp))) ⟨rfl, rfl, rfl, rfl, rfl, trivial⟩)
              | (have q18 := bI_1 c18
                 have q64 : ¬ fMt fr mo (nI i) (ptL fr mo s i) = -6 := c64
                 have z := (ptL_s fr mo s i).trans ((bool_if q18).trans (if_neg q64))
                 exact SX.loc (lv2 := [(0, .ref (adr k)), (1, .int a), (2, .int s), (3, .int (wo (wo (ptL fr mo s i) (nI i)) (fMt fr mo (nI i) (ptL fr mo s i)))), (4, .int (nI (i + 1)))]) (z ▸ ih (nh_s hH (by rw [ptH, decide_eq_false c36, decide_eq_false c45]; simp))) ⟨rfl, rfl, rfl, rfl, rfl, trivial⟩)
        · refine s_iload h dX0_partnerOf_48 rfl <|
          s_iret h he rfl dX0_partnerOf_50 ⟨Nat.le_refl _, Nat.le_refl _⟩ ?_
          first
            | (have q18 := bI_1 c18
               exact PE.eq (by rw [ptR, ffO_some hi (by rw [ptH, q18, decide_eq_true c36]; rfl) hH, show (match some i with | some j => if nI j = a then fMt fr mo (nI j) (ptL fr mo s j) else nI j | none => (-6 : Int32)) = if nI i = a then fMt fr mo (nI i) (ptL fr mo s i) else nI i from rfl, if_pos c36]) rfl)
            | (have q18 := bI_1 c18
               exact PE.eq (by rw [ptR, ffO_some hi (by rw [ptH, q18, decide_eq_false c36, decide_eq_true c45]; rfl) hH, show (match some i with | some j => if nI j = a then fMt fr mo (nI j) (ptL fr mo s j) else nI j | none => (-6 : Int32)) = if nI i = a then fMt fr mo (nI i) (ptL fr mo s i) else nI i from rfl, if_neg c36]) rfl)
            | exact PE.eq (by rw [ptR, ffO_none hH]) rfl
      · refine s_iload h dX0_partnerOf_39 rfl <|
        s_iret h he rfl dX0_partnerOf_41 ⟨Nat.le_refl _, Nat.le_refl _⟩ ?_
        first
          | (have q18 := bI_1 c18
             exact PE.eq (by rw [ptR, ffO_some hi (by rw [ptH, q18, decide_eq_true c36]; rfl) hH, show (match some i with | some j => if nI j = a then fMt fr mo (nI j) (ptL fr mo s j) else nI j | none => (-6 : Int32)) = if nI i = a then fMt fr mo (nI i) (ptL fr mo s i) else nI i from rfl, if_pos c36]) rfl)
          | (have q18 := bI_1 c18
             exact PE.eq (by rw [ptR, ffO_some hi (by rw [ptH, q18, decide_eq_false c36, decide_eq_true c45]; rfl) hH, show (match some i with | some j => if nI j = a then fMt fr mo (nI j) (ptL fr mo s j) else nI j | none => (-6 : Int32)) = if nI i = a then fMt fr mo (nI i) (ptL fr mo s i) else nI i from rfl, if_neg c36]) rfl)
          | exact PE.eq (by rw [ptR, ffO_none hH]) rfl
    · refine s_goto (tgt := 76) h dX0_partnerOf_21 (by decide) <|
      s_iincR h dX0_partnerOf_76 rfl rfl ic_1 (nI_1 i) <|
      s_goto (tgt := 5) h dX0_partnerOf_79 (by decide) <|
      ?_
      first
        | (have q18 := bI_0 c18
           have z := (ptL_s fr mo s i).trans (bool_ifn q18)
           exact SX.loc (lv2 := [(0, .ref (adr k)), (1, .int a), (2, .int s), (3, .int (ptL fr mo s i)), (4, .int (nI (i + 1)))]) (z ▸ ih (nh_s hH (by rw [ptH, q18]; rfl))) ⟨rfl, rfl, rfl, rfl, rfl, trivial⟩)
        | (have q18 := bI_1 c18
           have q64 : fMt fr mo (nI i) (ptL fr mo s i) = -6 := c64
           have z := (ptL_s fr mo s i).trans ((bool_if q18).trans (if_pos q64))
           exact SX.loc (lv2 := [(0, .ref (adr k)), (1, .int a), (2, .int s), (3, .int (wo (ptL fr mo s i) (nI i))), (4, .int (nI (i + 1)))]) (z ▸ ih (nh_s hH (by rw [ptH, decide_eq_false c36, decide_eq_false c45]; simp))) ⟨rfl, rfl, rfl, rfl, rfl, trivial⟩)
        | (have q18 := bI_1 c18
           have q64 : ¬ fMt fr mo (nI i) (ptL fr mo s i) = -6 := c64
           have z := (ptL_s fr mo s i).trans ((bool_if q18).trans (if_neg q64))
           exact SX.loc (lv2 := [(0, .ref (adr k)), (1, .int a), (2, .int s), (3, .int (wo (wo (ptL fr mo s i) (nI i)) (fMt fr mo (nI i) (ptL fr mo s i)))), (4, .int (nI (i + 1)))]) (z ▸ ih (nh_s hH (by rw [ptH, decide_eq_false c36, decide_eq_false c45]; simp))) ⟨rfl, rfl, rfl, rfl, rfl, trivial⟩)
theorem c_X0_prepare {l : Launch} {D : va_G} {N : Nat} {adr : Nat → Nat} {G : Nat → va_E} {k : Nat} {fr mo : Nat → Int32} (hkN : k + 2 < N) (hm : isMt D adr G k fr mo) {ks : Nat} {sc : Nat → Nat → Int32} (hsN : ks + 28 < N) (hT : isTh D adr G ks sc) (hPs : isPs D adr G ks sc) (hd : ks + 28 < k) {S : Nat} (hS : S < 1024) :
    CT l D yX0_prepare cX0_prepare 4 (none) (rl 6) [.ref (adr k), .ref (adr ks), .int (nI S)] N adr G (PR none N adr (fun W => ∃ fr2, isMt D adr W k fr2 (moN fr2 mo S) ∧ (∀ j, j < 10 → fr2 j = frB sc (nI j) 10) ∧ ∀ j, (j < k ∨ k + 3 ≤ j) → W j = G j)) := by
  refine CT.of (by decide +kernel) (Nat.le_of_ble_eq_true rfl) (fun Γ h he => ?_)
  have h : cx l D (rl 6) RX0 cX0_prepare 4 Γ := h
  show SX Γ 0 0 0 [(0, .ref (adr k)), (1, .ref (adr ks)), (2, .int (nI S))] [] N adr G
  refine s_iconst h dX0_prepare_0 ic_0 <|
    s_istore_n h dX0_prepare_1 rfl <|
    ?_
  refine SX.world (G2 := (va_up G (k + 1) (aI D 10 (cpF fr (fun j => frB sc (nI j) 10) 0)))) (up_self hm.2.1).symm ?_
  refine SX.loc (up_ind (n := 10) (Q := fun i => SX Γ 0 0 2 [(0, .ref (adr k)), (1, .ref (adr ks)), (2, .int (nI S)), (3, .int (nI i))] [] N adr (va_up G (k + 1) (aI D 10 (cpF fr (fun j => frB sc (nI j) 10) i)))) ?_ ?_ 0 (Nat.zero_le _)) ⟨rfl, rfl, rfl, rfl, trivial⟩
  · show SX _ _ _ _ _ _ _ _ _
    have t0 : isTh D adr (va_up G (k + 1) (aI D 10 (cpF fr (fun j => frB sc (nI j) 10) 10))) ks sc := hT.same (fun j q1 q2 q3 => up_ne _ _ (by omega))
    have t1 : isPs D adr (va_up G (k + 1) (aI D 10 (cpF fr (fun j => frB sc (nI j) 10) 10))) ks sc := hPs.same (fun j q1 q2 => up_ne _ _ (by omega)) (up_ne _ _ (by omega))
    have a0 : (va_up G (k + 1) (aI D 10 (cpF fr (fun j => frB sc (nI j) 10) 10))) k = .inr (0, [.ref (adr (k + 1)), .ref (adr (k + 2))]) := (up_ne _ _ (by omega)).trans hm.1
    have a1 := up_eq G (k + 1) (aI D 10 (cpF fr (fun j => frB sc (nI j) 10) 10))
    refine s_iload_n h dX0_prepare_2 rfl <|
    s_aload_n h dX0_prepare_3 rfl <|
    g_X0_9 h dX0_prepare_4 (by omega) a0 <|
    s_alenI h dX0_prepare_7 (by omega) a1 (show Int32.ofNat 10 = 10 from rfl) <|
    s_icmp_ge (tgt := 28) h dX0_prepare_8 (by decide) (kf := fun qx => absurd (by decide +kernel) qx) (kt := fun _ => ?_)
    refine s_iconst h dX0_prepare_28 ic_1 <|
    s_istore_n h dX0_prepare_29 rfl <|
    ?_
    refine SX.world (G2 := (va_up (va_up G (k + 1) (aI D 10 (cpF fr (fun j => frB sc (nI j) 10) 10))) (k + 2) (aI D 1024 (moN (cpF fr (fun j => frB sc (nI j) 10) 10) mo 0)))) (up_self ((up_ne _ _ (by omega)).trans hm.2.2)).symm ?_
    refine SX.loc (up_ind (n := S) (Q := fun i => SX Γ 0 0 30 [(0, .ref (adr k)), (1, .ref (adr ks)), (2, .int (nI S)), (3, .int (nI (i + 1)))] [] N adr (va_up (va_up G (k + 1) (aI D 10 (cpF fr (fun j => frB sc (nI j) 10) 10))) (k + 2) (aI D 1024 (moN (cpF fr (fun j => frB sc (nI j) 10) 10) mo i)))) ?_ ?_ 0 (Nat.zero_le _)) ⟨rfl, rfl, rfl, rfl, trivial⟩
    · show SX _ _ _ _ _ _ _ _ _
      refine s_iload_n h dX0_prepare_30 rfl <|
      s_iload_n h dX0_prepare_31 rfl <|
      s_icmp_gt (tgt := 61) h dX0_prepare_32 (by decide) (kf := fun qx => absurd (nI_lt (Nat.lt_succ_self S) (by omega)) qx) (kt := fun _ => ?_)
      refine s_vret h he dX0_prepare_61 ⟨Nat.le_refl _, Nat.le_refl _⟩ ?_
      exact PR.is ⟨cpF fr (fun j => frB sc (nI j) 10) 10, ⟨((up_ne _ _ (by omega)).trans (up_ne _ _ (by omega))).trans hm.1, (up_ne _ _ (by omega)).trans (up_eq _ _ _), up_eq _ _ _⟩, fun j hj => cpF_lt hj, fun j hj => (up_ne _ _ (by omega)).trans (up_ne _ _ (by omega))⟩
    · intro i hi ih 
      show SX _ _ _ _ _ _ _ _ _
      have m0 : isMt D adr (va_up (va_up G (k + 1) (aI D 10 (cpF fr (fun j => frB sc (nI j) 10) 10))) (k + 2) (aI D 1024 (moN (cpF fr (fun j => frB sc (nI j) 10) 10) mo i))) k (cpF fr (fun j => frB sc (nI j) 10) 10) (moN (cpF fr (fun j => frB sc (nI j) 10) 10) mo i) := ⟨((up_ne _ _ (by omega)).trans (up_ne _ _ (by omega))).trans hm.1, (up_ne _ _ (by omega)).trans (up_eq _ _ _), up_eq _ _ _⟩
      have a0 := m0.1
      have a1 := m0.2.1
      have a2 := m0.2.2
      refine s_iload_n h dX0_prepare_30 rfl <|
      s_iload_n h dX0_prepare_31 rfl <|
      s_icmp_gt (tgt := 61) h dX0_prepare_32 (by decide) (kt := fun qx => absurd qx (nI_nlt (show i + 1 ≤ S from hi) (by omega))) (kf := fun _ => ?_)
      refine s_iload_n h dX0_prepare_35 rfl <|
      s_aload_n h dX0_prepare_36 rfl <|
      g_X0_15 h dX0_prepare_37 (by omega) a0 <|
      s_alenI h dX0_prepare_40 (by omega) a2 (show Int32.ofNat 1024 = 1024 from by decide) <|
      s_icmp_ge (tgt := 61) h dX0_prepare_41 (by decide) (kt := fun qx => absurd qx (nI_ge (show i + 1 < 1024 from by omega) (by decide))) (kf := fun _ => ?_)
      refine s_aload_n h dX0_prepare_44 rfl <|
      g_X0_15 h dX0_prepare_45 (by omega) a0 <|
      s_iload_n h dX0_prepare_48 rfl <|
      s_aload_n h dX0_prepare_49 rfl <|
      s_iload_n h dX0_prepare_50 rfl <|
      k_X0_22 h (c_X0_mostOf (by omega) m0) (by omega) a0 rfl rfl dX0_prepare_51 <|
      PE.go <|
      s_iast h dX0_prepare_54 (by omega) a2 (ix_n (show i + 1 < 1024 from by omega) (by decide)) <|
      s_iincR h dX0_prepare_55 rfl rfl ic_1 (nI_1 (i + 1)) <|
      s_goto (tgt := 30) h dX0_prepare_58 (by decide) <|
      ?_
      refine SX.world (G2 := (va_up (va_up G (k + 1) (aI D 10 (cpF fr (fun j => frB sc (nI j) 10) 10))) (k + 2) (aI D 1024 (moN (cpF fr (fun j => frB sc (nI j) 10) 10) mo (i + 1))))) (by rw [up_up]; rfl) ?_
      exact SX.loc (ih) ⟨rfl, rfl, rfl, rfl, trivial⟩
  · intro i hi ih 
    show SX _ _ _ _ _ _ _ _ _
    have t0 : isTh D adr (va_up G (k + 1) (aI D 10 (cpF fr (fun j => frB sc (nI j) 10) i))) ks sc := hT.same (fun j q1 q2 q3 => up_ne _ _ (by omega))
    have t1 : isPs D adr (va_up G (k + 1) (aI D 10 (cpF fr (fun j => frB sc (nI j) 10) i))) ks sc := hPs.same (fun j q1 q2 => up_ne _ _ (by omega)) (up_ne _ _ (by omega))
    have a0 : (va_up G (k + 1) (aI D 10 (cpF fr (fun j => frB sc (nI j) 10) i))) k = .inr (0, [.ref (adr (k + 1)), .ref (adr (k + 2))]) := (up_ne _ _ (by omega)).trans hm.1
    have a1 := up_eq G (k + 1) (aI D 10 (cpF fr (fun j => frB sc (nI j) 10) i))
    refine s_iload_n h dX0_prepare_2 rfl <|
    s_aload_n h dX0_prepare_3 rfl <|
    g_X0_9 h dX0_prepare_4 (by omega) a0 <|
    s_alenI h dX0_prepare_7 (by omega) a1 (show Int32.ofNat 10 = 10 from rfl) <|
    s_icmp_ge (tgt := 28) h dX0_prepare_8 (by decide) (kt := fun qx => absurd qx (nI_ge hi (by decide))) (kf := fun _ => ?_)
    refine s_aload_n h dX0_prepare_11 rfl <|
    g_X0_9 h dX0_prepare_12 (by omega) a0 <|
    s_iload_n h dX0_prepare_15 rfl <|
    s_iload_n h dX0_prepare_16 rfl <|
    s_aload_n h dX0_prepare_17 rfl <|
    k_X0_18 h (c_X0_friendsOf hsN t0 t1) rfl rfl dX0_prepare_18 <|
    PE.go <|
    s_iast h dX0_prepare_21 (by omega) a1 (ix_n hi (by decide)) <|
    s_iincR h dX0_prepare_22 rfl rfl ic_1 (nI_1 i) <|
    s_goto (tgt := 2) h dX0_prepare_25 (by decide) <|
    ?_
    refine SX.world (G2 := (va_up G (k + 1) (aI D 10 (cpF fr (fun j => frB sc (nI j) 10) (i + 1))))) (by rw [up_up]; rfl) ?_
    exact SX.loc (ih) ⟨rfl, rfl, rfl, rfl, trivial⟩
