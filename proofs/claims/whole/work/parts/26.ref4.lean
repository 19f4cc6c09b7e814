/-- two tellings of the reference that differ in its scratch fields alone -/
def sM (f : Nat → Int32) (a : Nat → Nat → Int32) (g : Nat → Int32) (b : Nat → Nat → Int32) : Prop := (g 0 = f 0 ∧ g 4 = f 4 ∧ g 5 = f 5 ∧ g 8 = f 8) ∧ (∀ k, 104 ≤ k → k ≤ 108 → b k = a k) ∧ b 113 = a 113 ∧ b 114 = a 114
theorem sM.refl (f : Nat → Int32) (a : Nat → Nat → Int32) : sM f a f a := ⟨⟨rfl, rfl, rfl, rfl⟩, fun _ _ _ => rfl, rfl, rfl⟩
theorem sM.trans {f : Nat → Int32} {a : Nat → Nat → Int32} {g : Nat → Int32} {b : Nat → Nat → Int32} {h : Nat → Int32} {c : Nat → Nat → Int32} (p : sM f a g b) (q : sM g b h c) : sM f a h c :=
  ⟨⟨q.1.1.trans p.1.1, q.1.2.1.trans p.1.2.1, q.1.2.2.1.trans p.1.2.2.1, q.1.2.2.2.trans p.1.2.2.2⟩, fun k h1 h2 => (q.2.1 k h1 h2).trans (p.2.1 k h1 h2), q.2.2.1.trans p.2.2.1, q.2.2.2.trans p.2.2.2⟩
theorem sM.eS {f : Nat → Int32} {a : Nat → Nat → Int32} {g : Nat → Int32} {b : Nat → Nat → Int32} (h : sM f a g b) : mS g b = mS f a := by
  funext x y
  obtain ⟨⟨h0, h4, h5, h8⟩, hk, -, -⟩ := h
  unfold mS
  rw [h0, h4, h5, hk 104 (by decide) (by decide), hk 105 (by decide) (by decide), hk 106 (by decide) (by decide), hk 107 (by decide) (by decide)]
theorem sM.fl {f : Nat → Int32} {a : Nat → Nat → Int32} {g : Nat → Int32} {b : Nat → Nat → Int32} (h : sM f a g b) (i : Nat) (x : Int32) (hi : ¬ 0 = i ∧ ¬ 4 = i ∧ ¬ 5 = i ∧ ¬ 8 = i) : sM f a (upd g i x) b := by
  obtain ⟨⟨h0, h4, h5, h8⟩, hk⟩ := h
  exact ⟨⟨(if_neg hi.1).trans h0, (if_neg hi.2.1).trans h4, (if_neg hi.2.2.1).trans h5, (if_neg hi.2.2.2).trans h8⟩, hk⟩
theorem sM.ar {f : Nat → Int32} {a : Nat → Nat → Int32} {g : Nat → Int32} {b : Nat → Nat → Int32} (h : sM f a g b) (i : Nat) (x : Nat → Int32) (hi : 109 ≤ i ∧ i ≤ 112) : sM f a g (uA b i x) := by
  obtain ⟨h1, hk, h2, h3⟩ := h
  exact ⟨h1, fun k p q => (uA_ne _ _ (by omega)).trans (hk k p q), (uA_ne _ _ (by omega)).trans h2, (uA_ne _ _ (by omega)).trans h3⟩
theorem c_X8_unlikeS {l : Launch} {D : va_G} {N : Nat} {adr : Nat → Nat} {G : Nat → va_E} {G0 : Nat → va_E} {f f0 : Nat → Int32} {a a0 : Nat → Nat → Int32} (hN : 115 ≤ N) (hM : isMF D adr G0 G f a) (hs : sM f0 a0 f a) (hwf : wfT (mS f0 a0)) {x : Int32} {p : Nat} (hx : ix x p 10) {c m : Int32} : CT l D yX8_unlike cX8_unlike 6 (some FieldType.int) (rl 3) [.ref (adr 103), .int x, .int c, .int m] N adr G (PE (some (.int (dfB (mS f0 a0) (mS f0 a0 (6 + p)) c m 6))) N adr G) := by
  rw [← hs.eS] at hwf ⊢
  exact c_X8_unlike hN hM hwf hx
theorem c_X8_columnOfS {l : Launch} {D : va_G} {N : Nat} {adr : Nat → Nat} {G : Nat → va_E} {G0 : Nat → va_E} {f f0 : Nat → Int32} {a a0 : Nat → Nat → Int32} (hN : 115 ≤ N) (hM : isMF D adr G0 G f a) (hs : sM f0 a0 f a) (hwf : wfT (mS f0 a0)) {i : Nat} (hi : i < 6) {c m : Int32} : CT l D yX8_columnOf cX8_columnOf 5 (some FieldType.int) (rl 2) [.ref (adr 103), .int (nI i), .int c, .int m] N adr G (PE (some (.int (sCol (mS f0 a0) c m i))) N adr G) := by
  rw [← hs.eS] at hwf ⊢
  exact c_X8_columnOf hN hM hwf hi
/-! a place's six answers, as bits -/
def d6 (b0 b1 b2 b3 b4 b5 : Bool) : Int32 := fN (fun t b => if (match t with | 0 => b0 | 1 => b1 | 2 => b2 | 3 => b3 | 4 => b4 | _ => b5) then b else b ||| (1 <<< (nI t &&& 31))) 0 6
def eqK (sc : Nat → Nat → Int32) (col : Nat → Int32) (c m : Int32) (t : Nat) : Bool := decide (sCol sc c m t = col t)
theorem dfB_6 (sc : Nat → Nat → Int32) (col : Nat → Int32) (c m : Int32) : dfB sc col c m 6 = d6 (eqK sc col c m 0) (eqK sc col c m 1) (eqK sc col c m 2) (eqK sc col c m 3) (eqK sc col c m 4) (eqK sc col c m 5) := by
  unfold dfB d6
  refine fN_congr (fun j x hj => ?_)
  have hj6 : j = 0 ∨ j = 1 ∨ j = 2 ∨ j = 3 ∨ j = 4 ∨ j = 5 := by omega
  rcases hj6 with rfl | rfl | rfl | rfl | rfl | rfl <;> (show (if _ then _ else _) = (if decide _ = true then _ else _); simp only [decide_eq_true_eq])
theorem d6_0 : ∀ b0 b1 b2 b3 b4 b5 : Bool, decide (d6 b0 b1 b2 b3 b4 b5 = 0) = (b0 && b1 && b2 && b3 && b4 && b5) := by decide +kernel
theorem d6_wo : ∀ b0 b1 b2 b3 b4 b5 : Bool, ∀ t, t < 6 → decide (wo (d6 b0 b1 b2 b3 b4 b5) (nI t) = 0) = ((b0 || decide (t = 0)) && (b1 || decide (t = 1)) && (b2 || decide (t = 2)) && (b3 || decide (t = 3)) && (b4 || decide (t = 4)) && (b5 || decide (t = 5))) := by decide +kernel
theorem d6_lt : ∀ b0 b1 b2 b3 b4 b5 : Bool, (d6 b0 b1 b2 b3 b4 b5).toNatClampNeg < 64 ∧ nI (d6 b0 b1 b2 b3 b4 b5).toNatClampNeg = d6 b0 b1 b2 b3 b4 b5 := by decide +kernel
theorem dfB_lt (sc : Nat → Nat → Int32) (col : Nat → Int32) (c m : Int32) : ∃ d, d < 64 ∧ dfB sc col c m 6 = nI d := by
  rw [dfB_6]
  exact ⟨_, (d6_lt _ _ _ _ _ _).1, (d6_lt _ _ _ _ _ _).2.symm⟩
theorem fit_6 (sc : Nat → Nat → Int32) (col : Nat → Int32) (c m lo : Int32) : fitB sc col c m lo = ((eqK sc col c m 0 || decide (nI 0 = lo)) && (eqK sc col c m 1 || decide (nI 1 = lo)) && (eqK sc col c m 2 || decide (nI 2 = lo)) && (eqK sc col c m 3 || decide (nI 3 = lo)) && (eqK sc col c m 4 || decide (nI 4 = lo)) && (eqK sc col c m 5 || decide (nI 5 = lo))) := by
  have e : ∀ t, badP sc col c m lo t = (!(eqK sc col c m t || decide (nI t = lo))) := by
    intro t
    unfold badP eqK
    cases decide (nI t = lo) <;> cases decide (sCol sc c m t = col t) <;> rfl
  unfold fitB ffO
  show (([0, 1, 2, 3, 4, 5] : List Nat).find? (badP sc col c m lo)).isNone = _
  simp only [List.find?, e]
  generalize (eqK sc col c m 0 || decide (nI 0 = lo)) = b0
  generalize (eqK sc col c m 1 || decide (nI 1 = lo)) = b1
  generalize (eqK sc col c m 2 || decide (nI 2 = lo)) = b2
  generalize (eqK sc col c m 3 || decide (nI 3 = lo)) = b3
  generalize (eqK sc col c m 4 || decide (nI 4 = lo)) = b4
  generalize (eqK sc col c m 5 || decide (nI 5 = lo)) = b5
  cases b0 <;> cases b1 <;> cases b2 <;> cases b3 <;> cases b4 <;> cases b5 <;> rfl
theorem hit_dif (sc : Nat → Nat → Int32) (col : Nat → Int32) (k : Nat) : hitK sc col (-1) k = decide (difK sc col k = 0) := by
  unfold hitK difK
  rw [dfB_6, d6_0, fit_6]
  simp only [show decide (nI 0 = -1) = false from by decide, show decide (nI 1 = -1) = false from by decide, show decide (nI 2 = -1) = false from by decide, show decide (nI 3 = -1) = false from by decide, show decide (nI 4 = -1) = false from by decide, show decide (nI 5 = -1) = false from by decide, Bool.or_false]
theorem nI_d6 : ∀ t, t < 6 → ∀ j, j < 6 → decide (nI j = nI t) = decide (t = j) := by decide
theorem hit_wo (sc : Nat → Nat → Int32) (col : Nat → Int32) {t : Nat} (ht : t < 6) (k : Nat) : hitK sc col (nI t) k = decide (wo (difK sc col k) (nI t) = 0) := by
  unfold hitK difK
  rw [dfB_6, d6_wo _ _ _ _ _ _ t ht, fit_6]
  simp only [nI_d6 t ht 0 (by decide), nI_d6 t ht 1 (by decide), nI_d6 t ht 2 (by decide), nI_d6 t ht 3 (by decide), nI_d6 t ht 4 (by decide), nI_d6 t ht 5 (by decide)]
def stM (sc : Nat → Nat → Int32) (col : Nat → Int32) (b : Int32) : Int32 := match ffO (standP sc col b) 10000 with
  | some k => nI k
  | none => if b = -1 then cntK sc col 10000 else -6
theorem stM_some {sc : Nat → Nat → Int32} {col : Nat → Int32} {b : Int32} {k : Nat} (h : ffO (standP sc col b) 10000 = some k) : stM sc col b = nI k := by unfold stM; rw [h]
theorem stM_none {sc : Nat → Nat → Int32} {col : Nat → Int32} {b : Int32} (h : ffO (standP sc col b) 10000 = none) : stM sc col b = if b = -1 then cntK sc col 10000 else -6 := by unfold stM; rw [h]
theorem c_X8_stood {l : Launch} {D : va_G} {N : Nat} {adr : Nat → Nat} {G : Nat → va_E} {G0 : Nat → va_E} {f : Nat → Int32} {a : Nat → Nat → Int32} (hN : 115 ≤ N) (hM : isMF D adr G0 G f a) (hwf : wfT (mS f a)) {x b : Int32} :
    CT l D yX8_stood cX8_stood 5 (some FieldType.int) (rl 4) [.ref (adr 103), .int x, .int b] N adr G (PE (some (.int (if pE (mS f a) x then stM (mS f a) (mS f a (6 + x.toNatClampNeg)) b else -1))) N adr G) := by
  refine CT.of (by decide +kernel) (Nat.le_of_ble_eq_true rfl) (fun Γ h he => ?_)
  have h : cx l D (rl 4) RX8 cX8_stood 5 Γ := h
  show SX Γ 0 0 0 [(0, .ref (adr 103)), (1, .int x), (2, .int b)] [] N adr G
  refine s_aload_n h dX8_stood_0 rfl <|
    s_iload_n h dX8_stood_1 rfl <|
    k_X8_64 h (c_X8_isPicture hN hM) (by omega) hM.o rfl rfl dX8_stood_2 <|
    PE.go <|
    s_if_ne (tgt := 10) h dX8_stood_5 (by decide) (fun c5 => ?_) (fun c5 => ?_)
  · have e5 := bI_1 c5
    have hx := pE_ix e5
    refine s_iconst h dX8_stood_10 ic_0 <|
      s_istore_n h dX8_stood_11 rfl <|
      s_iconst h dX8_stood_12 ic_0 <|
      s_istore h dX8_stood_13 rfl <|
      ?_
    refine SX.loc (up_ind (n := 10000) (Q := fun i => (∀ j, j < i → standP (mS f a) (mS f a (6 + x.toNatClampNeg)) b j = false) → SX Γ 0 0 15 [(0, .ref (adr 103)), (1, .int x), (2, .int b), (3, .int (cntK (mS f a) (mS f a (6 + x.toNatClampNeg)) i)), (4, .int (nI i))] [] N adr G) ?_ ?_ 0 (Nat.zero_le _) nh_0) ⟨rfl, rfl, rfl, rfl, rfl, trivial⟩
    · intro hH
      show SX _ _ _ _ _ _ _ _ _
      refine s_iload h dX8_stood_15 rfl <|
      s_sipush h dX8_stood_17 sp_10000 <|
      s_icmp_ge (tgt := 58) h dX8_stood_20 (by decide) (kf := fun qx => absurd (by decide +kernel) qx) (kt := fun _ => ?_)
      refine s_iload_n h dX8_stood_58 rfl <|
      s_iconst h dX8_stood_59 ic_m1 <|
      s_icmp_ne (tgt := 67) h dX8_stood_60 (by decide) (fun c60 => ?_) (fun c60 => ?_)
      · refine s_bipush h dX8_stood_67 bp_m6 <|
        s_iret h he rfl dX8_stood_69 ⟨Nat.le_refl _, Nat.le_refl _⟩ ?_
        first
          | (have q2 : hitK (mS f a) (mS f a (6 + x.toNatClampNeg)) (-1) i = true := (hit_dif _ _ _).trans (decide_eq_true c38)
             exact PE.eq (by rw [e5, if_pos rfl, stM_some (ffO_some (n := 10000) hi (by rw [standP, q2, decide_eq_true c43]; rfl) hH)]) rfl)
          | (have q : b = -1 := c60; exact PE.eq (by rw [e5, if_pos rfl, stM_none (ffO_none hH), if_pos q]) rfl)
          | (have q : ¬ b = -1 := c60; exact PE.eq (by rw [e5, if_pos rfl, stM_none (ffO_none hH), if_neg q]) rfl)
      · refine s_iload_n h dX8_stood_63 rfl <|
        s_goto (tgt := 69) h dX8_stood_64 (by decide) <|
        s_iret h he rfl dX8_stood_69 ⟨Nat.le_refl _, Nat.le_refl _⟩ ?_
        first
          | (have q2 : hitK (mS f a) (mS f a (6 + x.toNatClampNeg)) (-1) i = true := (hit_dif _ _ _).trans (decide_eq_true c38)
             exact PE.eq (by rw [e5, if_pos rfl, stM_some (ffO_some (n := 10000) hi (by rw [standP, q2, decide_eq_true c43]; rfl) hH)]) rfl)
          | (have q : b = -1 := c60; exact PE.eq (by rw [e5, if_pos rfl, stM_none (ffO_none hH), if_pos q]) rfl)
          | (have q : ¬ b = -1 := c60; exact PE.eq (by rw [e5, if_pos rfl, stM_none (ffO_none hH), if_neg q]) rfl)
    · intro i hi ih hH
      show SX _ _ _ _ _ _ _ _ _
      refine s_iload h dX8_stood_15 rfl <|
      s_sipush h dX8_stood_17 sp_10000 <|
      s_icmp_ge (tgt := 58) h dX8_stood_20 (by decide) (kt := fun qx => absurd qx (nI_ge hi (by decide))) (kf := fun _ => ?_)
      refine s_aload_n h dX8_stood_23 rfl <|
      s_iload_n h dX8_stood_24 rfl <|
      s_iload h dX8_stood_25 rfl <|
      s_bipush h dX8_stood_27 bp_100 <|
      s_irem h dX8_stood_29 (by decide) <|
      s_topi (nI (i % 100)) (nI_rem (b := 100) (by omega) (by decide)) <|
      s_iload h dX8_stood_30 rfl <|
      s_bipush h dX8_stood_32 bp_100 <|
      s_idiv h dX8_stood_34 (by decide) <|
      s_topi (nI (i / 100)) (nI_div (b := 100) (by omega) (by decide)) <|
      k_X8_162 h (c_X8_unlike hN hM hwf hx) (by omega) hM.o rfl rfl dX8_stood_35 <|
      PE.go <|
      s_if_ne (tgt := 52) h dX8_stood_38 (by decide) (fun c38 => ?_) (fun c38 => ?_)
      · refine s_iincR h dX8_stood_52 rfl rfl ic_1 (nI_1 i) <|
        s_goto (tgt := 15) h dX8_stood_55 (by decide) <|
        ?_
        first
          | (have q : ¬ difK (mS f a) (mS f a (6 + x.toNatClampNeg)) i = 0 := c38
             have q2 : hitK (mS f a) (mS f a (6 + x.toNatClampNeg)) (-1) i = false := (hit_dif _ _ _).trans (decide_eq_false q)
             have q3 := (cntK_s (mS f a) (mS f a (6 + x.toNatClampNeg)) i).trans (bool_ifn q2)
             exact SX.loc (lv2 := [(0, .ref (adr 103)), (1, .int x), (2, .int b), (3, .int (cntK (mS f a) (mS f a (6 + x.toNatClampNeg)) i)), (4, .int (nI (i + 1)))]) (q3 ▸ ih (nh_s hH (by rw [standP, q2]; rfl))) ⟨rfl, rfl, rfl, rfl, rfl, trivial⟩)
          | exact SX.loc (ih (nh_s hH (by rw [standP, decide_eq_false c43, Bool.and_false]))) ⟨rfl, rfl, rfl, rfl, rfl, trivial⟩
      · refine s_iload_n h dX8_stood_41 rfl <|
        s_iload_n h dX8_stood_42 rfl <|
        s_icmp_ne (tgt := 49) h dX8_stood_43 (by decide) (fun c43 => ?_) (fun c43 => ?_)
        · refine s_iincR h dX8_stood_49 rfl rfl ic_1 (show cntK (mS f a) (mS f a (6 + x.toNatClampNeg)) i + 1 = cntK (mS f a) (mS f a (6 + x.toNatClampNeg)) (i + 1) from ((cntK_s _ _ i).trans (bool_if ((hit_dif _ _ _).trans (decide_eq_true c38)))).symm) <|
          s_iincR h dX8_stood_52 rfl rfl ic_1 (nI_1 i) <|
          s_goto (tgt := 15) h dX8_stood_55 (by decide) <|
          ?_
          first
            | (have q : ¬ difK (mS f a) (mS f a (6 + x.toNatClampNeg)) i = 0 := c38
               have q2 : hitK (mS f a) (mS f a (6 + x.toNatClampNeg)) (-1) i = false := (hit_dif _ _ _).trans (decide_eq_false q)
               have q3 := (cntK_s (mS f a) (mS f a (6 + x.toNatClampNeg)) i).trans (bool_ifn q2)
               exact SX.loc (lv2 := [(0, .ref (adr 103)), (1, .int x), (2, .int b), (3, .int (cntK (mS f a) (mS f a (6 + x.toNatClampNeg)) i)), (4, .int (nI (i + 1)))]) (q3 ▸ ih (nh_s hH (by rw [standP, q2]; rfl))) ⟨rfl, rfl, rfl, rfl, rfl, trivial⟩)
            | exact SX.loc (ih (nh_s hH (by rw [standP, decide_eq_false c43, Bool.and_false]))) ⟨rfl, rfl, rfl, rfl, rfl, trivial⟩
        · refine s_iload h dX8_stood_46 rfl <|
          s_iret h he rfl dX8_stood_48 ⟨Nat.le_refl _, Nat.le_refl _⟩ ?_
          first
            | (have q2 : hitK (mS f a) (mS f a (6 + x.toNatClampNeg)) (-1) i = true := (hit_dif _ _ _).trans (decide_eq_true c38)
               exact PE.eq (by rw [e5, if_pos rfl, stM_some (ffO_some (n := 10000) hi (by rw [standP, q2, decide_eq_true c43]; rfl) hH)]) rfl)
            | (have q : b = -1 := c60; exact PE.eq (by rw [e5, if_pos rfl, stM_none (ffO_none hH), if_pos q]) rfl)
            | (have q : ¬ b = -1 := c60; exact PE.eq (by rw [e5, if_pos rfl, stM_none (ffO_none hH), if_neg q]) rfl)
  · refine s_iconst h dX8_stood_8 ic_m1 <|
      s_iret h he rfl dX8_stood_9 ⟨Nat.le_refl _, Nat.le_refl _⟩ ?_
    exact PE.eq (by rw [bI_0 c5]; rfl) rfl
theorem fgR_0 {sc : Nat → Nat → Int32} {p x : Int32} (h : pE sc p = true) (h2 : wb x 0 1 = true) (h3 : x = 0) : fgR sc p x = bC (fFk sc (sc (6 + p.toNatClampNeg)) 10000) := by
  unfold fgR cA; rw [if_pos h, if_pos h2, if_pos h3]
theorem fgR_1 {sc : Nat → Nat → Int32} {p x : Int32} (h : pE sc p = true) (h2 : wb x 0 1 = true) (h3 : ¬ x = 0) : fgR sc p x = fFk sc (sc (6 + p.toNatClampNeg)) 10000 := by
  unfold fgR cA; rw [if_pos h, if_pos h2, if_neg h3]
theorem bC64 : ∀ x, x < 64 → 0 ≤ bC (nI x) ∧ bC (nI x) ≤ 60 := by decide +kernel
theorem and64 : ∀ x, x < 64 → nI x &&& 1023 = nI x := by decide +kernel
def ffB (wr x : Int32) : Bool := decide (bC wr < bC x) || (decide (bC wr = bC x) && decide (wr < x))
theorem ffS_b {d x : Nat} (hd : d < 64) (hx : x < 64) : ffS (nI d) (nI x) = if ffB (nI d) (nI x) then nI d else nI x := by
  have z := (sub_cmp (bC64 d hd) (bC64 x hx)).1
  have z2 : bC (nI d) - bC (nI x) = 0 ↔ bC (nI d) = bC (nI x) := by
    constructor
    · intro q
      have := (Int32.sub_add_cancel (bC (nI d)) (bC (nI x))).symm
      rw [q, Int32.zero_add] at this
      exact this
    · intro q; rw [q, Int32.sub_self]
  unfold ffS ffB
  simp only [z, z2, Bool.or_eq_true, Bool.and_eq_true, decide_eq_true_eq]
theorem fFk_lt (sc : Nat → Nat → Int32) (col : Nat → Int32) : ∀ n, ∃ x, x < 64 ∧ fFk sc col n = nI x
  | 0 => ⟨63, by decide, rfl⟩
  | n + 1 => by
    obtain ⟨x, hx, e⟩ := fFk_lt sc col n
    obtain ⟨d, hd, e2⟩ : ∃ d, d < 64 ∧ difK sc col n = nI d := dfB_lt _ _ _ _
    rw [fFk_s, e, e2, ffS_b hd hx]
    split
    · exact ⟨d, hd, rfl⟩
    · exact ⟨x, hx, rfl⟩
theorem fFk_b (sc : Nat → Nat → Int32) (col : Nat → Int32) (n : Nat) : fFk sc col (n + 1) = if ffB (difK sc col n) (fFk sc col n) then difK sc col n else fFk sc col n := by
  obtain ⟨x, hx, e⟩ := fFk_lt sc col n
  obtain ⟨d, hd, e2⟩ : ∃ d, d < 64 ∧ difK sc col n = nI d := dfB_lt _ _ _ _
  rw [fFk_s, e, e2, ffS_b hd hx]
theorem fFk_and (sc : Nat → Nat → Int32) (col : Nat → Int32) (n : Nat) : fFk sc col n &&& 1023 = fFk sc col n := by
  obtain ⟨x, hx, e⟩ := fFk_lt sc col n
  rw [e]; exact and64 x hx
theorem difK_and (sc : Nat → Nat → Int32) (col : Nat → Int32) (n : Nat) : difK sc col n &&& 1023 = difK sc col n := by
  obtain ⟨d, hd, e2⟩ : ∃ d, d < 64 ∧ difK sc col n = nI d := dfB_lt _ _ _ _
  rw [e2]; exact and64 d hd
theorem c_X8_forged {l : Launch} {D : va_G} {N : Nat} {adr : Nat → Nat} {G : Nat → va_E} {G0 : Nat → va_E} {f : Nat → Int32} {a : Nat → Nat → Int32} (hN : 115 ≤ N) (hM : isMF D adr G0 G f a) (hwf : wfT (mS f a)) {x b : Int32} :
    CT l D yX8_forged cX8_forged 7 (some FieldType.int) (rl 4) [.ref (adr 103), .int x, .int b] N adr G (PE (some (.int (fgR (mS f a) x b))) N adr G) := by
  refine CT.of (by decide +kernel) (Nat.le_of_ble_eq_true rfl) (fun Γ h he => ?_)
  have h : cx l D (rl 4) RX8 cX8_forged 7 Γ := h
  show SX Γ 0 0 0 [(0, .ref (adr 103)), (1, .int x), (2, .int b)] [] N adr G
  refine s_aload_n h dX8_forged_0 rfl <|
    s_iload_n h dX8_forged_1 rfl <|
    k_X8_64 h (c_X8_isPicture hN hM) (by omega) hM.o rfl rfl dX8_forged_2 <|
    PE.go <|
    s_if_ne (tgt := 10) h dX8_forged_5 (by decide) (fun c5 => ?_) (fun c5 => ?_)
  · have e5 := bI_1 c5
    have hx := pE_ix e5
    refine s_iload_n h dX8_forged_10 rfl <|
      s_i2l h dX8_forged_11 <|
      s_lconst h dX8_forged_12 lc_0 <|
      s_lconst h dX8_forged_13 lc_1 <|
      k_X8_50 h (c_X8_inw (a := 0) (b := 1) (by decide) (by decide)) rfl rfl dX8_forged_14 <|
      PE.go <|
      s_if_ne (tgt := 23) h dX8_forged_17 (by decide) (fun c17 => ?_) (fun c17 => ?_)
    · have e17 := bI_1 c17
      refine s_bipush h dX8_forged_23 bp_63 <|
        s_istore_n h dX8_forged_25 rfl <|
        s_iconst h dX8_forged_26 ic_0 <|
        s_istore h dX8_forged_27 rfl <|
        ?_
      refine SX.loc (up_ind (n := 10000) (Q := fun i => SX Γ 0 0 29 [(0, .ref (adr 103)), (1, .int x), (2, .int b), (3, .int (fFk (mS f a) (mS f a (6 + x.toNatClampNeg)) i)), (4, .int (nI i))] [] N adr G) ?_ ?_ 0 (Nat.zero_le _)) ⟨rfl, rfl, rfl, rfl, rfl, trivial⟩
      · show SX _ _ _ _ _ _ _ _ _
        refine s_iload h dX8_forged_29 rfl <|
        s_sipush h dX8_forged_31 sp_10000 <|
        s_icmp_ge (tgt := 109) h dX8_forged_34 (by decide) (kf := fun qx => absurd (by decide +kernel) qx) (kt := fun _ => ?_)
        refine s_iload_n h dX8_forged_109 rfl <|
        s_if_ne (tgt := 120) h dX8_forged_110 (by decide) (fun c110 => ?_) (fun c110 => ?_)
        · refine s_iload_n h dX8_forged_120 rfl <|
          s_iret h he rfl dX8_forged_121 ⟨Nat.le_refl _, Nat.le_refl _⟩ ?_
          first
            | (have q : b = 0 := c110; exact PE.eq (by rw [fgR_0 e5 e17 q]) rfl)
            | (have q : ¬ b = 0 := c110; exact PE.eq (by rw [fgR_1 e5 e17 q]) rfl)
        · refine s_iload_n h dX8_forged_113 rfl <|
          k_X8_75 h (c_X8_onesM (fFk_and (mS f a) (mS f a (6 + x.toNatClampNeg)) 10000)) rfl rfl dX8_forged_114 <|
          PE.go <|
          s_goto (tgt := 121) h dX8_forged_117 (by decide) <|
          s_iret h he rfl dX8_forged_121 ⟨Nat.le_refl _, Nat.le_refl _⟩ ?_
          first
            | (have q : b = 0 := c110; exact PE.eq (by rw [fgR_0 e5 e17 q]) rfl)
            | (have q : ¬ b = 0 := c110; exact PE.eq (by rw [fgR_1 e5 e17 q]) rfl)
      · intro i hi ih 
        show SX _ _ _ _ _ _ _ _ _
        have J91 : SX Γ 0 0 91 [(0, .ref (adr 103)), (1, .int x), (2, .int b), (3, .int (fFk (mS f a) (mS f a (6 + x.toNatClampNeg)) i)), (4, .int (nI i)), (5, .int (difK (mS f a) (mS f a (6 + x.toNatClampNeg)) i)), (6, .int (bI (ffB (difK (mS f a) (mS f a (6 + x.toNatClampNeg)) i) (fFk (mS f a) (mS f a (6 + x.toNatClampNeg)) i))))] [] N adr G := by
          refine s_iload h dX8_forged_91 rfl <|
            s_if_eq (tgt := 101) h dX8_forged_93 (by decide) (fun c93 => ?_) (fun c93 => ?_)
          · refine s_iload_n h dX8_forged_101 rfl <|
              s_topi (fFk (mS f a) (mS f a (6 + x.toNatClampNeg)) (i + 1)) (by rw [fFk_b]; first | rw [bool_ifn (bI_0 c93)] | rw [bool_if (bI_1 c93)]) <|
              s_istore_n h dX8_forged_102 rfl <|
              s_iincR h dX8_forged_103 rfl rfl ic_1 (nI_1 i) <|
              s_goto (tgt := 29) h dX8_forged_106 (by decide) <|
              ?_
            exact SX.loc (ih) ⟨rfl, rfl, rfl, rfl, rfl, trivial⟩
          · refine s_iload h dX8_forged_96 rfl <|
              s_goto (tgt := 102) h dX8_forged_98 (by decide) <|
              s_topi (fFk (mS f a) (mS f a (6 + x.toNatClampNeg)) (i + 1)) (by rw [fFk_b]; first | rw [bool_ifn (bI_0 c93)] | rw [bool_if (bI_1 c93)]) <|
              s_istore_n h dX8_forged_102 rfl <|
              s_iincR h dX8_forged_103 rfl rfl ic_1 (nI_1 i) <|
              s_goto (tgt := 29) h dX8_forged_106 (by decide) <|
              ?_
            exact SX.loc (ih) ⟨rfl, rfl, rfl, rfl, rfl, trivial⟩
        refine s_iload h dX8_forged_29 rfl <|
        s_sipush h dX8_forged_31 sp_10000 <|
        s_icmp_ge (tgt := 109) h dX8_forged_34 (by decide) (kt := fun qx => absurd qx (nI_ge hi (by decide))) (kf := fun _ => ?_)
        refine s_aload_n h dX8_forged_37 rfl <|
        s_iload_n h dX8_forged_38 rfl <|
        s_iload h dX8_forged_39 rfl <|
        s_bipush h dX8_forged_41 bp_100 <|
        s_irem h dX8_forged_43 (by decide) <|
        s_topi (nI (i % 100)) (nI_rem (b := 100) (by omega) (by decide)) <|
        s_iload h dX8_forged_44 rfl <|
        s_bipush h dX8_forged_46 bp_100 <|
        s_idiv h dX8_forged_48 (by decide) <|
        s_topi (nI (i / 100)) (nI_div (b := 100) (by omega) (by decide)) <|
        k_X8_162 h (c_X8_unlike hN hM hwf hx) (by omega) hM.o rfl rfl dX8_forged_49 <|
        PE.go <|
        s_topi (difK (mS f a) (mS f a (6 + x.toNatClampNeg)) i) rfl <|
        s_istore h dX8_forged_52 rfl <|
        s_iload h dX8_forged_54 rfl <|
        k_X8_75 h (c_X8_onesM (difK_and (mS f a) (mS f a (6 + x.toNatClampNeg)) i)) rfl rfl dX8_forged_56 <|
        PE.go <|
        s_iload_n h dX8_forged_59 rfl <|
        k_X8_75 h (c_X8_onesM (fFk_and (mS f a) (mS f a (6 + x.toNatClampNeg)) i)) rfl rfl dX8_forged_60 <|
        PE.go <|
        s_icmp_lt (tgt := 84) h dX8_forged_63 (by decide) (fun c63 => ?_) (fun c63 => ?_)
        · refine s_iconst h dX8_forged_84 ic_1 <|
          s_goto (tgt := 89) h dX8_forged_85 (by decide) <|
          s_topi (bI (ffB (difK (mS f a) (mS f a (6 + x.toNatClampNeg)) i) (fFk (mS f a) (mS f a (6 + x.toNatClampNeg)) i))) (by
            unfold ffB
            first
              | (have q : bC (difK (mS f a) (mS f a (6 + x.toNatClampNeg)) i) < bC (fFk (mS f a) (mS f a (6 + x.toNatClampNeg)) i) := c63; rw [decide_eq_true q]; rfl)
              | (have q : ¬ bC (difK (mS f a) (mS f a (6 + x.toNatClampNeg)) i) < bC (fFk (mS f a) (mS f a (6 + x.toNatClampNeg)) i) := c63; have q2 : ¬ bC (difK (mS f a) (mS f a (6 + x.toNatClampNeg)) i) = bC (fFk (mS f a) (mS f a (6 + x.toNatClampNeg)) i) := c75; rw [decide_eq_false q, decide_eq_false q2]; rfl)
              | (have q : ¬ bC (difK (mS f a) (mS f a (6 + x.toNatClampNeg)) i) < bC (fFk (mS f a) (mS f a (6 + x.toNatClampNeg)) i) := c63; have q2 : bC (difK (mS f a) (mS f a (6 + x.toNatClampNeg)) i) = bC (fFk (mS f a) (mS f a (6 + x.toNatClampNeg)) i) := c75; have q3 : ¬ (difK (mS f a) (mS f a (6 + x.toNatClampNeg)) i) < (fFk (mS f a) (mS f a (6 + x.toNatClampNeg)) i) := i32_nlt.mpr c81; rw [decide_eq_false q, decide_eq_true q2, decide_eq_false q3]; rfl)
              | (have q : ¬ bC (difK (mS f a) (mS f a (6 + x.toNatClampNeg)) i) < bC (fFk (mS f a) (mS f a (6 + x.toNatClampNeg)) i) := c63; have q2 : bC (difK (mS f a) (mS f a (6 + x.toNatClampNeg)) i) = bC (fFk (mS f a) (mS f a (6 + x.toNatClampNeg)) i) := c75; have q3 : (difK (mS f a) (mS f a (6 + x.toNatClampNeg)) i) < (fFk (mS f a) (mS f a (6 + x.toNatClampNeg)) i) := i32_nle.mp c81; rw [decide_eq_false q, decide_eq_true q2, decide_eq_true q3]; rfl)) <|
          s_istore h dX8_forged_89 rfl <|
          ?_
          exact SX.loc (J91) ⟨rfl, rfl, rfl, rfl, rfl, rfl, rfl, trivial⟩
        · refine s_iload h dX8_forged_66 rfl <|
          k_X8_75 h (c_X8_onesM (difK_and (mS f a) (mS f a (6 + x.toNatClampNeg)) i)) rfl rfl dX8_forged_68 <|
          PE.go <|
          s_iload_n h dX8_forged_71 rfl <|
          k_X8_75 h (c_X8_onesM (fFk_and (mS f a) (mS f a (6 + x.toNatClampNeg)) i)) rfl rfl dX8_forged_72 <|
          PE.go <|
          s_icmp_ne (tgt := 88) h dX8_forged_75 (by decide) (fun c75 => ?_) (fun c75 => ?_)
          · refine s_iconst h dX8_forged_88 ic_0 <|
            s_topi (bI (ffB (difK (mS f a) (mS f a (6 + x.toNatClampNeg)) i) (fFk (mS f a) (mS f a (6 + x.toNatClampNeg)) i))) (by
            unfold ffB
            first
              | (have q : bC (difK (mS f a) (mS f a (6 + x.toNatClampNeg)) i) < bC (fFk (mS f a) (mS f a (6 + x.toNatClampNeg)) i) := c63; rw [decide_eq_true q]; rfl)
              | (have q : ¬ bC (difK (mS f a) (mS f a (6 + x.toNatClampNeg)) i) < bC (fFk (mS f a) (mS f a (6 + x.toNatClampNeg)) i) := c63; have q2 : ¬ bC (difK (mS f a) (mS f a (6 + x.toNatClampNeg)) i) = bC (fFk (mS f a) (mS f a (6 + x.toNatClampNeg)) i) := c75; rw [decide_eq_false q, decide_eq_false q2]; rfl)
              | (have q : ¬ bC (difK (mS f a) (mS f a (6 + x.toNatClampNeg)) i) < bC (fFk (mS f a) (mS f a (6 + x.toNatClampNeg)) i) := c63; have q2 : bC (difK (mS f a) (mS f a (6 + x.toNatClampNeg)) i) = bC (fFk (mS f a) (mS f a (6 + x.toNatClampNeg)) i) := c75; have q3 : ¬ (difK (mS f a) (mS f a (6 + x.toNatClampNeg)) i) < (fFk (mS f a) (mS f a (6 + x.toNatClampNeg)) i) := i32_nlt.mpr c81; rw [decide_eq_false q, decide_eq_true q2, decide_eq_false q3]; rfl)
              | (have q : ¬ bC (difK (mS f a) (mS f a (6 + x.toNatClampNeg)) i) < bC (fFk (mS f a) (mS f a (6 + x.toNatClampNeg)) i) := c63; have q2 : bC (difK (mS f a) (mS f a (6 + x.toNatClampNeg)) i) = bC (fFk (mS f a) (mS f a (6 + x.toNatClampNeg)) i) := c75; have q3 : (difK (mS f a) (mS f a (6 + x.toNatClampNeg)) i) < (fFk (mS f a) (mS f a (6 + x.toNatClampNeg)) i) := i32_nle.mp c81; rw [decide_eq_false q, decide_eq_true q2, decide_eq_true q3]; rfl)) <|
            s_istore h dX8_forged_89 rfl <|
            ?_
            exact SX.loc (J91) ⟨rfl, rfl, rfl, rfl, rfl, rfl, rfl, trivial⟩
          · refine s_iload h dX8_forged_78 rfl <|
            s_iload_n h dX8_forged_80 rfl <|
            s_icmp_ge (tgt := 88) h dX8_forged_81 (by decide) (fun c81 => ?_) (fun c81 => ?_)
            · refine s_iconst h dX8_forged_88 ic_0 <|
              s_topi (bI (ffB (difK (mS f a) (mS f a (6 + x.toNatClampNeg)) i) (fFk (mS f a) (mS f a (6 + x.toNatClampNeg)) i))) (by
            unfold ffB
            first
              | (have q : bC (difK (mS f a) (mS f a (6 + x.toNatClampNeg)) i) < bC (fFk (mS f a) (mS f a (6 + x.toNatClampNeg)) i) := c63; rw [decide_eq_true q]; rfl)
              | (have q : ¬ bC (difK (mS f a) (mS f a (6 + x.toNatClampNeg)) i) < bC (fFk (mS f a) (mS f a (6 + x.toNatClampNeg)) i) := c63; have q2 : ¬ bC (difK (mS f a) (mS f a (6 + x.toNatClampNeg)) i) = bC (fFk (mS f a) (mS f a (6 + x.toNatClampNeg)) i) := c75; rw [decide_eq_false q, decide_eq_false q2]; rfl)
              | (have q : ¬ bC (difK (mS f a) (mS f a (6 + x.toNatClampNeg)) i) < bC (fFk (mS f a) (mS f a (6 + x.toNatClampNeg)) i) := c63; have q2 : bC (difK (mS f a) (mS f a (6 + x.toNatClampNeg)) i) = bC (fFk (mS f a) (mS f a (6 + x.toNatClampNeg)) i) := c75; have q3 : ¬ (difK (mS f a) (mS f a (6 + x.toNatClampNeg)) i) < (fFk (mS f a) (mS f a (6 + x.toNatClampNeg)) i) := i32_nlt.mpr c81; rw [decide_eq_false q, decide_eq_true q2, decide_eq_false q3]; rfl)
              | (have q : ¬ bC (difK (mS f a) (mS f a (6 + x.toNatClampNeg)) i) < bC (fFk (mS f a) (mS f a (6 + x.toNatClampNeg)) i) := c63; have q2 : bC (difK (mS f a) (mS f a (6 + x.toNatClampNeg)) i) = bC (fFk (mS f a) (mS f a (6 + x.toNatClampNeg)) i) := c75; have q3 : (difK (mS f a) (mS f a (6 + x.toNatClampNeg)) i) < (fFk (mS f a) (mS f a (6 + x.toNatClampNeg)) i) := i32_nle.mp c81; rw [decide_eq_false q, decide_eq_true q2, decide_eq_true q3]; rfl)) <|
              s_istore h dX8_forged_89 rfl <|
              ?_
              exact SX.loc (J91) ⟨rfl, rfl, rfl, rfl, rfl, rfl, rfl, trivial⟩
            · refine s_iconst h dX8_forged_84 ic_1 <|
              s_goto (tgt := 89) h dX8_forged_85 (by decide) <|
              s_topi (bI (ffB (difK (mS f a) (mS f a (6 + x.toNatClampNeg)) i) (fFk (mS f a) (mS f a (6 + x.toNatClampNeg)) i))) (by
            unfold ffB
            first
              | (have q : bC (difK (mS f a) (mS f a (6 + x.toNatClampNeg)) i) < bC (fFk (mS f a) (mS f a (6 + x.toNatClampNeg)) i) := c63; rw [decide_eq_true q]; rfl)
              | (have q : ¬ bC (difK (mS f a) (mS f a (6 + x.toNatClampNeg)) i) < bC (fFk (mS f a) (mS f a (6 + x.toNatClampNeg)) i) := c63; have q2 : ¬ bC (difK (mS f a) (mS f a (6 + x.toNatClampNeg)) i) = bC (fFk (mS f a) (mS f a (6 + x.toNatClampNeg)) i) := c75; rw [decide_eq_false q, decide_eq_false q2]; rfl)
              | (have q : ¬ bC (difK (mS f a) (mS f a (6 + x.toNatClampNeg)) i) < bC (fFk (mS f a) (mS f a (6 + x.toNatClampNeg)) i) := c63; have q2 : bC (difK (mS f a) (mS f a (6 + x.toNatClampNeg)) i) = bC (fFk (mS f a) (mS f a (6 + x.toNatClampNeg)) i) := c75; have q3 : ¬ (difK (mS f a) (mS f a (6 + x.toNatClampNeg)) i) < (fFk (mS f a) (mS f a (6 + x.toNatClampNeg)) i) := i32_nlt.mpr c81; rw [decide_eq_false q, decide_eq_true q2, decide_eq_false q3]; rfl)
              | (have q : ¬ bC (difK (mS f a) (mS f a (6 + x.toNatClampNeg)) i) < bC (fFk (mS f a) (mS f a (6 + x.toNatClampNeg)) i) := c63; have q2 : bC (difK (mS f a) (mS f a (6 + x.toNatClampNeg)) i) = bC (fFk (mS f a) (mS f a (6 + x.toNatClampNeg)) i) := c75; have q3 : (difK (mS f a) (mS f a (6 + x.toNatClampNeg)) i) < (fFk (mS f a) (mS f a (6 + x.toNatClampNeg)) i) := i32_nle.mp c81; rw [decide_eq_false q, decide_eq_true q2, decide_eq_true q3]; rfl)) <|
              s_istore h dX8_forged_89 rfl <|
              ?_
              exact SX.loc (J91) ⟨rfl, rfl, rfl, rfl, rfl, rfl, rfl, trivial⟩
    · have e17 := bI_0 c17
      refine s_bipush h dX8_forged_20 bp_m2 <|
        s_iret h he rfl dX8_forged_22 ⟨Nat.le_refl _, Nat.le_refl _⟩ ?_
      first
        | (have q := bI_0 c5; exact PE.eq (by rw [fgR, q]; rfl) rfl)
        | exact PE.eq (by rw [fgR, e5, e17]; rfl) rfl
  · refine s_iconst h dX8_forged_8 ic_m1 <|
      s_iret h he rfl dX8_forged_9 ⟨Nat.le_refl _, Nat.le_refl _⟩ ?_
    first
      | (have q := bI_0 c5; exact PE.eq (by rw [fgR, q]; rfl) rfl)
      | exact PE.eq (by rw [fgR, e5, e17]; rfl) rfl
