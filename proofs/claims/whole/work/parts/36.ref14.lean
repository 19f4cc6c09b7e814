def mtP (cp : Nat → Nat → Bool) (T : Nat → Int32) (s l j : Nat) : Bool := (Nat.testBit (clr s l) j && cp l j) && decide (1 + T (clr (clr s l) j) = T s)
def mtR (cp : Nat → Nat → Bool) (T : Nat → Int32) (s l : Nat) : Int32 := match ffO (fun i => mtP cp T s l (l + 1 + i)) (9 - l) with
  | some i => nI (l + 1 + i)
  | none => -6
theorem mtR_some {cp : Nat → Nat → Bool} {T : Nat → Int32} {s l i : Nat} (h : ffO (fun i => mtP cp T s l (l + 1 + i)) (9 - l) = some i) : mtR cp T s l = nI (l + 1 + i) := by unfold mtR; rw [h]
theorem mtR_none {cp : Nat → Nat → Bool} {T : Nat → Int32} {s l : Nat} (h : ffO (fun i => mtP cp T s l (l + 1 + i)) (9 - l) = none) : mtR cp T s l = -6 := by unfold mtR; rw [h]
theorem mtR_v (cp : Nat → Nat → Bool) (T : Nat → Int32) (s : Nat) {l : Nat} (hl : l < 10) : mtR cp T s l = -6 ∨ ∃ j, j < 10 ∧ mtR cp T s l = nI j := by
  rcases ffO_cases (fun i => mtP cp T s l (l + 1 + i)) (9 - l) with ⟨h1, h2⟩ | ⟨j, h1, h2, h3, h4⟩
  · exact Or.inl (mtR_none h1)
  · exact Or.inr ⟨l + 1 + j, by omega, mtR_some h4⟩
def lsN (m : Nat) : Nat := (ffO (Nat.testBit m) 10).getD 0
theorem lsN_of {m l : Nat} (h : isLs m l) : lsN m = l := by unfold lsN; rw [ffO_some h.1 h.2.1 h.2.2]; rfl
def nxt (s l : Nat) (mt : Int32) : Nat := if mt < 0 then clr s l else clr (clr s l) mt.toNatClampNeg
/-- who stands beside p, told by serving the least of what is left -/
def pw (cp : Nat → Nat → Bool) (T : Nat → Int32) (p : Int32) : Nat → Nat → Int32
  | 0, _ => -6
  | k + 1, s => if s = 0 then -6 else if nI (lsN s) = p ∨ mtR cp T s (lsN s) = p then (if nI (lsN s) = p then mtR cp T s (lsN s) else nI (lsN s)) else pw cp T p k (nxt s (lsN s) (mtR cp T s (lsN s)))
theorem pw_0 (cp : Nat → Nat → Bool) (T : Nat → Int32) (p : Int32) : ∀ k, pw cp T p k 0 = -6
  | 0 => rfl
  | _ + 1 => rfl
theorem pw_hit {cp : Nat → Nat → Bool} {T : Nat → Int32} {p : Int32} {k s l : Nat} (h0 : ¬ s = 0) (hl : isLs s l) (h : nI l = p ∨ mtR cp T s l = p) : pw cp T p (k + 1) s = if nI l = p then mtR cp T s l else nI l := by
  unfold pw; rw [if_neg h0, lsN_of hl, if_pos h]
theorem pw_go {cp : Nat → Nat → Bool} {T : Nat → Int32} {p : Int32} {k s l : Nat} (h0 : ¬ s = 0) (hl : isLs s l) (h : ¬ nI l = p) (h2 : ¬ mtR cp T s l = p) : pw cp T p (k + 1) s = pw cp T p k (nxt s l (mtR cp T s l)) := by
  conv => lhs; unfold pw
  rw [if_neg h0, lsN_of hl, if_neg (fun z => z.elim h h2)]
theorem c_X8_mateOf {l : Launch} {D : va_G} {N : Nat} {adr : Nat → Nat} {G : Nat → va_E} {G0 : Nat → va_E} {f f0 : Nat → Int32} {a a0 : Nat → Nat → Int32} (hN : 115 ≤ N) (hM : isMF D adr G0 G f a) (hs : sM f0 a0 f a) (hwc : wfC (mS f0 a0)) {s lw : Nat} (hs1 : s < 1024) (hl : isLs s lw) :
    CT l D yX8_mateOf cX8_mateOf 6 (some FieldType.int) (rl 3) [.ref (adr 103), .int (nI s)] N adr G (PE (some (.int (mtR (cw (mS f0 a0)) (a 111) s lw))) N adr G) := by
  have hr : (clr s lw) < 1024 := Nat.lt_of_le_of_lt (clr_le _ _) hs1
  refine CT.of (by decide +kernel) (Nat.le_of_ble_eq_true rfl) (fun Γ h he => ?_)
  have h : cx l D (rl 3) RX8 cX8_mateOf 6 Γ := h
  show SX Γ 0 0 0 [(0, .ref (adr 103)), (1, .int (nI s))] [] N adr G
  refine s_iload_n h dX8_mateOf_0 rfl <|
    k_X8_147 h (c_X8_leastIn hs1 hl) rfl rfl dX8_mateOf_1 <|
    PE.go <|
    s_istore_n h dX8_mateOf_4 rfl <|
    s_iload_n h dX8_mateOf_5 rfl <|
    s_iconst h dX8_mateOf_6 ic_1 <|
    s_iload_n h dX8_mateOf_7 rfl <|
    s_ishl h dX8_mateOf_8 <|
    s_iconst h dX8_mateOf_9 ic_m1 <|
    s_ixor h dX8_mateOf_10 <|
    s_iand h dX8_mateOf_11 <|
    s_topi (nI (clr s lw)) (clr_wo _ hs1 _ hl.1) <|
    s_istore_n h dX8_mateOf_12 rfl <|
    s_iload_n h dX8_mateOf_13 rfl <|
    s_iconst h dX8_mateOf_14 ic_1 <|
    s_iadd h dX8_mateOf_15 <|
    s_topi (nI (lw + 1 + 0)) (nI_1 lw) <|
    s_istore h dX8_mateOf_16 rfl <|
    ?_
  refine SX.loc (up_ind (n := (9 - lw)) (Q := fun i => (∀ z, z < i → (fun i => mtP (cw (mS f0 a0)) (a 111) s lw (lw + 1 + i)) z = false) → SX Γ 0 0 18 [(0, .ref (adr 103)), (1, .int (nI s)), (2, .int (nI lw)), (3, .int (nI (clr s lw))), (4, .int (nI (lw + 1 + i)))] [] N adr G) ?_ ?_ 0 (Nat.zero_le _) nh_0) ⟨rfl, rfl, rfl, rfl, rfl, trivial⟩
  · intro hH
    show SX _ _ _ _ _ _ _ _ _
    refine s_iload h dX8_mateOf_18 rfl <|
    s_bipush h dX8_mateOf_20 bp_10 <|
    s_icmp_ge (tgt := 90) h dX8_mateOf_22 (by decide) (kf := fun qx => absurd (nI_le (show 10 ≤ lw + 1 + (9 - lw) from by omega) (by have := hl.1; omega)) qx) (kt := fun _ => ?_)
    refine s_bipush h dX8_mateOf_90 bp_m6 <|
    s_iret h he rfl dX8_mateOf_92 ⟨Nat.le_refl _, Nat.le_refl _⟩ ?_
    first
      | (have q := bI_1 c54; exact PE.eq (by rw [mtR_some (ffO_some (n := 9 - lw) hi (by show mtP _ _ _ _ _ = true; unfold mtP; rw [q, decide_eq_true c78]; rfl) hH)]) rfl)
      | exact PE.eq (by rw [mtR_none (ffO_none hH)]) rfl
  · intro i hi ih hH
    show SX _ _ _ _ _ _ _ _ _
    refine s_iload h dX8_mateOf_18 rfl <|
    s_bipush h dX8_mateOf_20 bp_10 <|
    s_icmp_ge (tgt := 90) h dX8_mateOf_22 (by decide) (kt := fun qx => absurd qx (nI_ge (show lw + 1 + i < 10 from by omega) (by decide))) (kf := fun _ => ?_)
    refine s_iload_n h dX8_mateOf_25 rfl <|
    s_iload h dX8_mateOf_26 rfl <|
    s_ishr h dX8_mateOf_28 <|
    s_iconst h dX8_mateOf_29 ic_1 <|
    s_iand h dX8_mateOf_30 <|
    s_iconst h dX8_mateOf_31 ic_1 <|
    s_icmp_ne (tgt := 49) h dX8_mateOf_32 (by decide) (fun c32 => ?_) (fun c32 => ?_)
    · refine s_iconst h dX8_mateOf_49 ic_0 <|
      s_topi (bI (Nat.testBit (clr s lw) (lw + 1 + i) && cw (mS f0 a0) lw (lw + 1 + i))) (by first | (rw [tb_i _ hr _ (by omega)] at c32; cases q : Nat.testBit (clr s lw) (lw + 1 + i) <;> rw [q] at c32 <;> first | exact absurd rfl c32 | (rw [Bool.false_and]; rfl)) | (rw [tb_i _ hr _ (by omega)] at c32; cases q : Nat.testBit (clr s lw) (lw + 1 + i) <;> rw [q] at c32 <;> first | exact absurd c32 (by decide) | (rw [Bool.true_and]; first | (rw [bI_1 c42]; rfl) | (rw [bI_0 c42]; rfl)))) <|
      s_istore h dX8_mateOf_50 rfl <|
      s_iload h dX8_mateOf_52 rfl <|
      s_if_eq (tgt := 84) h dX8_mateOf_54 (by decide) (fun c54 => ?_) (fun c54 => ?_)
      · refine s_iincR h dX8_mateOf_84 rfl rfl ic_1 (nI_1 _) <|
        s_goto (tgt := 18) h dX8_mateOf_87 (by decide) <|
        ?_
        first
          | (have q := bI_0 c54; exact SX.loc (ih (nh_s hH (by show mtP _ _ _ _ _ = false; unfold mtP; rw [q]; rfl))) ⟨rfl, rfl, rfl, rfl, rfl, trivial⟩)
          | exact SX.loc (ih (nh_s hH (by show mtP _ _ _ _ _ = false; unfold mtP; rw [decide_eq_false c78, Bool.and_false]))) ⟨rfl, rfl, rfl, rfl, rfl, trivial⟩
      · refine s_iconst h dX8_mateOf_57 ic_1 <|
        s_aload_n h dX8_mateOf_58 rfl <|
        gm_31 h dX8_mateOf_59 hN hM <|
        s_iload_n h dX8_mateOf_62 rfl <|
        s_iconst h dX8_mateOf_63 ic_1 <|
        s_iload h dX8_mateOf_64 rfl <|
        s_ishl h dX8_mateOf_66 <|
        s_iconst h dX8_mateOf_67 ic_m1 <|
        s_ixor h dX8_mateOf_68 <|
        s_iand h dX8_mateOf_69 <|
        s_topi (nI (clr (clr s lw) (lw + 1 + i))) (clr_wo _ hr _ (by omega)) <|
        s_iald h dX8_mateOf_70 (by omega) hM.a111 (ix_n (Nat.lt_of_le_of_lt (clr_le _ _) hr) (by decide)) rfl <|
        s_iadd h dX8_mateOf_71 <|
        s_aload_n h dX8_mateOf_72 rfl <|
        gm_31 h dX8_mateOf_73 hN hM <|
        s_iload_n h dX8_mateOf_76 rfl <|
        s_iald h dX8_mateOf_77 (by omega) hM.a111 (ix_n hs1 (by decide)) rfl <|
        s_icmp_ne (tgt := 84) h dX8_mateOf_78 (by decide) (fun c78 => ?_) (fun c78 => ?_)
        · refine s_iincR h dX8_mateOf_84 rfl rfl ic_1 (nI_1 _) <|
          s_goto (tgt := 18) h dX8_mateOf_87 (by decide) <|
          ?_
          first
            | (have q := bI_0 c54; exact SX.loc (ih (nh_s hH (by show mtP _ _ _ _ _ = false; unfold mtP; rw [q]; rfl))) ⟨rfl, rfl, rfl, rfl, rfl, trivial⟩)
            | exact SX.loc (ih (nh_s hH (by show mtP _ _ _ _ _ = false; unfold mtP; rw [decide_eq_false c78, Bool.and_false]))) ⟨rfl, rfl, rfl, rfl, rfl, trivial⟩
        · refine s_iload h dX8_mateOf_81 rfl <|
          s_iret h he rfl dX8_mateOf_83 ⟨Nat.le_refl _, Nat.le_refl _⟩ ?_
          first
            | (have q := bI_1 c54; exact PE.eq (by rw [mtR_some (ffO_some (n := 9 - lw) hi (by show mtP _ _ _ _ _ = true; unfold mtP; rw [q, decide_eq_true c78]; rfl) hH)]) rfl)
            | exact PE.eq (by rw [mtR_none (ffO_none hH)]) rfl
    · refine s_aload_n h dX8_mateOf_35 rfl <|
      s_iload_n h dX8_mateOf_36 rfl <|
      s_iload h dX8_mateOf_37 rfl <|
      k_X8_150 h (c_X8_canPairS hN hM hs (ix_n hl.1 (by decide)) (ix_n (show lw + 1 + i < 10 from by omega) (by decide)) hwc) (by omega) hM.o rfl rfl dX8_mateOf_39 <|
      PE.go <|
      s_if_eq (tgt := 49) h dX8_mateOf_42 (by decide) (fun c42 => ?_) (fun c42 => ?_)
      · refine s_iconst h dX8_mateOf_49 ic_0 <|
        s_topi (bI (Nat.testBit (clr s lw) (lw + 1 + i) && cw (mS f0 a0) lw (lw + 1 + i))) (by first | (rw [tb_i _ hr _ (by omega)] at c32; cases q : Nat.testBit (clr s lw) (lw + 1 + i) <;> rw [q] at c32 <;> first | exact absurd rfl c32 | (rw [Bool.false_and]; rfl)) | (rw [tb_i _ hr _ (by omega)] at c32; cases q : Nat.testBit (clr s lw) (lw + 1 + i) <;> rw [q] at c32 <;> first | exact absurd c32 (by decide) | (rw [Bool.true_and]; first | (rw [bI_1 c42]; rfl) | (rw [bI_0 c42]; rfl)))) <|
        s_istore h dX8_mateOf_50 rfl <|
        s_iload h dX8_mateOf_52 rfl <|
        s_if_eq (tgt := 84) h dX8_mateOf_54 (by decide) (fun c54 => ?_) (fun c54 => ?_)
        · refine s_iincR h dX8_mateOf_84 rfl rfl ic_1 (nI_1 _) <|
          s_goto (tgt := 18) h dX8_mateOf_87 (by decide) <|
          ?_
          first
            | (have q := bI_0 c54; exact SX.loc (ih (nh_s hH (by show mtP _ _ _ _ _ = false; unfold mtP; rw [q]; rfl))) ⟨rfl, rfl, rfl, rfl, rfl, trivial⟩)
            | exact SX.loc (ih (nh_s hH (by show mtP _ _ _ _ _ = false; unfold mtP; rw [decide_eq_false c78, Bool.and_false]))) ⟨rfl, rfl, rfl, rfl, rfl, trivial⟩
        · refine s_iconst h dX8_mateOf_57 ic_1 <|
          s_aload_n h dX8_mateOf_58 rfl <|
          gm_31 h dX8_mateOf_59 hN hM <|
          s_iload_n h dX8_mateOf_62 rfl <|
          s_iconst h dX8_mateOf_63 ic_1 <|
          s_iload h dX8_mateOf_64 rfl <|
          s_ishl h dX8_mateOf_66 <|
          s_iconst h dX8_mateOf_67 ic_m1 <|
          s_ixor h dX8_mateOf_68 <|
          s_iand h dX8_mateOf_69 <|
          s_topi (nI (clr (clr s lw) (lw + 1 + i))) (clr_wo _ hr _ (by omega)) <|
          s_iald h dX8_mateOf_70 (by omega) hM.a111 (ix_n (Nat.lt_of_le_of_lt (clr_le _ _) hr) (by decide)) rfl <|
          s_iadd h dX8_mateOf_71 <|
          s_aload_n h dX8_mateOf_72 rfl <|
          gm_31 h dX8_mateOf_73 hN hM <|
          s_iload_n h dX8_mateOf_76 rfl <|
          s_iald h dX8_mateOf_77 (by omega) hM.a111 (ix_n hs1 (by decide)) rfl <|
          s_icmp_ne (tgt := 84) h dX8_mateOf_78 (by decide) (fun c78 => ?_) (fun c78 => ?_)
          · refine s_iincR h dX8_mateOf_84 rfl rfl ic_1 (nI_1 _) <|
            s_goto (tgt := 18) h dX8_mateOf_87 (by decide) <|
            ?_
            first
              | (have q := bI_0 c54; exact SX.loc (ih (nh_s hH (by show mtP _ _ _ _ _ = false; unfold mtP; rw [q]; rfl))) ⟨rfl, rfl, rfl, rfl, rfl, trivial⟩)
              | exact SX.loc (ih (nh_s hH (by show mtP _ _ _ _ _ = false; unfold mtP; rw [decide_eq_false c78, Bool.and_false]))) ⟨rfl, rfl, rfl, rfl, rfl, trivial⟩
          · refine s_iload h dX8_mateOf_81 rfl <|
            s_iret h he rfl dX8_mateOf_83 ⟨Nat.le_refl _, Nat.le_refl _⟩ ?_
            first
              | (have q := bI_1 c54; exact PE.eq (by rw [mtR_some (ffO_some (n := 9 - lw) hi (by show mtP _ _ _ _ _ = true; unfold mtP; rw [q, decide_eq_true c78]; rfl) hH)]) rfl)
              | exact PE.eq (by rw [mtR_none (ffO_none hH)]) rfl
      · refine s_iconst h dX8_mateOf_45 ic_1 <|
        s_goto (tgt := 50) h dX8_mateOf_46 (by decide) <|
        s_topi (bI (Nat.testBit (clr s lw) (lw + 1 + i) && cw (mS f0 a0) lw (lw + 1 + i))) (by first | (rw [tb_i _ hr _ (by omega)] at c32; cases q : Nat.testBit (clr s lw) (lw + 1 + i) <;> rw [q] at c32 <;> first | exact absurd rfl c32 | (rw [Bool.false_and]; rfl)) | (rw [tb_i _ hr _ (by omega)] at c32; cases q : Nat.testBit (clr s lw) (lw + 1 + i) <;> rw [q] at c32 <;> first | exact absurd c32 (by decide) | (rw [Bool.true_and]; first | (rw [bI_1 c42]; rfl) | (rw [bI_0 c42]; rfl)))) <|
        s_istore h dX8_mateOf_50 rfl <|
        s_iload h dX8_mateOf_52 rfl <|
        s_if_eq (tgt := 84) h dX8_mateOf_54 (by decide) (fun c54 => ?_) (fun c54 => ?_)
        · refine s_iincR h dX8_mateOf_84 rfl rfl ic_1 (nI_1 _) <|
          s_goto (tgt := 18) h dX8_mateOf_87 (by decide) <|
          ?_
          first
            | (have q := bI_0 c54; exact SX.loc (ih (nh_s hH (by show mtP _ _ _ _ _ = false; unfold mtP; rw [q]; rfl))) ⟨rfl, rfl, rfl, rfl, rfl, trivial⟩)
            | exact SX.loc (ih (nh_s hH (by show mtP _ _ _ _ _ = false; unfold mtP; rw [decide_eq_false c78, Bool.and_false]))) ⟨rfl, rfl, rfl, rfl, rfl, trivial⟩
        · refine s_iconst h dX8_mateOf_57 ic_1 <|
          s_aload_n h dX8_mateOf_58 rfl <|
          gm_31 h dX8_mateOf_59 hN hM <|
          s_iload_n h dX8_mateOf_62 rfl <|
          s_iconst h dX8_mateOf_63 ic_1 <|
          s_iload h dX8_mateOf_64 rfl <|
          s_ishl h dX8_mateOf_66 <|
          s_iconst h dX8_mateOf_67 ic_m1 <|
          s_ixor h dX8_mateOf_68 <|
          s_iand h dX8_mateOf_69 <|
          s_topi (nI (clr (clr s lw) (lw + 1 + i))) (clr_wo _ hr _ (by omega)) <|
          s_iald h dX8_mateOf_70 (by omega) hM.a111 (ix_n (Nat.lt_of_le_of_lt (clr_le _ _) hr) (by decide)) rfl <|
          s_iadd h dX8_mateOf_71 <|
          s_aload_n h dX8_mateOf_72 rfl <|
          gm_31 h dX8_mateOf_73 hN hM <|
          s_iload_n h dX8_mateOf_76 rfl <|
          s_iald h dX8_mateOf_77 (by omega) hM.a111 (ix_n hs1 (by decide)) rfl <|
          s_icmp_ne (tgt := 84) h dX8_mateOf_78 (by decide) (fun c78 => ?_) (fun c78 => ?_)
          · refine s_iincR h dX8_mateOf_84 rfl rfl ic_1 (nI_1 _) <|
            s_goto (tgt := 18) h dX8_mateOf_87 (by decide) <|
            ?_
            first
              | (have q := bI_0 c54; exact SX.loc (ih (nh_s hH (by show mtP _ _ _ _ _ = false; unfold mtP; rw [q]; rfl))) ⟨rfl, rfl, rfl, rfl, rfl, trivial⟩)
              | exact SX.loc (ih (nh_s hH (by show mtP _ _ _ _ _ = false; unfold mtP; rw [decide_eq_false c78, Bool.and_false]))) ⟨rfl, rfl, rfl, rfl, rfl, trivial⟩
          · refine s_iload h dX8_mateOf_81 rfl <|
            s_iret h he rfl dX8_mateOf_83 ⟨Nat.le_refl _, Nat.le_refl _⟩ ?_
            first
              | (have q := bI_1 c54; exact PE.eq (by rw [mtR_some (ffO_some (n := 9 - lw) hi (by show mtP _ _ _ _ _ = true; unfold mtP; rw [q, decide_eq_true c78]; rfl) hH)]) rfl)
              | exact PE.eq (by rw [mtR_none (ffO_none hH)]) rfl
def mmOk (f : Nat → Int32) (s p : Int32) : Bool := (wb s 0 1023 && decide (s &&& (f 5 ^^^ -1) = 0)) && (decide (p = -1) || (wb p 0 9 && hb s p))
def mmR (f : Nat → Int32) (sc : Nat → Nat → Int32) (T : Nat → Int32) (s p : Int32) : Int32 := if mmOk f s p then (if p = -1 then T s.toNatClampNeg else pw (cw sc) T p s.toNatClampNeg s.toNatClampNeg) else -1
theorem mmR_n {f : Nat → Int32} {sc : Nat → Nat → Int32} {T : Nat → Int32} {s p : Int32} (h : mmOk f s p = false) : mmR f sc T s p = -1 := if_neg (fun z => Bool.false_ne_true (h.symm.trans z))
theorem mmR_1 {f : Nat → Int32} {sc : Nat → Nat → Int32} {T : Nat → Int32} {p : Int32} {M : Nat} (hM : M < 1024) (h : mmOk f (nI M) p = true) (h2 : p = -1) : mmR f sc T (nI M) p = T M := by
  unfold mmR; rw [if_pos h, if_pos h2, nI_clamp (by omega)]
theorem mmR_2 {f : Nat → Int32} {sc : Nat → Nat → Int32} {T : Nat → Int32} {p : Int32} {M : Nat} (hM : M < 1024) (h : mmOk f (nI M) p = true) (h2 : ¬ p = -1) : mmR f sc T (nI M) p = pw (cw sc) T p M M := by
  unfold mmR; rw [if_pos h, if_neg h2, nI_clamp (by omega)]
def PMm (D : va_G) (adr : Nat → Nat) (G0 : Nat → va_E) (f : Nat → Int32) (a : Nat → Nat → Int32) (s p : Int32) (N : Nat) : PT := fun v N' adr' W => N' = N ∧ adr' = adr ∧ ∃ b, isMF D adr G0 W f b ∧ sM f a f b ∧ ∃ T, (mmOk f s p = true → Tab (cw (mS f a)) s.toNatClampNeg (s.toNatClampNeg + 1) T) ∧ v = some (.int (mmR f (mS f a) T s p))
theorem c_X8_match {l : Launch} {D : va_G} {N : Nat} {adr : Nat → Nat} {G : Nat → va_E} {G0 : Nat → va_E} {f : Nat → Int32} {a : Nat → Nat → Int32} (hN : 115 ≤ N) (hM : isMF D adr G0 G f a) (hwc : wfC (mS f a)) {s p : Int32} :
    CT l D yX8_match cX8_match 7 (some FieldType.int) (rl 4) [.ref (adr 103), .int s, .int p] N adr G (PMm D adr G0 f a s p N) := by
  refine CT.of (by decide +kernel) (Nat.le_of_ble_eq_true rfl) (fun Γ h he => ?_)
  have h : cx l D (rl 4) RX8 cX8_match 7 Γ := h
  show SX Γ 0 0 0 [(0, .ref (adr 103)), (1, .int s), (2, .int p)] [] N adr G
  have J32 : SX Γ 0 0 32 [(0, .ref (adr 103)), (1, .int s), (2, .int p), (3, .int (bI (decide (p = -1) || (wb p 0 9 && hb s p))))] [] N adr G := by
    refine s_iload_n h dX8_match_32 rfl <|
      s_i2l h dX8_match_33 <|
      s_lconst h dX8_match_34 lc_0 <|
      s_ldc2 h dX8_match_35 tw816 <|
      k_X8_50 h (c_X8_inw (a := 0) (b := 1023) (by decide) (by decide)) rfl rfl dX8_match_38 <|
      PE.go <|
      s_if_eq (tgt := 59) h dX8_match_41 (by decide) (fun c41 => ?_) (fun c41 => ?_)
    · refine s_iconst h dX8_match_59 ic_m1 <|
        s_iret h he rfl dX8_match_60 ⟨Nat.le_refl _, Nat.le_refl _⟩ ?_
      have hno : mmOk f s p = false := by
        unfold mmOk
        first
          | (rw [bI_0 c41]; rfl)
          | (rw [decide_eq_false c52, Bool.and_false]; rfl)
          | (rw [bI_0 c56, Bool.and_false])
      exact ⟨rfl, rfl, a, hM, sM.refl _ _, fun _ => 0, fun z => absurd z (by rw [hno]; decide), by rw [mmR_n hno]⟩
    · refine s_iload_n h dX8_match_44 rfl <|
        s_aload_n h dX8_match_45 rfl <|
        gm_61 h dX8_match_46 hN hM <|
        s_iconst h dX8_match_49 ic_m1 <|
        s_ixor h dX8_match_50 <|
        s_iand h dX8_match_51 <|
        s_if_ne (tgt := 59) h dX8_match_52 (by decide) (fun c52 => ?_) (fun c52 => ?_)
      · refine s_iconst h dX8_match_59 ic_m1 <|
          s_iret h he rfl dX8_match_60 ⟨Nat.le_refl _, Nat.le_refl _⟩ ?_
        have hno : mmOk f s p = false := by
          unfold mmOk
          first
            | (rw [bI_0 c41]; rfl)
            | (rw [decide_eq_false c52, Bool.and_false]; rfl)
            | (rw [bI_0 c56, Bool.and_false])
        exact ⟨rfl, rfl, a, hM, sM.refl _ _, fun _ => 0, fun z => absurd z (by rw [hno]; decide), by rw [mmR_n hno]⟩
      · refine s_iload_n h dX8_match_55 rfl <|
          s_if_ne (tgt := 61) h dX8_match_56 (by decide) (fun c56 => ?_) (fun c56 => ?_)
        · have hok : mmOk f s p = true := by unfold mmOk; rw [bI_1 c41, decide_eq_true c52, bI_1 c56]; rfl
          have hixs := wb_ix (n := 1023) (by decide) rfl (bI_1 c41)
          obtain ⟨M, hMM⟩ : ∃ M, s.toNatClampNeg = M := ⟨_, rfl⟩
          have hse := ix_eq hixs
          rw [hMM] at hse hixs
          have hM1 : M < 1024 := hixs.2.2
          subst hse
          refine s_aload_n h dX8_match_61 rfl <|
            s_iload_n h dX8_match_62 rfl <|
            k_X8_155 h (c_X8_findMost hN hM (sM.refl f a) hwc hM1) (by omega) hM.o rfl rfl dX8_match_63 (PR.go0 fun V hV => ?_)
          obtain ⟨b, hM, hs, hT⟩ := hV
          have hT2 : Tab (cw (mS f a)) (nI M).toNatClampNeg ((nI M).toNatClampNeg + 1) (b 111) := by rw [nI_clamp (by omega)]; exact hT
          refine s_iload_n h dX8_match_66 rfl <|
            s_iconst h dX8_match_67 ic_m1 <|
            s_icmp_ne (tgt := 78) h dX8_match_68 (by decide) (fun c68 => ?_) (fun c68 => ?_)
          · refine s_iload_n h dX8_match_78 rfl <|
              s_istore h dX8_match_79 rfl <|
              ?_
            have key : ∀ (k s : Nat), s ≤ k → s < 1024 → pw (cw (mS f a)) (b 111) p k s = mmR f (mS f a) (b 111) (nI M) p → SX Γ 0 0 81 [(0, .ref (adr 103)), (1, .int (nI M)), (2, .int p), (4, .int (nI s))] [] N adr V := by
              intro k
              induction k with
              | zero =>
                intro s hk hs1 hv
                have h0 : s = 0 := by omega
                subst h0
                refine s_iload h dX8_match_81 rfl <|
                    s_if_eq (tgt := 162) h dX8_match_83 (by decide) (kf := fun qx => absurd (rfl) qx) (kt := fun _ => ?_)
                refine s_bipush h dX8_match_162 bp_m6 <|
                    s_iret h he rfl dX8_match_164 ⟨Nat.le_refl _, Nat.le_refl _⟩ ?_
                exact ⟨rfl, rfl, b, hM, hs, b 111, fun _ => hT2, by rw [← hv, pw_0]⟩
              | succ k ih =>
                intro s hk hs1 hv
                by_cases h0 : s = 0
                · subst h0
                  refine s_iload h dX8_match_81 rfl <|
                    s_if_eq (tgt := 162) h dX8_match_83 (by decide) (kf := fun qx => absurd (rfl) qx) (kt := fun _ => ?_)
                  refine s_bipush h dX8_match_162 bp_m6 <|
                    s_iret h he rfl dX8_match_164 ⟨Nat.le_refl _, Nat.le_refl _⟩ ?_
                  exact ⟨rfl, rfl, b, hM, hs, b 111, fun _ => hT2, by rw [← hv, pw_0]⟩
                · obtain ⟨lw, hl⟩ := isLs_ex hs1 h0
                  refine s_iload h dX8_match_81 rfl <|
                    s_if_eq (tgt := 162) h dX8_match_83 (by decide) (kt := fun qx => absurd qx (nI_ne0 (by omega) (by omega))) (kf := fun _ => ?_)
                  refine s_iload h dX8_match_86 rfl <|
                    k_X8_147 h (c_X8_leastIn hs1 hl) rfl rfl dX8_match_88 <|
                    PE.go <|
                    s_istore h dX8_match_91 rfl <|
                    s_aload_n h dX8_match_93 rfl <|
                    s_iload h dX8_match_94 rfl <|
                    k_X8_159 h (c_X8_mateOf hN hM hs hwc hs1 hl) (by omega) hM.o rfl rfl dX8_match_96 <|
                    PE.go <|
                    ?_
                  rcases mtR_v (cw (mS f a)) (b 111) s hl.1 with hm | ⟨j, hj, hm⟩
                  · rw [hm]
                    refine s_istore h dX8_match_99 rfl <|
                            s_iload h dX8_match_101 rfl <|
                            s_iload_n h dX8_match_103 rfl <|
                            s_icmp_eq (tgt := 113) h dX8_match_104 (by decide) (fun c104 => ?_) (fun c104 => ?_)
                    · refine s_iload h dX8_match_113 rfl <|
                              s_iload_n h dX8_match_115 rfl <|
                              s_icmp_ne (tgt := 124) h dX8_match_116 (by decide) (fun c116 => ?_) (fun c116 => ?_)
                      · refine s_iload h dX8_match_124 rfl <|
                                s_iret h he rfl dX8_match_126 ⟨Nat.le_refl _, Nat.le_refl _⟩ ?_
                        first
                          | exact absurd c104 c116
                          | exact absurd c116 c104
                          | (have q : nI lw = p := c104; exact ⟨rfl, rfl, b, hM, hs, b 111, fun _ => hT2, by rw [← hv, pw_hit h0 hl (Or.inl q), if_pos q, hm]⟩)
                          | (have q : ¬ nI lw = p := c116; exact ⟨rfl, rfl, b, hM, hs, b 111, fun _ => hT2, by rw [← hv, pw_hit h0 hl (Or.inr (hm.trans c110)), if_neg q]⟩)
                      · refine s_iload h dX8_match_119 rfl <|
                                s_goto (tgt := 126) h dX8_match_121 (by decide) <|
                                s_iret h he rfl dX8_match_126 ⟨Nat.le_refl _, Nat.le_refl _⟩ ?_
                        first
                          | exact absurd c104 c116
                          | exact absurd c116 c104
                          | (have q : nI lw = p := c104; exact ⟨rfl, rfl, b, hM, hs, b 111, fun _ => hT2, by rw [← hv, pw_hit h0 hl (Or.inl q), if_pos q, hm]⟩)
                          | (have q : ¬ nI lw = p := c116; exact ⟨rfl, rfl, b, hM, hs, b 111, fun _ => hT2, by rw [← hv, pw_hit h0 hl (Or.inr (hm.trans c110)), if_neg q]⟩)
                    · refine s_iload h dX8_match_107 rfl <|
                              s_iload_n h dX8_match_109 rfl <|
                              s_icmp_ne (tgt := 127) h dX8_match_110 (by decide) (fun c110 => ?_) (fun c110 => ?_)
                      · refine s_iload h dX8_match_127 rfl <|
                                s_iconst h dX8_match_129 ic_1 <|
                                s_iload h dX8_match_130 rfl <|
                                s_ishl h dX8_match_132 <|
                                s_iconst h dX8_match_133 ic_m1 <|
                                s_ixor h dX8_match_134 <|
                                s_iand h dX8_match_135 <|
                                s_topi (nI (clr s lw)) (clr_wo _ hs1 _ hl.1) <|
                                s_istore h dX8_match_136 rfl <|
                                s_iload h dX8_match_138 rfl <|
                                s_if_ge (tgt := 148) h dX8_match_140 (by decide) (kt := fun qx => absurd qx (by decide)) (kf := fun _ => ?_)
                        refine s_iload h dX8_match_143 rfl <|
                                s_goto (tgt := 157) h dX8_match_145 (by decide) <|
                                s_istore h dX8_match_157 rfl <|
                                s_goto (tgt := 81) h dX8_match_159 (by decide) <|
                                ?_
                        exact SX.loc (ih (clr s lw) (by have := clr_lt hl.2.1; have := clr_le (clr s lw) 0; omega) (by have := clr_lt hl.2.1; have := clr_le (clr s lw) 0; omega) (by rw [← hv, pw_go h0 hl c104 (by rw [hm]; exact c110), hm]; rw [show nxt s lw (-6) = clr s lw from if_pos (by decide)])) ⟨rfl, rfl, rfl, rfl, trivial⟩
                      · refine s_iload h dX8_match_113 rfl <|
                                s_iload_n h dX8_match_115 rfl <|
                                s_icmp_ne (tgt := 124) h dX8_match_116 (by decide) (fun c116 => ?_) (fun c116 => ?_)
                        · refine s_iload h dX8_match_124 rfl <|
                                  s_iret h he rfl dX8_match_126 ⟨Nat.le_refl _, Nat.le_refl _⟩ ?_
                          first
                            | exact absurd c104 c116
                            | exact absurd c116 c104
                            | (have q : nI lw = p := c104; exact ⟨rfl, rfl, b, hM, hs, b 111, fun _ => hT2, by rw [← hv, pw_hit h0 hl (Or.inl q), if_pos q, hm]⟩)
                            | (have q : ¬ nI lw = p := c116; exact ⟨rfl, rfl, b, hM, hs, b 111, fun _ => hT2, by rw [← hv, pw_hit h0 hl (Or.inr (hm.trans c110)), if_neg q]⟩)
                        · refine s_iload h dX8_match_119 rfl <|
                                  s_goto (tgt := 126) h dX8_match_121 (by decide) <|
                                  s_iret h he rfl dX8_match_126 ⟨Nat.le_refl _, Nat.le_refl _⟩ ?_
                          first
                            | exact absurd c104 c116
                            | exact absurd c116 c104
                            | (have q : nI lw = p := c104; exact ⟨rfl, rfl, b, hM, hs, b 111, fun _ => hT2, by rw [← hv, pw_hit h0 hl (Or.inl q), if_pos q, hm]⟩)
                            | (have q : ¬ nI lw = p := c116; exact ⟨rfl, rfl, b, hM, hs, b 111, fun _ => hT2, by rw [← hv, pw_hit h0 hl (Or.inr (hm.trans c110)), if_neg q]⟩)
                  · rw [hm]
                    refine s_istore h dX8_match_99 rfl <|
                            s_iload h dX8_match_101 rfl <|
                            s_iload_n h dX8_match_103 rfl <|
                            s_icmp_eq (tgt := 113) h dX8_match_104 (by decide) (fun c104 => ?_) (fun c104 => ?_)
                    · refine s_iload h dX8_match_113 rfl <|
                              s_iload_n h dX8_match_115 rfl <|
                              s_icmp_ne (tgt := 124) h dX8_match_116 (by decide) (fun c116 => ?_) (fun c116 => ?_)
                      · refine s_iload h dX8_match_124 rfl <|
                                s_iret h he rfl dX8_match_126 ⟨Nat.le_refl _, Nat.le_refl _⟩ ?_
                        first
                          | exact absurd c104 c116
                          | exact absurd c116 c104
                          | (have q : nI lw = p := c104; exact ⟨rfl, rfl, b, hM, hs, b 111, fun _ => hT2, by rw [← hv, pw_hit h0 hl (Or.inl q), if_pos q, hm]⟩)
                          | (have q : ¬ nI lw = p := c116; exact ⟨rfl, rfl, b, hM, hs, b 111, fun _ => hT2, by rw [← hv, pw_hit h0 hl (Or.inr (hm.trans c110)), if_neg q]⟩)
                      · refine s_iload h dX8_match_119 rfl <|
                                s_goto (tgt := 126) h dX8_match_121 (by decide) <|
                                s_iret h he rfl dX8_match_126 ⟨Nat.le_refl _, Nat.le_refl _⟩ ?_
                        first
                          | exact absurd c104 c116
                          | exact absurd c116 c104
                          | (have q : nI lw = p := c104; exact ⟨rfl, rfl, b, hM, hs, b 111, fun _ => hT2, by rw [← hv, pw_hit h0 hl (Or.inl q), if_pos q, hm]⟩)
                          | (have q : ¬ nI lw = p := c116; exact ⟨rfl, rfl, b, hM, hs, b 111, fun _ => hT2, by rw [← hv, pw_hit h0 hl (Or.inr (hm.trans c110)), if_neg q]⟩)
                    · refine s_iload h dX8_match_107 rfl <|
                              s_iload_n h dX8_match_109 rfl <|
                              s_icmp_ne (tgt := 127) h dX8_match_110 (by decide) (fun c110 => ?_) (fun c110 => ?_)
                      · refine s_iload h dX8_match_127 rfl <|
                                s_iconst h dX8_match_129 ic_1 <|
                                s_iload h dX8_match_130 rfl <|
                                s_ishl h dX8_match_132 <|
                                s_iconst h dX8_match_133 ic_m1 <|
                                s_ixor h dX8_match_134 <|
                                s_iand h dX8_match_135 <|
                                s_topi (nI (clr s lw)) (clr_wo _ hs1 _ hl.1) <|
                                s_istore h dX8_match_136 rfl <|
                                s_iload h dX8_match_138 rfl <|
                                s_if_ge (tgt := 148) h dX8_match_140 (by decide) (kf := fun qx => absurd (i32_nlt.mp (nI_pos (by omega))) qx) (kt := fun _ => ?_)
                        refine s_iload h dX8_match_148 rfl <|
                                s_iconst h dX8_match_150 ic_1 <|
                                s_iload h dX8_match_151 rfl <|
                                s_ishl h dX8_match_153 <|
                                s_iconst h dX8_match_154 ic_m1 <|
                                s_ixor h dX8_match_155 <|
                                s_iand h dX8_match_156 <|
                                s_topi (nI (clr (clr s lw) j)) (clr_wo _ (Nat.lt_of_le_of_lt (clr_le _ _) hs1) _ hj) <|
                                s_istore h dX8_match_157 rfl <|
                                s_goto (tgt := 81) h dX8_match_159 (by decide) <|
                                ?_
                        exact SX.loc (ih (clr (clr s lw) j) (by have := clr_lt hl.2.1; have := clr_le (clr s lw) j; omega) (by have := clr_lt hl.2.1; have := clr_le (clr s lw) j; omega) (by rw [← hv, pw_go h0 hl c104 (by rw [hm]; exact c110), hm]; rw [show nxt s lw (nI j) = clr (clr s lw) j from by unfold nxt; rw [if_neg (nI_pos (by omega)), nI_clamp (by omega)]])) ⟨rfl, rfl, rfl, rfl, trivial⟩
                      · refine s_iload h dX8_match_113 rfl <|
                                s_iload_n h dX8_match_115 rfl <|
                                s_icmp_ne (tgt := 124) h dX8_match_116 (by decide) (fun c116 => ?_) (fun c116 => ?_)
                        · refine s_iload h dX8_match_124 rfl <|
                                  s_iret h he rfl dX8_match_126 ⟨Nat.le_refl _, Nat.le_refl _⟩ ?_
                          first
                            | exact absurd c104 c116
                            | exact absurd c116 c104
                            | (have q : nI lw = p := c104; exact ⟨rfl, rfl, b, hM, hs, b 111, fun _ => hT2, by rw [← hv, pw_hit h0 hl (Or.inl q), if_pos q, hm]⟩)
                            | (have q : ¬ nI lw = p := c116; exact ⟨rfl, rfl, b, hM, hs, b 111, fun _ => hT2, by rw [← hv, pw_hit h0 hl (Or.inr (hm.trans c110)), if_neg q]⟩)
                        · refine s_iload h dX8_match_119 rfl <|
                                  s_goto (tgt := 126) h dX8_match_121 (by decide) <|
                                  s_iret h he rfl dX8_match_126 ⟨Nat.le_refl _, Nat.le_refl _⟩ ?_
                          first
                            | exact absurd c104 c116
                            | exact absurd c116 c104
                            | (have q : nI lw = p := c104; exact ⟨rfl, rfl, b, hM, hs, b 111, fun _ => hT2, by rw [← hv, pw_hit h0 hl (Or.inl q), if_pos q, hm]⟩)
                            | (have q : ¬ nI lw = p := c116; exact ⟨rfl, rfl, b, hM, hs, b 111, fun _ => hT2, by rw [← hv, pw_hit h0 hl (Or.inr (hm.trans c110)), if_neg q]⟩)
            exact SX.loc (key M M (Nat.le_refl M) hM1 (mmR_2 hM1 hok c68).symm) ⟨rfl, rfl, rfl, rfl, trivial⟩
          · refine s_aload_n h dX8_match_71 rfl <|
              gm_31 h dX8_match_72 hN hM <|
              s_iload_n h dX8_match_75 rfl <|
              s_iald h dX8_match_76 (by omega) hM.a111 (ix_n hM1 (by decide)) rfl <|
              s_iret h he rfl dX8_match_77 ⟨Nat.le_refl _, Nat.le_refl _⟩ ?_
            exact ⟨rfl, rfl, b, hM, hs, b 111, fun _ => hT2, by rw [mmR_1 hM1 hok c68]⟩
        · refine s_iconst h dX8_match_59 ic_m1 <|
            s_iret h he rfl dX8_match_60 ⟨Nat.le_refl _, Nat.le_refl _⟩ ?_
          have hno : mmOk f s p = false := by
            unfold mmOk
            first
              | (rw [bI_0 c41]; rfl)
              | (rw [decide_eq_false c52, Bool.and_false]; rfl)
              | (rw [bI_0 c56, Bool.and_false])
          exact ⟨rfl, rfl, a, hM, sM.refl _ _, fun _ => 0, fun z => absurd z (by rw [hno]; decide), by rw [mmR_n hno]⟩
  refine s_iload_n h dX8_match_0 rfl <|
    s_iconst h dX8_match_1 ic_m1 <|
    s_icmp_eq (tgt := 26) h dX8_match_2 (by decide) (fun c2 => ?_) (fun c2 => ?_)
  · refine s_iconst h dX8_match_26 ic_1 <|
      s_goto (tgt := 31) h dX8_match_27 (by decide) <|
      s_topi (bI (decide (p = -1) || (wb p 0 9 && hb s p))) (by
      first
        | (have q : p = -1 := c2; rw [decide_eq_true q]; rfl)
        | (have q : ¬ p = -1 := c2; rw [decide_eq_false q, bI_0 c14]; rfl)
        | (have q : ¬ p = -1 := c2; rw [decide_eq_false q, bI_1 c14, show hb s p = true from decide_eq_true c23]; rfl)
        | (have q : ¬ p = -1 := c2; rw [decide_eq_false q, bI_1 c14, show hb s p = false from decide_eq_false c23]; rfl)) <|
      s_istore_n h dX8_match_31 rfl <|
      ?_
    exact SX.loc (J32) ⟨rfl, rfl, rfl, rfl, trivial⟩
  · refine s_iload_n h dX8_match_5 rfl <|
      s_i2l h dX8_match_6 <|
      s_lconst h dX8_match_7 lc_0 <|
      s_ldc2 h dX8_match_8 tw706 <|
      k_X8_50 h (c_X8_inw (a := 0) (b := 9) (by decide) (by decide)) rfl rfl dX8_match_11 <|
      PE.go <|
      s_if_eq (tgt := 30) h dX8_match_14 (by decide) (fun c14 => ?_) (fun c14 => ?_)
    · refine s_iconst h dX8_match_30 ic_0 <|
        s_topi (bI (decide (p = -1) || (wb p 0 9 && hb s p))) (by
      first
        | (have q : p = -1 := c2; rw [decide_eq_true q]; rfl)
        | (have q : ¬ p = -1 := c2; rw [decide_eq_false q, bI_0 c14]; rfl)
        | (have q : ¬ p = -1 := c2; rw [decide_eq_false q, bI_1 c14, show hb s p = true from decide_eq_true c23]; rfl)
        | (have q : ¬ p = -1 := c2; rw [decide_eq_false q, bI_1 c14, show hb s p = false from decide_eq_false c23]; rfl)) <|
        s_istore_n h dX8_match_31 rfl <|
        ?_
      exact SX.loc (J32) ⟨rfl, rfl, rfl, rfl, trivial⟩
    · refine s_iload_n h dX8_match_17 rfl <|
        s_iload_n h dX8_match_18 rfl <|
        s_ishr h dX8_match_19 <|
        s_iconst h dX8_match_20 ic_1 <|
        s_iand h dX8_match_21 <|
        s_iconst h dX8_match_22 ic_1 <|
        s_icmp_ne (tgt := 30) h dX8_match_23 (by decide) (fun c23 => ?_) (fun c23 => ?_)
      · refine s_iconst h dX8_match_30 ic_0 <|
          s_topi (bI (decide (p = -1) || (wb p 0 9 && hb s p))) (by
      first
        | (have q : p = -1 := c2; rw [decide_eq_true q]; rfl)
        | (have q : ¬ p = -1 := c2; rw [decide_eq_false q, bI_0 c14]; rfl)
        | (have q : ¬ p = -1 := c2; rw [decide_eq_false q, bI_1 c14, show hb s p = true from decide_eq_true c23]; rfl)
        | (have q : ¬ p = -1 := c2; rw [decide_eq_false q, bI_1 c14, show hb s p = false from decide_eq_false c23]; rfl)) <|
          s_istore_n h dX8_match_31 rfl <|
          ?_
        exact SX.loc (J32) ⟨rfl, rfl, rfl, rfl, trivial⟩
      · refine s_iconst h dX8_match_26 ic_1 <|
          s_goto (tgt := 31) h dX8_match_27 (by decide) <|
          s_topi (bI (decide (p = -1) || (wb p 0 9 && hb s p))) (by
      first
        | (have q : p = -1 := c2; rw [decide_eq_true q]; rfl)
        | (have q : ¬ p = -1 := c2; rw [decide_eq_false q, bI_0 c14]; rfl)
        | (have q : ¬ p = -1 := c2; rw [decide_eq_false q, bI_1 c14, show hb s p = true from decide_eq_true c23]; rfl)
        | (have q : ¬ p = -1 := c2; rw [decide_eq_false q, bI_1 c14, show hb s p = false from decide_eq_false c23]; rfl)) <|
          s_istore_n h dX8_match_31 rfl <|
          ?_
        exact SX.loc (J32) ⟨rfl, rfl, rfl, rfl, trivial⟩
