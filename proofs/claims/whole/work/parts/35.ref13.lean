/-- a set without one, as a number -/
def clr (m l : Nat) : Nat := if Nat.testBit m l then m - 2 ^ l else m
theorem clr_wo : ∀ m, m < 1024 → ∀ l, l < 10 → wo (nI m) (nI l) = nI (clr m l) := by decide +kernel
theorem tb_i : ∀ m, m < 1024 → ∀ j, j < 10 → nI m >>> (nI j &&& 31) &&& 1 = if Nat.testBit m j then 1 else 0 := by decide +kernel
theorem clr_le (m l : Nat) : clr m l ≤ m := by
  unfold clr
  split
  · exact Nat.sub_le _ _
  · exact Nat.le_refl _
theorem clr_lt {m l : Nat} (h : Nat.testBit m l = true) : clr m l < m := by
  unfold clr; rw [if_pos h]
  have := Nat.ge_two_pow_of_testBit h
  have : 0 < 2 ^ l := Nat.two_pow_pos l
  omega
theorem bits_0 : ∀ m, m < 1024 → (∀ j, j < 10 → Nat.testBit m j = false) → m = 0 := by decide +kernel
/-- l is the least of m -/
def isLs (m l : Nat) : Prop := l < 10 ∧ Nat.testBit m l = true ∧ ∀ i, i < l → Nat.testBit m i = false
theorem isLs_ex {m : Nat} (hm : m < 1024) (h0 : m ≠ 0) : ∃ l, isLs m l := by
  rcases ffO_cases (Nat.testBit m) 10 with ⟨h1, h2⟩ | ⟨j, h1, h2, h3, h4⟩
  · exact absurd (bits_0 m hm h2) h0
  · exact ⟨j, h1, h2, h3⟩
theorem isLs_un {m l k : Nat} (h : isLs m l) (h2 : isLs m k) : l = k := by
  rcases Nat.lt_trichotomy l k with q | q | q
  · have := h2.2.2 l q; rw [h.2.1] at this; exact absurd this (by decide)
  · exact q
  · have := h.2.2 k q; rw [h2.2.1] at this; exact absurd this (by decide)
def cw (sc : Nat → Nat → Int32) (p q : Nat) : Bool := decide (kW (sc (6 + p)) (sc (6 + q)) = 0) || decide (kW (sc (6 + p)) (sc (6 + q)) = 2)
def mRw (cp : Nat → Nat → Bool) (T : Nat → Int32) (r l j : Nat) : Int32 := if Nat.testBit r j && cp l j then 1 + T (clr r j) else 0
def mR (cp : Nat → Nat → Bool) (T : Nat → Int32) (m l n : Nat) : Int32 := fN (fun i x => imax x (mRw cp T (clr m l) l (l + 1 + i))) (T (clr m l)) n
theorem mR_s (cp : Nat → Nat → Bool) (T : Nat → Int32) (m l n : Nat) : mR cp T m l (n + 1) = imax (mR cp T m l n) (mRw cp T (clr m l) l (l + 1 + n)) := rfl
theorem mR_congr {cp : Nat → Nat → Bool} {T T2 : Nat → Int32} {m l : Nat} (hl : isLs m l) (h : ∀ x, x < m → T x = T2 x) : ∀ n, mR cp T m l n = mR cp T2 m l n
  | 0 => h _ (clr_lt hl.2.1)
  | n + 1 => by
    rw [mR_s, mR_s, mR_congr hl h n]
    unfold mRw
    rw [h _ (Nat.lt_of_le_of_lt (clr_le _ _) (clr_lt hl.2.1))]
/-- the row of the most, right for the parts of S below B -/
def Tab (cp : Nat → Nat → Bool) (S B : Nat) (T : Nat → Int32) : Prop := T 0 = 0 ∧ ∀ s l, 0 < s → s < B → s &&& S = s → isLs s l → T s = mR cp T s l (9 - l)
theorem Tab.put {cp : Nat → Nat → Bool} {S s l : Nat} {T : Nat → Int32} (h : Tab cp S s T) (hs : 0 < s) (hl : isLs s l) : Tab cp S (s + 1) (upd T s (mR cp T s l (9 - l))) := by
  have hne : ∀ x, x < s → T x = upd T s (mR cp T s l (9 - l)) x := fun x hx => by simp only [upd, show ¬ x = s from by omega, if_false]
  refine ⟨?_, fun s2 l2 h0 hB hsub hl2 => ?_⟩
  · rw [← hne 0 hs]; exact h.1
  · by_cases e : s2 = s
    · subst e
      have e2 := isLs_un hl2 hl
      subst e2
      rw [← mR_congr hl2 hne]
      simp only [upd, if_true]
    · rw [← hne s2 (by omega), h.2 s2 l2 h0 (by omega) hsub hl2]
      exact mR_congr hl2 (fun x hx => hne x (by omega)) _
theorem Tab.skip {cp : Nat → Nat → Bool} {S s : Nat} {T : Nat → Int32} (h : Tab cp S s T) (hs : ¬ s &&& S = s) : Tab cp S (s + 1) T :=
  ⟨h.1, fun s2 l2 h0 hB hsub hl2 => h.2 s2 l2 h0 (by
    rcases Nat.lt_or_ge s2 s with q | q
    · exact q
    · exact absurd hsub (by rw [show s2 = s from by omega]; exact hs)) hsub hl2⟩
theorem Tab.un {cp : Nat → Nat → Bool} {S B : Nat} {T T2 : Nat → Int32} (hB : B ≤ 1024) (h : Tab cp S B T) (h2 : Tab cp S B T2) (hsub : ∀ s l, s &&& S = s → clr s l &&& S = clr s l) : ∀ s, s < B → s &&& S = s → T s = T2 s := by
  intro s
  induction s using Nat.strongRecOn with
  | ind s ih =>
    intro hs hS
    rcases Nat.eq_zero_or_pos s with q | q
    · rw [q, h.1, h2.1]
    · obtain ⟨l, hl⟩ := isLs_ex (show s < 1024 from by omega) (by omega)
      rw [h.2 s l q hs hS hl, h2.2 s l q hs hS hl]
      have hc := clr_lt hl.2.1
      have hz : ∀ n, mR cp T s l n = mR cp T2 s l n := by
        intro n
        induction n with
        | zero => exact ih _ hc (by omega) (hsub _ _ hS)
        | succ n ihn =>
          rw [mR_s, mR_s, ihn]
          unfold mRw
          rw [ih _ (Nat.lt_of_le_of_lt (clr_le _ _) hc) (by have := clr_le (clr s l) (l + 1 + n); omega) (hsub _ _ (hsub _ _ hS))]
      exact hz _
theorem i32_and_not (b : Int32) : b &&& (b ^^^ -1) = 0 := by
  apply i32_ext
  intro i hi
  simp only [Int32.toBitVec_and, Int32.toBitVec_xor, BitVec.getLsbD_and, BitVec.getLsbD_xor]
  have h3 : (-1 : Int32).toBitVec.getLsbD i = true := by
    rw [show (-1 : Int32).toBitVec = BitVec.allOnes 32 from by decide, BitVec.getLsbD_allOnes]; simpa using hi
  have h4 : (0 : Int32).toBitVec.getLsbD i = false := by
    rw [show (0 : Int32).toBitVec = 0#32 from rfl, BitVec.getLsbD_zero]
  rw [h3, h4]
  cases b.toBitVec.getLsbD i <;> rfl
theorem sub_i {s S : Nat} (hs : s < 1024) (hS : S < 1024) : nI s &&& (nI S ^^^ -1) = 0 ↔ s &&& S = s := by
  constructor
  · intro h
    have q := sub_and h
    rw [nI_and] at q
    have := congrArg Int32.toNatClampNeg q
    have h3 : s &&& S ≤ s := Nat.and_le_left
    rw [nI_clamp (by omega), nI_clamp (by omega)] at this
    exact this
  · intro h
    have e : nI s = nI s &&& nI S := by rw [nI_and, h]
    rw [e, Int32.and_assoc, i32_and_not, Int32.and_zero]

theorem c_X8_leastIn {l : Launch} {D : va_G} {N : Nat} {adr : Nat → Nat} {G : Nat → va_E} {m lw : Nat} (hm : m < 1024) (hl : isLs m lw) :
    CT l D yX8_leastIn cX8_leastIn 2 (some FieldType.int) (rl 0) [.int (nI m)] N adr G (PE (some (.int (nI lw))) N adr G) := by
  refine CT.of (by decide +kernel) (Nat.le_of_ble_eq_true rfl) (fun Γ h he => ?_)
  have h : cx l D (rl 0) RX8 cX8_leastIn 2 Γ := h
  show SX Γ 0 0 0 [(0, .int (nI m))] [] N adr G
  refine s_iconst h dX8_leastIn_0 ic_0 <|
    s_istore_n h dX8_leastIn_1 rfl <|
    ?_
  refine SX.loc (up_ind (n := lw) (Q := fun i => SX Γ 0 0 2 [(0, .int (nI m)), (1, .int (nI i))] [] N adr G) ?_ ?_ 0 (Nat.zero_le _)) ⟨rfl, rfl, trivial⟩
  · show SX _ _ _ _ _ _ _ _ _
    refine s_iload_n h dX8_leastIn_2 rfl <|
    s_iload_n h dX8_leastIn_3 rfl <|
    s_ishr h dX8_leastIn_4 <|
    s_iconst h dX8_leastIn_5 ic_1 <|
    s_iand h dX8_leastIn_6 <|
    s_if_ne (tgt := 16) h dX8_leastIn_7 (by decide) (kf := fun qx => absurd qx (by rw [tb_i m hm lw hl.1, hl.2.1]; decide)) (kt := fun _ => ?_)
    refine s_iload_n h dX8_leastIn_16 rfl <|
    s_iret h he rfl dX8_leastIn_17 ⟨Nat.le_refl _, Nat.le_refl _⟩ ?_
    exact PE.is
  · intro i hi ih 
    show SX _ _ _ _ _ _ _ _ _
    refine s_iload_n h dX8_leastIn_2 rfl <|
    s_iload_n h dX8_leastIn_3 rfl <|
    s_ishr h dX8_leastIn_4 <|
    s_iconst h dX8_leastIn_5 ic_1 <|
    s_iand h dX8_leastIn_6 <|
    s_if_ne (tgt := 16) h dX8_leastIn_7 (by decide) (kt := fun qx => absurd (by rw [tb_i m hm i (by have := hl.1; omega), hl.2.2 i hi]; rfl) qx) (kf := fun _ => ?_)
    refine s_iincR h dX8_leastIn_10 rfl rfl ic_1 (nI_1 i) <|
    s_goto (tgt := 2) h dX8_leastIn_13 (by decide) <|
    ?_
    exact SX.loc (ih) ⟨rfl, rfl, trivial⟩
theorem c_X8_canPair {l : Launch} {D : va_G} {N : Nat} {adr : Nat → Nat} {G : Nat → va_E} {G0 : Nat → va_E} {f : Nat → Int32} {a : Nat → Nat → Int32} (hN : 115 ≤ N) (hM : isMF D adr G0 G f a) {x y : Int32} {p q : Nat} (hx : ix x p 10) (hy : ix y q 10) (hwc : wfC (mS f a)) :
    CT l D yX8_canPair cX8_canPair 4 (some FieldType.boolean) (rl 2) [.ref (adr 103), .int x, .int y] N adr G (PE (some (.int (bI (cw (mS f a) p q)))) N adr G) := by
  refine CT.of (by decide +kernel) (Nat.le_of_ble_eq_true rfl) (fun Γ h he => ?_)
  have h : cx l D (rl 2) RX8 cX8_canPair 4 Γ := h
  show SX Γ 0 0 0 [(0, .ref (adr 103)), (1, .int x), (2, .int y)] [] N adr G
  refine s_aload_n h dX8_canPair_0 rfl <|
    s_iload_n h dX8_canPair_1 rfl <|
    s_iload_n h dX8_canPair_2 rfl <|
    k_X8_139 h (c_X8_kindOf hN hM hx hy hwc) (by omega) hM.o rfl rfl dX8_canPair_3 <|
    PE.go <|
    s_istore_n h dX8_canPair_6 rfl <|
    s_iload_n h dX8_canPair_7 rfl <|
    s_if_eq (tgt := 16) h dX8_canPair_8 (by decide) (fun c8 => ?_) (fun c8 => ?_)
  · refine s_iconst h dX8_canPair_16 ic_1 <|
      s_goto (tgt := 21) h dX8_canPair_17 (by decide) <|
      s_iret h he rfl dX8_canPair_21 ⟨Nat.le_refl _, Nat.le_refl _⟩ ?_
    first
      | (have q : cw (mS f a) p q = true := by unfold cw; rw [decide_eq_true c8]; rfl
         exact PE.eq (by rw [q]; rfl) rfl)
      | (have q : cw (mS f a) p q = true := by unfold cw; rw [decide_eq_false c8, decide_eq_true c13]; rfl
         exact PE.eq (by rw [q]; rfl) rfl)
      | (have q : cw (mS f a) p q = false := by unfold cw; rw [decide_eq_false c8, decide_eq_false c13]; rfl
         exact PE.eq (by rw [q]; rfl) rfl)
  · refine s_iload_n h dX8_canPair_11 rfl <|
      s_iconst h dX8_canPair_12 ic_2 <|
      s_icmp_ne (tgt := 20) h dX8_canPair_13 (by decide) (fun c13 => ?_) (fun c13 => ?_)
    · refine s_iconst h dX8_canPair_20 ic_0 <|
        s_iret h he rfl dX8_canPair_21 ⟨Nat.le_refl _, Nat.le_refl _⟩ ?_
      first
        | (have q : cw (mS f a) p q = true := by unfold cw; rw [decide_eq_true c8]; rfl
           exact PE.eq (by rw [q]; rfl) rfl)
        | (have q : cw (mS f a) p q = true := by unfold cw; rw [decide_eq_false c8, decide_eq_true c13]; rfl
           exact PE.eq (by rw [q]; rfl) rfl)
        | (have q : cw (mS f a) p q = false := by unfold cw; rw [decide_eq_false c8, decide_eq_false c13]; rfl
           exact PE.eq (by rw [q]; rfl) rfl)
    · refine s_iconst h dX8_canPair_16 ic_1 <|
        s_goto (tgt := 21) h dX8_canPair_17 (by decide) <|
        s_iret h he rfl dX8_canPair_21 ⟨Nat.le_refl _, Nat.le_refl _⟩ ?_
      first
        | (have q : cw (mS f a) p q = true := by unfold cw; rw [decide_eq_true c8]; rfl
           exact PE.eq (by rw [q]; rfl) rfl)
        | (have q : cw (mS f a) p q = true := by unfold cw; rw [decide_eq_false c8, decide_eq_true c13]; rfl
           exact PE.eq (by rw [q]; rfl) rfl)
        | (have q : cw (mS f a) p q = false := by unfold cw; rw [decide_eq_false c8, decide_eq_false c13]; rfl
           exact PE.eq (by rw [q]; rfl) rfl)
theorem c_X8_canPairS {l : Launch} {D : va_G} {N : Nat} {adr : Nat → Nat} {G : Nat → va_E} {G0 : Nat → va_E} {f f0 : Nat → Int32} {a a0 : Nat → Nat → Int32} (hN : 115 ≤ N) (hM : isMF D adr G0 G f a) (hs : sM f0 a0 f a) {x y : Int32} {p q : Nat} (hx : ix x p 10) (hy : ix y q 10) (hwc : wfC (mS f0 a0)) : CT l D yX8_canPair cX8_canPair 4 (some FieldType.boolean) (rl 2) [.ref (adr 103), .int x, .int y] N adr G (PE (some (.int (bI (cw (mS f0 a0) p q)))) N adr G) := by
  rw [← hs.eS] at hwc ⊢
  exact c_X8_canPair hN hM hx hy hwc
theorem c_X8_findMost {l : Launch} {D : va_G} {N : Nat} {adr : Nat → Nat} {G : Nat → va_E} {G0 : Nat → va_E} {f f0 : Nat → Int32} {a a0 : Nat → Nat → Int32} (hN : 115 ≤ N) (hM : isMF D adr G0 G f a) (hs : sM f0 a0 f a) (hwc : wfC (mS f0 a0)) {M : Nat} (hM1 : M < 1024) :
    CT l D yX8_findMost cX8_findMost 9 (none) (rl 3) [.ref (adr 103), .int (nI M)] N adr G (PR none N adr (fun W => ∃ b, isMF D adr G0 W f b ∧ sM f0 a0 f b ∧ Tab (cw (mS f0 a0)) M (M + 1) (b 111))) := by
  refine CT.of (by decide +kernel) (Nat.le_of_ble_eq_true rfl) (fun Γ h he => ?_)
  have h : cx l D (rl 3) RX8 cX8_findMost 9 Γ := h
  show SX Γ 0 0 0 [(0, .ref (adr 103)), (1, .int (nI M))] [] N adr G
  refine s_aload_n h dX8_findMost_0 rfl <|
    gm_31 h dX8_findMost_1 hN hM <|
    s_iconst h dX8_findMost_4 ic_0 <|
    s_iconst h dX8_findMost_5 ic_0 <|
    sm_111 h dX8_findMost_6 hN hM (show ix 0 0 1024 from ⟨by decide, by decide, by decide⟩) <|
    fun W hM =>
    s_iconst h dX8_findMost_7 ic_1 <|
    s_istore_n h dX8_findMost_8 rfl <|
    ?_
  refine SX.loc (up_ind (n := M) (Q := fun i => ∀ (W : Nat → va_E) (b : Nat → Nat → Int32), (isMF D adr G0 W f b ∧ sM f0 a0 f b ∧ Tab (cw (mS f0 a0)) M (i + 1) (b 111)) → SX Γ 0 0 9 [(0, .ref (adr 103)), (1, .int (nI M)), (2, .int (nI (i + 1)))] [] N adr W) ?_ ?_ 0 (Nat.zero_le _) _ _ ⟨hM, hs.ar 111 _ (by decide), ⟨rfl, fun s l h0 hB => absurd hB (by omega)⟩⟩) ⟨rfl, rfl, rfl, trivial⟩
  · intro W b hH
    show SX _ _ _ _ _ _ _ _ _
    obtain ⟨hM, hs, hT⟩ := hH
    refine s_iload_n h dX8_findMost_9 rfl <|
    s_iload_n h dX8_findMost_10 rfl <|
    s_icmp_gt (tgt := 148) h dX8_findMost_11 (by decide) (kf := fun qx => absurd (i32_nle.mp (nI_ge (Nat.lt_succ_self M) (by omega))) qx) (kt := fun _ => ?_)
    refine s_vret h he dX8_findMost_148 ⟨Nat.le_refl _, Nat.le_refl _⟩ ?_
    exact PR.is ⟨_, hM, hs, hT⟩
  · intro i hi jh W b hH
    show SX _ _ _ _ _ _ _ _ _
    obtain ⟨hM, hs, hT⟩ := hH
    refine s_iload_n h dX8_findMost_9 rfl <|
    s_iload_n h dX8_findMost_10 rfl <|
    s_icmp_gt (tgt := 148) h dX8_findMost_11 (by decide) (kt := fun qx => absurd qx (i32_nlt.mpr (nI_le (show i + 1 ≤ M from by omega) (by omega)))) (kf := fun _ => ?_)
    refine s_iload_n h dX8_findMost_14 rfl <|
      s_iload_n h dX8_findMost_15 rfl <|
      s_iconst h dX8_findMost_16 ic_m1 <|
      s_ixor h dX8_findMost_17 <|
      s_iand h dX8_findMost_18 <|
      s_if_ne (tgt := 142) h dX8_findMost_19 (by decide) (fun c19 => ?_) (fun c19 => ?_)
    · refine s_iincR h dX8_findMost_142 rfl rfl ic_1 (nI_1 (i + 1)) <|
        s_goto (tgt := 9) h dX8_findMost_145 (by decide) <|
        ?_
      exact SX.loc (jh _ _ ⟨hM, hs, hT.skip (fun z => c19 ((sub_i (by omega) hM1).mpr z))⟩) ⟨rfl, rfl, rfl, trivial⟩
    · obtain ⟨lw, hl⟩ := isLs_ex (show i + 1 < 1024 from by omega) (by omega)
      have hr : (clr (i + 1) lw) < 1024 := Nat.lt_of_le_of_lt (clr_le _ _) (by omega)
      refine s_iload_n h dX8_findMost_22 rfl <|
        k_X8_147 h (c_X8_leastIn (show i + 1 < 1024 from by omega) hl) rfl rfl dX8_findMost_23 <|
        PE.go <|
        s_istore_n h dX8_findMost_26 rfl <|
        s_iload_n h dX8_findMost_27 rfl <|
        s_iconst h dX8_findMost_28 ic_1 <|
        s_iload_n h dX8_findMost_29 rfl <|
        s_ishl h dX8_findMost_30 <|
        s_iconst h dX8_findMost_31 ic_m1 <|
        s_ixor h dX8_findMost_32 <|
        s_iand h dX8_findMost_33 <|
        s_topi (nI (clr (i + 1) lw)) (clr_wo _ (by omega) _ hl.1) <|
        s_istore h dX8_findMost_34 rfl <|
        s_aload_n h dX8_findMost_36 rfl <|
        gm_31 h dX8_findMost_37 hN hM <|
        s_iload h dX8_findMost_40 rfl <|
        s_iald h dX8_findMost_42 (by omega) hM.a111 (ix_n hr (by decide)) rfl <|
        s_istore h dX8_findMost_43 rfl <|
        s_iload_n h dX8_findMost_45 rfl <|
        s_iconst h dX8_findMost_46 ic_1 <|
        s_iadd h dX8_findMost_47 <|
        s_topi (nI (lw + 1 + 0)) (nI_1 lw) <|
        s_istore h dX8_findMost_48 rfl <|
        ?_
      refine SX.loc (up_ind (n := (9 - lw)) (Q := fun k => SX Γ 0 0 50 [(0, .ref (adr 103)), (1, .int (nI M)), (2, .int (nI (i + 1))), (3, .int (nI lw)), (4, .int (nI (clr (i + 1) lw))), (5, .int (mR (cw (mS f0 a0)) (b 111) (i + 1) lw k)), (6, .int (nI (lw + 1 + k)))] [] N adr W) ?_ ?_ 0 (Nat.zero_le _)) ⟨rfl, rfl, rfl, rfl, rfl, rfl, rfl, trivial⟩
      · show SX _ _ _ _ _ _ _ _ _
        refine s_iload h dX8_findMost_50 rfl <|
        s_bipush h dX8_findMost_52 bp_10 <|
        s_icmp_ge (tgt := 134) h dX8_findMost_54 (by decide) (kf := fun qx => absurd (nI_le (show 10 ≤ lw + 1 + (9 - lw) from by omega) (by have := hl.1; omega)) qx) (kt := fun _ => ?_)
        refine s_aload_n h dX8_findMost_134 rfl <|
        gm_31 h dX8_findMost_135 hN hM <|
        s_iload_n h dX8_findMost_138 rfl <|
        s_iload h dX8_findMost_139 rfl <|
        sm_111 h dX8_findMost_141 hN hM (ix_n (show i + 1 < 1024 from by omega) (by decide)) <|
        fun W hM =>
        s_iincR h dX8_findMost_142 rfl rfl ic_1 (nI_1 (i + 1)) <|
        s_goto (tgt := 9) h dX8_findMost_145 (by decide) <|
        ?_
        exact SX.loc (jh _ _ ⟨hM, hs.ar 111 _ (by decide), (by rw [uA_eq]; exact hT.put (by omega) hl)⟩) ⟨rfl, rfl, rfl, trivial⟩
      · intro k hk ih 
        show SX _ _ _ _ _ _ _ _ _
        refine s_iload h dX8_findMost_50 rfl <|
        s_bipush h dX8_findMost_52 bp_10 <|
        s_icmp_ge (tgt := 134) h dX8_findMost_54 (by decide) (kt := fun qx => absurd qx (nI_ge (show lw + 1 + k < 10 from by omega) (by decide))) (kf := fun _ => ?_)
        refine s_iload h dX8_findMost_57 rfl <|
        s_iload h dX8_findMost_59 rfl <|
        s_ishr h dX8_findMost_61 <|
        s_iconst h dX8_findMost_62 ic_1 <|
        s_iand h dX8_findMost_63 <|
        s_iconst h dX8_findMost_64 ic_1 <|
        s_icmp_ne (tgt := 82) h dX8_findMost_65 (by decide) (fun c65 => ?_) (fun c65 => ?_)
        · refine s_iconst h dX8_findMost_82 ic_0 <|
          s_topi (bI (Nat.testBit (clr (i + 1) lw) (lw + 1 + k) && cw (mS f0 a0) lw (lw + 1 + k))) (by first | (rw [tb_i _ hr _ (by omega)] at c65; cases q : Nat.testBit (clr (i + 1) lw) (lw + 1 + k) <;> rw [q] at c65 <;> first | exact absurd rfl c65 | (rw [Bool.false_and]; rfl)) | (rw [tb_i _ hr _ (by omega)] at c65; cases q : Nat.testBit (clr (i + 1) lw) (lw + 1 + k) <;> rw [q] at c65 <;> first | exact absurd c65 (by decide) | (rw [Bool.true_and]; first | (rw [bI_1 c75]; rfl) | (rw [bI_0 c75]; rfl)))) <|
          s_istore h dX8_findMost_83 rfl <|
          s_iload h dX8_findMost_85 rfl <|
          s_if_eq (tgt := 109) h dX8_findMost_87 (by decide) (fun c87 => ?_) (fun c87 => ?_)
          · refine s_iconst h dX8_findMost_109 ic_0 <|
            s_topi (mRw (cw (mS f0 a0)) (b 111) (clr (i + 1) lw) lw (lw + 1 + k)) (by unfold mRw; first | rw [bool_ifn (bI_0 c87)] | rw [bool_if (bI_1 c87)]) <|
            s_istore h dX8_findMost_110 rfl <|
            s_iload h dX8_findMost_112 rfl <|
            s_iload h dX8_findMost_114 rfl <|
            s_icmp_le (tgt := 124) h dX8_findMost_116 (by decide) (fun c116 => ?_) (fun c116 => ?_)
            · refine s_iload h dX8_findMost_124 rfl <|
              s_topi (mR (cw (mS f0 a0)) (b 111) (i + 1) lw (k + 1)) (by rw [mR_s]; unfold imax; first | rw [if_neg (i32_nlt.mpr c116)] | rw [if_pos (i32_nle.mp c116)]) <|
              s_istore h dX8_findMost_126 rfl <|
              s_iincR h dX8_findMost_128 rfl rfl ic_1 (nI_1 _) <|
              s_goto (tgt := 50) h dX8_findMost_131 (by decide) <|
              ?_
              exact SX.loc (ih) ⟨rfl, rfl, rfl, rfl, rfl, rfl, rfl, trivial⟩
            · refine s_iload h dX8_findMost_119 rfl <|
              s_goto (tgt := 126) h dX8_findMost_121 (by decide) <|
              s_topi (mR (cw (mS f0 a0)) (b 111) (i + 1) lw (k + 1)) (by rw [mR_s]; unfold imax; first | rw [if_neg (i32_nlt.mpr c116)] | rw [if_pos (i32_nle.mp c116)]) <|
              s_istore h dX8_findMost_126 rfl <|
              s_iincR h dX8_findMost_128 rfl rfl ic_1 (nI_1 _) <|
              s_goto (tgt := 50) h dX8_findMost_131 (by decide) <|
              ?_
              exact SX.loc (ih) ⟨rfl, rfl, rfl, rfl, rfl, rfl, rfl, trivial⟩
          · refine s_iconst h dX8_findMost_90 ic_1 <|
            s_aload_n h dX8_findMost_91 rfl <|
            gm_31 h dX8_findMost_92 hN hM <|
            s_iload h dX8_findMost_95 rfl <|
            s_iconst h dX8_findMost_97 ic_1 <|
            s_iload h dX8_findMost_98 rfl <|
            s_ishl h dX8_findMost_100 <|
            s_iconst h dX8_findMost_101 ic_m1 <|
            s_ixor h dX8_findMost_102 <|
            s_iand h dX8_findMost_103 <|
            s_topi (nI (clr (clr (i + 1) lw) (lw + 1 + k))) (clr_wo _ hr _ (by omega)) <|
            s_iald h dX8_findMost_104 (by omega) hM.a111 (ix_n (Nat.lt_of_le_of_lt (clr_le _ _) hr) (by decide)) rfl <|
            s_iadd h dX8_findMost_105 <|
            s_goto (tgt := 110) h dX8_findMost_106 (by decide) <|
            s_topi (mRw (cw (mS f0 a0)) (b 111) (clr (i + 1) lw) lw (lw + 1 + k)) (by unfold mRw; first | rw [bool_ifn (bI_0 c87)] | rw [bool_if (bI_1 c87)]) <|
            s_istore h dX8_findMost_110 rfl <|
            s_iload h dX8_findMost_112 rfl <|
            s_iload h dX8_findMost_114 rfl <|
            s_icmp_le (tgt := 124) h dX8_findMost_116 (by decide) (fun c116 => ?_) (fun c116 => ?_)
            · refine s_iload h dX8_findMost_124 rfl <|
              s_topi (mR (cw (mS f0 a0)) (b 111) (i + 1) lw (k + 1)) (by rw [mR_s]; unfold imax; first | rw [if_neg (i32_nlt.mpr c116)] | rw [if_pos (i32_nle.mp c116)]) <|
              s_istore h dX8_findMost_126 rfl <|
              s_iincR h dX8_findMost_128 rfl rfl ic_1 (nI_1 _) <|
              s_goto (tgt := 50) h dX8_findMost_131 (by decide) <|
              ?_
              exact SX.loc (ih) ⟨rfl, rfl, rfl, rfl, rfl, rfl, rfl, trivial⟩
            · refine s_iload h dX8_findMost_119 rfl <|
              s_goto (tgt := 126) h dX8_findMost_121 (by decide) <|
              s_topi (mR (cw (mS f0 a0)) (b 111) (i + 1) lw (k + 1)) (by rw [mR_s]; unfold imax; first | rw [if_neg (i32_nlt.mpr c116)] | rw [if_pos (i32_nle.mp c116)]) <|
              s_istore h dX8_findMost_126 rfl <|
              s_iincR h dX8_findMost_128 rfl rfl ic_1 (nI_1 _) <|
              s_goto (tgt := 50) h dX8_findMost_131 (by decide) <|
              ?_
              exact SX.loc (ih) ⟨rfl, rfl, rfl, rfl, rfl, rfl, rfl, trivial⟩
        · refine s_aload_n h dX8_findMost_68 rfl <|
          s_iload_n h dX8_findMost_69 rfl <|
          s_iload h dX8_findMost_70 rfl <|
          k_X8_150 h (c_X8_canPairS hN hM hs (ix_n hl.1 (by decide)) (ix_n (show lw + 1 + k < 10 from by omega) (by decide)) hwc) (by omega) hM.o rfl rfl dX8_findMost_72 <|
          PE.go <|
          s_if_eq (tgt := 82) h dX8_findMost_75 (by decide) (fun c75 => ?_) (fun c75 => ?_)
          · refine s_iconst h dX8_findMost_82 ic_0 <|
            s_topi (bI (Nat.testBit (clr (i + 1) lw) (lw + 1 + k) && cw (mS f0 a0) lw (lw + 1 + k))) (by first | (rw [tb_i _ hr _ (by omega)] at c65; cases q : Nat.testBit (clr (i + 1) lw) (lw + 1 + k) <;> rw [q] at c65 <;> first | exact absurd rfl c65 | (rw [Bool.false_and]; rfl)) | (rw [tb_i _ hr _ (by omega)] at c65; cases q : Nat.testBit (clr (i + 1) lw) (lw + 1 + k) <;> rw [q] at c65 <;> first | exact absurd c65 (by decide) | (rw [Bool.true_and]; first | (rw [bI_1 c75]; rfl) | (rw [bI_0 c75]; rfl)))) <|
            s_istore h dX8_findMost_83 rfl <|
            s_iload h dX8_findMost_85 rfl <|
            s_if_eq (tgt := 109) h dX8_findMost_87 (by decide) (fun c87 => ?_) (fun c87 => ?_)
            · refine s_iconst h dX8_findMost_109 ic_0 <|
              s_topi (mRw (cw (mS f0 a0)) (b 111) (clr (i + 1) lw) lw (lw + 1 + k)) (by unfold mRw; first | rw [bool_ifn (bI_0 c87)] | rw [bool_if (bI_1 c87)]) <|
              s_istore h dX8_findMost_110 rfl <|
              s_iload h dX8_findMost_112 rfl <|
              s_iload h dX8_findMost_114 rfl <|
              s_icmp_le (tgt := 124) h dX8_findMost_116 (by decide) (fun c116 => ?_) (fun c116 => ?_)
              · refine s_iload h dX8_findMost_124 rfl <|
                s_topi (mR (cw (mS f0 a0)) (b 111) (i + 1) lw (k + 1)) (by rw [mR_s]; unfold imax; first | rw [if_neg (i32_nlt.mpr c116)] | rw [if_pos (i32_nle.mp c116)]) <|
                s_istore h dX8_findMost_126 rfl <|
                s_iincR h dX8_findMost_128 rfl rfl ic_1 (nI_1 _) <|
                s_goto (tgt := 50) h dX8_findMost_131 (by decide) <|
                ?_
                exact SX.loc (ih) ⟨rfl, rfl, rfl, rfl, rfl, rfl, rfl, trivial⟩
              · refine s_iload h dX8_findMost_119 rfl <|
                s_goto (tgt := 126) h dX8_findMost_121 (by decide) <|
                s_topi (mR (cw (mS f0 a0)) (b 111) (i + 1) lw (k + 1)) (by rw [mR_s]; unfold imax; first | rw [if_neg (i32_nlt.mpr c116)] | rw [if_pos (i32_nle.mp c116)]) <|
                s_istore h dX8_findMost_126 rfl <|
                s_iincR h dX8_findMost_128 rfl rfl ic_1 (nI_1 _) <|
                s_goto (tgt := 50) h dX8_findMost_131 (by decide) <|
                ?_
                exact SX.loc (ih) ⟨rfl, rfl, rfl, rfl, rfl, rfl, rfl, trivial⟩
            · refine s_iconst h dX8_findMost_90 ic_1 <|
              s_aload_n h dX8_findMost_91 rfl <|
              gm_31 h dX8_findMost_92 hN hM <|
              s_iload h dX8_findMost_95 rfl <|
              s_iconst h dX8_findMost_97 ic_1 <|
              s_iload h dX8_findMost_98 rfl <|
              s_ishl h dX8_findMost_100 <|
              s_iconst h dX8_findMost_101 ic_m1 <|
              s_ixor h dX8_findMost_102 <|
              s_iand h dX8_findMost_103 <|
              s_topi (nI (clr (clr (i + 1) lw) (lw + 1 + k))) (clr_wo _ hr _ (by omega)) <|
              s_iald h dX8_findMost_104 (by omega) hM.a111 (ix_n (Nat.lt_of_le_of_lt (clr_le _ _) hr) (by decide)) rfl <|
              s_iadd h dX8_findMost_105 <|
              s_goto (tgt := 110) h dX8_findMost_106 (by decide) <|
              s_topi (mRw (cw (mS f0 a0)) (b 111) (clr (i + 1) lw) lw (lw + 1 + k)) (by unfold mRw; first | rw [bool_ifn (bI_0 c87)] | rw [bool_if (bI_1 c87)]) <|
              s_istore h dX8_findMost_110 rfl <|
              s_iload h dX8_findMost_112 rfl <|
              s_iload h dX8_findMost_114 rfl <|
              s_icmp_le (tgt := 124) h dX8_findMost_116 (by decide) (fun c116 => ?_) (fun c116 => ?_)
              · refine s_iload h dX8_findMost_124 rfl <|
                s_topi (mR (cw (mS f0 a0)) (b 111) (i + 1) lw (k + 1)) (by rw [mR_s]; unfold imax; first | rw [if_neg (i32_nlt.mpr c116)] | rw [if_pos (i32_nle.mp c116)]) <|
                s_istore h dX8_findMost_126 rfl <|
                s_iincR h dX8_findMost_128 rfl rfl ic_1 (nI_1 _) <|
                s_goto (tgt := 50) h dX8_findMost_131 (by decide) <|
                ?_
                exact SX.loc (ih) ⟨rfl, rfl, rfl, rfl, rfl, rfl, rfl, trivial⟩
              · refine s_iload h dX8_findMost_119 rfl <|
                s_goto (tgt := 126) h dX8_findMost_121 (by decide) <|
                s_topi (mR (cw (mS f0 a0)) (b 111) (i + 1) lw (k + 1)) (by rw [mR_s]; unfold imax; first | rw [if_neg (i32_nlt.mpr c116)] | rw [if_pos (i32_nle.mp c116)]) <|
                s_istore h dX8_findMost_126 rfl <|
                s_iincR h dX8_findMost_128 rfl rfl ic_1 (nI_1 _) <|
                s_goto (tgt := 50) h dX8_findMost_131 (by decide) <|
                ?_
                exact SX.loc (ih) ⟨rfl, rfl, rfl, rfl, rfl, rfl, rfl, trivial⟩
          · refine s_iconst h dX8_findMost_78 ic_1 <|
            s_goto (tgt := 83) h dX8_findMost_79 (by decide) <|
            s_topi (bI (Nat.testBit (clr (i + 1) lw) (lw + 1 + k) && cw (mS f0 a0) lw (lw + 1 + k))) (by first | (rw [tb_i _ hr _ (by omega)] at c65; cases q : Nat.testBit (clr (i + 1) lw) (lw + 1 + k) <;> rw [q] at c65 <;> first | exact absurd rfl c65 | (rw [Bool.false_and]; rfl)) | (rw [tb_i _ hr _ (by omega)] at c65; cases q : Nat.testBit (clr (i + 1) lw) (lw + 1 + k) <;> rw [q] at c65 <;> first | exact absurd c65 (by decide) | (rw [Bool.true_and]; first | (rw [bI_1 c75]; rfl) | (rw [bI_0 c75]; rfl)))) <|
            s_istore h dX8_findMost_83 rfl <|
            s_iload h dX8_findMost_85 rfl <|
            s_if_eq (tgt := 109) h dX8_findMost_87 (by decide) (fun c87 => ?_) (fun c87 => ?_)
            · refine s_iconst h dX8_findMost_109 ic_0 <|
              s_topi (mRw (cw (mS f0 a0)) (b 111) (clr (i + 1) lw) lw (lw + 1 + k)) (by unfold mRw; first | rw [bool_ifn (bI_0 c87)] | rw [bool_if (bI_1 c87)]) <|
              s_istore h dX8_findMost_110 rfl <|
              s_iload h dX8_findMost_112 rfl <|
              s_iload h dX8_findMost_114 rfl <|
              s_icmp_le (tgt := 124) h dX8_findMost_116 (by decide) (fun c116 => ?_) (fun c116 => ?_)
              · refine s_iload h dX8_findMost_124 rfl <|
                s_topi (mR (cw (mS f0 a0)) (b 111) (i + 1) lw (k + 1)) (by rw [mR_s]; unfold imax; first | rw [if_neg (i32_nlt.mpr c116)] | rw [if_pos (i32_nle.mp c116)]) <|
                s_istore h dX8_findMost_126 rfl <|
                s_iincR h dX8_findMost_128 rfl rfl ic_1 (nI_1 _) <|
                s_goto (tgt := 50) h dX8_findMost_131 (by decide) <|
                ?_
                exact SX.loc (ih) ⟨rfl, rfl, rfl, rfl, rfl, rfl, rfl, trivial⟩
              · refine s_iload h dX8_findMost_119 rfl <|
                s_goto (tgt := 126) h dX8_findMost_121 (by decide) <|
                s_topi (mR (cw (mS f0 a0)) (b 111) (i + 1) lw (k + 1)) (by rw [mR_s]; unfold imax; first | rw [if_neg (i32_nlt.mpr c116)] | rw [if_pos (i32_nle.mp c116)]) <|
                s_istore h dX8_findMost_126 rfl <|
                s_iincR h dX8_findMost_128 rfl rfl ic_1 (nI_1 _) <|
                s_goto (tgt := 50) h dX8_findMost_131 (by decide) <|
                ?_
                exact SX.loc (ih) ⟨rfl, rfl, rfl, rfl, rfl, rfl, rfl, trivial⟩
            · refine s_iconst h dX8_findMost_90 ic_1 <|
              s_aload_n h dX8_findMost_91 rfl <|
              gm_31 h dX8_findMost_92 hN hM <|
              s_iload h dX8_findMost_95 rfl <|
              s_iconst h dX8_findMost_97 ic_1 <|
              s_iload h dX8_findMost_98 rfl <|
              s_ishl h dX8_findMost_100 <|
              s_iconst h dX8_findMost_101 ic_m1 <|
              s_ixor h dX8_findMost_102 <|
              s_iand h dX8_findMost_103 <|
              s_topi (nI (clr (clr (i + 1) lw) (lw + 1 + k))) (clr_wo _ hr _ (by omega)) <|
              s_iald h dX8_findMost_104 (by omega) hM.a111 (ix_n (Nat.lt_of_le_of_lt (clr_le _ _) hr) (by decide)) rfl <|
              s_iadd h dX8_findMost_105 <|
              s_goto (tgt := 110) h dX8_findMost_106 (by decide) <|
              s_topi (mRw (cw (mS f0 a0)) (b 111) (clr (i + 1) lw) lw (lw + 1 + k)) (by unfold mRw; first | rw [bool_ifn (bI_0 c87)] | rw [bool_if (bI_1 c87)]) <|
              s_istore h dX8_findMost_110 rfl <|
              s_iload h dX8_findMost_112 rfl <|
              s_iload h dX8_findMost_114 rfl <|
              s_icmp_le (tgt := 124) h dX8_findMost_116 (by decide) (fun c116 => ?_) (fun c116 => ?_)
              · refine s_iload h dX8_findMost_124 rfl <|
                s_topi (mR (cw (mS f0 a0)) (b 111) (i + 1) lw (k + 1)) (by rw [mR_s]; unfold imax; first | rw [if_neg (i32_nlt.mpr c116)] | rw [if_pos (i32_nle.mp c116)]) <|
                s_istore h dX8_findMost_126 rfl <|
                s_iincR h dX8_findMost_128 rfl rfl ic_1 (nI_1 _) <|
                s_goto (tgt := 50) h dX8_findMost_131 (by decide) <|
                ?_
                exact SX.loc (ih) ⟨rfl, rfl, rfl, rfl, rfl, rfl, rfl, trivial⟩
              · refine s_iload h dX8_findMost_119 rfl <|
                s_goto (tgt := 126) h dX8_findMost_121 (by decide) <|
                s_topi (mR (cw (mS f0 a0)) (b 111) (i + 1) lw (k + 1)) (by rw [mR_s]; unfold imax; first | rw [if_neg (i32_nlt.mpr c116)] | rw [if_pos (i32_nle.mp c116)]) <|
                s_istore h dX8_findMost_126 rfl <|
                s_iincR h dX8_findMost_128 rfl rfl ic_1 (nI_1 _) <|
                s_goto (tgt := 50) h dX8_findMost_131 (by decide) <|
                ?_
                exact SX.loc (ih) ⟨rfl, rfl, rfl, rfl, rfl, rfl, rfl, trivial⟩
