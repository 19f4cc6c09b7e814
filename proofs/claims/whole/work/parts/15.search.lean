/-! ===== the search through stands and minutes ===== -/
def badP (sc : Nat → Nat → Int32) (col : Nat → Int32) (c m lo : Int32) (t : Nat) : Bool := !decide (nI t = lo) && !decide (sCol sc c m t = col t)
def fitB (sc : Nat → Nat → Int32) (col : Nat → Int32) (c m lo : Int32) : Bool := (ffO (badP sc col c m lo) 6).isNone
theorem dn_ind {n : Nat} {Q : Nat → Prop} (h0 : Q 0) (hs : ∀ i, i < n → Q i → Q (i + 1)) : ∀ i, i ≤ n → Q i
  | 0, _ => h0
  | i + 1, h => hs i (by omega) (dn_ind (n := n) h0 hs i (by omega))
/-- a counter that falls: -1 behind 0 -/
def dv : Nat → Int32
  | 0 => -1
  | n + 1 => nI n
theorem dv_s (i : Nat) : nI i + (-1) = dv i := by
  cases i with
  | zero => decide +kernel
  | succ n =>
    show nI (n + 1) + (-1) = nI n
    rw [nI_succ, Int32.add_assoc, show (1 : Int32) + -1 = 0 from by decide, Int32.add_zero]
/-- the last place below n -/
def lfO (p : Nat → Bool) : Nat → Option Nat
  | 0 => none
  | n + 1 => if p n then some n else lfO p n
theorem lg_cmp0 {x y : Int64} : lg_cmp x y = 0 ↔ x = y := by
  unfold lg_cmp
  by_cases h1 : y < x
  · have : ¬ x = y := fun q => by rw [q] at h1; rw [Int64.lt_iff_toInt_lt] at h1; omega
    simp [h1, this]
  · by_cases h2 : x = y
    · simp [h2]
    · simp [h1, h2]
def hitK (sc : Nat → Nat → Int32) (col : Nat → Int32) (lo : Int32) (k : Nat) : Bool := fitB sc col (nI (k % 100)) (nI (k / 100)) lo
theorem hitK_at (sc : Nat → Nat → Int32) (col : Nat → Int32) (lo : Int32) (j : Nat) {i : Nat} (hi : i < 100) : hitK sc col lo (100 * j + i) = fitB sc col (nI i) (nI j) lo := by
  unfold hitK
  rw [show (100 * j + i) % 100 = i from by omega, show (100 * j + i) / 100 = j from by omega]
def cSI (sc : Nat → Nat → Int32) (col : Nat → Int32) (m : Int32) (n : Nat) : Int32 := fN (fun i x => if fitB sc col (nI i) m (-1) then x + 1 else x) 0 n
theorem cSI_s (sc : Nat → Nat → Int32) (col : Nat → Int32) (m : Int32) (n : Nat) : cSI sc col m (n + 1) = if fitB sc col (nI n) m (-1) then cSI sc col m n + 1 else cSI sc col m n := rfl
def cSt (sc : Nat → Nat → Int32) (col : Nat → Int32) (n : Nat) : Int32 := fN (fun j x => x + cSI sc col (nI j) 100) 0 n
/-- how many of the first n fit -/
def cntK (sc : Nat → Nat → Int32) (col : Nat → Int32) (n : Nat) : Int32 := fN (fun k x => if hitK sc col (-1) k then x + 1 else x) 0 n
theorem cntK_s (sc : Nat → Nat → Int32) (col : Nat → Int32) (n : Nat) : cntK sc col (n + 1) = if hitK sc col (-1) n then cntK sc col n + 1 else cntK sc col n := rfl
def standP (sc : Nat → Nat → Int32) (col : Nat → Int32) (b : Int32) (k : Nat) : Bool := hitK sc col (-1) k && decide (cntK sc col k = b)
def sAt (sc : Nat → Nat → Int32) (col : Nat → Int32) (b : Int32) : Int32 := if wb b 0 9999 then oI (ffO (standP sc col b) 10000) else -6
def minP (sc : Nat → Nat → Int32) (col : Nat → Int32) (j : Nat) : Bool := decide (0 < cSI sc col (nI j) 100)
def dfB (sc : Nat → Nat → Int32) (col : Nat → Int32) (c m : Int32) (n : Nat) : Int32 := fN (fun t b => if sCol sc c m t = col t then b else b ||| (1 <<< (nI t &&& 31))) 0 n
theorem dfB_s (sc : Nat → Nat → Int32) (col : Nat → Int32) (c m : Int32) (n : Nat) : dfB sc col c m (n + 1) = if sCol sc c m n = col n then dfB sc col c m n else dfB sc col c m n ||| (1 <<< (nI n &&& 31)) := rfl
def ffS (wr x : Int32) : Int32 := if bC wr - bC x < 0 ∨ bC wr - bC x = 0 ∧ wr < x then wr else x
def difK (sc : Nat → Nat → Int32) (col : Nat → Int32) (k : Nat) : Int32 := dfB sc col (nI (k % 100)) (nI (k / 100)) 6
theorem difK_at (sc : Nat → Nat → Int32) (col : Nat → Int32) (j : Nat) {i : Nat} (hi : i < 100) : difK sc col (100 * j + i) = dfB sc col (nI i) (nI j) 6 := by
  unfold difK
  rw [show (100 * j + i) % 100 = i from by omega, show (100 * j + i) / 100 = j from by omega]
def fFk (sc : Nat → Nat → Int32) (col : Nat → Int32) (n : Nat) : Int32 := fN (fun k x => ffS (difK sc col k) x) 63 n
theorem fFk_s (sc : Nat → Nat → Int32) (col : Nat → Int32) (n : Nat) : fFk sc col (n + 1) = ffS (difK sc col n) (fFk sc col n) := rfl
def cBit (x : Int32) : Int64 := 1 <<< ((if x = -6 then 61 else x).toInt64 &&& 63)
def cWk (sc : Nat → Nat → Int32) (col : Nat → Int32) (t : Nat) (n : Nat) : Int64 := fN (fun k x => if hitK sc col (nI t) k then x ||| cBit (sCol sc (nI (k % 100)) (nI (k / 100)) t) else x) 0 n
theorem cWk_s (sc : Nat → Nat → Int32) (col : Nat → Int32) (t : Nat) (n : Nat) : cWk sc col t (n + 1) = if hitK sc col (nI t) n then cWk sc col t n ||| cBit (sCol sc (nI (n % 100)) (nI (n / 100)) t) else cWk sc col t n := rfl
def shP (x : Int64) (j : Nat) : Bool := decide (x >>> ((nI j).toInt64 &&& 63) &&& 1 = 1)

theorem c_X4_fits {l : Launch} {D : va_G} {N : Nat} {adr : Nat → Nat} {G : Nat → va_E} {k : Nat} {sc : Nat → Nat → Int32} (hkN : k + 28 < N) (hT : isTh D adr G k sc) (hwf : wfT sc) {k2 : Nat} {th : Int32} {f col : Nat → Int32} (hk21 : k2 + 1 < N) (hp0 : G k2 = .inr (2, [.int th, .ref (adr (k2 + 1))])) (hp1 : G (k2 + 1) = aI D 6 f) (hp2 : ∀ j, j < 6 → f j = col j) {c m lo : Int32} :
    CT l D yX4_fits cX4_fits 6 (some FieldType.boolean) (rl 3) [.ref (adr k), .ref (adr k2), .int c, .int m, .int lo] N adr G (PE (some (.int (bI (fitB sc col c m lo)))) N adr G) := by
  refine CT.of (by decide +kernel) (Nat.le_of_ble_eq_true rfl) (fun Γ h he => ?_)
  have h : cx l D (rl 3) RX4 cX4_fits 6 Γ := h
  show SX Γ 0 0 0 [(0, .ref (adr k)), (1, .ref (adr k2)), (2, .int c), (3, .int m), (4, .int lo)] [] N adr G
  refine s_iconst h dX4_fits_0 ic_0 <|
    s_istore h dX4_fits_1 rfl <|
    ?_
  refine SX.loc (up_ind (n := 6) (Q := fun i => (∀ a, a < i → badP sc col c m lo a = false) → SX Γ 0 0 3 [(0, .ref (adr k)), (1, .ref (adr k2)), (2, .int c), (3, .int m), (4, .int lo), (5, .int (nI i))] [] N adr G) ?_ ?_ 0 (Nat.zero_le _) nh_0) ⟨rfl, rfl, rfl, rfl, rfl, rfl, trivial⟩
  · intro hH
    show SX _ _ _ _ _ _ _ _ _
    refine s_iload h dX4_fits_3 rfl <|
    s_bipush h dX4_fits_5 bp_6 <|
    s_icmp_ge (tgt := 42) h dX4_fits_7 (by decide) (kf := fun q => absurd (by decide +kernel) q) (kt := fun _ => ?_)
    refine s_iconst h dX4_fits_42 ic_1 <|
    s_iret h he (show narrow .boolean (.int 1) = .int 1 from rfl) dX4_fits_43 ⟨Nat.le_refl _, Nat.le_refl _⟩ ?_
    first
      | (have q14 : ¬ nI i = lo := c14
         have q31 : ¬ sCol sc c m i = col i := fun q => c31 (q.trans (hp2 i hi).symm)
         exact PE.eq (by rw [show fitB sc col c m lo = false from by rw [fitB, ffO_some (n := 6) hi (by simp [badP, q14, q31]) hH]; rfl]; rfl) rfl)
      | exact PE.eq (by rw [show fitB sc col c m lo = true from by rw [fitB, ffO_none hH]; rfl]; rfl) rfl
  · intro i hi ih hH
    show SX _ _ _ _ _ _ _ _ _
    refine s_iload h dX4_fits_3 rfl <|
    s_bipush h dX4_fits_5 bp_6 <|
    s_icmp_ge (tgt := 42) h dX4_fits_7 (by decide) (kt := fun q => absurd q (nI_ge hi (by decide))) (kf := fun _ => ?_)
    refine s_iload h dX4_fits_10 rfl <|
    s_iload h dX4_fits_12 rfl <|
    s_icmp_eq (tgt := 36) h dX4_fits_14 (by decide) (fun c14 => ?_) (fun c14 => ?_)
    · refine s_iincR h dX4_fits_36 rfl rfl ic_1 (nI_1 i) <|
      s_goto (tgt := 3) h dX4_fits_39 (by decide) <|
      ?_
      first
        | (have q14 : nI i = lo := c14; exact SX.loc (ih (nh_s hH (by simp [badP, q14]))) ⟨rfl, rfl, rfl, rfl, rfl, rfl, trivial⟩)
        | (have q31 : sCol sc c m i = col i := (show sCol sc c m i = f i from c31).trans (hp2 i hi); exact SX.loc (ih (nh_s hH (by simp [badP, q31]))) ⟨rfl, rfl, rfl, rfl, rfl, rfl, trivial⟩)
    · refine s_aload_n h dX4_fits_17 rfl <|
      s_iload h dX4_fits_18 rfl <|
      s_iload_n h dX4_fits_20 rfl <|
      s_iload_n h dX4_fits_21 rfl <|
      k_X4_9 h (c_X3_columnOf hkN hT hwf hi) (by omega) hT.1 rfl rfl dX4_fits_22 <|
      PE.go <|
      s_aload_n h dX4_fits_25 rfl <|
      s_iload h dX4_fits_26 rfl <|
      k_X4_15 h (c_X2_columnOf hk21 hp0 hp1 (ix_n hi (by decide))) (by omega) hp0 rfl rfl dX4_fits_28 <|
      PE.go <|
      s_icmp_eq (tgt := 36) h dX4_fits_31 (by decide) (fun c31 => ?_) (fun c31 => ?_)
      · refine s_iincR h dX4_fits_36 rfl rfl ic_1 (nI_1 i) <|
        s_goto (tgt := 3) h dX4_fits_39 (by decide) <|
        ?_
        first
          | (have q14 : nI i = lo := c14; exact SX.loc (ih (nh_s hH (by simp [badP, q14]))) ⟨rfl, rfl, rfl, rfl, rfl, rfl, trivial⟩)
          | (have q31 : sCol sc c m i = col i := (show sCol sc c m i = f i from c31).trans (hp2 i hi); exact SX.loc (ih (nh_s hH (by simp [badP, q31]))) ⟨rfl, rfl, rfl, rfl, rfl, rfl, trivial⟩)
      · refine s_iconst h dX4_fits_34 ic_0 <|
        s_iret h he (show narrow .boolean (.int 0) = .int 0 from rfl) dX4_fits_35 ⟨Nat.le_refl _, Nat.le_refl _⟩ ?_
        first
          | (have q14 : ¬ nI i = lo := c14
             have q31 : ¬ sCol sc c m i = col i := fun q => c31 (q.trans (hp2 i hi).symm)
             exact PE.eq (by rw [show fitB sc col c m lo = false from by rw [fitB, ffO_some (n := 6) hi (by simp [badP, q14, q31]) hH]; rfl]; rfl) rfl)
          | exact PE.eq (by rw [show fitB sc col c m lo = true from by rw [fitB, ffO_none hH]; rfl]; rfl) rfl
theorem c_X4_countStandsIn {l : Launch} {D : va_G} {N : Nat} {adr : Nat → Nat} {G : Nat → va_E} {k : Nat} {sc : Nat → Nat → Int32} (hkN : k + 28 < N) (hT : isTh D adr G k sc) (hwf : wfT sc) {k2 : Nat} {th : Int32} {f col : Nat → Int32} (hk21 : k2 + 1 < N) (hp0 : G k2 = .inr (2, [.int th, .ref (adr (k2 + 1))])) (hp1 : G (k2 + 1) = aI D 6 f) (hp2 : ∀ j, j < 6 → f j = col j) {m : Int32} :
    CT l D yX4_countStandsIn cX4_countStandsIn 5 (some FieldType.int) (rl 4) [.ref (adr k), .ref (adr k2), .int m] N adr G (PE (some (.int (cSI sc col m 100))) N adr G) := by
  refine CT.of (by decide +kernel) (Nat.le_of_ble_eq_true rfl) (fun Γ h he => ?_)
  have h : cx l D (rl 4) RX4 cX4_countStandsIn 5 Γ := h
  show SX Γ 0 0 0 [(0, .ref (adr k)), (1, .ref (adr k2)), (2, .int m)] [] N adr G
  refine s_iconst h dX4_countStandsIn_0 ic_0 <|
    s_istore_n h dX4_countStandsIn_1 rfl <|
    s_iconst h dX4_countStandsIn_2 ic_0 <|
    s_istore h dX4_countStandsIn_3 rfl <|
    ?_
  refine SX.loc (up_ind (n := 100) (Q := fun i => SX Γ 0 0 5 [(0, .ref (adr k)), (1, .ref (adr k2)), (2, .int m), (3, .int (cSI sc col m i)), (4, .int (nI i))] [] N adr G) ?_ ?_ 0 (Nat.zero_le _)) ⟨rfl, rfl, rfl, rfl, rfl, trivial⟩
  · show SX _ _ _ _ _ _ _ _ _
    refine s_iload h dX4_countStandsIn_5 rfl <|
    s_bipush h dX4_countStandsIn_7 bp_100 <|
    s_icmp_ge (tgt := 33) h dX4_countStandsIn_9 (by decide) (kf := fun q => absurd (by decide +kernel) q) (kt := fun _ => ?_)
    refine s_iload_n h dX4_countStandsIn_33 rfl <|
    s_iret h he rfl dX4_countStandsIn_34 ⟨Nat.le_refl _, Nat.le_refl _⟩ ?_
    exact PE.is
  · intro i hi ih 
    show SX _ _ _ _ _ _ _ _ _
    refine s_iload h dX4_countStandsIn_5 rfl <|
    s_bipush h dX4_countStandsIn_7 bp_100 <|
    s_icmp_ge (tgt := 33) h dX4_countStandsIn_9 (by decide) (kt := fun q => absurd q (nI_ge hi (by decide))) (kf := fun _ => ?_)
    refine s_aload_n h dX4_countStandsIn_12 rfl <|
    s_aload_n h dX4_countStandsIn_13 rfl <|
    s_iload h dX4_countStandsIn_14 rfl <|
    s_iload_n h dX4_countStandsIn_16 rfl <|
    s_iconst h dX4_countStandsIn_17 ic_m1 <|
    k_X4_26 h (c_X4_fits hkN hT hwf hk21 hp0 hp1 hp2) rfl rfl dX4_countStandsIn_18 <|
    PE.go <|
    s_if_eq (tgt := 27) h dX4_countStandsIn_21 (by decide) (fun c21 => ?_) (fun c21 => ?_)
    · refine s_iincR h dX4_countStandsIn_27 rfl rfl ic_1 (nI_1 i) <|
      s_goto (tgt := 5) h dX4_countStandsIn_30 (by decide) <|
      ?_
      first
        | exact SX.loc ih ⟨rfl, rfl, rfl, rfl, rfl, trivial⟩
        | (have q := (cSI_s sc col m i).trans (bool_ifn (bI_0 c21)); exact SX.loc (lv2 := [(0, .ref (adr k)), (1, .ref (adr k2)), (2, .int m), (3, .int (cSI sc col m i)), (4, .int (nI (i + 1)))]) (q ▸ ih) ⟨rfl, rfl, rfl, rfl, rfl, trivial⟩)
    · refine s_iincR h dX4_countStandsIn_24 rfl rfl ic_1 (show cSI sc col m i + 1 = cSI sc col m (i + 1) from ((cSI_s sc col m i).trans (bool_if (bI_1 c21))).symm) <|
      s_iincR h dX4_countStandsIn_27 rfl rfl ic_1 (nI_1 i) <|
      s_goto (tgt := 5) h dX4_countStandsIn_30 (by decide) <|
      ?_
      first
        | exact SX.loc ih ⟨rfl, rfl, rfl, rfl, rfl, trivial⟩
        | (have q := (cSI_s sc col m i).trans (bool_ifn (bI_0 c21)); exact SX.loc (lv2 := [(0, .ref (adr k)), (1, .ref (adr k2)), (2, .int m), (3, .int (cSI sc col m i)), (4, .int (nI (i + 1)))]) (q ▸ ih) ⟨rfl, rfl, rfl, rfl, rfl, trivial⟩)
theorem c_X4_countStands {l : Launch} {D : va_G} {N : Nat} {adr : Nat → Nat} {G : Nat → va_E} {k : Nat} {sc : Nat → Nat → Int32} (hkN : k + 28 < N) (hT : isTh D adr G k sc) (hwf : wfT sc) {k2 : Nat} {th : Int32} {f col : Nat → Int32} (hk21 : k2 + 1 < N) (hp0 : G k2 = .inr (2, [.int th, .ref (adr (k2 + 1))])) (hp1 : G (k2 + 1) = aI D 6 f) (hp2 : ∀ j, j < 6 → f j = col j) :
    CT l D yX4_countStands cX4_countStands 4 (some FieldType.int) (rl 5) [.ref (adr k), .ref (adr k2)] N adr G (PE (some (.int (cSt sc col 100))) N adr G) := by
  refine CT.of (by decide +kernel) (Nat.le_of_ble_eq_true rfl) (fun Γ h he => ?_)
  have h : cx l D (rl 5) RX4 cX4_countStands 4 Γ := h
  show SX Γ 0 0 0 [(0, .ref (adr k)), (1, .ref (adr k2))] [] N adr G
  refine s_iconst h dX4_countStands_0 ic_0 <|
    s_istore_n h dX4_countStands_1 rfl <|
    s_iconst h dX4_countStands_2 ic_0 <|
    s_istore_n h dX4_countStands_3 rfl <|
    ?_
  refine SX.loc (up_ind (n := 100) (Q := fun i => SX Γ 0 0 4 [(0, .ref (adr k)), (1, .ref (adr k2)), (2, .int (cSt sc col i)), (3, .int (nI i))] [] N adr G) ?_ ?_ 0 (Nat.zero_le _)) ⟨rfl, rfl, rfl, rfl, trivial⟩
  · show SX _ _ _ _ _ _ _ _ _
    refine s_iload_n h dX4_countStands_4 rfl <|
    s_bipush h dX4_countStands_5 bp_100 <|
    s_icmp_ge (tgt := 25) h dX4_countStands_7 (by decide) (kf := fun q => absurd (by decide +kernel) q) (kt := fun _ => ?_)
    refine s_iload_n h dX4_countStands_25 rfl <|
    s_iret h he rfl dX4_countStands_26 ⟨Nat.le_refl _, Nat.le_refl _⟩ ?_
    exact PE.is
  · intro i hi ih 
    show SX _ _ _ _ _ _ _ _ _
    refine s_iload_n h dX4_countStands_4 rfl <|
    s_bipush h dX4_countStands_5 bp_100 <|
    s_icmp_ge (tgt := 25) h dX4_countStands_7 (by decide) (kt := fun q => absurd q (nI_ge hi (by decide))) (kf := fun _ => ?_)
    refine s_iload_n h dX4_countStands_10 rfl <|
    s_aload_n h dX4_countStands_11 rfl <|
    s_aload_n h dX4_countStands_12 rfl <|
    s_iload_n h dX4_countStands_13 rfl <|
    k_X4_20 h (c_X4_countStandsIn hkN hT hwf hk21 hp0 hp1 hp2) rfl rfl dX4_countStands_14 <|
    PE.go <|
    s_iadd h dX4_countStands_17 <|
    s_topi (cSt sc col (i + 1)) rfl <|
    s_istore_n h dX4_countStands_18 rfl <|
    s_iincR h dX4_countStands_19 rfl rfl ic_1 (nI_1 i) <|
    s_goto (tgt := 4) h dX4_countStands_22 (by decide) <|
    ?_
    exact SX.loc (ih) ⟨rfl, rfl, rfl, rfl, trivial⟩
theorem c_X4_firstMinute {l : Launch} {D : va_G} {N : Nat} {adr : Nat → Nat} {G : Nat → va_E} {k : Nat} {sc : Nat → Nat → Int32} (hkN : k + 28 < N) (hT : isTh D adr G k sc) (hwf : wfT sc) {k2 : Nat} {th : Int32} {f col : Nat → Int32} (hk21 : k2 + 1 < N) (hp0 : G k2 = .inr (2, [.int th, .ref (adr (k2 + 1))])) (hp1 : G (k2 + 1) = aI D 6 f) (hp2 : ∀ j, j < 6 → f j = col j) :
    CT l D yX4_firstMinute cX4_firstMinute 3 (some FieldType.int) (rl 5) [.ref (adr k), .ref (adr k2)] N adr G (PE (some (.int (oI (ffO (minP sc col) 100)))) N adr G) := by
  refine CT.of (by decide +kernel) (Nat.le_of_ble_eq_true rfl) (fun Γ h he => ?_)
  have h : cx l D (rl 5) RX4 cX4_firstMinute 3 Γ := h
  show SX Γ 0 0 0 [(0, .ref (adr k)), (1, .ref (adr k2))] [] N adr G
  refine s_iconst h dX4_firstMinute_0 ic_0 <|
    s_istore_n h dX4_firstMinute_1 rfl <|
    ?_
  refine SX.loc (up_ind (n := 100) (Q := fun i => (∀ a, a < i → minP sc col a = false) → SX Γ 0 0 2 [(0, .ref (adr k)), (1, .ref (adr k2)), (2, .int (nI i))] [] N adr G) ?_ ?_ 0 (Nat.zero_le _) nh_0) ⟨rfl, rfl, rfl, trivial⟩
  · intro hH
    show SX _ _ _ _ _ _ _ _ _
    refine s_iload_n h dX4_firstMinute_2 rfl <|
    s_bipush h dX4_firstMinute_3 bp_100 <|
    s_icmp_ge (tgt := 25) h dX4_firstMinute_5 (by decide) (kf := fun q => absurd (by decide +kernel) q) (kt := fun _ => ?_)
    refine s_bipush h dX4_firstMinute_25 bp_m6 <|
    s_iret h he rfl dX4_firstMinute_27 ⟨Nat.le_refl _, Nat.le_refl _⟩ ?_
    first
      | (have q14 := i32_nle.mp c14; exact PE.eq (by rw [ffO_some (n := 100) hi (decide_eq_true q14) hH]; rfl) rfl)
      | exact PE.eq (by rw [ffO_none hH]; rfl) rfl
  · intro i hi ih hH
    show SX _ _ _ _ _ _ _ _ _
    refine s_iload_n h dX4_firstMinute_2 rfl <|
    s_bipush h dX4_firstMinute_3 bp_100 <|
    s_icmp_ge (tgt := 25) h dX4_firstMinute_5 (by decide) (kt := fun q => absurd q (nI_ge hi (by decide))) (kf := fun _ => ?_)
    refine s_aload_n h dX4_firstMinute_8 rfl <|
    s_aload_n h dX4_firstMinute_9 rfl <|
    s_iload_n h dX4_firstMinute_10 rfl <|
    k_X4_20 h (c_X4_countStandsIn hkN hT hwf hk21 hp0 hp1 hp2) rfl rfl dX4_firstMinute_11 <|
    PE.go <|
    s_if_le (tgt := 19) h dX4_firstMinute_14 (by decide) (fun c14 => ?_) (fun c14 => ?_)
    · refine s_iincR h dX4_firstMinute_19 rfl rfl ic_1 (nI_1 i) <|
      s_goto (tgt := 2) h dX4_firstMinute_22 (by decide) <|
      ?_
      exact SX.loc (ih (nh_s hH (decide_eq_false (i32_nlt.mpr c14)))) ⟨rfl, rfl, rfl, trivial⟩
    · refine s_iload_n h dX4_firstMinute_17 rfl <|
      s_iret h he rfl dX4_firstMinute_18 ⟨Nat.le_refl _, Nat.le_refl _⟩ ?_
      first
        | (have q14 := i32_nle.mp c14; exact PE.eq (by rw [ffO_some (n := 100) hi (decide_eq_true q14) hH]; rfl) rfl)
        | exact PE.eq (by rw [ffO_none hH]; rfl) rfl
theorem lfO_s (p : Nat → Bool) (n : Nat) : lfO p (n + 1) = if p n then some n else lfO p n := rfl
theorem c_X4_lastMinute {l : Launch} {D : va_G} {N : Nat} {adr : Nat → Nat} {G : Nat → va_E} {k : Nat} {sc : Nat → Nat → Int32} (hkN : k + 28 < N) (hT : isTh D adr G k sc) (hwf : wfT sc) {k2 : Nat} {th : Int32} {f col : Nat → Int32} (hk21 : k2 + 1 < N) (hp0 : G k2 = .inr (2, [.int th, .ref (adr (k2 + 1))])) (hp1 : G (k2 + 1) = aI D 6 f) (hp2 : ∀ j, j < 6 → f j = col j) :
    CT l D yX4_lastMinute cX4_lastMinute 3 (some FieldType.int) (rl 5) [.ref (adr k), .ref (adr k2)] N adr G (PE (some (.int (oI (lfO (minP sc col) 100)))) N adr G) := by
  refine CT.of (by decide +kernel) (Nat.le_of_ble_eq_true rfl) (fun Γ h he => ?_)
  have h : cx l D (rl 5) RX4 cX4_lastMinute 3 Γ := h
  show SX Γ 0 0 0 [(0, .ref (adr k)), (1, .ref (adr k2))] [] N adr G
  refine s_bipush h dX4_lastMinute_0 bp_99 <|
    s_istore_n h dX4_lastMinute_2 rfl <|
    ?_
  refine SX.loc (dn_ind (n := 100) (Q := fun i => (lfO (minP sc col) 100 = lfO (minP sc col) i) → SX Γ 0 0 3 [(0, .ref (adr k)), (1, .ref (adr k2)), (2, .int (dv i))] [] N adr G) ?_ ?_ 100 (Nat.le_refl _) (rfl)) ⟨rfl, rfl, rfl, trivial⟩
  · intro hH
    show SX _ _ _ _ _ _ _ _ _
    refine s_iload_n h dX4_lastMinute_3 rfl <|
    s_if_lt (tgt := 24) h dX4_lastMinute_4 (by decide) (kf := fun q => absurd (by decide +kernel) q) (kt := fun _ => ?_)
    refine s_bipush h dX4_lastMinute_24 bp_m6 <|
    s_iret h he rfl dX4_lastMinute_26 ⟨Nat.le_refl _, Nat.le_refl _⟩ ?_
    first
      | (have q13 := i32_nle.mp c13; exact PE.eq (by rw [hH, lfO_s, bool_if (show minP sc col i = true from decide_eq_true q13)]; rfl) rfl)
      | exact PE.eq (by rw [hH]; rfl) rfl
  · intro i hi ih hH
    show SX Γ 0 0 3 [(0, .ref (adr k)), (1, .ref (adr k2)), (2, .int (dv (i + 1)))] [] N adr G
    refine s_iload_n h dX4_lastMinute_3 rfl <|
    s_if_lt (tgt := 24) h dX4_lastMinute_4 (by decide) (kt := fun q => absurd q (nI_pos (by omega))) (kf := fun _ => ?_)
    refine s_aload_n h dX4_lastMinute_7 rfl <|
    s_aload_n h dX4_lastMinute_8 rfl <|
    s_iload_n h dX4_lastMinute_9 rfl <|
    k_X4_20 h (c_X4_countStandsIn hkN hT hwf hk21 hp0 hp1 hp2) rfl rfl dX4_lastMinute_10 <|
    PE.go <|
    s_if_le (tgt := 18) h dX4_lastMinute_13 (by decide) (fun c13 => ?_) (fun c13 => ?_)
    · refine s_iincR h dX4_lastMinute_18 rfl rfl ic_m1 (dv_s i) <|
      s_goto (tgt := 3) h dX4_lastMinute_21 (by decide) <|
      ?_
      exact SX.loc (ih (hH.trans ((lfO_s _ i).trans (bool_ifn (decide_eq_false (i32_nlt.mpr c13)))))) ⟨rfl, rfl, rfl, trivial⟩
    · refine s_iload_n h dX4_lastMinute_16 rfl <|
      s_iret h he rfl dX4_lastMinute_17 ⟨Nat.le_refl _, Nat.le_refl _⟩ ?_
      first
        | (have q13 := i32_nle.mp c13; exact PE.eq (by rw [hH, lfO_s, bool_if (show minP sc col i = true from decide_eq_true q13)]; rfl) rfl)
        | exact PE.eq (by rw [hH]; rfl) rfl
theorem c_X4_differing {l : Launch} {D : va_G} {N : Nat} {adr : Nat → Nat} {G : Nat → va_E} {k : Nat} {sc : Nat → Nat → Int32} (hkN : k + 28 < N) (hT : isTh D adr G k sc) (hwf : wfT sc) {k2 : Nat} {th : Int32} {f col : Nat → Int32} (hk21 : k2 + 1 < N) (hp0 : G k2 = .inr (2, [.int th, .ref (adr (k2 + 1))])) (hp1 : G (k2 + 1) = aI D 6 f) (hp2 : ∀ j, j < 6 → f j = col j) {c m : Int32} :
    CT l D yX4_differing cX4_differing 6 (some FieldType.int) (rl 3) [.ref (adr k), .ref (adr k2), .int c, .int m] N adr G (PE (some (.int (dfB sc col c m 6))) N adr G) := by
  refine CT.of (by decide +kernel) (Nat.le_of_ble_eq_true rfl) (fun Γ h he => ?_)
  have h : cx l D (rl 3) RX4 cX4_differing 6 Γ := h
  show SX Γ 0 0 0 [(0, .ref (adr k)), (1, .ref (adr k2)), (2, .int c), (3, .int m)] [] N adr G
  refine s_iconst h dX4_differing_0 ic_0 <|
    s_istore h dX4_differing_1 rfl <|
    s_iconst h dX4_differing_3 ic_0 <|
    s_istore h dX4_differing_4 rfl <|
    ?_
  refine SX.loc (up_ind (n := 6) (Q := fun i => SX Γ 0 0 6 [(0, .ref (adr k)), (1, .ref (adr k2)), (2, .int c), (3, .int m), (4, .int (dfB sc col c m i)), (5, .int (nI i))] [] N adr G) ?_ ?_ 0 (Nat.zero_le _)) ⟨rfl, rfl, rfl, rfl, rfl, rfl, trivial⟩
  · show SX _ _ _ _ _ _ _ _ _
    refine s_iload h dX4_differing_6 rfl <|
    s_bipush h dX4_differing_8 bp_6 <|
    s_icmp_ge (tgt := 45) h dX4_differing_10 (by decide) (kf := fun q => absurd (by decide +kernel) q) (kt := fun _ => ?_)
    refine s_iload h dX4_differing_45 rfl <|
    s_iret h he rfl dX4_differing_47 ⟨Nat.le_refl _, Nat.le_refl _⟩ ?_
    exact PE.is
  · intro i hi ih 
    show SX _ _ _ _ _ _ _ _ _
    refine s_iload h dX4_differing_6 rfl <|
    s_bipush h dX4_differing_8 bp_6 <|
    s_icmp_ge (tgt := 45) h dX4_differing_10 (by decide) (kt := fun q => absurd q (nI_ge hi (by decide))) (kf := fun _ => ?_)
    refine s_aload_n h dX4_differing_13 rfl <|
    s_iload h dX4_differing_14 rfl <|
    s_iload_n h dX4_differing_16 rfl <|
    s_iload_n h dX4_differing_17 rfl <|
    k_X4_9 h (c_X3_columnOf hkN hT hwf hi) (by omega) hT.1 rfl rfl dX4_differing_18 <|
    PE.go <|
    s_aload_n h dX4_differing_21 rfl <|
    s_iload h dX4_differing_22 rfl <|
    k_X4_15 h (c_X2_columnOf hk21 hp0 hp1 (ix_n hi (by decide))) (by omega) hp0 rfl rfl dX4_differing_24 <|
    PE.go <|
    s_icmp_eq (tgt := 39) h dX4_differing_27 (by decide) (fun c27 => ?_) (fun c27 => ?_)
    · refine s_iincR h dX4_differing_39 rfl rfl ic_1 (nI_1 i) <|
      s_goto (tgt := 6) h dX4_differing_42 (by decide) <|
      ?_
      first
        | exact SX.loc ih ⟨rfl, rfl, rfl, rfl, rfl, rfl, trivial⟩
        | (have q := (dfB_s sc col c m i).trans (if_pos ((show sCol sc c m i = f i from c27).trans (hp2 i hi))); exact SX.loc (lv2 := [(0, .ref (adr k)), (1, .ref (adr k2)), (2, .int c), (3, .int m), (4, .int (dfB sc col c m i)), (5, .int (nI (i + 1)))]) (q ▸ ih) ⟨rfl, rfl, rfl, rfl, rfl, rfl, trivial⟩)
    · refine s_iload h dX4_differing_30 rfl <|
      s_iconst h dX4_differing_32 ic_1 <|
      s_iload h dX4_differing_33 rfl <|
      s_ishl h dX4_differing_35 <|
      s_ior h dX4_differing_36 <|
      s_topi (dfB sc col c m (i + 1)) ((dfB_s sc col c m i).trans (if_neg (fun q => c27 (q.trans (hp2 i hi).symm)))).symm <|
      s_istore h dX4_differing_37 rfl <|
      s_iincR h dX4_differing_39 rfl rfl ic_1 (nI_1 i) <|
      s_goto (tgt := 6) h dX4_differing_42 (by decide) <|
      ?_
      first
        | exact SX.loc ih ⟨rfl, rfl, rfl, rfl, rfl, rfl, trivial⟩
        | (have q := (dfB_s sc col c m i).trans (if_pos ((show sCol sc c m i = f i from c27).trans (hp2 i hi))); exact SX.loc (lv2 := [(0, .ref (adr k)), (1, .ref (adr k2)), (2, .int c), (3, .int m), (4, .int (dfB sc col c m i)), (5, .int (nI (i + 1)))]) (q ▸ ih) ⟨rfl, rfl, rfl, rfl, rfl, rfl, trivial⟩)
theorem nI_mulI (a b : Nat) : nI a * nI b = nI (a * b) := by
  show Int32.ofNat a * Int32.ofNat b = Int32.ofNat (a * b)
  rw [Int32.ofNat_mul]
theorem nI_mul100 (b : Nat) : nI 100 * nI b = nI (100 * b) := nI_mulI 100 b

theorem c_X4_standAt {l : Launch} {D : va_G} {N : Nat} {adr : Nat → Nat} {G : Nat → va_E} {k : Nat} {sc : Nat → Nat → Int32} (hkN : k + 28 < N) (hT : isTh D adr G k sc) (hwf : wfT sc) {k2 : Nat} {th : Int32} {f col : Nat → Int32} (hk21 : k2 + 1 < N) (hp0 : G k2 = .inr (2, [.int th, .ref (adr (k2 + 1))])) (hp1 : G (k2 + 1) = aI D 6 f) (hp2 : ∀ j, j < 6 → f j = col j) {b : Int32} :
    CT l D yX4_standAt cX4_standAt 6 (some FieldType.int) (rl 4) [.ref (adr k), .ref (adr k2), .int b] N adr G (PE (some (.int (sAt sc col b))) N adr G) := by
  refine CT.of (by decide +kernel) (Nat.le_of_ble_eq_true rfl) (fun Γ h he => ?_)
  have h : cx l D (rl 4) RX4 cX4_standAt 6 Γ := h
  show SX Γ 0 0 0 [(0, .ref (adr k)), (1, .ref (adr k2)), (2, .int b)] [] N adr G
  refine s_iload_n h dX4_standAt_0 rfl <|
    s_iconst h dX4_standAt_1 ic_0 <|
    s_sipush h dX4_standAt_2 sp_9999 <|
    k_X4_30 h (c_X7_within) rfl rfl dX4_standAt_5 <|
    PE.go <|
    s_if_ne (tgt := 14) h dX4_standAt_8 (by decide) (fun c8 => ?_) (fun c8 => ?_)
  · have hwb := bI_1 c8
    refine s_iconst h dX4_standAt_14 ic_0 <|
      s_istore_n h dX4_standAt_15 rfl <|
      s_iconst h dX4_standAt_16 ic_0 <|
      s_istore h dX4_standAt_17 rfl <|
      ?_
    refine SX.loc (up_ind (n := 100) (Q := fun j => (∀ a, a < 100 * j → standP sc col b a = false) → SX Γ 0 0 19 [(0, .ref (adr k)), (1, .ref (adr k2)), (2, .int b), (3, .int (cntK sc col (100 * j))), (4, .int (nI j))] [] N adr G) ?_ ?_ 0 (Nat.zero_le _) nh_0) ⟨rfl, rfl, rfl, rfl, rfl, trivial⟩
    · intro hJ
      show SX _ _ _ _ _ _ _ _ _
      refine s_iload h dX4_standAt_19 rfl <|
      s_bipush h dX4_standAt_21 bp_100 <|
      s_icmp_ge (tgt := 81) h dX4_standAt_23 (by decide) (kf := fun q => absurd (by decide +kernel) q) (kt := fun _ => ?_)
      refine s_bipush h dX4_standAt_81 bp_m6 <|
      s_iret h he rfl dX4_standAt_83 ⟨Nat.le_refl _, Nat.le_refl _⟩ ?_
      first
        | (have q43 : hitK sc col (-1) (100 * j + i) = true := (hitK_at sc col (-1) j hi).trans (bI_1 c46)
           exact PE.eq (by rw [sAt, bool_if hwb, ffO_some (n := 10000) (i := 100 * j + i) (by omega) (by rw [standP, q43, decide_eq_true c54]; rfl) hH, show (100 : Int32) = nI 100 from rfl, nI_mul100, nI_add]; rfl) rfl)
        | exact PE.eq (by rw [sAt, bool_if hwb, ffO_none hJ]; rfl) rfl
    · intro j hj jh hJ
      show SX _ _ _ _ _ _ _ _ _
      refine s_iload h dX4_standAt_19 rfl <|
      s_bipush h dX4_standAt_21 bp_100 <|
      s_icmp_ge (tgt := 81) h dX4_standAt_23 (by decide) (kt := fun q => absurd q (nI_ge hj (by decide))) (kf := fun _ => ?_)
      refine s_iconst h dX4_standAt_26 ic_0 <|
      s_istore h dX4_standAt_27 rfl <|
      ?_
      refine SX.loc (up_ind (n := 100) (Q := fun i => (∀ a, a < 100 * j + i → standP sc col b a = false) → SX Γ 0 0 29 [(0, .ref (adr k)), (1, .ref (adr k2)), (2, .int b), (3, .int (cntK sc col (100 * j + i))), (4, .int (nI j)), (5, .int (nI i))] [] N adr G) ?_ ?_ 0 (Nat.zero_le _) hJ) ⟨rfl, rfl, rfl, rfl, rfl, rfl, trivial⟩
      · intro hH
        show SX _ _ _ _ _ _ _ _ _
        refine s_iload h dX4_standAt_29 rfl <|
        s_bipush h dX4_standAt_31 bp_100 <|
        s_icmp_ge (tgt := 75) h dX4_standAt_33 (by decide) (kf := fun q => absurd (by decide +kernel) q) (kt := fun _ => ?_)
        refine s_iincR h dX4_standAt_75 rfl rfl ic_1 (nI_1 j) <|
        s_goto (tgt := 19) h dX4_standAt_78 (by decide) <|
        ?_
        exact SX.loc (jh hH) ⟨rfl, rfl, rfl, rfl, rfl, trivial⟩
      · intro i hi ih hH
        show SX _ _ _ _ _ _ _ _ _
        refine s_iload h dX4_standAt_29 rfl <|
        s_bipush h dX4_standAt_31 bp_100 <|
        s_icmp_ge (tgt := 75) h dX4_standAt_33 (by decide) (kt := fun q => absurd q (nI_ge hi (by decide))) (kf := fun _ => ?_)
        refine s_aload_n h dX4_standAt_36 rfl <|
        s_aload_n h dX4_standAt_37 rfl <|
        s_iload h dX4_standAt_38 rfl <|
        s_iload h dX4_standAt_40 rfl <|
        s_iconst h dX4_standAt_42 ic_m1 <|
        k_X4_26 h (c_X4_fits hkN hT hwf hk21 hp0 hp1 hp2) rfl rfl dX4_standAt_43 <|
        PE.go <|
        s_if_ne (tgt := 52) h dX4_standAt_46 (by decide) (fun c46 => ?_) (fun c46 => ?_)
        · refine s_iload_n h dX4_standAt_52 rfl <|
          s_iload_n h dX4_standAt_53 rfl <|
          s_icmp_ne (tgt := 66) h dX4_standAt_54 (by decide) (fun c54 => ?_) (fun c54 => ?_)
          · refine s_iincR h dX4_standAt_66 rfl rfl ic_1 (show cntK sc col (100 * j + i) + 1 = cntK sc col (100 * j + (i + 1)) from ((cntK_s sc col (100 * j + i)).trans (bool_if ((hitK_at sc col (-1) j hi).trans (bI_1 c46)))).symm) <|
            s_iincR h dX4_standAt_69 rfl rfl ic_1 (nI_1 i) <|
            s_goto (tgt := 29) h dX4_standAt_72 (by decide) <|
            ?_
            first
              | (have q43 : hitK sc col (-1) (100 * j + i) = false := (hitK_at sc col (-1) j hi).trans (bI_0 c46)
                 have q := (cntK_s sc col (100 * j + i)).trans (bool_ifn q43)
                 exact SX.loc (lv2 := [(0, .ref (adr k)), (1, .ref (adr k2)), (2, .int b), (3, .int (cntK sc col (100 * j + i))), (4, .int (nI j)), (5, .int (nI (i + 1)))]) (q ▸ ih (nh_s (i := 100 * j + i) hH (by rw [standP, q43]; rfl))) ⟨rfl, rfl, rfl, rfl, rfl, rfl, trivial⟩)
              | exact SX.loc (ih (nh_s (i := 100 * j + i) hH (by rw [standP, decide_eq_false c54, Bool.and_false]))) ⟨rfl, rfl, rfl, rfl, rfl, rfl, trivial⟩
          · refine s_bipush h dX4_standAt_57 bp_100 <|
            s_iload h dX4_standAt_59 rfl <|
            s_imul h dX4_standAt_61 <|
            s_iload h dX4_standAt_62 rfl <|
            s_iadd h dX4_standAt_64 <|
            s_iret h he rfl dX4_standAt_65 ⟨Nat.le_refl _, Nat.le_refl _⟩ ?_
            first
              | (have q43 : hitK sc col (-1) (100 * j + i) = true := (hitK_at sc col (-1) j hi).trans (bI_1 c46)
                 exact PE.eq (by rw [sAt, bool_if hwb, ffO_some (n := 10000) (i := 100 * j + i) (by omega) (by rw [standP, q43, decide_eq_true c54]; rfl) hH, show (100 : Int32) = nI 100 from rfl, nI_mul100, nI_add]; rfl) rfl)
              | exact PE.eq (by rw [sAt, bool_if hwb, ffO_none hJ]; rfl) rfl
        · refine s_goto (tgt := 69) h dX4_standAt_49 (by decide) <|
          s_iincR h dX4_standAt_69 rfl rfl ic_1 (nI_1 i) <|
          s_goto (tgt := 29) h dX4_standAt_72 (by decide) <|
          ?_
          first
            | (have q43 : hitK sc col (-1) (100 * j + i) = false := (hitK_at sc col (-1) j hi).trans (bI_0 c46)
               have q := (cntK_s sc col (100 * j + i)).trans (bool_ifn q43)
               exact SX.loc (lv2 := [(0, .ref (adr k)), (1, .ref (adr k2)), (2, .int b), (3, .int (cntK sc col (100 * j + i))), (4, .int (nI j)), (5, .int (nI (i + 1)))]) (q ▸ ih (nh_s (i := 100 * j + i) hH (by rw [standP, q43]; rfl))) ⟨rfl, rfl, rfl, rfl, rfl, rfl, trivial⟩)
            | exact SX.loc (ih (nh_s (i := 100 * j + i) hH (by rw [standP, decide_eq_false c54, Bool.and_false]))) ⟨rfl, rfl, rfl, rfl, rfl, rfl, trivial⟩
  · refine s_bipush h dX4_standAt_11 bp_m6 <|
      s_iret h he rfl dX4_standAt_13 ⟨Nat.le_refl _, Nat.le_refl _⟩ ?_
    exact PE.eq (by rw [sAt, bool_ifn (bI_0 c8)]) rfl
theorem c_X4_fewestForged {l : Launch} {D : va_G} {N : Nat} {adr : Nat → Nat} {G : Nat → va_E} {k : Nat} {sc : Nat → Nat → Int32} (hkN : k + 28 < N) (hT : isTh D adr G k sc) (hwf : wfT sc) {k2 : Nat} {th : Int32} {f col : Nat → Int32} (hk21 : k2 + 1 < N) (hp0 : G k2 = .inr (2, [.int th, .ref (adr (k2 + 1))])) (hp1 : G (k2 + 1) = aI D 6 f) (hp2 : ∀ j, j < 6 → f j = col j) :
    CT l D yX4_fewestForged cX4_fewestForged 7 (some FieldType.int) (rl 4) [.ref (adr k), .ref (adr k2)] N adr G (PE (some (.int (fFk sc col 10000))) N adr G) := by
  refine CT.of (by decide +kernel) (Nat.le_of_ble_eq_true rfl) (fun Γ h he => ?_)
  have h : cx l D (rl 4) RX4 cX4_fewestForged 7 Γ := h
  show SX Γ 0 0 0 [(0, .ref (adr k)), (1, .ref (adr k2))] [] N adr G
  refine s_bipush h dX4_fewestForged_0 bp_63 <|
    s_istore_n h dX4_fewestForged_2 rfl <|
    s_iconst h dX4_fewestForged_3 ic_0 <|
    s_istore_n h dX4_fewestForged_4 rfl <|
    ?_
  refine SX.loc (up_ind (n := 100) (Q := fun j => SX Γ 0 0 5 [(0, .ref (adr k)), (1, .ref (adr k2)), (2, .int (fFk sc col (100 * j))), (3, .int (nI j))] [] N adr G) ?_ ?_ 0 (Nat.zero_le _)) ⟨rfl, rfl, rfl, rfl, trivial⟩
  · show SX _ _ _ _ _ _ _ _ _
    refine s_iload_n h dX4_fewestForged_5 rfl <|
    s_bipush h dX4_fewestForged_6 bp_100 <|
    s_icmp_ge (tgt := 74) h dX4_fewestForged_8 (by decide) (kf := fun q => absurd (by decide +kernel) q) (kt := fun _ => ?_)
    refine s_iload_n h dX4_fewestForged_74 rfl <|
    s_iret h he rfl dX4_fewestForged_75 ⟨Nat.le_refl _, Nat.le_refl _⟩ ?_
    exact PE.is
  · intro j hj jh 
    show SX _ _ _ _ _ _ _ _ _
    refine s_iload_n h dX4_fewestForged_5 rfl <|
    s_bipush h dX4_fewestForged_6 bp_100 <|
    s_icmp_ge (tgt := 74) h dX4_fewestForged_8 (by decide) (kt := fun q => absurd q (nI_ge hj (by decide))) (kf := fun _ => ?_)
    refine s_iconst h dX4_fewestForged_11 ic_0 <|
    s_istore h dX4_fewestForged_12 rfl <|
    ?_
    refine SX.loc (up_ind (n := 100) (Q := fun i => SX Γ 0 0 14 [(0, .ref (adr k)), (1, .ref (adr k2)), (2, .int (fFk sc col (100 * j + i))), (3, .int (nI j)), (4, .int (nI i))] [] N adr G) ?_ ?_ 0 (Nat.zero_le _)) ⟨rfl, rfl, rfl, rfl, rfl, trivial⟩
    · show SX _ _ _ _ _ _ _ _ _
      refine s_iload h dX4_fewestForged_14 rfl <|
      s_bipush h dX4_fewestForged_16 bp_100 <|
      s_icmp_ge (tgt := 68) h dX4_fewestForged_18 (by decide) (kf := fun q => absurd (by decide +kernel) q) (kt := fun _ => ?_)
      refine s_iincR h dX4_fewestForged_68 rfl rfl ic_1 (nI_1 j) <|
      s_goto (tgt := 5) h dX4_fewestForged_71 (by decide) <|
      ?_
      exact SX.loc jh ⟨rfl, rfl, rfl, rfl, trivial⟩
    · intro i hi ih 
      show SX _ _ _ _ _ _ _ _ _
      refine s_iload h dX4_fewestForged_14 rfl <|
      s_bipush h dX4_fewestForged_16 bp_100 <|
      s_icmp_ge (tgt := 68) h dX4_fewestForged_18 (by decide) (kt := fun q => absurd q (nI_ge hi (by decide))) (kf := fun _ => ?_)
      refine s_aload_n h dX4_fewestForged_21 rfl <|
      s_aload_n h dX4_fewestForged_22 rfl <|
      s_iload h dX4_fewestForged_23 rfl <|
      s_iload_n h dX4_fewestForged_25 rfl <|
      k_X4_34 h (c_X4_differing hkN hT hwf hk21 hp0 hp1 hp2) rfl rfl dX4_fewestForged_26 <|
      PE.go <|
      s_istore h dX4_fewestForged_29 rfl <|
      s_iload h dX4_fewestForged_31 rfl <|
      k_X4_38 h (c_J6_bitCount_0f7a4) rfl rfl dX4_fewestForged_33 <|
      PE.go <|
      s_iload_n h dX4_fewestForged_36 rfl <|
      k_X4_38 h (c_J6_bitCount_0f7a4) rfl rfl dX4_fewestForged_37 <|
      PE.go <|
      s_isub h dX4_fewestForged_40 <|
      s_istore h dX4_fewestForged_41 rfl <|
      s_iload h dX4_fewestForged_43 rfl <|
      s_if_lt (tgt := 59) h dX4_fewestForged_45 (by decide) (fun c45 => ?_) (fun c45 => ?_)
      · refine s_iload h dX4_fewestForged_59 rfl <|
        s_topi (fFk sc col (100 * j + (i + 1))) (by
          refine Eq.symm ((fFk_s sc col (100 * j + i)).trans ((congrArg (fun z => ffS z _) (difK_at sc col j hi)).trans (if_pos ?_)))
          first
            | exact Or.inl c45
            | exact Or.inr ⟨c50, i32_nle.mp c56⟩) <|
        s_istore_n h dX4_fewestForged_61 rfl <|
        s_iincR h dX4_fewestForged_62 rfl rfl ic_1 (nI_1 i) <|
        s_goto (tgt := 14) h dX4_fewestForged_65 (by decide) <|
        ?_
        first
          | exact SX.loc ih ⟨rfl, rfl, rfl, rfl, rfl, trivial⟩
          | (have q50 : ¬ (bC (dfB sc col (nI i) (nI j) 6) - bC (fFk sc col (100 * j + i)) = 0) := c50
             have q45 : ¬ (bC (dfB sc col (nI i) (nI j) 6) - bC (fFk sc col (100 * j + i)) < 0) := c45
             have q := (fFk_s sc col (100 * j + i)).trans ((congrArg (fun z => ffS z _) (difK_at sc col j hi)).trans (if_neg (fun z => z.elim q45 (fun y => q50 y.1))))
             exact SX.loc (lv2 := [(0, .ref (adr k)), (1, .ref (adr k2)), (2, .int (fFk sc col (100 * j + i))), (3, .int (nI j)), (4, .int (nI (i + 1)))]) (q ▸ ih) ⟨rfl, rfl, rfl, rfl, rfl, trivial⟩)
          | (have q56 := i32_nlt.mpr c56
             have q45 : ¬ (bC (dfB sc col (nI i) (nI j) 6) - bC (fFk sc col (100 * j + i)) < 0) := c45
             have q := (fFk_s sc col (100 * j + i)).trans ((congrArg (fun z => ffS z _) (difK_at sc col j hi)).trans (if_neg (fun z => z.elim q45 (fun y => q56 y.2))))
             exact SX.loc (lv2 := [(0, .ref (adr k)), (1, .ref (adr k2)), (2, .int (fFk sc col (100 * j + i))), (3, .int (nI j)), (4, .int (nI (i + 1)))]) (q ▸ ih) ⟨rfl, rfl, rfl, rfl, rfl, trivial⟩)
      · refine s_iload h dX4_fewestForged_48 rfl <|
        s_if_ne (tgt := 62) h dX4_fewestForged_50 (by decide) (fun c50 => ?_) (fun c50 => ?_)
        · refine s_iincR h dX4_fewestForged_62 rfl rfl ic_1 (nI_1 i) <|
          s_goto (tgt := 14) h dX4_fewestForged_65 (by decide) <|
          ?_
          first
            | exact SX.loc ih ⟨rfl, rfl, rfl, rfl, rfl, trivial⟩
            | (have q50 : ¬ (bC (dfB sc col (nI i) (nI j) 6) - bC (fFk sc col (100 * j + i)) = 0) := c50
               have q45 : ¬ (bC (dfB sc col (nI i) (nI j) 6) - bC (fFk sc col (100 * j + i)) < 0) := c45
               have q := (fFk_s sc col (100 * j + i)).trans ((congrArg (fun z => ffS z _) (difK_at sc col j hi)).trans (if_neg (fun z => z.elim q45 (fun y => q50 y.1))))
               exact SX.loc (lv2 := [(0, .ref (adr k)), (1, .ref (adr k2)), (2, .int (fFk sc col (100 * j + i))), (3, .int (nI j)), (4, .int (nI (i + 1)))]) (q ▸ ih) ⟨rfl, rfl, rfl, rfl, rfl, trivial⟩)
            | (have q56 := i32_nlt.mpr c56
               have q45 : ¬ (bC (dfB sc col (nI i) (nI j) 6) - bC (fFk sc col (100 * j + i)) < 0) := c45
               have q := (fFk_s sc col (100 * j + i)).trans ((congrArg (fun z => ffS z _) (difK_at sc col j hi)).trans (if_neg (fun z => z.elim q45 (fun y => q56 y.2))))
               exact SX.loc (lv2 := [(0, .ref (adr k)), (1, .ref (adr k2)), (2, .int (fFk sc col (100 * j + i))), (3, .int (nI j)), (4, .int (nI (i + 1)))]) (q ▸ ih) ⟨rfl, rfl, rfl, rfl, rfl, trivial⟩)
        · refine s_iload h dX4_fewestForged_53 rfl <|
          s_iload_n h dX4_fewestForged_55 rfl <|
          s_icmp_ge (tgt := 62) h dX4_fewestForged_56 (by decide) (fun c56 => ?_) (fun c56 => ?_)
          · refine s_iincR h dX4_fewestForged_62 rfl rfl ic_1 (nI_1 i) <|
            s_goto (tgt := 14) h dX4_fewestForged_65 (by decide) <|
            ?_
            first
              | exact SX.loc ih ⟨rfl, rfl, rfl, rfl, rfl, trivial⟩
              | (have q50 : ¬ (bC (dfB sc col (nI i) (nI j) 6) - bC (fFk sc col (100 * j + i)) = 0) := c50
                 have q45 : ¬ (bC (dfB sc col (nI i) (nI j) 6) - bC (fFk sc col (100 * j + i)) < 0) := c45
                 have q := (fFk_s sc col (100 * j + i)).trans ((congrArg (fun z => ffS z _) (difK_at sc col j hi)).trans (if_neg (fun z => z.elim q45 (fun y => q50 y.1))))
                 exact SX.loc (lv2 := [(0, .ref (adr k)), (1, .ref (adr k2)), (2, .int (fFk sc col (100 * j + i))), (3, .int (nI j)), (4, .int (nI (i + 1)))]) (q ▸ ih) ⟨rfl, rfl, rfl, rfl, rfl, trivial⟩)
              | (have q56 := i32_nlt.mpr c56
                 have q45 : ¬ (bC (dfB sc col (nI i) (nI j) 6) - bC (fFk sc col (100 * j + i)) < 0) := c45
                 have q := (fFk_s sc col (100 * j + i)).trans ((congrArg (fun z => ffS z _) (difK_at sc col j hi)).trans (if_neg (fun z => z.elim q45 (fun y => q56 y.2))))
                 exact SX.loc (lv2 := [(0, .ref (adr k)), (1, .ref (adr k2)), (2, .int (fFk sc col (100 * j + i))), (3, .int (nI j)), (4, .int (nI (i + 1)))]) (q ▸ ih) ⟨rfl, rfl, rfl, rfl, rfl, trivial⟩)
          · refine s_iload h dX4_fewestForged_59 rfl <|
            s_topi (fFk sc col (100 * j + (i + 1))) (by
          refine Eq.symm ((fFk_s sc col (100 * j + i)).trans ((congrArg (fun z => ffS z _) (difK_at sc col j hi)).trans (if_pos ?_)))
          first
            | exact Or.inl c45
            | exact Or.inr ⟨c50, i32_nle.mp c56⟩) <|
            s_istore_n h dX4_fewestForged_61 rfl <|
            s_iincR h dX4_fewestForged_62 rfl rfl ic_1 (nI_1 i) <|
            s_goto (tgt := 14) h dX4_fewestForged_65 (by decide) <|
            ?_
            first
              | exact SX.loc ih ⟨rfl, rfl, rfl, rfl, rfl, trivial⟩
              | (have q50 : ¬ (bC (dfB sc col (nI i) (nI j) 6) - bC (fFk sc col (100 * j + i)) = 0) := c50
                 have q45 : ¬ (bC (dfB sc col (nI i) (nI j) 6) - bC (fFk sc col (100 * j + i)) < 0) := c45
                 have q := (fFk_s sc col (100 * j + i)).trans ((congrArg (fun z => ffS z _) (difK_at sc col j hi)).trans (if_neg (fun z => z.elim q45 (fun y => q50 y.1))))
                 exact SX.loc (lv2 := [(0, .ref (adr k)), (1, .ref (adr k2)), (2, .int (fFk sc col (100 * j + i))), (3, .int (nI j)), (4, .int (nI (i + 1)))]) (q ▸ ih) ⟨rfl, rfl, rfl, rfl, rfl, trivial⟩)
              | (have q56 := i32_nlt.mpr c56
                 have q45 : ¬ (bC (dfB sc col (nI i) (nI j) 6) - bC (fFk sc col (100 * j + i)) < 0) := c45
                 have q := (fFk_s sc col (100 * j + i)).trans ((congrArg (fun z => ffS z _) (difK_at sc col j hi)).trans (if_neg (fun z => z.elim q45 (fun y => q56 y.2))))
                 exact SX.loc (lv2 := [(0, .ref (adr k)), (1, .ref (adr k2)), (2, .int (fFk sc col (100 * j + i))), (3, .int (nI j)), (4, .int (nI (i + 1)))]) (q ▸ ih) ⟨rfl, rfl, rfl, rfl, rfl, trivial⟩)
theorem c_X4_columnsWithout {l : Launch} {D : va_G} {N : Nat} {adr : Nat → Nat} {G : Nat → va_E} {k : Nat} {sc : Nat → Nat → Int32} (hkN : k + 28 < N) (hT : isTh D adr G k sc) (hwf : wfT sc) {k2 : Nat} {th : Int32} {f col : Nat → Int32} (hk21 : k2 + 1 < N) (hp0 : G k2 = .inr (2, [.int th, .ref (adr (k2 + 1))])) (hp1 : G (k2 + 1) = aI D 6 f) (hp2 : ∀ j, j < 6 → f j = col j) {t : Nat} (ht : t < 6) :
    CT l D yX4_columnsWithout cX4_columnsWithout 8 (some FieldType.long) (rl 4) [.ref (adr k), .ref (adr k2), .int (nI t)] N adr G (PE (some (.long (cWk sc col t 10000))) N adr G) := by
  refine CT.of (by decide +kernel) (Nat.le_of_ble_eq_true rfl) (fun Γ h he => ?_)
  have h : cx l D (rl 4) RX4 cX4_columnsWithout 8 Γ := h
  show SX Γ 0 0 0 [(0, .ref (adr k)), (1, .ref (adr k2)), (2, .int (nI t))] [] N adr G
  refine s_lconst h dX4_columnsWithout_0 lc_0 <|
    s_lstore_n h dX4_columnsWithout_1 rfl <|
    s_iconst h dX4_columnsWithout_2 ic_0 <|
    s_istore h dX4_columnsWithout_3 rfl <|
    ?_
  refine SX.loc (up_ind (n := 100) (Q := fun j => SX Γ 0 0 5 [(0, .ref (adr k)), (1, .ref (adr k2)), (2, .int (nI t)), (3, .long (cWk sc col t (100 * j))), (5, .int (nI j))] [] N adr G) ?_ ?_ 0 (Nat.zero_le _)) ⟨rfl, rfl, rfl, rfl, rfl, trivial⟩
  · show SX _ _ _ _ _ _ _ _ _
    refine s_iload h dX4_columnsWithout_5 rfl <|
    s_bipush h dX4_columnsWithout_7 bp_100 <|
    s_icmp_ge (tgt := 77) h dX4_columnsWithout_9 (by decide) (kf := fun q => absurd (by decide +kernel) q) (kt := fun _ => ?_)
    refine s_lload_n h dX4_columnsWithout_77 rfl <|
    s_lret h he dX4_columnsWithout_78 ⟨Nat.le_refl _, Nat.le_refl _⟩ ?_
    exact PE.is
  · intro j hj jh 
    show SX _ _ _ _ _ _ _ _ _
    refine s_iload h dX4_columnsWithout_5 rfl <|
    s_bipush h dX4_columnsWithout_7 bp_100 <|
    s_icmp_ge (tgt := 77) h dX4_columnsWithout_9 (by decide) (kt := fun q => absurd q (nI_ge hj (by decide))) (kf := fun _ => ?_)
    refine s_iconst h dX4_columnsWithout_12 ic_0 <|
    s_istore h dX4_columnsWithout_13 rfl <|
    ?_
    refine SX.loc (up_ind (n := 100) (Q := fun i => SX Γ 0 0 15 [(0, .ref (adr k)), (1, .ref (adr k2)), (2, .int (nI t)), (3, .long (cWk sc col t (100 * j + i))), (5, .int (nI j)), (6, .int (nI i))] [] N adr G) ?_ ?_ 0 (Nat.zero_le _)) ⟨rfl, rfl, rfl, rfl, rfl, rfl, trivial⟩
    · show SX _ _ _ _ _ _ _ _ _
      refine s_iload h dX4_columnsWithout_15 rfl <|
      s_bipush h dX4_columnsWithout_17 bp_100 <|
      s_icmp_ge (tgt := 71) h dX4_columnsWithout_19 (by decide) (kf := fun q => absurd (by decide +kernel) q) (kt := fun _ => ?_)
      refine s_iincR h dX4_columnsWithout_71 rfl rfl ic_1 (nI_1 j) <|
      s_goto (tgt := 5) h dX4_columnsWithout_74 (by decide) <|
      ?_
      exact SX.loc jh ⟨rfl, rfl, rfl, rfl, rfl, trivial⟩
    · intro i hi ih 
      show SX _ _ _ _ _ _ _ _ _
      refine s_iload h dX4_columnsWithout_15 rfl <|
      s_bipush h dX4_columnsWithout_17 bp_100 <|
      s_icmp_ge (tgt := 71) h dX4_columnsWithout_19 (by decide) (kt := fun q => absurd q (nI_ge hi (by decide))) (kf := fun _ => ?_)
      refine s_aload_n h dX4_columnsWithout_22 rfl <|
      s_aload_n h dX4_columnsWithout_23 rfl <|
      s_iload h dX4_columnsWithout_24 rfl <|
      s_iload h dX4_columnsWithout_26 rfl <|
      s_iload_n h dX4_columnsWithout_28 rfl <|
      k_X4_26 h (c_X4_fits hkN hT hwf hk21 hp0 hp1 hp2) rfl rfl dX4_columnsWithout_29 <|
      PE.go <|
      s_if_eq (tgt := 65) h dX4_columnsWithout_32 (by decide) (fun c32 => ?_) (fun c32 => ?_)
      · refine s_iincR h dX4_columnsWithout_65 rfl rfl ic_1 (nI_1 i) <|
        s_goto (tgt := 15) h dX4_columnsWithout_68 (by decide) <|
        ?_
        first
          | exact SX.loc ih ⟨rfl, rfl, rfl, rfl, rfl, rfl, trivial⟩
          | (have q := (cWk_s sc col t (100 * j + i)).trans (bool_ifn ((hitK_at sc col (nI t) j hi).trans (bI_0 c32)))
             exact SX.loc (lv2 := [(0, .ref (adr k)), (1, .ref (adr k2)), (2, .int (nI t)), (3, .long (cWk sc col t (100 * j + i))), (5, .int (nI j)), (6, .int (nI (i + 1)))]) (q ▸ ih) ⟨rfl, rfl, rfl, rfl, rfl, rfl, trivial⟩)
      · refine s_aload_n h dX4_columnsWithout_35 rfl <|
        s_iload_n h dX4_columnsWithout_36 rfl <|
        s_iload h dX4_columnsWithout_37 rfl <|
        s_iload h dX4_columnsWithout_39 rfl <|
        k_X4_9 h (c_X3_columnOf hkN hT hwf ht) (by omega) hT.1 rfl rfl dX4_columnsWithout_41 <|
        PE.go <|
        s_istore h dX4_columnsWithout_44 rfl <|
        s_lload_n h dX4_columnsWithout_46 rfl <|
        s_lconst h dX4_columnsWithout_47 lc_1 <|
        s_iload h dX4_columnsWithout_48 rfl <|
        s_bipush h dX4_columnsWithout_50 bp_m6 <|
        s_icmp_ne (tgt := 60) h dX4_columnsWithout_52 (by decide) (fun c52 => ?_) (fun c52 => ?_)
        · refine s_iload h dX4_columnsWithout_60 rfl <|
          s_lshl h dX4_columnsWithout_62 <|
          s_lor h dX4_columnsWithout_63 <|
          s_topl (cWk sc col t (100 * j + (i + 1))) (by
          refine Eq.symm ((cWk_s sc col t (100 * j + i)).trans ((bool_if ((hitK_at sc col (nI t) j hi).trans (bI_1 c32))).trans ?_))
          rw [show (100 * j + i) % 100 = i from by omega, show (100 * j + i) / 100 = j from by omega, cBit]
          first
            | rw [if_pos c52]
            | rw [if_neg c52]) <|
          s_lstore_n h dX4_columnsWithout_64 rfl <|
          s_iincR h dX4_columnsWithout_65 rfl rfl ic_1 (nI_1 i) <|
          s_goto (tgt := 15) h dX4_columnsWithout_68 (by decide) <|
          ?_
          first
            | exact SX.loc ih ⟨rfl, rfl, rfl, rfl, rfl, rfl, trivial⟩
            | (have q := (cWk_s sc col t (100 * j + i)).trans (bool_ifn ((hitK_at sc col (nI t) j hi).trans (bI_0 c32)))
               exact SX.loc (lv2 := [(0, .ref (adr k)), (1, .ref (adr k2)), (2, .int (nI t)), (3, .long (cWk sc col t (100 * j + i))), (5, .int (nI j)), (6, .int (nI (i + 1)))]) (q ▸ ih) ⟨rfl, rfl, rfl, rfl, rfl, rfl, trivial⟩)
        · refine s_bipush h dX4_columnsWithout_55 bp_61 <|
          s_goto (tgt := 62) h dX4_columnsWithout_57 (by decide) <|
          s_lshl h dX4_columnsWithout_62 <|
          s_lor h dX4_columnsWithout_63 <|
          s_topl (cWk sc col t (100 * j + (i + 1))) (by
          refine Eq.symm ((cWk_s sc col t (100 * j + i)).trans ((bool_if ((hitK_at sc col (nI t) j hi).trans (bI_1 c32))).trans ?_))
          rw [show (100 * j + i) % 100 = i from by omega, show (100 * j + i) / 100 = j from by omega, cBit]
          first
            | rw [if_pos c52]
            | rw [if_neg c52]) <|
          s_lstore_n h dX4_columnsWithout_64 rfl <|
          s_iincR h dX4_columnsWithout_65 rfl rfl ic_1 (nI_1 i) <|
          s_goto (tgt := 15) h dX4_columnsWithout_68 (by decide) <|
          ?_
          first
            | exact SX.loc ih ⟨rfl, rfl, rfl, rfl, rfl, rfl, trivial⟩
            | (have q := (cWk_s sc col t (100 * j + i)).trans (bool_ifn ((hitK_at sc col (nI t) j hi).trans (bI_0 c32)))
               exact SX.loc (lv2 := [(0, .ref (adr k)), (1, .ref (adr k2)), (2, .int (nI t)), (3, .long (cWk sc col t (100 * j + i))), (5, .int (nI j)), (6, .int (nI (i + 1)))]) (q ▸ ih) ⟨rfl, rfl, rfl, rfl, rfl, rfl, trivial⟩)
theorem c_X4_leastShown {l : Launch} {D : va_G} {N : Nat} {adr : Nat → Nat} {G : Nat → va_E} {x : Int64} :
    CT l D yX4_leastShown cX4_leastShown 3 (some FieldType.int) (rl 0) [.long x] N adr G (PE (some (.int (oI (ffO (shP x) 61)))) N adr G) := by
  refine CT.of (by decide +kernel) (Nat.le_of_ble_eq_true rfl) (fun Γ h he => ?_)
  have h : cx l D (rl 0) RX4 cX4_leastShown 3 Γ := h
  show SX Γ 0 0 0 [(0, .long x)] [] N adr G
  refine s_iconst h dX4_leastShown_0 ic_0 <|
    s_istore_n h dX4_leastShown_1 rfl <|
    ?_
  refine SX.loc (up_ind (n := 61) (Q := fun i => (∀ a, a < i → shP x a = false) → SX Γ 0 0 2 [(0, .long x), (2, .int (nI i))] [] N adr G) ?_ ?_ 0 (Nat.zero_le _) nh_0) ⟨rfl, rfl, trivial⟩
  · intro hH
    show SX _ _ _ _ _ _ _ _ _
    refine s_iload_n h dX4_leastShown_2 rfl <|
    s_bipush h dX4_leastShown_3 bp_60 <|
    s_icmp_gt (tgt := 26) h dX4_leastShown_5 (by decide) (kf := fun q => absurd (by decide +kernel) q) (kt := fun _ => ?_)
    refine s_bipush h dX4_leastShown_26 bp_m6 <|
    s_iret h he rfl dX4_leastShown_28 ⟨Nat.le_refl _, Nat.le_refl _⟩ ?_
    first
      | (have q15 := lg_cmp0.mp c15; exact PE.eq (by rw [ffO_some (n := 61) hi (decide_eq_true q15) hH]; rfl) rfl)
      | exact PE.eq (by rw [ffO_none hH]; rfl) rfl
  · intro i hi ih hH
    show SX _ _ _ _ _ _ _ _ _
    refine s_iload_n h dX4_leastShown_2 rfl <|
    s_bipush h dX4_leastShown_3 bp_60 <|
    s_icmp_gt (tgt := 26) h dX4_leastShown_5 (by decide) (kt := fun q => absurd q (i32_nlt.mpr (nI_le (show i ≤ 60 from by omega) (by decide)))) (kf := fun _ => ?_)
    refine s_lload_n h dX4_leastShown_8 rfl <|
    s_iload_n h dX4_leastShown_9 rfl <|
    s_lshr h dX4_leastShown_10 <|
    s_lconst h dX4_leastShown_11 lc_1 <|
    s_land h dX4_leastShown_12 <|
    s_lconst h dX4_leastShown_13 lc_1 <|
    s_lcmp h dX4_leastShown_14 <|
    s_if_ne (tgt := 20) h dX4_leastShown_15 (by decide) (fun c15 => ?_) (fun c15 => ?_)
    · refine s_iincR h dX4_leastShown_20 rfl rfl ic_1 (nI_1 i) <|
      s_goto (tgt := 2) h dX4_leastShown_23 (by decide) <|
      ?_
      exact SX.loc (ih (nh_s hH (decide_eq_false (fun q => c15 (lg_cmp0.mpr q))))) ⟨rfl, rfl, trivial⟩
    · refine s_iload_n h dX4_leastShown_18 rfl <|
      s_iret h he rfl dX4_leastShown_19 ⟨Nat.le_refl _, Nat.le_refl _⟩ ?_
      first
        | (have q15 := lg_cmp0.mp c15; exact PE.eq (by rw [ffO_some (n := 61) hi (decide_eq_true q15) hH]; rfl) rfl)
        | exact PE.eq (by rw [ffO_none hH]; rfl) rfl
theorem c_X4_greatestShown {l : Launch} {D : va_G} {N : Nat} {adr : Nat → Nat} {G : Nat → va_E} {x : Int64} :
    CT l D yX4_greatestShown cX4_greatestShown 3 (some FieldType.int) (rl 0) [.long x] N adr G (PE (some (.int (oI (lfO (shP x) 61)))) N adr G) := by
  refine CT.of (by decide +kernel) (Nat.le_of_ble_eq_true rfl) (fun Γ h he => ?_)
  have h : cx l D (rl 0) RX4 cX4_greatestShown 3 Γ := h
  show SX Γ 0 0 0 [(0, .long x)] [] N adr G
  refine s_bipush h dX4_greatestShown_0 bp_60 <|
    s_istore_n h dX4_greatestShown_2 rfl <|
    ?_
  refine SX.loc (dn_ind (n := 61) (Q := fun i => (lfO (shP x) 61 = lfO (shP x) i) → SX Γ 0 0 3 [(0, .long x), (2, .int (dv i))] [] N adr G) ?_ ?_ 61 (Nat.le_refl _) (rfl)) ⟨rfl, rfl, trivial⟩
  · intro hH
    show SX _ _ _ _ _ _ _ _ _
    refine s_iload_n h dX4_greatestShown_3 rfl <|
    s_if_lt (tgt := 25) h dX4_greatestShown_4 (by decide) (kf := fun q => absurd (by decide +kernel) q) (kt := fun _ => ?_)
    refine s_bipush h dX4_greatestShown_25 bp_m6 <|
    s_iret h he rfl dX4_greatestShown_27 ⟨Nat.le_refl _, Nat.le_refl _⟩ ?_
    first
      | (have q14 := lg_cmp0.mp c14; exact PE.eq (by rw [hH, lfO_s, bool_if (show shP x i = true from decide_eq_true q14)]; rfl) rfl)
      | exact PE.eq (by rw [hH]; rfl) rfl
  · intro i hi ih hH
    show SX Γ 0 0 3 [(0, .long x), (2, .int (dv (i + 1)))] [] N adr G
    refine s_iload_n h dX4_greatestShown_3 rfl <|
    s_if_lt (tgt := 25) h dX4_greatestShown_4 (by decide) (kt := fun q => absurd q (nI_pos (by omega))) (kf := fun _ => ?_)
    refine s_lload_n h dX4_greatestShown_7 rfl <|
    s_iload_n h dX4_greatestShown_8 rfl <|
    s_lshr h dX4_greatestShown_9 <|
    s_lconst h dX4_greatestShown_10 lc_1 <|
    s_land h dX4_greatestShown_11 <|
    s_lconst h dX4_greatestShown_12 lc_1 <|
    s_lcmp h dX4_greatestShown_13 <|
    s_if_ne (tgt := 19) h dX4_greatestShown_14 (by decide) (fun c14 => ?_) (fun c14 => ?_)
    · refine s_iincR h dX4_greatestShown_19 rfl rfl ic_m1 (dv_s i) <|
      s_goto (tgt := 3) h dX4_greatestShown_22 (by decide) <|
      ?_
      exact SX.loc (ih (hH.trans ((lfO_s _ i).trans (bool_ifn (decide_eq_false (fun q => c14 (lg_cmp0.mpr q))))))) ⟨rfl, rfl, trivial⟩
    · refine s_iload_n h dX4_greatestShown_17 rfl <|
      s_iret h he rfl dX4_greatestShown_18 ⟨Nat.le_refl _, Nat.le_refl _⟩ ?_
      first
        | (have q14 := lg_cmp0.mp c14; exact PE.eq (by rw [hH, lfO_s, bool_if (show shP x i = true from decide_eq_true q14)]; rfl) rfl)
        | exact PE.eq (by rw [hH]; rfl) rfl
