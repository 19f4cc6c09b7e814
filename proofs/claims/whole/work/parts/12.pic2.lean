theorem up_self {α : Type} {f : Nat → α} {k : Nat} {v : α} (h : f k = v) : va_up f k v = f := by
  funext j
  by_cases q : j = k
  · subst q; rw [up_eq, h]
  · rw [up_ne _ _ q]
theorem SX.world {Γ : GT} {ce sl pc : Nat} {lv : List (Nat × Value)} {st : List Value} {N : Nat} {adr : Nat → Nat} {G G2 : Nat → va_E} (e : G = G2) (k : SX Γ ce sl pc lv st N adr G2) : SX Γ ce sl pc lv st N adr G := e ▸ k
/-- an answer, and what is so of the world behind it -/
def PR (r : Option Value) (N : Nat) (adr : Nat → Nat) (rel : (Nat → va_E) → Prop) : PT := fun v N' adr' G' => v = r ∧ N' = N ∧ adr' = adr ∧ rel G'
theorem PR.go {Γ : GT} {ce sl pc : Nat} {lv : List (Nat × Value)} {st : List Value} {N : Nat} {adr : Nat → Nat} {rel : (Nat → va_E) → Prop} {r : Value} (k : ∀ G, rel G → SX Γ ce sl pc lv (r :: st) N adr G) : ∀ v N' adr' G', PR (some r) N adr rel v N' adr' G' → SX Γ ce sl pc lv (v.toList ++ st) N' adr' G' := by
  rintro _ _ _ _ ⟨rfl, rfl, rfl, h⟩
  exact k _ h
theorem PR.go0 {Γ : GT} {ce sl pc : Nat} {lv : List (Nat × Value)} {st : List Value} {N : Nat} {adr : Nat → Nat} {rel : (Nat → va_E) → Prop} (k : ∀ G, rel G → SX Γ ce sl pc lv st N adr G) : ∀ v N' adr' G', PR none N adr rel v N' adr' G' → SX Γ ce sl pc lv (v.toList ++ st) N' adr' G' := by
  rintro _ _ _ _ ⟨rfl, rfl, rfl, h⟩
  exact k _ h
theorem PR.is {r : Option Value} {N : Nat} {adr : Nat → Nat} {G : Nat → va_E} {rel : (Nat → va_E) → Prop} (h : rel G) : PR r N adr rel r N adr G := ⟨rfl, rfl, rfl, h⟩
/-- the first place below n -/
def ffO (p : Nat → Bool) (n : Nat) : Option Nat := (List.range n).find? p
theorem ffO_none {p : Nat → Bool} {n : Nat} (h : ∀ j, j < n → p j = false) : ffO p n = none := by
  rw [ffO, List.find?_eq_none]
  intro j hj
  rw [h j (List.mem_range.mp hj)]; decide
theorem ffO_some {p : Nat → Bool} {n i : Nat} (hi : i < n) (hp : p i = true) (h : ∀ j, j < i → p j = false) : ffO p n = some i := by
  rw [ffO, List.find?_eq_some_iff_append]
  refine ⟨hp, List.range i, (List.range n).drop (i + 1), ?_, ?_⟩
  · apply List.ext_getElem?
    intro a
    rcases Nat.lt_trichotomy a i with q | q | q
    · rw [List.getElem?_append_left (by simp; exact q)]
      simp [List.getElem?_range, q, Nat.lt_trans q hi]
    · subst q
      rw [List.getElem?_append_right (by simp)]
      simp [hi]
    · rw [List.getElem?_append_right (by simp; omega)]
      obtain ⟨b, rfl⟩ : ∃ b, a = i + 1 + b := ⟨a - (i + 1), by omega⟩
      have e : i + 1 + b - (List.range i).length = b + 1 := by simp; omega
      rw [e, List.getElem?_cons_succ, List.getElem?_drop]
  · intro a ha
    rw [h a (List.mem_range.mp ha)]; rfl
def oI (o : Option Nat) : Int32 := match o with
  | some j => nI j
  | none => -6
/-- no hit so far -/
theorem nh_0 {p : Nat → Bool} : ∀ j, j < 0 → p j = false := fun j h => absurd h (Nat.not_lt_zero j)
theorem nh_s {p : Nat → Bool} {i : Nat} (h : ∀ j, j < i → p j = false) (hi : p i = false) : ∀ j, j < i + 1 → p j = false := by
  intro j hj
  rcases Nat.lt_succ_iff_lt_or_eq.mp hj with q | q
  · exact h j q
  · rw [q]; exact hi

/-- Integer.bitCount, as it counts -/
def bc1 (x : Int32) : Int32 := x - ((x.toUInt32 >>> ((1 : Int32).toUInt32 &&& Int32.toUInt32 31)).toInt32 &&& 1431655765)
def bc2 (x : Int32) : Int32 := (x &&& 858993459) + ((x.toUInt32 >>> ((2 : Int32).toUInt32 &&& Int32.toUInt32 31)).toInt32 &&& 858993459)
def bc3 (x : Int32) : Int32 := (x + (x.toUInt32 >>> ((4 : Int32).toUInt32 &&& Int32.toUInt32 31)).toInt32) &&& 252645135
def bc4 (x : Int32) : Int32 := x + (x.toUInt32 >>> ((8 : Int32).toUInt32 &&& Int32.toUInt32 31)).toInt32
def bc5 (x : Int32) : Int32 := x + (x.toUInt32 >>> ((16 : Int32).toUInt32 &&& Int32.toUInt32 31)).toInt32
def bC (x : Int32) : Int32 := bc5 (bc4 (bc3 (bc2 (bc1 x)))) &&& 63
theorem c_J6_bitCount_0f7a4 {l : Launch} {D : va_G} {N : Nat} {adr : Nat → Nat} {G : Nat → va_E} {x : Int32} :
    CT l D yJ6_bitCount_0f7a4 cJ6_bitCount_0f7a4 1 (some FieldType.int) (rl 0) [.int x] N adr G (PE (some (.int (bC x))) N adr G) := by
  refine CT.of (by decide +kernel) (Nat.le_of_ble_eq_true rfl) (fun Γ h he => ?_)
  have h : cx l D (rl 0) RJ6 cJ6_bitCount_0f7a4 1 Γ := h
  show SX Γ 0 0 0 [(0, .int x)] [] N adr G
  refine s_iload_n h dJ6_bitCount_0f7a4_0 rfl <|
    s_iload_n h dJ6_bitCount_0f7a4_1 rfl <|
    s_iconst h dJ6_bitCount_0f7a4_2 ic_1 <|
    s_iushr h dJ6_bitCount_0f7a4_3 <|
    s_ldc_w h dJ6_bitCount_0f7a4_4 tw247 <|
    s_iand h dJ6_bitCount_0f7a4_7 <|
    s_isub h dJ6_bitCount_0f7a4_8 <|
    s_topi (bc1 x) rfl <|
    s_istore_n h dJ6_bitCount_0f7a4_9 rfl <|
    s_iload_n h dJ6_bitCount_0f7a4_10 rfl <|
    s_ldc_w h dJ6_bitCount_0f7a4_11 tw248 <|
    s_iand h dJ6_bitCount_0f7a4_14 <|
    s_iload_n h dJ6_bitCount_0f7a4_15 rfl <|
    s_iconst h dJ6_bitCount_0f7a4_16 ic_2 <|
    s_iushr h dJ6_bitCount_0f7a4_17 <|
    s_ldc_w h dJ6_bitCount_0f7a4_18 tw248 <|
    s_iand h dJ6_bitCount_0f7a4_21 <|
    s_iadd h dJ6_bitCount_0f7a4_22 <|
    s_topi (bc2 (bc1 x)) rfl <|
    s_istore_n h dJ6_bitCount_0f7a4_23 rfl <|
    s_iload_n h dJ6_bitCount_0f7a4_24 rfl <|
    s_iload_n h dJ6_bitCount_0f7a4_25 rfl <|
    s_iconst h dJ6_bitCount_0f7a4_26 ic_4 <|
    s_iushr h dJ6_bitCount_0f7a4_27 <|
    s_iadd h dJ6_bitCount_0f7a4_28 <|
    s_ldc_w h dJ6_bitCount_0f7a4_29 tw249 <|
    s_iand h dJ6_bitCount_0f7a4_32 <|
    s_topi (bc3 (bc2 (bc1 x))) rfl <|
    s_istore_n h dJ6_bitCount_0f7a4_33 rfl <|
    s_iload_n h dJ6_bitCount_0f7a4_34 rfl <|
    s_iload_n h dJ6_bitCount_0f7a4_35 rfl <|
    s_bipush h dJ6_bitCount_0f7a4_36 bp_8 <|
    s_iushr h dJ6_bitCount_0f7a4_38 <|
    s_iadd h dJ6_bitCount_0f7a4_39 <|
    s_topi (bc4 (bc3 (bc2 (bc1 x)))) rfl <|
    s_istore_n h dJ6_bitCount_0f7a4_40 rfl <|
    s_iload_n h dJ6_bitCount_0f7a4_41 rfl <|
    s_iload_n h dJ6_bitCount_0f7a4_42 rfl <|
    s_bipush h dJ6_bitCount_0f7a4_43 bp_16 <|
    s_iushr h dJ6_bitCount_0f7a4_45 <|
    s_iadd h dJ6_bitCount_0f7a4_46 <|
    s_topi (bc5 (bc4 (bc3 (bc2 (bc1 x))))) rfl <|
    s_istore_n h dJ6_bitCount_0f7a4_47 rfl <|
    s_iload_n h dJ6_bitCount_0f7a4_48 rfl <|
    s_bipush h dJ6_bitCount_0f7a4_49 bp_63 <|
    s_iand h dJ6_bitCount_0f7a4_51 <|
    s_iret h he rfl dJ6_bitCount_0f7a4_52 ⟨Nat.le_refl _, Nat.le_refl _⟩ ?_
  exact PE.is
def lc1 (x : Int64) : Int64 := x - ((x.toUInt64 >>> ((1 : Int32).toInt64.toUInt64 &&& Int64.toUInt64 63)).toInt64 &&& 6148914691236517205)
def lc2 (x : Int64) : Int64 := (x &&& 3689348814741910323) + ((x.toUInt64 >>> ((2 : Int32).toInt64.toUInt64 &&& Int64.toUInt64 63)).toInt64 &&& 3689348814741910323)
def lc3 (x : Int64) : Int64 := (x + (x.toUInt64 >>> ((4 : Int32).toInt64.toUInt64 &&& Int64.toUInt64 63)).toInt64) &&& 1085102592571150095
def lc4 (x : Int64) : Int64 := x + (x.toUInt64 >>> ((8 : Int32).toInt64.toUInt64 &&& Int64.toUInt64 63)).toInt64
def lc5 (x : Int64) : Int64 := x + (x.toUInt64 >>> ((16 : Int32).toInt64.toUInt64 &&& Int64.toUInt64 63)).toInt64
def lc6 (x : Int64) : Int64 := x + (x.toUInt64 >>> ((32 : Int32).toInt64.toUInt64 &&& Int64.toUInt64 63)).toInt64
def lC (x : Int64) : Int32 := (lc6 (lc5 (lc4 (lc3 (lc2 (lc1 x)))))).toInt32 &&& 127
theorem c_J13_bitCount_95d88 {l : Launch} {D : va_G} {N : Nat} {adr : Nat → Nat} {G : Nat → va_E} {x : Int64} :
    CT l D yJ13_bitCount_95d88 cJ13_bitCount_95d88 2 (some FieldType.int) (rl 0) [.long x] N adr G (PE (some (.int (lC x))) N adr G) := by
  refine CT.of (by decide +kernel) (Nat.le_of_ble_eq_true rfl) (fun Γ h he => ?_)
  have h : cx l D (rl 0) RJ13 cJ13_bitCount_95d88 2 Γ := h
  show SX Γ 0 0 0 [(0, .long x)] [] N adr G
  refine s_lload_n h dJ13_bitCount_95d88_0 rfl <|
    s_lload_n h dJ13_bitCount_95d88_1 rfl <|
    s_iconst h dJ13_bitCount_95d88_2 ic_1 <|
    s_lushr h dJ13_bitCount_95d88_3 <|
    s_ldc2 h dJ13_bitCount_95d88_4 tw525 <|
    s_land h dJ13_bitCount_95d88_7 <|
    s_lsub h dJ13_bitCount_95d88_8 <|
    s_topl (lc1 x) rfl <|
    s_lstore_n h dJ13_bitCount_95d88_9 rfl <|
    s_lload_n h dJ13_bitCount_95d88_10 rfl <|
    s_ldc2 h dJ13_bitCount_95d88_11 tw526 <|
    s_land h dJ13_bitCount_95d88_14 <|
    s_lload_n h dJ13_bitCount_95d88_15 rfl <|
    s_iconst h dJ13_bitCount_95d88_16 ic_2 <|
    s_lushr h dJ13_bitCount_95d88_17 <|
    s_ldc2 h dJ13_bitCount_95d88_18 tw526 <|
    s_land h dJ13_bitCount_95d88_21 <|
    s_ladd h dJ13_bitCount_95d88_22 <|
    s_topl (lc2 (lc1 x)) rfl <|
    s_lstore_n h dJ13_bitCount_95d88_23 rfl <|
    s_lload_n h dJ13_bitCount_95d88_24 rfl <|
    s_lload_n h dJ13_bitCount_95d88_25 rfl <|
    s_iconst h dJ13_bitCount_95d88_26 ic_4 <|
    s_lushr h dJ13_bitCount_95d88_27 <|
    s_ladd h dJ13_bitCount_95d88_28 <|
    s_ldc2 h dJ13_bitCount_95d88_29 tw527 <|
    s_land h dJ13_bitCount_95d88_32 <|
    s_topl (lc3 (lc2 (lc1 x))) rfl <|
    s_lstore_n h dJ13_bitCount_95d88_33 rfl <|
    s_lload_n h dJ13_bitCount_95d88_34 rfl <|
    s_lload_n h dJ13_bitCount_95d88_35 rfl <|
    s_bipush h dJ13_bitCount_95d88_36 bp_8 <|
    s_lushr h dJ13_bitCount_95d88_38 <|
    s_ladd h dJ13_bitCount_95d88_39 <|
    s_topl (lc4 (lc3 (lc2 (lc1 x)))) rfl <|
    s_lstore_n h dJ13_bitCount_95d88_40 rfl <|
    s_lload_n h dJ13_bitCount_95d88_41 rfl <|
    s_lload_n h dJ13_bitCount_95d88_42 rfl <|
    s_bipush h dJ13_bitCount_95d88_43 bp_16 <|
    s_lushr h dJ13_bitCount_95d88_45 <|
    s_ladd h dJ13_bitCount_95d88_46 <|
    s_topl (lc5 (lc4 (lc3 (lc2 (lc1 x))))) rfl <|
    s_lstore_n h dJ13_bitCount_95d88_47 rfl <|
    s_lload_n h dJ13_bitCount_95d88_48 rfl <|
    s_lload_n h dJ13_bitCount_95d88_49 rfl <|
    s_bipush h dJ13_bitCount_95d88_50 bp_32 <|
    s_lushr h dJ13_bitCount_95d88_52 <|
    s_ladd h dJ13_bitCount_95d88_53 <|
    s_topl (lc6 (lc5 (lc4 (lc3 (lc2 (lc1 x)))))) rfl <|
    s_lstore_n h dJ13_bitCount_95d88_54 rfl <|
    s_lload_n h dJ13_bitCount_95d88_55 rfl <|
    s_l2i h dJ13_bitCount_95d88_56 <|
    s_bipush h dJ13_bitCount_95d88_57 bp_127 <|
    s_iand h dJ13_bitCount_95d88_59 <|
    s_iret h he rfl dJ13_bitCount_95d88_60 ⟨Nat.le_refl _, Nat.le_refl _⟩ ?_
  exact PE.is
theorem c_X2_countSharedWith {l : Launch} {D : va_G} {N : Nat} {adr : Nat → Nat} {G : Nat → va_E} {k : Nat} {th : Int32} {f : Nat → Int32} (hk1 : k + 1 < N) (hg : G k = .inr (2, [.int th, .ref (adr (k + 1))])) (hf : G (k + 1) = aI D 6 f) {k2 : Nat} {th2 : Int32} {f2 : Nat → Int32} (hk21 : k2 + 1 < N) (hg2 : G k2 = .inr (2, [.int th2, .ref (adr (k2 + 1))])) (hf2 : G (k2 + 1) = aI D 6 f2) :
    CT l D yX2_countSharedWith cX2_countSharedWith 2 (some FieldType.int) (rl 1) [.ref (adr k), .ref (adr k2)] N adr G (PE (some (.int (bC (shB f 6 &&& shB f2 6)))) N adr G) := by
  have hk : k < N := Nat.lt_of_succ_lt hk1
  have hk2 : k2 < N := Nat.lt_of_succ_lt hk21
  refine CT.of (by decide +kernel) (Nat.le_of_ble_eq_true rfl) (fun Γ h he => ?_)
  have h : cx l D (rl 1) RX2 cX2_countSharedWith 2 Γ := h
  show SX Γ 0 0 0 [(0, .ref (adr k)), (1, .ref (adr k2))] [] N adr G
  refine s_aload_n h dX2_countSharedWith_0 rfl <|
    k_X2_35 h (c_X2_shownBits hk1 hg hf) hk hg rfl rfl dX2_countSharedWith_1 <|
    PE.go <|
    s_aload_n h dX2_countSharedWith_4 rfl <|
    k_X2_35 h (c_X2_shownBits hk21 hg2 hf2) hk2 hg2 rfl rfl dX2_countSharedWith_5 <|
    PE.go <|
    s_iand h dX2_countSharedWith_8 <|
    k_X2_39 h (c_J6_bitCount_0f7a4) rfl rfl dX2_countSharedWith_9 <|
    PE.go <|
    s_iret h he rfl dX2_countSharedWith_12 ⟨Nat.le_refl _, Nat.le_refl _⟩ ?_
  exact PE.is
/-- how many are ahead of the place t by shift -/
def cbp (f f2 : Nat → Int32) (t j : Nat) : Bool := decide (f t - f2 t < f j - f2 j) || (decide (f j - f2 j = f t - f2 t) && decide (nI j < nI t))
def cB (f f2 : Nat → Int32) (t n : Nat) : Int32 := fN (fun j c => if shb f f2 j && cbp f f2 t j then c + 1 else c) 0 n
theorem cB_s (f f2 : Nat → Int32) (t n : Nat) : cB f f2 t (n + 1) = if shb f f2 n && cbp f f2 t n then cB f f2 t n + 1 else cB f f2 t n := rfl
theorem bool_if {α : Type} {b : Bool} {x y : α} (h : b = true) : (if b then x else y) = x := by rw [h]; rfl
theorem bool_ifn {α : Type} {b : Bool} {x y : α} (h : b = false) : (if b then x else y) = y := by rw [h]; rfl
theorem c_X2_countBefore {l : Launch} {D : va_G} {N : Nat} {adr : Nat → Nat} {G : Nat → va_E} {k : Nat} {th : Int32} {f : Nat → Int32} (hk1 : k + 1 < N) (hg : G k = .inr (2, [.int th, .ref (adr (k + 1))])) (hf : G (k + 1) = aI D 6 f) {k2 : Nat} {th2 : Int32} {f2 : Nat → Int32} (hk21 : k2 + 1 < N) (hg2 : G k2 = .inr (2, [.int th2, .ref (adr (k2 + 1))])) (hf2 : G (k2 + 1) = aI D 6 f2) {j : Nat} (hj : j < 6) :
    CT l D yX2_countBefore cX2_countBefore 7 (some FieldType.int) (rl 3) [.ref (adr k), .ref (adr k2), .int (nI j)] N adr G (PE (some (.int (cB f f2 j 6))) N adr G) := by
  have hk : k < N := Nat.lt_of_succ_lt hk1
  have hk2 : k2 < N := Nat.lt_of_succ_lt hk21
  refine CT.of (by decide +kernel) (Nat.le_of_ble_eq_true rfl) (fun Γ h he => ?_)
  have h : cx l D (rl 3) RX2 cX2_countBefore 7 Γ := h
  show SX Γ 0 0 0 [(0, .ref (adr k)), (1, .ref (adr k2)), (2, .int (nI j))] [] N adr G
  refine s_aload_n h dX2_countBefore_0 rfl <|
    s_aload_n h dX2_countBefore_1 rfl <|
    s_iload_n h dX2_countBefore_2 rfl <|
    k_X2_31 h (c_X2_shiftTo hk1 hg hf hk21 hg2 hf2 (ix_n hj (by decide))) hk hg rfl rfl dX2_countBefore_3 <|
    PE.go <|
    s_istore_n h dX2_countBefore_6 rfl <|
    s_iconst h dX2_countBefore_7 ic_0 <|
    s_istore h dX2_countBefore_8 rfl <|
    s_iconst h dX2_countBefore_10 ic_0 <|
    s_istore h dX2_countBefore_11 rfl <|
    ?_
  refine SX.loc (up_ind (n := 6) (Q := fun i => SX Γ 0 0 13 [(0, .ref (adr k)), (1, .ref (adr k2)), (2, .int (nI j)), (3, .int (f j - f2 j)), (4, .int (cB f f2 j i)), (5, .int (nI i))] [] N adr G) ?_ ?_ 0 (Nat.zero_le _)) ⟨rfl, rfl, rfl, rfl, rfl, rfl, trivial⟩
  · show SX _ _ _ _ _ _ _ _ _
    refine s_iload h dX2_countBefore_13 rfl <|
    s_aload_n h dX2_countBefore_15 rfl <|
    g_X2_9 h dX2_countBefore_16 hk hg <|
    s_alenI h dX2_countBefore_19 hk1 hf (show Int32.ofNat 6 = 6 from rfl) <|
    s_icmp_ge (tgt := 69) h dX2_countBefore_20 (by decide) (kf := fun q => absurd (by decide +kernel) q) (kt := fun _ => ?_)
    refine s_iload h dX2_countBefore_69 rfl <|
    s_iret h he rfl dX2_countBefore_71 ⟨Nat.le_refl _, Nat.le_refl _⟩ ?_
    exact PE.is
  · intro i hi ih 
    show SX _ _ _ _ _ _ _ _ _
    refine s_iload h dX2_countBefore_13 rfl <|
    s_aload_n h dX2_countBefore_15 rfl <|
    g_X2_9 h dX2_countBefore_16 hk hg <|
    s_alenI h dX2_countBefore_19 hk1 hf (show Int32.ofNat 6 = 6 from rfl) <|
    s_icmp_ge (tgt := 69) h dX2_countBefore_20 (by decide) (kt := fun q => absurd q (nI_ge hi (by decide))) (kf := fun _ => ?_)
    refine s_aload_n h dX2_countBefore_23 rfl <|
    s_aload_n h dX2_countBefore_24 rfl <|
    s_iload h dX2_countBefore_25 rfl <|
    k_X2_27 h (c_X2_sharesWith hk1 hg hf hk21 hg2 hf2 (ix_n hi (by decide))) hk hg rfl rfl dX2_countBefore_27 <|
    PE.go <|
    s_if_eq (tgt := 63) h dX2_countBefore_30 (by decide) (fun c30 => ?_) (fun c30 => ?_)
    · refine s_iincR h dX2_countBefore_63 rfl rfl ic_1 (nI_1 i) <|
      s_goto (tgt := 13) h dX2_countBefore_66 (by decide) <|
      ?_
      first
        | exact SX.loc ih ⟨rfl, rfl, rfl, rfl, rfl, rfl, trivial⟩
        | (have q30 := bI_0 c30; exact SX.loc (lv2 := [(0, .ref (adr k)), (1, .ref (adr k2)), (2, .int (nI j)), (3, .int (f j - f2 j)), (4, .int (cB f f2 j i)), (5, .int (nI (i + 1)))]) (by rw [show cB f f2 j i = cB f f2 j (i + 1) from by rw [cB_s, bool_ifn (by simp [q30])]]; exact ih) ⟨rfl, rfl, rfl, rfl, rfl, rfl, trivial⟩)
        | (have q51 : ¬ (f i - f2 i = f j - f2 j) := c51; exact SX.loc (lv2 := [(0, .ref (adr k)), (1, .ref (adr k2)), (2, .int (nI j)), (3, .int (f j - f2 j)), (4, .int (cB f f2 j i)), (5, .int (nI (i + 1)))]) (by rw [show cB f f2 j i = cB f f2 j (i + 1) from by rw [cB_s, bool_ifn (by simp [cbp, c45, q51])]]; exact ih) ⟨rfl, rfl, rfl, rfl, rfl, rfl, trivial⟩)
        | (have q57 := i32_nlt.mpr c57; exact SX.loc (lv2 := [(0, .ref (adr k)), (1, .ref (adr k2)), (2, .int (nI j)), (3, .int (f j - f2 j)), (4, .int (cB f f2 j i)), (5, .int (nI (i + 1)))]) (by rw [show cB f f2 j i = cB f f2 j (i + 1) from by rw [cB_s, bool_ifn (by simp [cbp, c45, q57])]]; exact ih) ⟨rfl, rfl, rfl, rfl, rfl, rfl, trivial⟩)
    · refine s_aload_n h dX2_countBefore_33 rfl <|
      s_aload_n h dX2_countBefore_34 rfl <|
      s_iload h dX2_countBefore_35 rfl <|
      k_X2_31 h (c_X2_shiftTo hk1 hg hf hk21 hg2 hf2 (ix_n hi (by decide))) hk hg rfl rfl dX2_countBefore_37 <|
      PE.go <|
      s_istore h dX2_countBefore_40 rfl <|
      s_iload h dX2_countBefore_42 rfl <|
      s_iload_n h dX2_countBefore_44 rfl <|
      s_icmp_gt (tgt := 60) h dX2_countBefore_45 (by decide) (fun c45 => ?_) (fun c45 => ?_)
      · refine s_iincR h dX2_countBefore_60 rfl rfl ic_1 (show cB f f2 j i + 1 = cB f f2 j (i + 1) from by
        rw [cB_s, bool_if]
        first
          | (simp [bI_1 c30, cbp, c45]; done)
          | (simp [bI_1 c30, cbp, c51, i32_nle.mp c57]; done)) <|
        s_iincR h dX2_countBefore_63 rfl rfl ic_1 (nI_1 i) <|
        s_goto (tgt := 13) h dX2_countBefore_66 (by decide) <|
        ?_
        first
          | exact SX.loc ih ⟨rfl, rfl, rfl, rfl, rfl, rfl, trivial⟩
          | (have q30 := bI_0 c30; exact SX.loc (lv2 := [(0, .ref (adr k)), (1, .ref (adr k2)), (2, .int (nI j)), (3, .int (f j - f2 j)), (4, .int (cB f f2 j i)), (5, .int (nI (i + 1)))]) (by rw [show cB f f2 j i = cB f f2 j (i + 1) from by rw [cB_s, bool_ifn (by simp [q30])]]; exact ih) ⟨rfl, rfl, rfl, rfl, rfl, rfl, trivial⟩)
          | (have q51 : ¬ (f i - f2 i = f j - f2 j) := c51; exact SX.loc (lv2 := [(0, .ref (adr k)), (1, .ref (adr k2)), (2, .int (nI j)), (3, .int (f j - f2 j)), (4, .int (cB f f2 j i)), (5, .int (nI (i + 1)))]) (by rw [show cB f f2 j i = cB f f2 j (i + 1) from by rw [cB_s, bool_ifn (by simp [cbp, c45, q51])]]; exact ih) ⟨rfl, rfl, rfl, rfl, rfl, rfl, trivial⟩)
          | (have q57 := i32_nlt.mpr c57; exact SX.loc (lv2 := [(0, .ref (adr k)), (1, .ref (adr k2)), (2, .int (nI j)), (3, .int (f j - f2 j)), (4, .int (cB f f2 j i)), (5, .int (nI (i + 1)))]) (by rw [show cB f f2 j i = cB f f2 j (i + 1) from by rw [cB_s, bool_ifn (by simp [cbp, c45, q57])]]; exact ih) ⟨rfl, rfl, rfl, rfl, rfl, rfl, trivial⟩)
      · refine s_iload h dX2_countBefore_48 rfl <|
        s_iload_n h dX2_countBefore_50 rfl <|
        s_icmp_ne (tgt := 63) h dX2_countBefore_51 (by decide) (fun c51 => ?_) (fun c51 => ?_)
        · refine s_iincR h dX2_countBefore_63 rfl rfl ic_1 (nI_1 i) <|
          s_goto (tgt := 13) h dX2_countBefore_66 (by decide) <|
          ?_
          first
            | exact SX.loc ih ⟨rfl, rfl, rfl, rfl, rfl, rfl, trivial⟩
            | (have q30 := bI_0 c30; exact SX.loc (lv2 := [(0, .ref (adr k)), (1, .ref (adr k2)), (2, .int (nI j)), (3, .int (f j - f2 j)), (4, .int (cB f f2 j i)), (5, .int (nI (i + 1)))]) (by rw [show cB f f2 j i = cB f f2 j (i + 1) from by rw [cB_s, bool_ifn (by simp [q30])]]; exact ih) ⟨rfl, rfl, rfl, rfl, rfl, rfl, trivial⟩)
            | (have q51 : ¬ (f i - f2 i = f j - f2 j) := c51; exact SX.loc (lv2 := [(0, .ref (adr k)), (1, .ref (adr k2)), (2, .int (nI j)), (3, .int (f j - f2 j)), (4, .int (cB f f2 j i)), (5, .int (nI (i + 1)))]) (by rw [show cB f f2 j i = cB f f2 j (i + 1) from by rw [cB_s, bool_ifn (by simp [cbp, c45, q51])]]; exact ih) ⟨rfl, rfl, rfl, rfl, rfl, rfl, trivial⟩)
            | (have q57 := i32_nlt.mpr c57; exact SX.loc (lv2 := [(0, .ref (adr k)), (1, .ref (adr k2)), (2, .int (nI j)), (3, .int (f j - f2 j)), (4, .int (cB f f2 j i)), (5, .int (nI (i + 1)))]) (by rw [show cB f f2 j i = cB f f2 j (i + 1) from by rw [cB_s, bool_ifn (by simp [cbp, c45, q57])]]; exact ih) ⟨rfl, rfl, rfl, rfl, rfl, rfl, trivial⟩)
        · refine s_iload h dX2_countBefore_54 rfl <|
          s_iload_n h dX2_countBefore_56 rfl <|
          s_icmp_ge (tgt := 63) h dX2_countBefore_57 (by decide) (fun c57 => ?_) (fun c57 => ?_)
          · refine s_iincR h dX2_countBefore_63 rfl rfl ic_1 (nI_1 i) <|
            s_goto (tgt := 13) h dX2_countBefore_66 (by decide) <|
            ?_
            first
              | exact SX.loc ih ⟨rfl, rfl, rfl, rfl, rfl, rfl, trivial⟩
              | (have q30 := bI_0 c30; exact SX.loc (lv2 := [(0, .ref (adr k)), (1, .ref (adr k2)), (2, .int (nI j)), (3, .int (f j - f2 j)), (4, .int (cB f f2 j i)), (5, .int (nI (i + 1)))]) (by rw [show cB f f2 j i = cB f f2 j (i + 1) from by rw [cB_s, bool_ifn (by simp [q30])]]; exact ih) ⟨rfl, rfl, rfl, rfl, rfl, rfl, trivial⟩)
              | (have q51 : ¬ (f i - f2 i = f j - f2 j) := c51; exact SX.loc (lv2 := [(0, .ref (adr k)), (1, .ref (adr k2)), (2, .int (nI j)), (3, .int (f j - f2 j)), (4, .int (cB f f2 j i)), (5, .int (nI (i + 1)))]) (by rw [show cB f f2 j i = cB f f2 j (i + 1) from by rw [cB_s, bool_ifn (by simp [cbp, c45, q51])]]; exact ih) ⟨rfl, rfl, rfl, rfl, rfl, rfl, trivial⟩)
              | (have q57 := i32_nlt.mpr c57; exact SX.loc (lv2 := [(0, .ref (adr k)), (1, .ref (adr k2)), (2, .int (nI j)), (3, .int (f j - f2 j)), (4, .int (cB f f2 j i)), (5, .int (nI (i + 1)))]) (by rw [show cB f f2 j i = cB f f2 j (i + 1) from by rw [cB_s, bool_ifn (by simp [cbp, c45, q57])]]; exact ih) ⟨rfl, rfl, rfl, rfl, rfl, rfl, trivial⟩)
          · refine s_iincR h dX2_countBefore_60 rfl rfl ic_1 (show cB f f2 j i + 1 = cB f f2 j (i + 1) from by
        rw [cB_s, bool_if]
        first
          | (simp [bI_1 c30, cbp, c45]; done)
          | (simp [bI_1 c30, cbp, c51, i32_nle.mp c57]; done)) <|
            s_iincR h dX2_countBefore_63 rfl rfl ic_1 (nI_1 i) <|
            s_goto (tgt := 13) h dX2_countBefore_66 (by decide) <|
            ?_
            first
              | exact SX.loc ih ⟨rfl, rfl, rfl, rfl, rfl, rfl, trivial⟩
              | (have q30 := bI_0 c30; exact SX.loc (lv2 := [(0, .ref (adr k)), (1, .ref (adr k2)), (2, .int (nI j)), (3, .int (f j - f2 j)), (4, .int (cB f f2 j i)), (5, .int (nI (i + 1)))]) (by rw [show cB f f2 j i = cB f f2 j (i + 1) from by rw [cB_s, bool_ifn (by simp [q30])]]; exact ih) ⟨rfl, rfl, rfl, rfl, rfl, rfl, trivial⟩)
              | (have q51 : ¬ (f i - f2 i = f j - f2 j) := c51; exact SX.loc (lv2 := [(0, .ref (adr k)), (1, .ref (adr k2)), (2, .int (nI j)), (3, .int (f j - f2 j)), (4, .int (cB f f2 j i)), (5, .int (nI (i + 1)))]) (by rw [show cB f f2 j i = cB f f2 j (i + 1) from by rw [cB_s, bool_ifn (by simp [cbp, c45, q51])]]; exact ih) ⟨rfl, rfl, rfl, rfl, rfl, rfl, trivial⟩)
              | (have q57 := i32_nlt.mpr c57; exact SX.loc (lv2 := [(0, .ref (adr k)), (1, .ref (adr k2)), (2, .int (nI j)), (3, .int (f j - f2 j)), (4, .int (cB f f2 j i)), (5, .int (nI (i + 1)))]) (by rw [show cB f f2 j i = cB f f2 j (i + 1) from by rw [cB_s, bool_ifn (by simp [cbp, c45, q57])]]; exact ih) ⟨rfl, rfl, rfl, rfl, rfl, rfl, trivial⟩)
def nWp (f f2 : Nat → Int32) (b : Int32) (j : Nat) : Bool := shb f f2 j && decide (cB f f2 j 6 = b)
theorem c_X2_nearestWith {l : Launch} {D : va_G} {N : Nat} {adr : Nat → Nat} {G : Nat → va_E} {k : Nat} {th : Int32} {f : Nat → Int32} (hk1 : k + 1 < N) (hg : G k = .inr (2, [.int th, .ref (adr (k + 1))])) (hf : G (k + 1) = aI D 6 f) {k2 : Nat} {th2 : Int32} {f2 : Nat → Int32} (hk21 : k2 + 1 < N) (hg2 : G k2 = .inr (2, [.int th2, .ref (adr (k2 + 1))])) (hf2 : G (k2 + 1) = aI D 6 f2) {b : Int32} :
    CT l D yX2_nearestWith cX2_nearestWith 4 (some FieldType.int) (rl 4) [.ref (adr k), .ref (adr k2), .int b] N adr G (PE (some (.int (oI (ffO (nWp f f2 b) 6)))) N adr G) := by
  have hk : k < N := Nat.lt_of_succ_lt hk1
  have hk2 : k2 < N := Nat.lt_of_succ_lt hk21
  refine CT.of (by decide +kernel) (Nat.le_of_ble_eq_true rfl) (fun Γ h he => ?_)
  have h : cx l D (rl 4) RX2 cX2_nearestWith 4 Γ := h
  show SX Γ 0 0 0 [(0, .ref (adr k)), (1, .ref (adr k2)), (2, .int b)] [] N adr G
  refine s_iconst h dX2_nearestWith_0 ic_0 <|
    s_istore_n h dX2_nearestWith_1 rfl <|
    ?_
  refine SX.loc (up_ind (n := 6) (Q := fun i => (∀ a, a < i → nWp f f2 b a = false) → SX Γ 0 0 2 [(0, .ref (adr k)), (1, .ref (adr k2)), (2, .int b), (3, .int (nI i))] [] N adr G) ?_ ?_ 0 (Nat.zero_le _) nh_0) ⟨rfl, rfl, rfl, rfl, trivial⟩
  · intro hH
    show SX _ _ _ _ _ _ _ _ _
    refine s_iload_n h dX2_nearestWith_2 rfl <|
    s_aload_n h dX2_nearestWith_3 rfl <|
    g_X2_9 h dX2_nearestWith_4 hk hg <|
    s_alenI h dX2_nearestWith_7 hk1 hf (show Int32.ofNat 6 = 6 from rfl) <|
    s_icmp_ge (tgt := 38) h dX2_nearestWith_8 (by decide) (kf := fun q => absurd (by decide +kernel) q) (kt := fun _ => ?_)
    refine s_bipush h dX2_nearestWith_38 bp_m6 <|
    s_iret h he rfl dX2_nearestWith_40 ⟨Nat.le_refl _, Nat.le_refl _⟩ ?_
    first
      | (have q17 := bI_1 c17; exact PE.eq (by rw [ffO_some (n := 6) hi (by simp [nWp, q17, c27]) hH]; rfl) rfl)
      | exact PE.eq (by rw [ffO_none hH]; rfl) rfl
  · intro i hi ih hH
    show SX _ _ _ _ _ _ _ _ _
    refine s_iload_n h dX2_nearestWith_2 rfl <|
    s_aload_n h dX2_nearestWith_3 rfl <|
    g_X2_9 h dX2_nearestWith_4 hk hg <|
    s_alenI h dX2_nearestWith_7 hk1 hf (show Int32.ofNat 6 = 6 from rfl) <|
    s_icmp_ge (tgt := 38) h dX2_nearestWith_8 (by decide) (kt := fun q => absurd q (nI_ge hi (by decide))) (kf := fun _ => ?_)
    refine s_aload_n h dX2_nearestWith_11 rfl <|
    s_aload_n h dX2_nearestWith_12 rfl <|
    s_iload_n h dX2_nearestWith_13 rfl <|
    k_X2_27 h (c_X2_sharesWith hk1 hg hf hk21 hg2 hf2 (ix_n hi (by decide))) hk hg rfl rfl dX2_nearestWith_14 <|
    PE.go <|
    s_if_eq (tgt := 32) h dX2_nearestWith_17 (by decide) (fun c17 => ?_) (fun c17 => ?_)
    · refine s_iincR h dX2_nearestWith_32 rfl rfl ic_1 (nI_1 i) <|
      s_goto (tgt := 2) h dX2_nearestWith_35 (by decide) <|
      ?_
      first
        | (have q17 := bI_0 c17; exact SX.loc (ih (nh_s hH (by simp [nWp, q17]))) ⟨rfl, rfl, rfl, rfl, trivial⟩)
        | exact SX.loc (ih (nh_s hH (by simp [nWp, decide_eq_false c27]))) ⟨rfl, rfl, rfl, rfl, trivial⟩
    · refine s_aload_n h dX2_nearestWith_20 rfl <|
      s_aload_n h dX2_nearestWith_21 rfl <|
      s_iload_n h dX2_nearestWith_22 rfl <|
      k_X2_44 h (c_X2_countBefore hk1 hg hf hk21 hg2 hf2 hi) hk hg rfl rfl dX2_nearestWith_23 <|
      PE.go <|
      s_iload_n h dX2_nearestWith_26 rfl <|
      s_icmp_ne (tgt := 32) h dX2_nearestWith_27 (by decide) (fun c27 => ?_) (fun c27 => ?_)
      · refine s_iincR h dX2_nearestWith_32 rfl rfl ic_1 (nI_1 i) <|
        s_goto (tgt := 2) h dX2_nearestWith_35 (by decide) <|
        ?_
        first
          | (have q17 := bI_0 c17; exact SX.loc (ih (nh_s hH (by simp [nWp, q17]))) ⟨rfl, rfl, rfl, rfl, trivial⟩)
          | exact SX.loc (ih (nh_s hH (by simp [nWp, decide_eq_false c27]))) ⟨rfl, rfl, rfl, rfl, trivial⟩
      · refine s_iload_n h dX2_nearestWith_30 rfl <|
        s_iret h he rfl dX2_nearestWith_31 ⟨Nat.le_refl _, Nat.le_refl _⟩ ?_
        first
          | (have q17 := bI_1 c17; exact PE.eq (by rw [ffO_some (n := 6) hi (by simp [nWp, q17, c27]) hH]; rfl) rfl)
          | exact PE.eq (by rw [ffO_none hH]; rfl) rfl
def cpF (f f2 : Nat → Int32) (n : Nat) : Nat → Int32 := fN (fun j g => upd g j (f2 j)) f n
theorem cpF_s (f f2 : Nat → Int32) (n : Nat) : cpF f f2 (n + 1) = upd (cpF f f2 n) n (f2 n) := rfl
theorem cpF_lt {f f2 : Nat → Int32} : ∀ {n j : Nat}, j < n → cpF f f2 n j = f2 j
  | 0, j, h => absurd h (Nat.not_lt_zero j)
  | n + 1, j, h => by
    rw [cpF_s]
    by_cases q : j = n
    · subst q; simp [upd]
    · simp only [upd, q, if_false]; exact cpF_lt (by omega)
theorem c_X2_copyFrom {l : Launch} {D : va_G} {N : Nat} {adr : Nat → Nat} {G : Nat → va_E} {k : Nat} {th : Int32} {f : Nat → Int32} (hk1 : k + 1 < N) (hg : G k = .inr (2, [.int th, .ref (adr (k + 1))])) (hf : G (k + 1) = aI D 6 f) {k2 : Nat} {th2 : Int32} {f2 : Nat → Int32} (hk21 : k2 + 1 < N) (hg2 : G k2 = .inr (2, [.int th2, .ref (adr (k2 + 1))])) (hf2 : G (k2 + 1) = aI D 6 f2) (hd : k + 1 < k2 ∨ k2 + 1 < k) (hz : th2 = 0 ∨ th2 = 1) :
    CT l D yX2_copyFrom cX2_copyFrom 3 (none) (rl 2) [.ref (adr k), .ref (adr k2)] N adr G (PE none N adr (va_up (va_up G k (.inr (2, [.int th2, .ref (adr (k + 1))]))) (k + 1) (aI D 6 (cpF f f2 6)))) := by
  have hk : k < N := Nat.lt_of_succ_lt hk1
  have hk2 : k2 < N := Nat.lt_of_succ_lt hk21
  refine CT.of (by decide +kernel) (Nat.le_of_ble_eq_true rfl) (fun Γ h he => ?_)
  have h : cx l D (rl 2) RX2 cX2_copyFrom 3 Γ := h
  show SX Γ 0 0 0 [(0, .ref (adr k)), (1, .ref (adr k2))] [] N adr G
  refine s_aload_n h dX2_copyFrom_0 rfl <|
    s_aload_n h dX2_copyFrom_1 rfl <|
    g_X2_19 h dX2_copyFrom_2 hk2 hg2 <|
    p_X2_19 h dX2_copyFrom_5 hk hg hz <|
    s_iconst h dX2_copyFrom_8 ic_0 <|
    s_istore_n h dX2_copyFrom_9 rfl <|
    ?_
  refine SX.world (G2 := (va_up (va_up G k (.inr (2, [.int th2, .ref (adr (k + 1))]))) (k + 1) (aI D 6 (cpF f f2 0)))) (up_self (by rw [up_ne _ _ (by omega)]; exact hf)).symm ?_
  refine SX.loc (up_ind (n := 6) (Q := fun i => SX Γ 0 0 10 [(0, .ref (adr k)), (1, .ref (adr k2)), (2, .int (nI i))] [] N adr (va_up (va_up G k (.inr (2, [.int th2, .ref (adr (k + 1))]))) (k + 1) (aI D 6 (cpF f f2 i)))) ?_ ?_ 0 (Nat.zero_le _)) ⟨rfl, rfl, rfl, trivial⟩
  · show SX _ _ _ _ _ _ _ _ _
    have w0 : (va_up (va_up G k (.inr (2, [.int th2, .ref (adr (k + 1))]))) (k + 1) (aI D 6 (cpF f f2 6))) k = .inr (2, [.int th2, .ref (adr (k + 1))]) := by rw [up_ne _ _ (by omega), up_eq]
    have w1 : (va_up (va_up G k (.inr (2, [.int th2, .ref (adr (k + 1))]))) (k + 1) (aI D 6 (cpF f f2 6))) (k + 1) = aI D 6 (cpF f f2 6) := up_eq _ _ _
    have w2 : (va_up (va_up G k (.inr (2, [.int th2, .ref (adr (k + 1))]))) (k + 1) (aI D 6 (cpF f f2 6))) k2 = .inr (2, [.int th2, .ref (adr (k2 + 1))]) := by rw [up_ne _ _ (by omega), up_ne _ _ (by omega), hg2]
    have w3 : (va_up (va_up G k (.inr (2, [.int th2, .ref (adr (k + 1))]))) (k + 1) (aI D 6 (cpF f f2 6))) (k2 + 1) = aI D 6 f2 := by rw [up_ne _ _ (by omega), up_ne _ _ (by omega), hf2]
    refine s_iload_n h dX2_copyFrom_10 rfl <|
    s_aload_n h dX2_copyFrom_11 rfl <|
    g_X2_9 h dX2_copyFrom_12 hk w0 <|
    s_alenI h dX2_copyFrom_15 hk1 w1 (show Int32.ofNat 6 = 6 from rfl) <|
    s_icmp_ge (tgt := 36) h dX2_copyFrom_16 (by decide) (kf := fun q => absurd (by decide +kernel) q) (kt := fun _ => ?_)
    refine s_vret h he dX2_copyFrom_36 ⟨Nat.le_refl _, Nat.le_refl _⟩ ?_
    exact PE.is
  · intro i hi ih 
    show SX _ _ _ _ _ _ _ _ _
    have w0 : (va_up (va_up G k (.inr (2, [.int th2, .ref (adr (k + 1))]))) (k + 1) (aI D 6 (cpF f f2 i))) k = .inr (2, [.int th2, .ref (adr (k + 1))]) := by rw [up_ne _ _ (by omega), up_eq]
    have w1 : (va_up (va_up G k (.inr (2, [.int th2, .ref (adr (k + 1))]))) (k + 1) (aI D 6 (cpF f f2 i))) (k + 1) = aI D 6 (cpF f f2 i) := up_eq _ _ _
    have w2 : (va_up (va_up G k (.inr (2, [.int th2, .ref (adr (k + 1))]))) (k + 1) (aI D 6 (cpF f f2 i))) k2 = .inr (2, [.int th2, .ref (adr (k2 + 1))]) := by rw [up_ne _ _ (by omega), up_ne _ _ (by omega), hg2]
    have w3 : (va_up (va_up G k (.inr (2, [.int th2, .ref (adr (k + 1))]))) (k + 1) (aI D 6 (cpF f f2 i))) (k2 + 1) = aI D 6 f2 := by rw [up_ne _ _ (by omega), up_ne _ _ (by omega), hf2]
    refine s_iload_n h dX2_copyFrom_10 rfl <|
    s_aload_n h dX2_copyFrom_11 rfl <|
    g_X2_9 h dX2_copyFrom_12 hk w0 <|
    s_alenI h dX2_copyFrom_15 hk1 w1 (show Int32.ofNat 6 = 6 from rfl) <|
    s_icmp_ge (tgt := 36) h dX2_copyFrom_16 (by decide) (kt := fun q => absurd q (nI_ge hi (by decide))) (kf := fun _ => ?_)
    refine s_aload_n h dX2_copyFrom_19 rfl <|
    g_X2_9 h dX2_copyFrom_20 hk w0 <|
    s_iload_n h dX2_copyFrom_23 rfl <|
    s_aload_n h dX2_copyFrom_24 rfl <|
    s_iload_n h dX2_copyFrom_25 rfl <|
    k_X2_23 h (c_X2_columnOf hk21 w2 w3 (ix_n hi (by decide))) hk2 w2 rfl rfl dX2_copyFrom_26 <|
    PE.go <|
    s_iast h dX2_copyFrom_29 hk1 w1 (ix_n hi (by decide)) <|
    s_iincR h dX2_copyFrom_30 rfl rfl ic_1 (nI_1 i) <|
    s_goto (tgt := 10) h dX2_copyFrom_33 (by decide) <|
    ?_
    refine SX.world (G2 := (va_up (va_up G k (.inr (2, [.int th2, .ref (adr (k + 1))]))) (k + 1) (aI D 6 (cpF f f2 (i + 1))))) (by rw [up_up]; rfl) ?_
    exact SX.loc (ih) ⟨rfl, rfl, rfl, trivial⟩
