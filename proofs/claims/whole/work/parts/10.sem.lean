theorem ic_m1 : Int32.ofInt (-1) = (-1) := by decide +kernel
theorem ic_0 : Int32.ofInt (0) = 0 := by decide +kernel
theorem ic_1 : Int32.ofInt (1) = 1 := by decide +kernel
theorem ic_2 : Int32.ofInt (2) = 2 := by decide +kernel
theorem ic_3 : Int32.ofInt (3) = 3 := by decide +kernel
theorem ic_4 : Int32.ofInt (4) = 4 := by decide +kernel
theorem ic_5 : Int32.ofInt (5) = 5 := by decide +kernel
theorem ic_8 : Int32.ofInt (8) = 8 := by decide +kernel
theorem bp_m61 : (Int8.ofInt (-61)).toInt32 = (-61) := by decide +kernel
theorem bp_m9 : (Int8.ofInt (-9)).toInt32 = (-9) := by decide +kernel
theorem bp_m6 : (Int8.ofInt (-6)).toInt32 = (-6) := by decide +kernel
theorem bp_m5 : (Int8.ofInt (-5)).toInt32 = (-5) := by decide +kernel
theorem bp_m4 : (Int8.ofInt (-4)).toInt32 = (-4) := by decide +kernel
theorem bp_m3 : (Int8.ofInt (-3)).toInt32 = (-3) := by decide +kernel
theorem bp_m2 : (Int8.ofInt (-2)).toInt32 = (-2) := by decide +kernel
theorem bp_6 : (Int8.ofInt (6)).toInt32 = 6 := by decide +kernel
theorem bp_7 : (Int8.ofInt (7)).toInt32 = 7 := by decide +kernel
theorem bp_8 : (Int8.ofInt (8)).toInt32 = 8 := by decide +kernel
theorem bp_9 : (Int8.ofInt (9)).toInt32 = 9 := by decide +kernel
theorem bp_10 : (Int8.ofInt (10)).toInt32 = 10 := by decide +kernel
theorem bp_16 : (Int8.ofInt (16)).toInt32 = 16 := by decide +kernel
theorem bp_20 : (Int8.ofInt (20)).toInt32 = 20 := by decide +kernel
theorem bp_30 : (Int8.ofInt (30)).toInt32 = 30 := by decide +kernel
theorem bp_31 : (Int8.ofInt (31)).toInt32 = 31 := by decide +kernel
theorem bp_32 : (Int8.ofInt (32)).toInt32 = 32 := by decide +kernel
theorem bp_33 : (Int8.ofInt (33)).toInt32 = 33 := by decide +kernel
theorem bp_40 : (Int8.ofInt (40)).toInt32 = 40 := by decide +kernel
theorem bp_47 : (Int8.ofInt (47)).toInt32 = 47 := by decide +kernel
theorem bp_60 : (Int8.ofInt (60)).toInt32 = 60 := by decide +kernel
theorem bp_61 : (Int8.ofInt (61)).toInt32 = 61 := by decide +kernel
theorem bp_62 : (Int8.ofInt (62)).toInt32 = 62 := by decide +kernel
theorem bp_63 : (Int8.ofInt (63)).toInt32 = 63 := by decide +kernel
theorem bp_74 : (Int8.ofInt (74)).toInt32 = 74 := by decide +kernel
theorem bp_75 : (Int8.ofInt (75)).toInt32 = 75 := by decide +kernel
theorem bp_97 : (Int8.ofInt (97)).toInt32 = 97 := by decide +kernel
theorem bp_99 : (Int8.ofInt (99)).toInt32 = 99 := by decide +kernel
theorem bp_100 : (Int8.ofInt (100)).toInt32 = 100 := by decide +kernel
theorem bp_126 : (Int8.ofInt (126)).toInt32 = 126 := by decide +kernel
theorem bp_127 : (Int8.ofInt (127)).toInt32 = 127 := by decide +kernel
theorem sp_200 : (Int16.ofInt (200)).toInt32 = 200 := by decide +kernel
theorem sp_1000 : (Int16.ofInt (1000)).toInt32 = 1000 := by decide +kernel
theorem sp_1024 : (Int16.ofInt (1024)).toInt32 = 1024 := by decide +kernel
theorem sp_9999 : (Int16.ofInt (9999)).toInt32 = 9999 := by decide +kernel
theorem sp_10000 : (Int16.ofInt (10000)).toInt32 = 10000 := by decide +kernel
theorem lc_0 : Int64.ofNat ((0 : Fin 2) : Nat) = 0 := by decide +kernel
theorem lc_1 : Int64.ofNat ((1 : Fin 2) : Nat) = 1 := by decide +kernel
theorem s_iincR {l : Launch} {D : va_G} {R : Room} {own : String} {cc : ByteArray} {nL : Nat} {Γ : GT} {ce sl pc : Nat} {lv : List (Nat × Value)} {st : List Value} {N : Nat} {adr : Nat → Nat} {G : Nat → va_E} {i : Nat} {n : Int} {x v z : Int32} (h : cx l D R own cc nL Γ) (d : decode cc pc = .ok (.iinc i n, 3)) (hn : Nat.blt i nL = true) (hi : lgt lv i = some (.int x)) (hv : Int32.ofInt n = v) (hw : x + v = z) (k : SX Γ ce sl (pc + 3) (lset lv i (.int z)) st N adr G) : SX Γ ce sl pc lv st N adr G := by
  subst hw
  exact s_iinc h d hn hi hv k
theorem s_astore_nN {l : Launch} {D : va_G} {R : Room} {own : String} {cc : ByteArray} {nL : Nat} {Γ : GT} {ce sl pc : Nat} {lv : List (Nat × Value)} {st : List Value} {N : Nat} {adr : Nat → Nat} {G : Nat → va_E} {i : Fin 4} (h : cx l D R own cc nL Γ) (d : decode cc pc = .ok (.astore_n i, 1)) (hn : Nat.blt (i : Nat) nL = true) (k : SX Γ ce sl (pc + 1) (lset lv (i : Nat) .null) st N adr G) : SX Γ ce sl pc lv (.null :: st) N adr G := by
  obtain ⟨p, l', e, R', s, m, args, below, meth, c, D', A, Q, nL'⟩ := Γ
  obtain ⟨rfl, rfl, rfl, rfl, hx, hb, hml, hown, hts, hnw, hK, hA, hlk⟩ := h
  intro H locs ls hP hD hS hl
  exact lv_astore_nN hx hb d rfl hl (Nat.blt_eq.mp hn) rfl (fun ls2 hl2 => k H locs ls2 hP hD hS hl2)
theorem s_astoreN {l : Launch} {D : va_G} {R : Room} {own : String} {cc : ByteArray} {nL : Nat} {Γ : GT} {ce sl pc : Nat} {lv : List (Nat × Value)} {st : List Value} {N : Nat} {adr : Nat → Nat} {G : Nat → va_E} {i : Nat} (h : cx l D R own cc nL Γ) (d : decode cc pc = .ok (.astore i, 2)) (hn : Nat.blt i nL = true) (k : SX Γ ce sl (pc + 2) (lset lv i .null) st N adr G) : SX Γ ce sl pc lv (.null :: st) N adr G := by
  obtain ⟨p, l', e, R', s, m, args, below, meth, c, D', A, Q, nL'⟩ := Γ
  obtain ⟨rfl, rfl, rfl, rfl, hx, hb, hml, hown, hts, hnw, hK, hA, hlk⟩ := h
  intro H locs ls hP hD hS hl
  exact lv_astoreN hx hb d hl (Nat.blt_eq.mp hn) rfl (fun ls2 hl2 => k H locs ls2 hP hD hS hl2)
/-! ===== plain words: counting loops, truth as 0 and 1 ===== -/
def fN {α : Type} (f : Nat → α → α) (a : α) : Nat → α
  | 0 => a
  | n + 1 => f n (fN f a n)
theorem fN_s {α : Type} (f : Nat → α → α) (a : α) (n : Nat) : fN f a (n + 1) = f n (fN f a n) := rfl
def bI (b : Bool) : Int32 := if b then 1 else 0
theorem bI_t : bI true = 1 := rfl
theorem bI_f : bI false = 0 := rfl
theorem bI_0 {b : Bool} (h : bI b = 0) : b = false := by cases b <;> first | rfl | (exact absurd h (by decide))
theorem bI_1 {b : Bool} (h : ¬ bI b = 0) : b = true := by cases b <;> first | rfl | (exact absurd rfl h)
theorem bI_z (b : Bool) : bI b = 0 ∨ bI b = 1 := by cases b <;> simp [bI]
theorem bI_nar (b : Bool) : narrow .boolean (.int (bI b)) = .int (bI b) := z_nar (bI_z b)
theorem bI_pos {p : Prop} [Decidable p] (h : p) : bI (decide p) = 1 := by simp [bI, h]
theorem bI_neg {p : Prop} [Decidable p] (h : ¬ p) : bI (decide p) = 0 := by simp [bI, h]
def wb (n a b : Int32) : Bool := decide (a ≤ n ∧ n ≤ b)
theorem wb_t {n a b : Int32} : wb n a b = true ↔ a ≤ n ∧ n ≤ b := by simp [wb]
theorem wb_f {n a b : Int32} : wb n a b = false ↔ ¬ (a ≤ n ∧ n ≤ b) := by simp [wb]
theorem up_eq {α : Type} (f : Nat → α) (k : Nat) (v : α) : va_up f k v k = v := by simp [va_up]
theorem up_ne {α : Type} (f : Nat → α) {k j : Nat} (v : α) (h : j ≠ k) : va_up f k v j = f j := by simp [va_up, h]
theorem up_ind {n : Nat} {Q : Nat → Prop} (h0 : Q n) (hs : ∀ i, i < n → Q (i + 1) → Q i) : ∀ i, i ≤ n → Q i := by
  intro i hi
  obtain ⟨d, hd⟩ : ∃ d, n = i + d := ⟨n - i, by omega⟩
  induction d generalizing i with
  | zero => have e : n = i := by omega
            rw [← e]; exact h0
  | succ d ih => exact hs i (by omega) (ih (i + 1) (by omega) (by omega))
theorem ix_n {j n : Nat} (h : j < n) (hn : n ≤ 2 ^ 31) : ix (nI j) j n := ⟨nI_pos (by omega), nI_clamp (by omega), h⟩
theorem i32_lt0 {x : Int32} : ¬ x < 0 ↔ 0 ≤ x := by
  rw [Int32.lt_iff_toInt_lt, Int32.le_iff_toInt_le]; omega
theorem i32_nlt {x y : Int32} : ¬ x < y ↔ y ≤ x := by
  rw [Int32.lt_iff_toInt_lt, Int32.le_iff_toInt_le]; omega
theorem i32_nle {x y : Int32} : ¬ x ≤ y ↔ y < x := by
  rw [Int32.lt_iff_toInt_lt, Int32.le_iff_toInt_le]; omega
theorem ix_of {t : Int32} {n : Nat} (hn : n < 2 ^ 31) (h0 : 0 ≤ t) (h1 : t ≤ nI n) : ix t t.toNatClampNeg (n + 1) := by
  have h2 := nI_toInt hn
  have a := Int32.le_iff_toInt_le.mp h0
  have b := Int32.le_iff_toInt_le.mp h1
  rw [h2] at b
  have c : (0 : Int32).toInt = 0 := rfl
  rw [c] at a
  refine ⟨i32_lt0.mpr h0, rfl, ?_⟩
  have e : t.toNatClampNeg = t.toInt.toNat := rfl
  omega
theorem ix_eq {t : Int32} {j n : Nat} (h : ix t j n) : t = nI j := by
  obtain ⟨h0, h1, -⟩ := h
  have e : t.toNatClampNeg = t.toInt.toNat := rfl
  have a := i32_lt0.mp h0
  have b := Int32.le_iff_toInt_le.mp a
  have c : (0 : Int32).toInt = 0 := rfl
  rw [c] at b
  have hlt : t.toInt < 2 ^ 31 := Int32.toInt_lt t
  apply Int32.toInt_inj.mp
  rw [nI_toInt (by omega)]
  omega
theorem ix_wb {t : Int32} {j n : Nat} (h : ix t j (n + 1)) (hn : n < 2 ^ 31) {m : Int32} (hm : m = nI n) : wb t 0 m = true := by
  have e := ix_eq h
  have hj := h.2.2
  rw [wb_t, hm, e]
  exact ⟨nI_pos' (by omega), nI_le (by omega) hn⟩
theorem wb_ix {t : Int32} {n : Nat} (hn : n < 2 ^ 31) {m : Int32} (hm : m = nI n) (h : wb t 0 m = true) : ix t t.toNatClampNeg (n + 1) := by
  obtain ⟨h0, h1⟩ := wb_t.mp h
  exact ix_of hn h0 (by rw [← hm]; exact h1)

