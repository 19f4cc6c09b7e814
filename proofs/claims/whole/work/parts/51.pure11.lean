/-! ===== lN n to 2^64: shifts, and, or, masks, one bit ===== -/
theorem wb_tb (n : Nat) : (lN n).toBitVec = BitVec.ofNat 64 n := rfl
theorem wb_inj {a b : Int64} (h : a.toBitVec = b.toBitVec) : a = b := Int64.toBitVec_inj.mp h
theorem wb_tn {n : Nat} (h : n < 2 ^ 64) : (lN n).toBitVec.toNat = n := by rw [wb_tb, BitVec.toNat_ofNat, Nat.mod_eq_of_lt h]
theorem wb_of (x : Int64) : ∃ n, n < 2 ^ 64 ∧ x = lN n := ⟨x.toBitVec.toNat, x.toBitVec.isLt, wb_inj (by rw [wb_tb]; simp)⟩
theorem wb_of32 (x : Int32) : ∃ n, n < 2 ^ 32 ∧ x = nI n := ⟨x.toBitVec.toNat, x.toBitVec.isLt, Int32.toBitVec_inj.mp (by show _ = BitVec.ofNat 32 _; simp)⟩
theorem wb_c : ∀ k, k < 64 → ((nI k).toInt64 &&& 63) = lN k := by decide +kernel
theorem wb_cu : ∀ k, k < 64 → ((nI k).toInt64.toUInt64 &&& Int64.toUInt64 63) = UInt64.ofNat k := by decide +kernel
theorem wb_sm : ∀ k, k < 64 → (BitVec.ofNat 64 k).smod 64 = BitVec.ofNat 64 k := by decide +kernel
theorem wb_pw {a b : Nat} (h : a ≤ b) : 2 ^ b = 2 ^ a * 2 ^ (b - a) := by rw [← Nat.pow_add]; congr 1; omega
theorem wb_lt2 {a b : Nat} (h : a < b) : 2 ^ a < 2 ^ b := Nat.pow_lt_pow_right (by decide) h
theorem wb_mod (n : Nat) : lN n = lN (n % 2 ^ 64) := wb_inj (by rw [wb_tb, wb_tb]; apply BitVec.eq_of_toNat_eq; rw [BitVec.toNat_ofNat, BitVec.toNat_ofNat, Nat.mod_mod])
theorem wb_shr {n k : Nat} (hn : n < 2 ^ 64) (hk : k < 64) : ((lN n).toUInt64 >>> ((nI k).toInt64.toUInt64 &&& Int64.toUInt64 63)).toInt64 = lN (n / 2 ^ k) := by
  rw [wb_cu k hk]
  apply wb_inj
  apply BitVec.eq_of_toNat_eq
  show ((lN n).toUInt64 >>> UInt64.ofNat k).toNat = (BitVec.ofNat 64 _).toNat
  have h1 : (UInt64.ofNat k).toNat = k := by
    show (BitVec.ofNat 64 k).toNat = k
    rw [BitVec.toNat_ofNat, Nat.mod_eq_of_lt (by omega)]
  have h2 : (lN n).toUInt64.toNat = n := wb_tn hn
  rw [UInt64.toNat_shiftRight, h1, h2, Nat.mod_eq_of_lt hk, Nat.shiftRight_eq_div_pow, BitVec.toNat_ofNat, Nat.mod_eq_of_lt (Nat.lt_of_le_of_lt (Nat.div_le_self _ _) hn)]
theorem wb_shl (n : Nat) {k : Nat} (hk : k < 64) : lN n <<< ((nI k).toInt64 &&& 63) = lN (n * 2 ^ k) := by
  rw [wb_c k hk]
  apply wb_inj
  rw [Int64.toBitVec_shiftLeft, wb_tb, wb_tb, wb_tb, wb_sm k hk]
  apply BitVec.eq_of_toNat_eq
  rw [BitVec.shiftLeft_eq', BitVec.toNat_shiftLeft, BitVec.toNat_ofNat, BitVec.toNat_ofNat, BitVec.toNat_ofNat, Nat.mod_eq_of_lt (show k < 2 ^ 64 by omega), Nat.shiftLeft_eq, Nat.mul_mod, Nat.mod_mod, ← Nat.mul_mod]
theorem wb_and {a b : Nat} (ha : a < 2 ^ 64) (hb : b < 2 ^ 64) : lN a &&& lN b = lN (a &&& b) := by
  apply wb_inj
  rw [Int64.toBitVec_and, wb_tb, wb_tb, wb_tb]
  apply BitVec.eq_of_toNat_eq
  rw [BitVec.toNat_and, BitVec.toNat_ofNat, BitVec.toNat_ofNat, BitVec.toNat_ofNat, Nat.mod_eq_of_lt ha, Nat.mod_eq_of_lt hb, Nat.mod_eq_of_lt (Nat.and_lt_two_pow _ hb)]
theorem wb_or {a b : Nat} (ha : a < 2 ^ 64) (hb : b < 2 ^ 64) : lN a ||| lN b = lN (a ||| b) := by
  apply wb_inj
  rw [Int64.toBitVec_or, wb_tb, wb_tb, wb_tb]
  apply BitVec.eq_of_toNat_eq
  rw [BitVec.toNat_or, BitVec.toNat_ofNat, BitVec.toNat_ofNat, BitVec.toNat_ofNat, Nat.mod_eq_of_lt ha, Nat.mod_eq_of_lt hb, Nat.mod_eq_of_lt (Nat.or_lt_two_pow ha hb)]
/-! ===== lN to 2^62 under >> and >>> ===== -/
theorem pf_lI {a : Nat} (h : a < 2 ^ 63) : (lN a).toInt = (a : Int) := lg_ofNat_toInt h
theorem pf_shr {a d : Nat} {D : Int64} (hD : (D.toBitVec.smod 64).toNat = d) (h : a < 2 ^ 62) : lN a >>> D = lN (a / 2 ^ d) := by
  have hd : a / 2 ^ d ≤ a := Nat.div_le_self _ _
  apply Int64.toInt_inj.mp
  have e : (lN a >>> D).toInt = (lN a).toInt >>> d := by
    rw [← hD]
    exact BitVec.toInt_sshiftRight ..
  rw [e, Int.shiftRight_eq_div_pow, pf_lI (by omega), pf_lI (by omega)]
  rfl

-- bits of a number, counted
theorem and_split {a c x y : Nat} (ha : a < 256) (hc : c < 256) : (a + 256 * x) &&& (c + 256 * y) = (a &&& c) + 256 * (x &&& y) := by
  have hac : a &&& c < 2 ^ 8 := Nat.lt_of_le_of_lt Nat.and_le_left ha
  apply Nat.eq_of_testBit_eq
  intro j
  rw [Nat.testBit_and, show a + 256 * x = 2 ^ 8 * x + a from by omega, show c + 256 * y = 2 ^ 8 * y + c from by omega, show (a &&& c) + 256 * (x &&& y) = 2 ^ 8 * (x &&& y) + (a &&& c) from by omega,
    Nat.testBit_two_pow_mul_add x (show a < 2 ^ 8 from ha), Nat.testBit_two_pow_mul_add y (show c < 2 ^ 8 from hc), Nat.testBit_two_pow_mul_add _ hac]
  split
  · rw [Nat.testBit_and]
  · rw [Nat.testBit_and]
def F1 (x m : Nat) : Nat := x - ((x / 2) &&& m)
def F2 (x m : Nat) : Nat := (x &&& m) + ((x / 4) &&& m)
def F3 (x m : Nat) : Nat := (x + x / 16) &&& m
/-- the bits of a byte -/
def pb (b : Nat) : Nat := F3 (F2 (F1 b 85) 51) 15
def mk8 (c : Nat) : Nat → Nat
  | 0 => 0
  | k + 1 => c + 256 * mk8 c k
theorem h1_all : ∀ b, b < 256 → ∀ e, e < 2 → (b / 2 + 128 * e) &&& 85 = (b / 2) &&& 85 := by decide +kernel
theorem h2_all : ∀ b, b < 256 → ∀ e, e < 4 → (b / 4 + 64 * e) &&& 51 = (b / 4) &&& 51 := by decide +kernel
theorem h3_all : ∀ d, d < 69 → ∀ e, e < 5 → (d + d / 16 + 16 * e) &&& 15 = (d + d / 16) &&& 15 := by decide +kernel
theorem hs_all : ∀ b, b < 256 → F1 b 85 < 256 ∧ F2 (F1 b 85) 51 < 69 ∧ F2 (F1 b 85) 51 % 16 < 5 ∧ pb b < 9 := by decide +kernel
theorem F1_c {b : Nat} (x m : Nat) (hb : b < 256) : F1 (b + 256 * x) (85 + 256 * m) = F1 b 85 + 256 * F1 x m := by
  unfold F1
  have e : (b + 256 * x) / 2 = (b / 2 + 128 * (x % 2)) + 256 * (x / 2) := by omega
  have h1 := h1_all b hb (x % 2) (by omega)
  rw [e, and_split (by omega) (by decide), h1]
  have h2 : (b / 2) &&& 85 ≤ b / 2 := Nat.and_le_left
  have h3 : (x / 2) &&& m ≤ x / 2 := Nat.and_le_left
  omega
theorem F2_c {b : Nat} (x m : Nat) (hb : b < 256) : F2 (b + 256 * x) (51 + 256 * m) = F2 b 51 + 256 * F2 x m := by
  unfold F2
  have e : (b + 256 * x) / 4 = (b / 4 + 64 * (x % 4)) + 256 * (x / 4) := by omega
  have h1 := h2_all b hb (x % 4) (by omega)
  rw [e, and_split hb (by decide), and_split (by omega) (by decide), h1]
  omega
theorem F3_c {d : Nat} (x m : Nat) (hd : d < 69) (hx : x % 16 < 5) : F3 (d + 256 * x) (15 + 256 * m) = F3 d 15 + 256 * F3 x m := by
  unfold F3
  have e : d + 256 * x + (d + 256 * x) / 16 = (d + d / 16 + 16 * (x % 16)) + 256 * (x + x / 16) := by omega
  have h1 := h3_all d hd (x % 16) hx
  rw [e, and_split (by omega) (by decide), h1]
/-- the bytes' counts, one behind the other -/
def pv : Nat → Nat → Nat
  | 0, _ => 0
  | k + 1, M => pb (M % 256) + 256 * pv k (M / 256)
theorem F_all : ∀ k M, M < 256 ^ k → F2 (F1 M (mk8 85 k)) (mk8 51 k) % 16 < 5 ∧ F3 (F2 (F1 M (mk8 85 k)) (mk8 51 k)) (mk8 15 k) = pv k M := by
  intro k
  induction k with
  | zero =>
    intro M hM
    have h0 : M = 0 := by simpa using hM
    subst h0
    decide
  | succ k ih =>
    intro M hM
    have hb : M % 256 < 256 := Nat.mod_lt _ (by decide)
    have hq : M / 256 < 256 ^ k := by
      rw [Nat.div_lt_iff_lt_mul (by decide), ← Nat.pow_succ]; exact hM
    obtain ⟨i1, i2⟩ := ih (M / 256) hq
    obtain ⟨s1, s2, s3, s4⟩ := hs_all _ hb
    have eM : M = M % 256 + 256 * (M / 256) := by omega
    have e1 : F1 M (mk8 85 (k + 1)) = F1 (M % 256) 85 + 256 * F1 (M / 256) (mk8 85 k) := by
      conv => lhs; rw [eM]
      exact F1_c _ _ hb
    have e2 : F2 (F1 M (mk8 85 (k + 1))) (mk8 51 (k + 1)) = F2 (F1 (M % 256) 85) 51 + 256 * F2 (F1 (M / 256) (mk8 85 k)) (mk8 51 k) := by
      rw [e1]; exact F2_c _ _ s1
    rw [e2]
    refine ⟨by omega, ?_⟩
    show F3 _ (15 + 256 * mk8 15 k) = pb (M % 256) + 256 * pv k (M / 256)
    rw [F3_c _ _ s2 i1, i2]; rfl
/-- the bits below n, counted -/
def cb (M n : Nat) : Nat := fN (fun v x => if Nat.testBit M v then x + 1 else x) 0 n
theorem cb_s (M n : Nat) : cb M (n + 1) = if Nat.testBit M n then cb M n + 1 else cb M n := rfl
theorem cb_le (M : Nat) : ∀ n, cb M n ≤ n
  | 0 => Nat.le_refl _
  | n + 1 => by
    have := cb_le M n
    rw [cb_s]; split <;> omega
theorem pb_cb : ∀ b, b < 256 → pb b = cb b 8 := by decide +kernel
theorem cb_lo {b : Nat} (x : Nat) (hb : b < 256) : ∀ n, n ≤ 8 → cb (b + 256 * x) n = cb b n
  | 0, _ => rfl
  | n + 1, h => by
    rw [cb_s, cb_s, cb_lo x hb n (by omega), show b + 256 * x = 2 ^ 8 * x + b from by omega, Nat.testBit_two_pow_mul_add x (show b < 2 ^ 8 from hb), if_pos (show n < 8 by omega)]
theorem cb_hi {b : Nat} (x : Nat) (hb : b < 256) : ∀ n, cb (b + 256 * x) (8 + n) = cb b 8 + cb x n
  | 0 => cb_lo x hb 8 (Nat.le_refl _)
  | n + 1 => by
    show cb (b + 256 * x) (8 + n + 1) = _
    rw [cb_s _ (8 + n), cb_s x n, cb_hi x hb n, show b + 256 * x = 2 ^ 8 * x + b from by omega, Nat.testBit_two_pow_mul_add x (show b < 2 ^ 8 from hb), if_neg (show ¬ 8 + n < 8 by omega), show 8 + n - 8 = n from by omega]
    split <;> omega
/-- the sum of the bytes' counts -/
def sv : Nat → Nat → Nat
  | 0, _ => 0
  | k + 1, M => pb (M % 256) + sv k (M / 256)
theorem sv_cb : ∀ k M, sv k M = cb M (8 * k)
  | 0, _ => rfl
  | k + 1, M => by
    have hb : M % 256 < 256 := Nat.mod_lt _ (by decide)
    show pb (M % 256) + sv k (M / 256) = _
    rw [sv_cb k (M / 256), pb_cb _ hb, show 8 * (k + 1) = 8 + 8 * k from by omega]
    have := cb_hi (M / 256) hb (8 * k)
    rw [show M % 256 + 256 * (M / 256) = M from by omega] at this
    exact this.symm
theorem cb_top {M n : Nat} (hM : M < 2 ^ n) : ∀ d, cb M (n + d) = cb M n
  | 0 => rfl
  | d + 1 => by
    show cb M (n + d + 1) = _
    rw [cb_s, cb_top hM d, if_neg]
    rw [Nat.testBit_lt_two_pow (Nat.lt_of_lt_of_le hM (Nat.pow_le_pow_right (by decide) (by omega)))]
    decide
theorem sum8 {p0 p1 p2 p3 p4 p5 p6 p7 : Nat} (h0 : p0 < 9) (h1 : p1 < 9) (h2 : p2 < 9) (h3 : p3 < 9) (h4 : p4 < 9) (h5 : p5 < 9) (h6 : p6 < 9) (h7 : p7 < 9) {x y z w : Nat} (hx : x = p0 + 256 * (p1 + 256 * (p2 + 256 * (p3 + 256 * (p4 + 256 * (p5 + 256 * (p6 + 256 * p7))))))) (hy : y = x + x / 256) (hz : z = y + y / 65536) (hw : w = z + z / 4294967296) : w < 2 ^ 63 ∧ w % 128 = p0 + (p1 + (p2 + (p3 + (p4 + (p5 + (p6 + p7)))))) := by
  have a1 : x / 256 = p1 + 256 * (p2 + 256 * (p3 + 256 * (p4 + 256 * (p5 + 256 * (p6 + 256 * p7))))) := by omega
  have a2 : y = (p0 + p1) + 256 * ((p1 + p2) + 256 * ((p2 + p3) + 256 * ((p3 + p4) + 256 * ((p4 + p5) + 256 * ((p5 + p6) + 256 * ((p6 + p7) + 256 * p7)))))) := by omega
  clear hy a1 hx
  have a3 : y / 65536 = (p2 + p3) + 256 * ((p3 + p4) + 256 * ((p4 + p5) + 256 * ((p5 + p6) + 256 * ((p6 + p7) + 256 * p7)))) := by omega
  have a4 : z = (p0 + p1 + p2 + p3) + 256 * ((p1 + p2 + p3 + p4) + 256 * ((p2 + p3 + p4 + p5) + 256 * ((p3 + p4 + p5 + p6) + 256 * ((p4 + p5 + p6 + p7) + 256 * ((p5 + p6 + p7) + 256 * ((p6 + p7) + 256 * p7)))))) := by omega
  clear hz a3 a2
  have a5 : z / 4294967296 = (p4 + p5 + p6 + p7) + 256 * ((p5 + p6 + p7) + 256 * ((p6 + p7) + 256 * p7)) := by omega
  constructor
  · omega
  · omega
theorem m55 : (6148914691236517205 : Int64) = lN (mk8 85 8) := by decide +kernel
theorem m33 : (3689348814741910323 : Int64) = lN (mk8 51 8) := by decide +kernel
theorem m0f : (1085102592571150095 : Int64) = lN (mk8 15 8) := by decide +kernel
theorem mk_lt : mk8 85 8 < 2 ^ 64 ∧ mk8 51 8 < 2 ^ 64 ∧ mk8 15 8 < 2 ^ 64 := by decide +kernel
theorem and_lt_r {a b n : Nat} (h : b < n) : a &&& b < n := Nat.lt_of_le_of_lt Nat.and_le_right h
theorem and_lt_l {a b n : Nat} (h : a < n) : a &&& b < n := Nat.lt_of_le_of_lt Nat.and_le_left h
theorem lC_n {M : Nat} (hM : M < 2 ^ 62) : lC (lN M) = nI (cb M 62) := by
  have hM4 : M < 2 ^ 64 := by omega
  have e1 : lc1 (lN M) = lN (F1 M (mk8 85 8)) := by
    unfold lc1 F1
    have := wb_shr (n := M) (k := 1) hM4 (by decide)
    rw [show (1 : Int32) = nI 1 from rfl, this, m55, wb_and (by omega) mk_lt.1, lN_sub]
    · exact Nat.le_trans Nat.and_le_left (Nat.div_le_self _ _)
  have l1 : F1 M (mk8 85 8) < 2 ^ 62 := by
    unfold F1; omega
  have e2 : lc2 (lN (F1 M (mk8 85 8))) = lN (F2 (F1 M (mk8 85 8)) (mk8 51 8)) := by
    generalize F1 M (mk8 85 8) = X at l1 ⊢
    unfold lc2 F2
    have := wb_shr (n := X) (k := 2) (by omega) (by decide)
    rw [show (2 : Int32) = nI 2 from rfl, this, m33, wb_and (by omega) mk_lt.2.1, wb_and (by omega) mk_lt.2.1, lN_add]
  have l2 : F2 (F1 M (mk8 85 8)) (mk8 51 8) < 2 ^ 63 := by
    generalize F1 M (mk8 85 8) = X at l1 ⊢
    unfold F2
    have h1 : X &&& mk8 51 8 ≤ X := Nat.and_le_left
    have h2 : (X / 4) &&& mk8 51 8 ≤ X / 4 := Nat.and_le_left
    omega
  have hF := (F_all 8 M (by omega)).2
  have e3 : lc3 (lN (F2 (F1 M (mk8 85 8)) (mk8 51 8))) = lN (pv 8 M) := by
    rw [← hF]
    generalize F2 (F1 M (mk8 85 8)) (mk8 51 8) = X at l2 ⊢
    unfold lc3 F3
    have := wb_shr (n := X) (k := 4) (by omega) (by decide)
    rw [show (4 : Int32) = nI 4 from rfl, this, lN_add, m0f, wb_and (by omega) mk_lt.2.2]
  have pe : pv 8 M = pb (M % 256) + 256 * (pb (M / 256 % 256) + 256 * (pb (M / 256 / 256 % 256) + 256 * (pb (M / 256 / 256 / 256 % 256) + 256 * (pb (M / 256 / 256 / 256 / 256 % 256) + 256 * (pb (M / 256 / 256 / 256 / 256 / 256 % 256) + 256 * (pb (M / 256 / 256 / 256 / 256 / 256 / 256 % 256) + 256 * pb (M / 256 / 256 / 256 / 256 / 256 / 256 / 256 % 256))))))) := rfl
  have se : sv 8 M = pb (M % 256) + (pb (M / 256 % 256) + (pb (M / 256 / 256 % 256) + (pb (M / 256 / 256 / 256 % 256) + (pb (M / 256 / 256 / 256 / 256 % 256) + (pb (M / 256 / 256 / 256 / 256 / 256 % 256) + (pb (M / 256 / 256 / 256 / 256 / 256 / 256 % 256) + pb (M / 256 / 256 / 256 / 256 / 256 / 256 / 256 % 256))))))) := rfl
  have hp : ∀ x, pb (x % 256) < 9 := fun x => (hs_all _ (Nat.mod_lt _ (by decide))).2.2.2
  obtain ⟨w1, w2⟩ := sum8 (hp _) (hp _) (hp _) (hp _) (hp _) (hp _) (hp _) (hp _) pe rfl rfl rfl
  rw [← se] at w2
  have l3 : pv 8 M < 2 ^ 60 := by
    have b0 := hp M; have b1 := hp (M / 256); have b2 := hp (M / 256 / 256); have b3 := hp (M / 256 / 256 / 256); have b4 := hp (M / 256 / 256 / 256 / 256); have b5 := hp (M / 256 / 256 / 256 / 256 / 256); have b6 := hp (M / 256 / 256 / 256 / 256 / 256 / 256); have b7 := hp (M / 256 / 256 / 256 / 256 / 256 / 256 / 256)
    rw [pe]; omega
  have e4 : lc4 (lN (pv 8 M)) = lN (pv 8 M + pv 8 M / 256) := by
    unfold lc4
    have := wb_shr (n := pv 8 M) (k := 8) (by omega) (by decide)
    rw [show (8 : Int32) = nI 8 from rfl, this, lN_add]
  generalize hy : pv 8 M + pv 8 M / 256 = y at e4 w1 w2
  have l4 : y < 2 ^ 61 := by omega
  have e5 : lc5 (lN y) = lN (y + y / 65536) := by
    unfold lc5
    have := wb_shr (n := y) (k := 16) (by omega) (by decide)
    rw [show (16 : Int32) = nI 16 from rfl, this, lN_add]
  generalize hz : y + y / 65536 = z at e5 w1 w2
  have l5 : z < 2 ^ 62 := by omega
  have e6 : lc6 (lN z) = lN (z + z / 4294967296) := by
    unfold lc6
    have := wb_shr (n := z) (k := 32) (by omega) (by decide)
    rw [show (32 : Int32) = nI 32 from rfl, this, lN_add]
  unfold lC
  rw [e1, e2, e3, e4, e5, e6, lN_i, show (127 : Int32) = nI 127 from rfl, nI_and, show (127 : Nat) = 2 ^ 7 - 1 from rfl, Nat.and_two_pow_sub_one_eq_mod, show (2 : Nat) ^ 7 = 128 from rfl, w2, sv_cb, show 8 * 8 = 62 + 2 from rfl, cb_top hM]
-- the row could against the long
theorem cb_bit : ∀ j, j < 62 → (1 : Int64) <<< ((nI j).toInt64 &&& 63) = lN (2 ^ j) := by decide +kernel
theorem cBit_n {c : Int32} (h : c = -6 ∨ 0 ≤ c ∧ c ≤ 60) : cBit c = lN (2 ^ ixM c) := by
  unfold cBit
  by_cases q : c = -6
  · rw [if_pos q, ixM_neg q]
    exact cb_bit _ (ixM_lt h)
  · rw [if_neg q]
    conv => lhs; rw [ixM_pos h q]
    exact cb_bit _ (ixM_lt h)
theorem cW_cM (sc : Nat → Nat → Int32) (col : Nat → Int32) (t : Nat) : ∀ n, ∃ M, M < 2 ^ 62 ∧ cWk sc col t n = lN M ∧ ∀ v, cM sc col t n v = if Nat.testBit M v then 1 else 0
  | 0 => ⟨0, by decide, rfl, fun v => by rw [Nat.zero_testBit]; rfl⟩
  | n + 1 => by
    obtain ⟨M, hM, e, hv⟩ := cW_cM sc col t n
    rw [cWk_s]
    cases q : hitK sc col (nI t) n with
    | false =>
      refine ⟨M, hM, ?_, fun v => ?_⟩
      · rw [if_neg (by decide)]; exact e
      · rw [cM_s, q, if_neg (by decide)]; exact hv v
    | true =>
      have hc := sCol_ok sc (nI (n % 100)) (nI (n / 100)) t
      have hx := ixM_lt hc
      have hp : 2 ^ ixM (sCol sc (nI (n % 100)) (nI (n / 100)) t) < 2 ^ 62 := Nat.pow_lt_pow_right (by decide) hx
      refine ⟨M ||| 2 ^ ixM (sCol sc (nI (n % 100)) (nI (n / 100)) t), Nat.or_lt_two_pow hM hp, ?_, fun v => ?_⟩
      · rw [if_pos rfl, e, cBit_n hc, wb_or (by omega) (by omega)]
      · rw [cM_s, q, if_pos rfl, Nat.testBit_or, Nat.testBit_two_pow]
        by_cases z : v = ixM (sCol sc (nI (n % 100)) (nI (n / 100)) t)
        · rw [← z]
          simp only [upd, if_true, decide_true, Bool.or_true]
        · simp only [upd, if_neg z]
          rw [hv v, decide_eq_false (fun y => z y.symm), Bool.or_false]
theorem shP_n {M j : Nat} (hM : M < 2 ^ 62) (hj : j < 62) : shP (lN M) j = Nat.testBit M j := by
  unfold shP
  rw [wb_c j (by omega), pf_shr (d := j) (by rw [wb_tb, wb_sm j (by omega), BitVec.toNat_ofNat, Nat.mod_eq_of_lt (by omega)]) hM]
  have hd : M / 2 ^ j < 2 ^ 64 := Nat.lt_of_le_of_lt (Nat.div_le_self _ _) (by omega)
  have := wb_and (a := M / 2 ^ j) (b := 1) hd (by decide)
  rw [show (1 : Int64) = lN 1 from rfl, this, Nat.and_one_is_mod, Nat.testBit_eq_decide_div_mod_eq]
  rcases Nat.mod_two_eq_zero_or_one (M / 2 ^ j) with q | q
  · rw [q]; decide
  · rw [q]; decide
theorem msT_n {M : Nat} {tb : Nat → Int32} (hv : ∀ v, tb v = if Nat.testBit M v then 1 else 0) : ∀ n, n < 2 ^ 30 → msT tb n = nI (cb M n) + tb 61
  | 0, _ => by show tb 61 = nI 0 + tb 61; rw [show nI 0 = 0 from rfl, Int32.zero_add]
  | n + 1, h => by
    show msT tb n + tb n = _
    rw [msT_n hv n (by omega), hv n, cb_s]
    cases Nat.testBit M n with
    | false => rw [if_neg (by decide), if_neg (by decide), Int32.add_zero]
    | true =>
      rw [if_pos rfl, if_pos rfl, Int32.add_assoc, Int32.add_comm (tb 61) 1, ← Int32.add_assoc, nI_1]
theorem one_iff {M : Nat} {tb : Nat → Int32} (hv : ∀ v, tb v = if Nat.testBit M v then 1 else 0) (v : Nat) : decide (tb v = 1) = Nat.testBit M v := by
  rw [hv v]
  cases Nat.testBit M v <;> decide
theorem fN_firN {p : Nat → Bool} {tb : Nat → Int32} (h : ∀ v, v < 61 → decide (tb v = 1) = p v) : ∀ n, n ≤ 61 → msF tb n = firN p n
  | 0, _ => rfl
  | n + 1, hn => by
    rw [msF_s, firN_s, fN_firN h n (by omega), ← h n (by omega)]
    by_cases q : tb n = 1
    · by_cases y : firN p n < 0
      · rw [if_pos ⟨q, y⟩, decide_eq_true q, decide_eq_true y]; rfl
      · rw [if_neg (fun z => y z.2), decide_eq_true q, decide_eq_false y]; rfl
    · rw [if_neg (fun z => q z.1), decide_eq_false q]; rfl
theorem msL_lfO {p : Nat → Bool} {tb : Nat → Int32} (h : ∀ v, v < 61 → decide (tb v = 1) = p v) : ∀ n, n ≤ 61 → msL tb n = oI (lfO p n)
  | 0, _ => rfl
  | n + 1, hn => by
    rw [msL_s, msL_lfO h n (by omega)]
    show _ = oI (if p n then some n else lfO p n)
    rw [← h n (by omega)]
    by_cases q : tb n = 1
    · rw [if_pos q, decide_eq_true q]; rfl
    · rw [if_neg q, decide_eq_false q]; rfl
theorem msM_eq (sc : Nat → Nat → Int32) (p t x : Int32) : msM sc p t x = msR sc p t x := by
  unfold msM msR
  cases h1 : pE sc p with
  | false => rfl
  | true =>
    cases h2 : tE sc t with
    | false => rfl
    | true =>
      cases h3 : wb x 0 2 with
      | false => rfl
      | true =>
        rw [if_pos rfl, if_pos rfl, if_pos rfl, if_pos (show (true && true) = true from rfl), if_pos rfl]
        obtain ⟨M, hM, e, hv⟩ := cW_cM sc (sc (6 + p.toNatClampNeg)) t.toNatClampNeg 10000
        have e2 : cWk sc (cA sc p) t.toNatClampNeg 10000 = lN M := e
        rw [e2]
        generalize cM sc (sc (6 + p.toNatClampNeg)) t.toNatClampNeg 10000 = tb at hv
        have hh : ∀ v, v < 61 → decide (tb v = 1) = shP (lN M) v := fun v hv2 => (one_iff hv v).trans (shP_n hM (by omega)).symm
        by_cases q0 : x = 0
        · rw [if_pos q0, if_pos q0, lC_n hM, msT_n hv 61 (by decide), hv 61]
          show _ = nI (cb M (61 + 1))
          rw [cb_s M 61]
          cases Nat.testBit M 61 with
          | false => rw [if_neg (by decide), if_neg (by decide), Int32.add_zero]
          | true => rw [if_pos rfl, if_pos rfl, nI_1]
        · rw [if_neg q0, if_neg q0]
          by_cases q1 : x = 1
          · rw [if_pos q1, if_pos q1, fN_firN hh 61 (Nat.le_refl _), firN_ffO _ (by decide)]
          · rw [if_neg q1, if_neg q1, msL_lfO hh 61 (Nat.le_refl _)]
