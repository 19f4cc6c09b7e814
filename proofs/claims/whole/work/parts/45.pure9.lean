-- match
theorem nI_or (a b : Nat) : nI a ||| nI b = nI (a ||| b) := by
  apply Int32.toBitVec_inj.mp
  show BitVec.ofNat 32 a ||| BitVec.ofNat 32 b = BitVec.ofNat 32 (a ||| b)
  rw [BitVec.ofNat_or]
theorem sh2 : ∀ k, k < 10 → (1 : Int32) <<< (nI k &&& 31) = nI (2 ^ k) := by decide +kernel
def cK (sc : Nat → Nat → Int32) (p q : Nat) : Bool := decide (kP sc (nI p) (nI q) = 0 ∨ kP sc (nI p) (nI q) = 2)
theorem frB_bits (sc : Nat → Nat → Int32) (p : Nat) : ∀ n, n ≤ 10 → ∃ M, M < 2 ^ n ∧ frB sc (nI p) n = nI M ∧ ∀ j, j < n → Nat.testBit M j = cK sc p j
  | 0, _ => ⟨0, by decide, rfl, fun j hj => absurd hj (Nat.not_lt_zero j)⟩
  | n + 1, h => by
    obtain ⟨M, hM, e, hb⟩ := frB_bits sc p n (by omega)
    have hp : 2 ^ (n + 1) = 2 ^ n + 2 ^ n := by rw [Nat.pow_succ]; omega
    have hn : Nat.testBit M n = false := Nat.testBit_lt_two_pow hM
    rw [frB_s]
    by_cases q : kP sc (nI p) (nI n) = 0 ∨ kP sc (nI p) (nI n) = 2
    · rw [if_pos q, e, sh2 n (by omega), nI_or]
      refine ⟨M ||| 2 ^ n, Nat.or_lt_two_pow (by omega) (by have := Nat.two_pow_pos n; omega), rfl, fun j hj => ?_⟩
      rw [Nat.testBit_or, Nat.testBit_two_pow]
      by_cases z : j = n
      · subst z
        rw [hn, show cK sc p j = true from decide_eq_true q]; simp
      · rw [hb j (by omega), decide_eq_false (fun y : n = j => z y.symm), Bool.or_false]
    · rw [if_neg q]
      refine ⟨M, by omega, e, fun j hj => ?_⟩
      by_cases z : j = n
      · subst z
        rw [hn, show cK sc p j = false from decide_eq_false q]
      · exact hb j (by omega)
theorem hb_n {m j : Nat} (hm : m < 1024) (hj : j < 10) : hb (nI m) (nI j) = Nat.testBit m j := by
  unfold hb
  rw [tb_i m hm j hj]
  cases Nat.testBit m j <;> decide
theorem cPr_n {sc : Nat → Nat → Int32} {fr : Nat → Int32} (hf : ∀ j, j < 10 → fr j = frB sc (nI j) 10) {l j r : Nat} (hl : l < 10) (hj : j < 10) (hr : r < 1024) : cPr fr (nI l) (nI j) (nI r) = (Nat.testBit r j && cK sc l j) := by
  obtain ⟨M, hM, e, hb⟩ := frB_bits sc l 10 (Nat.le_refl _)
  unfold cPr
  rw [show wb (nI l) 0 9 = true from ix_wb (ix_n hl (by decide)) (by decide) rfl, if_pos rfl, nI_clamp (by omega), hf l hl, e, nI_and, hb_n (Nat.lt_of_le_of_lt Nat.and_le_right hr) hj, Nat.testBit_and, hb j hj, Bool.and_comm]
theorem lsO_n : ∀ s, s < 1024 → s ≠ 0 → lsO (nI s) = nI (lsN s) := by decide +kernel
theorem mPr_n {T : Nat → Int32} {m : Nat} (hm : m < 1024) : mPr T (nI m) = T m := by
  unfold mPr
  rw [show wb (nI m) 0 1023 = true from ix_wb (n := 1023) (ix_n hm (by decide)) (by decide) rfl, if_pos rfl, nI_clamp (by omega)]
theorem clr_tb : ∀ m, m < 1024 → ∀ l, l < 10 → ∀ j, j < 10 → Nat.testBit (clr m l) j = (Nat.testBit m j && !decide (j = l)) := by decide +kernel
theorem fN_cat {α : Type} (f : Nat → α → α) (a : α) (n : Nat) : ∀ k, fN f a (n + k) = fN (fun i => f (n + i)) (fN f a n) k
  | 0 => rfl
  | k + 1 => by
    show f (n + k) (fN f a (n + k)) = f (n + k) _
    rw [fN_cat f a n k]
theorem fN_id {α : Type} {f : Nat → α → α} {a : α} : ∀ {n : Nat}, (∀ j, j < n → f j a = a) → fN f a n = a
  | 0, _ => rfl
  | n + 1, h => by
    show f n (fN f a n) = a
    rw [fN_id (fun j hj => h j (by omega))]
    exact h n (by omega)
theorem imax_n {a b : Nat} (ha : a < 2 ^ 31) (hb : b < 2 ^ 31) : ∃ c, (c = a ∨ c = b) ∧ imax (nI a) (nI b) = nI c := by
  unfold imax
  split
  · exact ⟨b, Or.inr rfl, rfl⟩
  · exact ⟨a, Or.inl rfl, rfl⟩
theorem imax_0 {a : Nat} (ha : a < 2 ^ 31) : imax (nI a) 0 = nI a := by
  unfold imax
  rw [if_neg]
  exact nI_pos ha
/-- a row of small numbers -/
def nnT (T : Nat → Int32) (B : Nat) : Prop := ∀ x, x < B → ∃ v, v ≤ x ∧ T x = nI v
def sF (cp : Nat → Nat → Bool) (T : Nat → Int32) (s l j : Nat) (x : Int32) : Int32 := if (Nat.testBit (clr s l) j && cp l j) then imax x (1 + T (clr (clr s l) j)) else x
theorem mR_v {cp : Nat → Nat → Bool} {T : Nat → Int32} {s l : Nat} (hs : s < 1024) (hl : isLs s l) (hT : nnT T s) : ∀ n, n ≤ 9 - l → ∃ v, v ≤ s ∧ mR cp T s l n = nI v ∧ (fN (fun i => sF cp T s l (l + 1 + i)) (T (clr s l)) n = nI v)
  | 0, _ => by
    obtain ⟨v, hv, e⟩ := hT _ (clr_lt hl.2.1)
    exact ⟨v, by have := clr_lt hl.2.1; omega, e, e⟩
  | n + 1, h => by
    obtain ⟨v, hv, e, e2⟩ := mR_v hs hl hT n (by omega)
    rw [mR_s, e, fN_s, e2]
    unfold mRw sF
    cases q : (Nat.testBit (clr s l) (l + 1 + n) && cp l (l + 1 + n)) with
    | false => exact ⟨v, hv, imax_0 (by omega), rfl⟩
    | true =>
      have hc := clr_lt hl.2.1
      have hc2 := clr_le (clr s l) (l + 1 + n)
      obtain ⟨u, hu, e3⟩ := hT (clr (clr s l) (l + 1 + n)) (by omega)
      rw [if_pos rfl, if_pos rfl, e3, show (1 : Int32) + nI u = nI (u + 1) from by rw [Int32.add_comm, nI_1]]
      obtain ⟨c, hc3, e4⟩ := imax_n (a := v) (b := u + 1) (by omega) (by omega)
      exact ⟨c, by omega, e4, e4⟩
theorem mOf_mR {sc : Nat → Nat → Int32} {fr T : Nat → Int32} (hf : ∀ j, j < 10 → fr j = frB sc (nI j) 10) {s l : Nat} (hs : s < 1024) (hl : isLs s l) (hT : nnT T s) : mOf fr T (nI s) 10 = mR (cK sc) T s l (9 - l) := by
  have h0 : s ≠ 0 := by intro q; have := hl.2.1; rw [q, Nat.zero_testBit] at this; exact absurd this (by decide)
  have hl10 := hl.1
  have hr : clr s l < 1024 := Nat.lt_of_le_of_lt (clr_le _ _) hs
  have step : ∀ j x, j < 10 → (if cPr fr (nI l) (nI j) (nI (clr s l)) then imax x (1 + mPr T (wo (nI (clr s l)) (nI j))) else x) = (if (Nat.testBit (clr s l) j && cK sc l j) then imax x (1 + T (clr (clr s l) j)) else x) := by
    intro j x hj
    rw [cPr_n hf hl10 hj hr, clr_wo _ hr _ hj, mPr_n (Nat.lt_of_le_of_lt (clr_le _ _) hr)]
  have e : mOf fr T (nI s) 10 = fN (sF (cK sc) T s l) (T (clr s l)) 10 := by
    unfold mOf
    rw [lsO_n s hs h0, lsN_of hl, clr_wo s hs l hl10, mPr_n hr]
    exact fN_congr (fun j x hj => step j x hj)
  obtain ⟨v, hv, e2, e3⟩ := mR_v (cp := cK sc) hs hl hT (9 - l) (Nat.le_refl _)
  rw [e, e2, ← e3]
  have e10 : 10 = l + 1 + (9 - l) := by omega
  have c := fN_cat (sF (cK sc) T s l) (T (clr s l)) (l + 1) (9 - l)
  have hid : fN (sF (cK sc) T s l) (T (clr s l)) (l + 1) = T (clr s l) := fN_id (fun j hj => by
    have : Nat.testBit (clr s l) j = false := by
      rw [clr_tb s hs l hl10 j (by omega)]
      by_cases z : j = l
      · rw [decide_eq_true z]; simp
      · rw [hl.2.2 j (by omega)]; rfl
    unfold sF
    rw [this]; rfl)
  rw [← e10, hid] at c
  exact c
