-- told
theorem tB_64 : ∀ m, m < 1024 → nI m &&& 63 = nI m → tB (fun y => bI (hb (nI m) (nI y))) 6 = nI m := by decide +kernel
theorem tB_mS1 {f : Nat → Int32} {a : Nat → Nat → Int32} (h : f 0 &&& 63 = f 0) : tB (mS f a 1) 6 = f 0 := by
  show tB (fun y => bI (hb (f 0) (nI y))) 6 = f 0
  have h2 : f 0 &&& 1023 = f 0 := by
    conv => lhs; rw [← h]
    rw [Int32.and_assoc, show (63 : Int32) &&& 1023 = 63 from by decide, h]
  obtain ⟨m, hm, e⟩ := and1023 h2
  rw [e] at h ⊢
  exact tB_64 m hm h
theorem tB_mS5 {f : Nat → Int32} {a : Nat → Nat → Int32} (h : f 5 &&& 1023 = f 5) : tB (mS f a 5) 10 = f 5 := by
  show tB (fun y => bI (hb (f 5) (nI y))) 10 = f 5
  obtain ⟨m, hm, e⟩ := and1023 h
  rw [e]
  exact tB_10 m hm
theorem nI_of9 {x : Int32} (h : 0 ≤ x) : ∃ k, k < 2 ^ 31 ∧ x = nI k := by
  rw [Int32.le_iff_toInt_le] at h
  have h0 : (0 : Int32).toInt = 0 := rfl
  have h1 := x.toInt_lt
  refine ⟨x.toInt.toNat, by omega, Int32.toInt_inj.mp ?_⟩
  rw [nI_toInt (by omega)]; omega
theorem wb_hi {k : Nat} {M : Int32} {m : Nat} (hM : M = nI m) (hm : m < 2 ^ 31) (hk : k < 2 ^ 31) (h : m < k) : wb (nI k) 0 M = false := by
  refine wb_f.mpr (fun q => ?_)
  have := q.2
  rw [hM, Int32.le_iff_toInt_le, nI_toInt hk, nI_toInt hm] at this
  omega
theorem div_neg {x : Int32} (h : x < 0) : wb (x / 10 - 1) 0 5 = false := by
  refine wb_f.mpr (fun q => ?_)
  have q1 := q.1
  rw [Int32.le_iff_toInt_le] at q1
  rw [Int32.lt_iff_toInt_lt] at h
  have h0 : (0 : Int32).toInt = 0 := rfl
  have h10 : (10 : Int32).toInt = 10 := rfl
  have h1 : (1 : Int32).toInt = 1 := rfl
  have hl := x.le_toInt
  have e : x.toInt.tdiv 10 = -((-x.toInt) / 10) := by
    have z := Int.neg_tdiv (a := -x.toInt) (b := 10)
    rw [Int.neg_neg] at z
    rw [z, Int.tdiv_eq_ediv_of_nonneg (by omega)]
  have ed : (x / 10).toInt = -((-x.toInt) / 10) := by
    rw [Int32.toInt_div, h10, e]
    exact Int.bmod_eq_of_le (by omega) (by omega)
  have es : (x / 10 - 1).toInt = -((-x.toInt) / 10) - 1 := by
    rw [Int32.toInt_sub, ed, h1]
    exact Int.bmod_eq_of_le (by omega) (by omega)
  omega
theorem tT_no {sc : Nat → Nat → Int32} {t x : Int32} (h : wb t 0 5 = false) : tT sc t x = -2 := by
  unfold tT tE; rw [h]; rfl
theorem tP_no {sc : Nat → Nat → Int32} {p t : Int32} (h : wb p 0 9 = false) : tP sc p t = -2 := by
  unfold tP pE; rw [h]; rfl
theorem toR_n {sc : Nat → Nat → Int32} {n : Nat} {x : Int32} (h0 : ¬ x = 0) (h1 : ¬ x = 1) (h2 : ¬ x = 2) (h3 : ¬ x = 3) : toR sc n x = if x < 100 then tT sc (x / 10 - 1) (x - x / 10 * 10) else tP sc (x / 100 - 1) (x - x / 100 * 100) := by
  unfold toR; rw [if_neg h0, if_neg h1, if_neg h2, if_neg h3]
theorem toM_eq {f : Nat → Int32} {a : Nat → Nat → Int32} {n : Nat} (h8 : f 8 = nI n) (hf0 : f 0 &&& 63 = f 0) (hf5 : f 5 &&& 1023 = f 5) (x : Int32) : toM f a x = toR (mS f a) n x := by
  by_cases q0 : x = 0
  · subst q0
    rw [toM_2 (by decide), bool_ifn (by decide), if_pos rfl, h8]; rfl
  by_cases q1 : x = 1
  · subst q1
    rw [toM_2 (by decide), bool_ifn (by decide), if_neg (by decide), if_pos rfl]
    exact (tB_mS1 (a := a) hf0).symm
  by_cases q2 : x = 2
  · subst q2
    rw [toM_2 (by decide), bool_ifn (by decide), if_neg (by decide), if_neg (by decide), if_pos rfl]
    exact (tB_mS5 (a := a) hf5).symm
  by_cases q3 : x = 3
  · subst q3
    rw [toM_2 (by decide), bool_ifn (by decide), if_neg (by decide), if_neg (by decide), if_neg (by decide), if_pos rfl]; rfl
  rw [toR_n q0 q1 q2 q3]
  have h100 : (100 : Int32).toInt = 100 := rfl
  have h1099 : (1099 : Int32).toInt = 1099 := rfl
  have h69 : (69 : Int32).toInt = 69 := rfl
  have h10 : (10 : Int32).toInt = 10 := rfl
  cases w1 : wb x 100 1099 with
  | true =>
    have z := (wb_t.mp w1).1
    rw [if_neg (i32_nlt.mpr z)]
    unfold toM; rw [if_pos w1]
  | false =>
    rw [toM_2 w1]
    cases w2 : wb x 10 69 with
    | true =>
      have z := (wb_t.mp w2).2
      have z2 : x < 100 := by
        rw [Int32.le_iff_toInt_le, h69] at z
        rw [Int32.lt_iff_toInt_lt, h100]; omega
      rw [if_pos rfl, if_pos z2]
    | false =>
      rw [if_neg (by decide), if_neg q0, if_neg q1, if_neg q2, if_neg q3]
      by_cases hn : x < 0
      · have z2 : x < 100 := by
          rw [Int32.lt_iff_toInt_lt] at hn ⊢
          have h0 : (0 : Int32).toInt = 0 := rfl
          rw [h100]; omega
        rw [if_pos z2, tT_no (div_neg hn)]
      · obtain ⟨k, hk, e⟩ := nI_of9 (i32_nlt.mp hn)
        subst e
        have e1 : nI k / 10 = nI (k / 10) := nI_div (b := 10) hk (by decide)
        have e2 : nI k / 100 = nI (k / 100) := nI_div (b := 100) hk (by decide)
        have w1' := wb_f.mp w1
        have w2' := wb_f.mp w2
        rw [Int32.le_iff_toInt_le, Int32.le_iff_toInt_le, nI_toInt hk, h100, h1099] at w1'
        rw [Int32.le_iff_toInt_le, Int32.le_iff_toInt_le, nI_toInt hk, h69, h10] at w2'
        by_cases z2 : nI k < 100
        · rw [if_pos z2]
          rw [Int32.lt_iff_toInt_lt, nI_toInt hk, h100] at z2
          refine (tT_no ?_).symm
          rw [e1]
          rcases Nat.eq_zero_or_pos (k / 10) with y | y
          · rw [y]; decide
          · rw [nI_sub1 y]
            exact wb_hi (m := 5) rfl (by decide) (by omega) (by omega)
        · rw [if_neg z2]
          rw [Int32.lt_iff_toInt_lt, nI_toInt hk, h100] at z2
          refine (tP_no ?_).symm
          rw [e2, nI_sub1 (by omega)]
          exact wb_hi (m := 9) rfl (by decide) (by omega) (by omega)
