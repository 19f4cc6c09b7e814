theorem upd_o (f : Nat → Int32) {k j : Nat} (x : Int32) (h : j ≠ k) : upd f k x j = f j := if_neg h
theorem upd_at (f : Nat → Int32) (k : Nat) (x : Int32) : upd f k x k = x := if_pos rfl
-- thing
theorem upT_hi (sc : Nat → Nat → Int32) (i : Nat) (a b c d : Int32) {x : Nat} (y : Nat) (h : 5 ≤ x) : upT sc i a b c d x y = sc x y := by
  unfold upT
  rw [if_neg (fun y => by omega), if_neg (fun y => by omega), if_neg (fun y => by omega), if_neg (fun y => by omega)]
theorem upT_0 (sc : Nat → Nat → Int32) (i : Nat) (a b c d : Int32) (y : Nat) : upT sc i a b c d 0 y = sc 0 y := by
  unfold upT
  rw [if_neg (fun y => by omega), if_neg (fun y => by omega), if_neg (fun y => by omega), if_neg (fun y => by omega)]
theorem thS_ag {f : Nat → Int32} {a : Nat → Nat → Int32} {t p q d : Int32} (hf : f 0 &&& 63 = f 0) : agS (thS (mS f a) t p q d) (mS (mthF f t p q d) (mthA a t p q d)) := by
  unfold thS mthF mthA
  cases hw : (wb t 0 5 && okT p q d) with
  | false => rw [if_neg (by decide), if_neg (by decide), if_neg (by decide)]; exact agS.refl _
  | true =>
    rw [if_pos rfl, if_pos rfl, if_pos rfl]
    have hx := wb_ix (n := 5) (by decide) rfl ((Bool.and_eq_true _ _).mp hw).1
    have ht := ix_eq hx
    obtain ⟨F, hF, eF⟩ := nI63 hf
    have hT := hx.2.2
    generalize t.toNatClampNeg = T at ht hT
    subst ht
    refine ⟨by rw [mS_0, upT_0, mS_0, upd_o _ _ (by decide)], fun i hi => ⟨?_, ?_, ?_, ?_⟩, fun i hi => ⟨by rw [mS_5, upT_hi _ _ _ _ _ _ _ (by decide), mS_5, upd_o _ _ (by decide)], fun j hj => ?_⟩⟩
    · rw [mS_1]
      rw [upd_at]
      rw [eF, put_n (by omega), put_hb (by omega) (by omega) (by omega)]
      unfold upT
      by_cases z : i = T
      · rw [if_pos ⟨z, rfl⟩, decide_eq_true z, Bool.or_true]; rfl
      · rw [if_neg (fun y => z y.1), if_neg (fun y => z y.1), if_neg (fun y => z y.1), if_neg (fun y => z y.1), decide_eq_false z, Bool.or_false, mS_1, eF]
    · rw [mS_2]
      unfold upT
      by_cases z : i = T
      · rw [if_neg (fun y => by omega), if_pos ⟨z, rfl⟩]; subst z; simp [uA, upd]
      · rw [if_neg (fun y => z y.1), if_neg (fun y => z y.1), if_neg (fun y => z y.1), if_neg (fun y => z y.1), mS_2]; simp [uA, upd, z]
    · rw [mS_3]
      unfold upT
      by_cases z : i = T
      · rw [if_neg (fun y => by omega), if_neg (fun y => by omega), if_pos ⟨z, rfl⟩]; subst z; simp [uA, upd]
      · rw [if_neg (fun y => z y.1), if_neg (fun y => z y.1), if_neg (fun y => z y.1), if_neg (fun y => z y.1), mS_3]; simp [uA, upd, z]
    · rw [mS_4]
      unfold upT
      by_cases z : i = T
      · rw [if_neg (fun y => by omega), if_neg (fun y => by omega), if_neg (fun y => by omega), if_pos ⟨z, rfl⟩]; subst z; simp [uA, upd]
      · rw [if_neg (fun y => z y.1), if_neg (fun y => z y.1), if_neg (fun y => z y.1), if_neg (fun y => z y.1), mS_4]; simp [uA, upd, z]
    · rw [upT_hi _ _ _ _ _ _ _ (by omega), mS_col, mS_col]
      simp [uA]
theorem mthF_ok {f : Nat → Int32} {a : Nat → Nat → Int32} {t p q d : Int32} (h : wfA f a) : wfA (mthF f t p q d) (mthA a t p q d) := by
  unfold mthF mthA
  cases hw : (wb t 0 5 && okT p q d) with
  | false => rw [if_neg (by decide), if_neg (by decide)]; exact h
  | true =>
    rw [if_pos rfl, if_pos rfl]
    obtain ⟨h1, h2, h3, h4⟩ := h
    have hw2 := (Bool.and_eq_true _ _).mp hw
    have hx := wb_ix (n := 5) (by decide) rfl hw2.1
    have ht := ix_eq hx
    obtain ⟨F, hF, eF⟩ := nI63 h1
    have hT := hx.2.2
    have hd : 1 ≤ d := by
      have := (Bool.and_eq_true _ _).mp ((Bool.and_eq_true _ _).mp hw2.2).2
      exact (wb_t.mp this.2).1
    generalize t.toNatClampNeg = T at ht hT
    subst ht
    have h2T : 2 ^ T < 2 ^ 6 := Nat.pow_lt_pow_right (by decide) (by omega)
    refine ⟨?_, h2, wfT_of (fun i hi => ?_), wfC_of (fun j hj => ?_)⟩
    · show upd f 0 _ 0 &&& 63 = upd f 0 _ 0
      simp only [upd, if_true]
      rw [eF, put_n (by omega)]
      exact and63 (Nat.or_lt_two_pow (n := 6) hF h2T)
    · simp only [upd, if_true]
      rw [eF, put_n (by omega), put_hb (by omega) (by omega) (by omega)]
      intro q2
      by_cases z : i = T
      · subst z; simp [uA, upd]; exact hd
      · rw [decide_eq_false z, Bool.or_false, ← eF] at q2
        have := wfT_at h3 hi q2
        simp [uA, upd, z]; exact this
    · have := wfC_at h4 hj
      simp [uA]; exact this
theorem thR_eq {f : Nat → Int32} {a : Nat → Nat → Int32} {t p q d : Int32} (h : wfA f a) : thR (mS f a) t p q d = mthR f t p q d := by
  unfold thR mthR
  cases h1 : wb t 0 5 with
  | false => rw [if_neg (by decide), if_neg (by decide)]
  | true =>
    cases h2 : okT p q d with
    | false => rw [if_pos rfl, if_pos rfl, if_neg (by decide), if_neg (by decide)]
    | true =>
      rw [if_pos rfl, if_pos rfl, if_pos rfl, if_pos rfl]
      have e := thS_ag (a := a) (t := t) (p := p) (q := q) (d := d) h.1
      have ok := mthF_ok (t := t) (p := p) (q := q) (d := d) h
      rw [tB_ag (fun j hj => ((e.2.1 j hj).1).symm), tB_mS1 ok.1]
      unfold mthF
      rw [h1, h2, if_pos (show (true && true) = true from rfl)]
      simp only [upd, if_true]
-- leave
theorem lvS_ag {f : Nat → Int32} {a : Nat → Nat → Int32} {t : Int32} (hf : f 0 &&& 63 = f 0) : agS (lvS (mS f a) t) (mS (mlvF f a t) a) := by
  unfold lvS mlvF
  cases hw : tE (mS f a) t with
  | false => rw [if_neg (by decide), if_neg (by decide)]; exact agS.refl _
  | true =>
    rw [if_pos rfl, if_pos rfl]
    have hx := tE_ix hw
    have ht := ix_eq hx
    obtain ⟨F, hF, eF⟩ := nI63 hf
    have hT := hx.2.2
    generalize t.toNatClampNeg = T at ht hT
    subst ht
    refine ⟨by rw [mS_0, upT_0, mS_0, upd_o _ _ (by decide)], fun i hi => ⟨?_, ?_, ?_, ?_⟩, fun i hi => ⟨by rw [mS_5, upT_hi _ _ _ _ _ _ _ (by decide), mS_5, upd_o _ _ (by decide)], fun j hj => ?_⟩⟩
    · rw [mS_1, upd_at, eF, clr_wo F (by omega) T (by omega), clr_hb (by omega) (by omega) (by omega)]
      unfold upT
      by_cases z : i = T
      · rw [if_pos ⟨z, rfl⟩, decide_eq_true z, Bool.not_true, Bool.and_false]; rfl
      · rw [if_neg (fun y => z y.1), if_neg (fun y => z y.1), if_neg (fun y => z y.1), if_neg (fun y => z y.1), decide_eq_false z, Bool.not_false, Bool.and_true, mS_1, eF]
    · unfold upT
      by_cases z : i = T
      · rw [if_neg (fun y => by omega), if_pos ⟨z, rfl⟩, mS_2, mS_2, z]
      · rw [if_neg (fun y => z y.1), if_neg (fun y => z y.1), if_neg (fun y => z y.1), if_neg (fun y => z y.1), mS_2, mS_2]
    · unfold upT
      by_cases z : i = T
      · rw [if_neg (fun y => by omega), if_neg (fun y => by omega), if_pos ⟨z, rfl⟩, mS_3, mS_3, z]
      · rw [if_neg (fun y => z y.1), if_neg (fun y => z y.1), if_neg (fun y => z y.1), if_neg (fun y => z y.1), mS_3, mS_3]
    · unfold upT
      by_cases z : i = T
      · rw [if_neg (fun y => by omega), if_neg (fun y => by omega), if_neg (fun y => by omega), if_pos ⟨z, rfl⟩, mS_4, mS_4, z]
      · rw [if_neg (fun y => z y.1), if_neg (fun y => z y.1), if_neg (fun y => z y.1), if_neg (fun y => z y.1), mS_4, mS_4]
    · rw [upT_hi _ _ _ _ _ _ _ (by omega), mS_col, mS_col]
theorem mlvF_ok {f : Nat → Int32} {a : Nat → Nat → Int32} {t : Int32} (h : wfA f a) : wfA (mlvF f a t) a := by
  unfold mlvF
  cases hw : tE (mS f a) t with
  | false => rw [if_neg (by decide)]; exact h
  | true =>
    rw [if_pos rfl]
    obtain ⟨h1, h2, h3, h4⟩ := h
    have hx := tE_ix hw
    have ht := ix_eq hx
    obtain ⟨F, hF, eF⟩ := nI63 h1
    have hT := hx.2.2
    generalize t.toNatClampNeg = T at ht hT
    subst ht
    refine ⟨?_, h2, wfT_of (fun i hi => ?_), wfC_of (fun j hj => wfC_at h4 hj)⟩
    · show upd f 0 _ 0 &&& 63 = upd f 0 _ 0
      simp only [upd, if_true]
      rw [eF, clr_wo F (by omega) T (by omega)]
      exact and63 (Nat.lt_of_le_of_lt (clr_le _ _) hF)
    · simp only [upd, if_true]
      rw [eF, clr_wo F (by omega) T (by omega), clr_hb (by omega) (by omega) (by omega), ← eF]
      intro q2
      exact wfT_at h3 hi ((Bool.and_eq_true _ _).mp q2).1
theorem lvR_eq {f : Nat → Int32} {a : Nat → Nat → Int32} {t : Int32} (h : wfA f a) : lvR (mS f a) t = mlvR f a t := by
  unfold lvR mlvR
  cases h1 : tE (mS f a) t with
  | false => rw [if_neg (by decide), if_neg (by decide)]
  | true =>
    rw [if_pos rfl, if_pos rfl]
    have e := lvS_ag (a := a) (t := t) h.1
    have ok := mlvF_ok (t := t) h
    rw [tB_ag (fun j hj => ((e.2.1 j hj).1).symm), tB_mS1 ok.1]
    unfold mlvF
    rw [h1, if_pos rfl]
    simp only [upd, if_true]
-- focus
theorem foS_ag {f : Nat → Int32} {a : Nat → Nat → Int32} {v : Int32} : agS (foS (mS f a) v) (mS (mfoF f v) a) := by
  unfold foS mfoF
  cases wb v 1 40 with
  | false => rw [if_neg (by decide), if_neg (by decide)]; exact agS.refl _
  | true =>
    rw [if_pos rfl, if_pos rfl]
    refine ⟨rfl, fun i hi => ⟨rfl, rfl, rfl, rfl⟩, fun i hi => ⟨rfl, fun j hj => ?_⟩⟩
    unfold upF
    rw [if_neg (by omega), mS_col, mS_col]
theorem mfoF_ok {f : Nat → Int32} {a : Nat → Nat → Int32} {v : Int32} (h : wfA f a) : wfA (mfoF f v) a := by
  unfold mfoF
  cases wb v 1 40 with
  | false => rw [if_neg (by decide)]; exact h
  | true =>
    rw [if_pos rfl]
    obtain ⟨h1, h2, h3, h4⟩ := h
    exact ⟨h1, h2, wfT_of (fun i hi q => wfT_at h3 hi q), wfC_of (fun j hj => wfC_at h4 hj)⟩
theorem foR_eq {f : Nat → Int32} {a : Nat → Nat → Int32} {v : Int32} : foR (mS f a) v = mfoR f v := rfl
