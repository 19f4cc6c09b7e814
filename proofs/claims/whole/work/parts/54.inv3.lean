-- take
theorem upP_lo (sc : Nat → Nat → Int32) (i : Nat) (th : Int32) (g : Nat → Int32) {x : Nat} (y : Nat) (h : x < 5) : upP sc i th g x y = sc x y := by
  unfold upP
  rw [if_neg (fun y => by omega), if_neg (by omega)]
theorem upP_5 (sc : Nat → Nat → Int32) (i : Nat) (th : Int32) (g : Nat → Int32) (y : Nat) : upP sc i th g 5 y = if y = i then th else sc 5 y := by
  unfold upP
  by_cases z : y = i
  · rw [if_pos ⟨rfl, z⟩, if_pos z]
  · rw [if_neg (fun y => z y.2), if_neg z, if_neg (by omega)]
theorem upP_6 (sc : Nat → Nat → Int32) (i : Nat) (th : Int32) (g : Nat → Int32) (p y : Nat) : upP sc i th g (6 + p) y = if p = i then g y else sc (6 + p) y := by
  unfold upP
  rw [if_neg (fun y => by omega)]
  by_cases z : p = i
  · rw [if_pos (by omega), if_pos z]
  · rw [if_neg (by omega), if_neg z]
theorem cF_at (sc : Nat → Nat → Int32) (r : Nat → Int32) (p : Nat) (c m : Int32) : ∀ n j, cF sc r p c m n j = if 6 * p ≤ j ∧ j < 6 * p + n then sCol sc c m (j - 6 * p) else r j
  | 0, j => by rw [if_neg (by omega)]; rfl
  | n + 1, j => by
    rw [cF_s]
    by_cases z : j = 6 * p + n
    · rw [z, upd_at, if_pos (by omega), show 6 * p + n - 6 * p = n from by omega]
    · rw [upd_o _ _ z, cF_at sc r p c m n j]
      by_cases y : 6 * p ≤ j ∧ j < 6 * p + n
      · rw [if_pos y, if_pos (by omega)]
      · rw [if_neg y, if_neg (by omega)]
theorem tkS_ag {f : Nat → Int32} {a : Nat → Nat → Int32} {p c m : Int32} (hf : f 5 &&& 1023 = f 5) : agS (tkS (mS f a) p c m) (mS (mtkF f p c m) (mtkA f a p c m)) := by
  unfold tkS mtkF mtkA
  cases hw : (wb p 0 9 && okC c m) with
  | false => rw [if_neg (by decide), if_neg (by decide), if_neg (by decide)]; exact agS.refl _
  | true =>
    rw [if_pos rfl, if_pos rfl, if_pos rfl]
    have hx := wb_ix (n := 9) (by decide) rfl ((Bool.and_eq_true _ _).mp hw).1
    have ht := ix_eq hx
    obtain ⟨F, hF, eF⟩ := and1023 hf
    have hT := hx.2.2
    generalize p.toNatClampNeg = T at ht hT
    subst ht
    refine ⟨by rw [mS_0, upP_lo _ _ _ _ _ (by decide), mS_0, upd_o _ _ (by decide)], fun i hi => ⟨?_, ?_, ?_, ?_⟩, fun i hi => ⟨?_, fun j hj => ?_⟩⟩
    · rw [mS_1, upP_lo _ _ _ _ _ (by decide), mS_1, upd_o _ _ (by decide)]
    · rw [mS_2, upP_lo _ _ _ _ _ (by decide), mS_2, uA_ne _ _ (by decide)]
    · rw [mS_3, upP_lo _ _ _ _ _ (by decide), mS_3, uA_ne _ _ (by decide)]
    · rw [mS_4, upP_lo _ _ _ _ _ (by decide), mS_4, uA_ne _ _ (by decide)]
    · rw [mS_5, upd_at, upP_5, eF, put_n (by omega), put_hb hF (by omega) (by omega)]
      by_cases z : i = T
      · rw [if_pos z, decide_eq_true z, Bool.or_true]; rfl
      · rw [if_neg z, decide_eq_false z, Bool.or_false, mS_5, eF]
    · rw [mS_col, upP_6, uA_eq, cF_at]
      by_cases z : i = T
      · rw [if_pos z, if_pos (by omega), show 6 * i + j - 6 * T = j from by omega]
      · rw [if_neg z, if_neg (by omega), mS_col]
theorem mtkF_ok {f : Nat → Int32} {a : Nat → Nat → Int32} {p c m : Int32} (h : wfA f a) : wfA (mtkF f p c m) (mtkA f a p c m) := by
  unfold mtkF mtkA
  cases hw : (wb p 0 9 && okC c m) with
  | false => rw [if_neg (by decide), if_neg (by decide)]; exact h
  | true =>
    rw [if_pos rfl, if_pos rfl]
    obtain ⟨h1, h2, h3, h4⟩ := h
    have hx := wb_ix (n := 9) (by decide) rfl ((Bool.and_eq_true _ _).mp hw).1
    have ht := ix_eq hx
    obtain ⟨F, hF, eF⟩ := and1023 h2
    have hT := hx.2.2
    generalize p.toNatClampNeg = T at ht hT
    subst ht
    have h2T : 2 ^ T < 2 ^ 10 := Nat.pow_lt_pow_right (by decide) (by omega)
    refine ⟨by rw [upd_o _ _ (by decide)]; exact h1, ?_, wfT_of (fun i hi => ?_), wfC_of (fun j hj => ?_)⟩
    · rw [upd_at, eF, put_n (by omega)]
      exact and10 (Nat.or_lt_two_pow (n := 10) hF h2T)
    · rw [upd_o _ _ (by decide), uA_ne _ _ (by decide)]
      intro q2
      exact wfT_at h3 hi q2
    · rw [uA_eq, cF_at]
      split
      · exact sCol_ok _ _ _ _
      · exact wfC_at h4 hj
-- retouch
theorem reS_ag {f : Nat → Int32} {a : Nat → Nat → Int32} {p t c : Int32} : agS (reS (mS f a) p t c) (mS f (mreA f a p t c)) := by
  unfold reS mreA
  cases hw : (pE (mS f a) p && (wb t 0 5 && okR c)) with
  | false => rw [if_neg (by decide), if_neg (by decide)]; exact agS.refl _
  | true =>
    rw [if_pos rfl, if_pos rfl]
    have hw2 := (Bool.and_eq_true _ _).mp hw
    have hP := (pE_ix hw2.1).2.2
    have hT := (wb_ix (n := 5) (by decide) rfl ((Bool.and_eq_true _ _).mp hw2.2).1).2.2
    generalize p.toNatClampNeg = P at hP
    generalize t.toNatClampNeg = T at hT
    refine ⟨by rw [mS_0, upP_lo _ _ _ _ _ (by decide), mS_0], fun i hi => ⟨?_, ?_, ?_, ?_⟩, fun i hi => ⟨?_, fun j hj => ?_⟩⟩
    · rw [mS_1, upP_lo _ _ _ _ _ (by decide), mS_1]
    · rw [mS_2, upP_lo _ _ _ _ _ (by decide), mS_2, uA_ne _ _ (by decide)]
    · rw [mS_3, upP_lo _ _ _ _ _ (by decide), mS_3, uA_ne _ _ (by decide)]
    · rw [mS_4, upP_lo _ _ _ _ _ (by decide), mS_4, uA_ne _ _ (by decide)]
    · rw [mS_5, upP_5, mS_5]
      by_cases z : i = P
      · rw [if_pos z, z]
      · rw [if_neg z, mS_5]
    · rw [mS_col, upP_6, uA_eq]
      by_cases z : i = P
      · rw [if_pos z]
        by_cases y : j = T
        · rw [y, upd_at, z, upd_at]
        · rw [upd_o _ _ y, upd_o _ _ (by omega), mS_col, z]
      · rw [if_neg z, upd_o _ _ (by omega), mS_col]
theorem mreA_ok {f : Nat → Int32} {a : Nat → Nat → Int32} {p t c : Int32} (h : wfA f a) : wfA f (mreA f a p t c) := by
  unfold mreA
  cases hw : (pE (mS f a) p && (wb t 0 5 && okR c)) with
  | false => rw [if_neg (by decide)]; exact h
  | true =>
    rw [if_pos rfl]
    obtain ⟨h1, h2, h3, h4⟩ := h
    have hc : okR c = true := ((Bool.and_eq_true _ _).mp ((Bool.and_eq_true _ _).mp hw).2).2
    refine ⟨h1, h2, wfT_of (fun i hi => ?_), wfC_of (fun j hj => ?_)⟩
    · rw [uA_ne _ _ (by decide)]
      intro q2
      exact wfT_at h3 hi q2
    · rw [uA_eq]
      by_cases z : j = 6 * p.toNatClampNeg + t.toNatClampNeg
      · rw [z, upd_at]
        unfold okR at hc
        rcases (Bool.or_eq_true _ _).mp hc with q | q
        · exact Or.inl (of_decide_eq_true q)
        · exact Or.inr (wb_t.mp q)
      · rw [upd_o _ _ z]; exact wfC_at h4 hj
theorem reR_eq {f : Nat → Int32} {a : Nat → Nat → Int32} {p t c : Int32} : reR (mS f a) p t c = mreR f a p t c := by
  unfold reR mreR
  rw [mS_col]
-- burn
theorem buS_ag {f : Nat → Int32} {a : Nat → Nat → Int32} {p : Int32} (hf : f 5 &&& 1023 = f 5) : agS (buS (mS f a) p) (mS (mbuF f a p) a) := by
  unfold buS mbuF
  cases hw : pE (mS f a) p with
  | false => rw [if_neg (by decide), if_neg (by decide)]; exact agS.refl _
  | true =>
    rw [if_pos rfl, if_pos rfl]
    have hx := pE_ix hw
    have ht := ix_eq hx
    obtain ⟨F, hF, eF⟩ := and1023 hf
    have hT := hx.2.2
    generalize p.toNatClampNeg = T at ht hT
    subst ht
    refine ⟨by rw [mS_0, upP_lo _ _ _ _ _ (by decide), mS_0, upd_o _ _ (by decide)], fun i hi => ⟨?_, ?_, ?_, ?_⟩, fun i hi => ⟨?_, fun j hj => ?_⟩⟩
    · rw [mS_1, upP_lo _ _ _ _ _ (by decide), mS_1, upd_o _ _ (by decide)]
    · rw [mS_2, upP_lo _ _ _ _ _ (by decide), mS_2]
    · rw [mS_3, upP_lo _ _ _ _ _ (by decide), mS_3]
    · rw [mS_4, upP_lo _ _ _ _ _ (by decide), mS_4]
    · rw [mS_5, upd_at, upP_5, eF, clr_wo F hF T hT, clr_hb hF hT hi]
      by_cases z : i = T
      · rw [if_pos z, decide_eq_true z, Bool.not_true, Bool.and_false]; rfl
      · rw [if_neg z, decide_eq_false z, Bool.not_false, Bool.and_true, mS_5, eF]
    · rw [mS_col, upP_6]
      by_cases z : i = T
      · rw [if_pos z, mS_col, z]
      · rw [if_neg z, mS_col]
theorem mbuF_ok {f : Nat → Int32} {a : Nat → Nat → Int32} {p : Int32} (h : wfA f a) : wfA (mbuF f a p) a := by
  unfold mbuF
  cases hw : pE (mS f a) p with
  | false => rw [if_neg (by decide)]; exact h
  | true =>
    rw [if_pos rfl]
    obtain ⟨h1, h2, h3, h4⟩ := h
    have hx := pE_ix hw
    have ht := ix_eq hx
    obtain ⟨F, hF, eF⟩ := and1023 h2
    have hT := hx.2.2
    generalize p.toNatClampNeg = T at ht hT
    subst ht
    refine ⟨by rw [upd_o _ _ (by decide)]; exact h1, ?_, wfT_of (fun i hi => ?_), wfC_of (fun j hj => wfC_at h4 hj)⟩
    · rw [upd_at, eF, clr_wo F hF T hT]
      exact and10 (Nat.lt_of_le_of_lt (clr_le _ _) hF)
    · rw [upd_o _ _ (by decide)]
      intro q2
      exact wfT_at h3 hi q2
theorem buR_eq {f : Nat → Int32} {a : Nat → Nat → Int32} {p : Int32} (h : wfA f a) : buR (mS f a) p = mbuR f a p := by
  unfold buR mbuR
  cases h1 : pE (mS f a) p with
  | false => rw [if_neg (by decide), if_neg (by decide)]
  | true =>
    rw [if_pos rfl, if_pos rfl]
    have e := buS_ag (a := a) (p := p) h.2.1
    have ok := mbuF_ok (p := p) h
    rw [tB_ag (fun j hj => ((e.2.2 j hj).1).symm), tB_mS5 ok.2.1]
    unfold mbuF
    rw [h1, if_pos rfl, upd_at]
