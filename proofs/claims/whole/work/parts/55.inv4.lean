-- what the operations do to the whole invariant
theorem kpt.ne {a : Nat → Nat → Int32} {k q : Nat} {ik : Nat → Nat → Int32} {g : Nat → Int32} (h : kpt a k ik) (e1 : q ≠ 113) (e2 : q ≠ 114) : kpt (uA a q g) k ik := h.eq (uA_ne _ _ (fun z => e1 z.symm)) (uA_ne _ _ (fun z => e2 z.symm))
theorem thing_P {f : Nat → Int32} {a : Nat → Nat → Int32} {i0 i1 : Nat → Nat → Int32} {n : Nat} {t p q d : Int32} (h : LwP f a i0 i1 n) : LwP (mthF f t p q d) (mthA a t p q d) i0 i1 n ∧ (mthA a t p q d) 114 = a 114 ∧ (mthA a t p q d) 108 = a 108 := by
  obtain ⟨p1, p2, p3, p4, p5, p6, p7⟩ := h
  have ok := mthF_ok (t := t) (p := p) (q := q) (d := d) p3
  refine ⟨⟨?_, p2, ok, p4, p5, ?_, ?_⟩, ?_, ?_⟩
  · unfold mthF; split
    · rw [upd_o _ _ (by decide)]; exact p1
    · exact p1
  · unfold mthA; split
    · exact ((p6.ne (by decide) (by decide)).ne (by decide) (by decide)).ne (by decide) (by decide)
    · exact p6
  · unfold mthA; split
    · exact ((p7.ne (by decide) (by decide)).ne (by decide) (by decide)).ne (by decide) (by decide)
    · exact p7
  · unfold mthA; split
    · rw [uA_ne _ _ (by decide), uA_ne _ _ (by decide), uA_ne _ _ (by decide)]
    · rfl
  · unfold mthA; split
    · rw [uA_ne _ _ (by decide), uA_ne _ _ (by decide), uA_ne _ _ (by decide)]
    · rfl
theorem leave_P {f : Nat → Int32} {a : Nat → Nat → Int32} {i0 i1 : Nat → Nat → Int32} {n : Nat} {t : Int32} (h : LwP f a i0 i1 n) : LwP (mlvF f a t) a i0 i1 n := by
  obtain ⟨p1, p2, p3, p4, p5, p6, p7⟩ := h
  refine ⟨?_, p2, mlvF_ok p3, p4, p5, p6, p7⟩
  unfold mlvF; split
  · rw [upd_o _ _ (by decide)]; exact p1
  · exact p1
theorem focus_P {f : Nat → Int32} {a : Nat → Nat → Int32} {i0 i1 : Nat → Nat → Int32} {n : Nat} {v : Int32} (h : LwP f a i0 i1 n) : LwP (mfoF f v) a i0 i1 n := by
  obtain ⟨p1, p2, p3, p4, p5, p6, p7⟩ := h
  refine ⟨?_, p2, mfoF_ok p3, p4, p5, p6, p7⟩
  unfold mfoF; split
  · rw [upd_o _ _ (by decide)]; exact p1
  · exact p1
theorem take_P {f : Nat → Int32} {a : Nat → Nat → Int32} {i0 i1 : Nat → Nat → Int32} {n : Nat} {p c m : Int32} (h : LwP f a i0 i1 n) : LwP (mtkF f p c m) (mtkA f a p c m) i0 i1 n ∧ (mtkA f a p c m) 114 = a 114 ∧ (mtkA f a p c m) 108 = a 108 := by
  obtain ⟨p1, p2, p3, p4, p5, p6, p7⟩ := h
  refine ⟨⟨?_, p2, mtkF_ok p3, p4, p5, ?_, ?_⟩, ?_, ?_⟩
  · unfold mtkF; split
    · rw [upd_o _ _ (by decide)]; exact p1
    · exact p1
  · unfold mtkA; split
    · exact p6.ne (by decide) (by decide)
    · exact p6
  · unfold mtkA; split
    · exact p7.ne (by decide) (by decide)
    · exact p7
  · unfold mtkA; split
    · rw [uA_ne _ _ (by decide)]
    · rfl
  · unfold mtkA; split
    · rw [uA_ne _ _ (by decide)]
    · rfl
theorem retouch_P {f : Nat → Int32} {a : Nat → Nat → Int32} {i0 i1 : Nat → Nat → Int32} {n : Nat} {p t c : Int32} (h : LwP f a i0 i1 n) : LwP f (mreA f a p t c) i0 i1 n ∧ (mreA f a p t c) 114 = a 114 ∧ (mreA f a p t c) 108 = a 108 := by
  obtain ⟨p1, p2, p3, p4, p5, p6, p7⟩ := h
  refine ⟨⟨p1, p2, mreA_ok p3, p4, p5, ?_, ?_⟩, ?_, ?_⟩
  · unfold mreA; split
    · exact p6.ne (by decide) (by decide)
    · exact p6
  · unfold mreA; split
    · exact p7.ne (by decide) (by decide)
    · exact p7
  · unfold mreA; split
    · rw [uA_ne _ _ (by decide)]
    · rfl
  · unfold mreA; split
    · rw [uA_ne _ _ (by decide)]
    · rfl
theorem burn_P {f : Nat → Int32} {a : Nat → Nat → Int32} {i0 i1 : Nat → Nat → Int32} {n : Nat} {p : Int32} (h : LwP f a i0 i1 n) : LwP (mbuF f a p) a i0 i1 n := by
  obtain ⟨p1, p2, p3, p4, p5, p6, p7⟩ := h
  refine ⟨?_, p2, mbuF_ok p3, p4, p5, p6, p7⟩
  unfold mbuF; split
  · rw [upd_o _ _ (by decide)]; exact p1
  · exact p1
-- the pad
theorem wfA.pad {f : Nat → Int32} {a : Nat → Nat → Int32} {v : Int32} {g : Nat → Int32} (h : wfA f a) : wfA (upd f 8 v) (uA a 108 g) := by
  obtain ⟨h1, h2, h3, h4⟩ := h
  refine ⟨by rw [upd_o _ _ (by decide)]; exact h1, by rw [upd_o _ _ (by decide)]; exact h2, wfT_of (fun i hi => ?_), wfC_of (fun j hj => ?_)⟩
  · rw [upd_o _ _ (by decide), uA_ne _ _ (by decide)]; exact wfT_at h3 hi
  · rw [uA_ne _ _ (by decide)]; exact wfC_at h4 hj
theorem ag_pad {f : Nat → Int32} {a : Nat → Nat → Int32} {v : Int32} {g : Nat → Int32} : agS (mS f a) (mS (upd f 8 v) (uA a 108 g)) := by
  refine ⟨by rw [mS_0, mS_0, upd_o _ _ (by decide)], fun i hi => ⟨?_, ?_, ?_, ?_⟩, fun i hi => ⟨?_, fun j hj => ?_⟩⟩
  · rw [mS_1, mS_1, upd_o _ _ (by decide)]
  · rw [mS_2, mS_2, uA_ne _ _ (by decide)]
  · rw [mS_3, mS_3, uA_ne _ _ (by decide)]
  · rw [mS_4, mS_4, uA_ne _ _ (by decide)]
  · rw [mS_5, mS_5, upd_o _ _ (by decide)]
  · rw [mS_col, mS_col, uA_ne _ _ (by decide)]
theorem uA_id (a : Nat → Nat → Int32) (k : Nat) : uA a k (a k) = a := by
  funext x
  by_cases z : x = k
  · rw [z, uA_eq]
  · rw [uA_ne _ _ z]
theorem say_P {f : Nat → Int32} {a : Nat → Nat → Int32} {i0 i1 : Nat → Nat → Int32} {n : Nat} {s : Int32} (h : LwP f a i0 i1 n) : LwP (msyF f n s) (msyA a n s) i0 i1 (syN n s) ∧ (msyA a n s) 114 = a 114 ∧ (msyA a n s) 108 = syS (a 108) n s ∧ agS (mS f a) (mS (msyF f n s) (msyA a n s)) := by
  unfold msyF msyA syN syS
  cases hw : okS s n with
  | false =>
    rw [if_neg (by decide), if_neg (by decide), if_neg (by decide), if_neg (by decide)]
    exact ⟨h, rfl, rfl, agS.refl _⟩
  | true =>
    rw [if_pos rfl, if_pos rfl, if_pos rfl, if_pos rfl]
    obtain ⟨p1, p2, p3, p4, p5, p6, p7⟩ := h
    have hn : n < 60 := by
      unfold okS at hw
      exact of_decide_eq_true ((Bool.and_eq_true _ _).mp hw).2
    exact ⟨⟨upd_at _ _ _, hn, p3.pad, p4, p5, p6.ne (by decide) (by decide), p7.ne (by decide) (by decide)⟩, uA_ne _ _ (by decide), uA_eq _ _ _, ag_pad⟩
theorem wipe_P {f : Nat → Int32} {a : Nat → Nat → Int32} {i0 i1 : Nat → Nat → Int32} {n : Nat} (h : LwP f a i0 i1 n) : LwP (upd f 8 0) a i0 i1 0 ∧ agS (mS f a) (mS (upd f 8 0) a) := by
  obtain ⟨p1, p2, p3, p4, p5, p6, p7⟩ := h
  have z : wfA (upd f 8 0) (uA a 108 (a 108)) := p3.pad
  have y : agS (mS f a) (mS (upd f 8 0) (uA a 108 (a 108))) := ag_pad
  rw [uA_id] at z y
  exact ⟨⟨upd_at _ _ _, Nat.zero_le _, z, p4, p5, p6, p7⟩, y⟩
-- images
theorem mS_iag {f g : Nat → Int32} {a b : Nat → Nat → Int32} (h0 : g 0 = f 0) (h4 : g 4 = f 4) (h5 : g 5 = f 5) (ha : ∀ i, i < 6 → b 104 i = a 104 i) (hb : ∀ i, i < 6 → b 105 i = a 105 i) (hc : ∀ i, i < 6 → b 106 i = a 106 i) (hd : ∀ j, j < 60 → b 107 j = a 107 j) : agS (mS f a) (mS g b) := by
  refine ⟨by rw [mS_0, mS_0, h4], fun i hi => ⟨by rw [mS_1, mS_1, h0], by rw [mS_2, mS_2, ha i hi], by rw [mS_3, mS_3, hb i hi], by rw [mS_4, mS_4, hc i hi]⟩, fun i hi => ⟨by rw [mS_5, mS_5, h5], fun j hj => by rw [mS_col, mS_col, hd _ (by omega)]⟩⟩
theorem wfA.iag {f g : Nat → Int32} {a b : Nat → Nat → Int32} (h : wfA f a) (h0 : g 0 = f 0) (h5 : g 5 = f 5) (hc : ∀ i, i < 6 → b 106 i = a 106 i) (hd : ∀ j, j < 60 → b 107 j = a 107 j) : wfA g b := by
  obtain ⟨k1, k2, k3, k4⟩ := h
  refine ⟨by rw [h0]; exact k1, by rw [h5]; exact k2, wfT_of (fun i hi => ?_), wfC_of (fun j hj => ?_)⟩
  · rw [h0, hc i hi]; exact wfT_at k3 hi
  · rw [hd j hj]; exact wfC_at k4 hj
theorem image_P {f g : Nat → Int32} {a b : Nat → Nat → Int32} {i0 i1 : Nat → Nat → Int32} {n k : Nat} (hk : k < 2) (h : LwP f a i0 i1 n) (hi : iSt f a k g b) : LwP g b (im0 (mS f a) i0 (nI k)) (im1 (mS f a) i1 (nI k)) n ∧ imK (a 114) (nI k) = b 114 ∧ b 108 = a 108 ∧ mS g b = mS f a := by
  obtain ⟨p1, p2, p3, p4, p5, p6, p7⟩ := h
  obtain ⟨⟨g0, g4, g5, g8⟩, hj, h114, hin, hout⟩ := hi
  have eS : mS g b = mS f a := by
    funext x y
    unfold mS
    rw [g0, g4, g5, hj 104 (by decide) (by decide), hj 105 (by decide) (by decide), hj 106 (by decide) (by decide), hj 107 (by decide) (by decide)]
  have hok : wfA g b := p3.iag g0 g5 (fun i _ => by rw [hj 106 (by decide) (by decide)]) (fun j _ => by rw [hj 107 (by decide) (by decide)])
  have hK : imK (a 114) (nI k) = b 114 := by
    unfold imK
    rw [show wb (nI k) 0 1 = true from ix_wb (n := 1) (ix_n hk (by decide)) (by decide) rfl, if_pos rfl, nI_clamp (by omega), h114]
  have new : kpt b k (mS f a) := Or.inr ⟨by rw [h114, upd_at], f, a, hin, agS.refl _, p3⟩
  have old : ∀ q ik, q < 2 → q ≠ k → kpt a q ik → kpt b q ik := by
    intro q ik hq hne hp
    rcases hp with z | ⟨z, fk, ak, y1, y2, y3⟩
    · left; rw [h114, upd_o _ _ hne]; exact z
    · right
      refine ⟨by rw [h114, upd_o _ _ hne]; exact z, fk, ak, fun j hj2 => ?_, y2, y3⟩
      rw [hout _ (by omega)]; exact y1 j hj2
  refine ⟨⟨g8.trans p1, p2, hok, ?_, ?_, ?_, ?_⟩, hK, hj 108 (by decide) (by decide), eS⟩
  · unfold im0; split
    · exact mS_z _ _
    · exact p4
  · unfold im1; split
    · exact mS_z _ _
    · exact p5
  · rcases (show k = 0 ∨ k = 1 by omega) with z | z
    · subst z; exact new
    · subst z; exact old 0 i0 (by decide) (by decide) p6
  · rcases (show k = 0 ∨ k = 1 by omega) with z | z
    · subst z; exact old 1 i1 (by decide) (by decide) p7
    · subst z; exact new
theorem restore_P {f g : Nat → Int32} {a b : Nat → Nat → Int32} {i0 i1 ik : Nat → Nat → Int32} {n k : Nat} (h : LwP f a i0 i1 n) (hk : kpt a k ik) (hz : ¬ a 114 k = 0) (hr : rSt f a (100 * k) 81 g b) : LwP g b i0 i1 n ∧ b 114 = a 114 ∧ b 108 = a 108 ∧ agS ik (mS g b) := by
  obtain ⟨p1, p2, p3, p4, p5, p6, p7⟩ := h
  obtain ⟨g8, b108, b113, b114, k0, k1, k2, ka, kb, kc, kd, -, -⟩ := hr
  obtain ⟨-, fk, ak, y1, y2, y3⟩ := hk.resolve_left hz
  have e0 : g 0 = fk 0 := by rw [k0 (by decide), y1 0 (by decide)]; rfl
  have e4 : g 4 = fk 4 := by rw [k1 (by decide), y1 1 (by decide)]; rfl
  have e5 : g 5 = fk 5 := by rw [k2 (by decide), y1 2 (by decide)]; rfl
  have ea : ∀ i, i < 6 → b 104 i = ak 104 i := fun i hi => by rw [ka i hi (by omega), y1 _ (by omega), img_a _ _ hi]
  have eb : ∀ i, i < 6 → b 105 i = ak 105 i := fun i hi => by rw [kb i hi (by omega), y1 _ (by omega), img_b _ _ hi]
  have ec : ∀ i, i < 6 → b 106 i = ak 106 i := fun i hi => by rw [kc i hi (by omega), y1 _ (by omega), img_c _ _ hi]
  have ed : ∀ j, j < 60 → b 107 j = ak 107 j := fun j hj => by rw [kd j (by omega), y1 _ (by omega), img_d]
  exact ⟨⟨g8.trans p1, p2, y3.iag e0 e5 ec ed, p4, p5, p6.eq b113 b114, p7.eq b113 b114⟩, b114, b108, y2.symm.trans (mS_iag e0 e4 e5 ea eb ec ed)⟩
