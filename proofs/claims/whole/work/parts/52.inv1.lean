/-! ===== the law's invariant: the class's world and the reference's tell the same scene ===== -/
/-- two scenes alike where a scene is read -/
def agS (sc sc2 : Nat → Nat → Int32) : Prop := sc2 0 0 = sc 0 0 ∧ (∀ i, i < 6 → sc2 1 i = sc 1 i ∧ sc2 2 i = sc 2 i ∧ sc2 3 i = sc 3 i ∧ sc2 4 i = sc 4 i) ∧ ∀ i, i < 10 → sc2 5 i = sc 5 i ∧ ∀ j, j < 6 → sc2 (6 + i) j = sc (6 + i) j
theorem agS.refl (sc : Nat → Nat → Int32) : agS sc sc := ⟨rfl, fun _ _ => ⟨rfl, rfl, rfl, rfl⟩, fun _ _ => ⟨rfl, fun _ _ => rfl⟩⟩
theorem agS.symm {sc sc2 : Nat → Nat → Int32} (h : agS sc sc2) : agS sc2 sc :=
  ⟨h.1.symm, fun i hi => ⟨(h.2.1 i hi).1.symm, (h.2.1 i hi).2.1.symm, (h.2.1 i hi).2.2.1.symm, (h.2.1 i hi).2.2.2.symm⟩, fun i hi => ⟨(h.2.2 i hi).1.symm, fun j hj => ((h.2.2 i hi).2 j hj).symm⟩⟩
theorem agS.trans {sc sc2 sc3 : Nat → Nat → Int32} (h : agS sc sc2) (g : agS sc2 sc3) : agS sc sc3 :=
  ⟨g.1.trans h.1, fun i hi => ⟨(g.2.1 i hi).1.trans (h.2.1 i hi).1, (g.2.1 i hi).2.1.trans (h.2.1 i hi).2.1, (g.2.1 i hi).2.2.1.trans (h.2.1 i hi).2.2.1, (g.2.1 i hi).2.2.2.trans (h.2.1 i hi).2.2.2⟩, fun i hi => ⟨(g.2.2 i hi).1.trans (h.2.2 i hi).1, fun j hj => ((g.2.2 i hi).2 j hj).trans ((h.2.2 i hi).2 j hj)⟩⟩
theorem isSc.cong {D : va_G} {adr : Nat → Nat} {G : Nat → va_E} {k : Nat} {sc sc2 : Nat → Nat → Int32} (h : isSc D adr G k sc) (e : agS sc sc2) : isSc D adr G k sc2 := ⟨h.1.cong e.1 e.2.1, h.2.cong e.2.2⟩
theorem isSW.cong {D : va_G} {adr : Nat → Nat} {G : Nat → va_E} {sc i0 i1 sc2 : Nat → Nat → Int32} {kp sg : Nat → Int32} {n : Nat} (h : isSW D adr G sc i0 i1 kp sg n) (e : agS sc sc2) : isSW D adr G sc2 i0 i1 kp sg n :=
  ⟨h.1, h.2.1.cong e, h.2.2⟩
theorem isSW.same {D : va_G} {adr : Nat → Nat} {G G2 : Nat → va_E} {sc i0 i1 : Nat → Nat → Int32} {kp sg : Nat → Int32} {n : Nat} (h : isSW D adr G sc i0 i1 kp sg n) (e : ∀ j, j < 103 → G2 j = G j) : isSW D adr G2 sc i0 i1 kp sg n := by
  obtain ⟨a, hs, ⟨f, b1, b2⟩, c, ⟨pa, tu, lf, rg, hp⟩, ⟨fr, mo, hm, hm0⟩, ⟨s1, wy, s2⟩, ⟨th, col, p1⟩, ⟨th2, col2, p2⟩, j0, j1⟩ := h
  exact ⟨(e 0 (by omega)).trans a, hs.same (fun j h1 h2 => e j (by omega)), ⟨f, (e 30 (by omega)).trans b1, b2⟩, (e 31 (by omega)).trans c, ⟨pa, tu, lf, rg, hp.same (fun j h1 h2 => e j (by omega))⟩, ⟨fr, mo, hm.same (fun j h1 h2 => e j (by omega)), hm0⟩, ⟨(e 39 (by omega)).trans s1, wy, (e 40 (by omega)).trans s2⟩, ⟨th, col, p1.same (e 41 (by omega)) (e 42 (by omega))⟩, ⟨th2, col2, p2.same (e 43 (by omega)) (e 44 (by omega))⟩, j0.same (fun j h1 h2 => e j (by omega)), j1.same (fun j h1 h2 => e j (by omega))⟩
theorem isM.fr {D : va_G} {adr : Nat → Nat} {G V : Nat → va_E} {f : Nat → Int32} {a : Nat → Nat → Int32} (h : isM D adr G f a) (e : frW G V) : isM D adr V f a := by
  obtain ⟨h0, h1, h2, h3, h4, h5, h6, h7, h8, h9, h10, h11⟩ := h
  exact ⟨(e _ (by omega)).trans h0, (e _ (by omega)).trans h1, (e _ (by omega)).trans h2, (e _ (by omega)).trans h3, (e _ (by omega)).trans h4, (e _ (by omega)).trans h5, (e _ (by omega)).trans h6, (e _ (by omega)).trans h7, (e _ (by omega)).trans h8, (e _ (by omega)).trans h9, (e _ (by omega)).trans h10, (e _ (by omega)).trans h11⟩
theorem frW.refl (G : Nat → va_E) : frW G G := fun _ _ => rfl
/-- what holds of the reference's numbers -/
def wfA (f : Nat → Int32) (a : Nat → Nat → Int32) : Prop := f 0 &&& 63 = f 0 ∧ f 5 &&& 1023 = f 5 ∧ wfT (mS f a) ∧ wfC (mS f a)
/-- the k-th image: not kept, or kept as the class has it -/
def kpt (a : Nat → Nat → Int32) (k : Nat) (ik : Nat → Nat → Int32) : Prop := a 114 k = 0 ∨ (a 114 k = 1 ∧ ∃ fk ak, (∀ j, j < 81 → a 113 (100 * k + j) = img fk ak j) ∧ agS (mS fk ak) ik ∧ wfA fk ak)
def LwP (f : Nat → Int32) (a : Nat → Nat → Int32) (i0 i1 : Nat → Nat → Int32) (n : Nat) : Prop := f 8 = nI n ∧ n ≤ 60 ∧ wfA f a ∧ wfZ i0 ∧ wfZ i1 ∧ kpt a 0 i0 ∧ kpt a 1 i1
def LwI (D : va_G) (adr : Nat → Nat) (G : Nat → va_E) : Prop := ∃ f a i0 i1 n, isSW D adr G (mS f a) i0 i1 (a 114) (a 108) n ∧ isM D adr G f a ∧ LwP f a i0 i1 n
theorem mS_0 (f : Nat → Int32) (a : Nat → Nat → Int32) (y : Nat) : mS f a 0 y = f 4 := rfl
theorem mS_1 (f : Nat → Int32) (a : Nat → Nat → Int32) (y : Nat) : mS f a 1 y = bI (hb (f 0) (nI y)) := rfl
theorem mS_2 (f : Nat → Int32) (a : Nat → Nat → Int32) (y : Nat) : mS f a 2 y = a 104 y := rfl
theorem mS_3 (f : Nat → Int32) (a : Nat → Nat → Int32) (y : Nat) : mS f a 3 y = a 105 y := rfl
theorem mS_4 (f : Nat → Int32) (a : Nat → Nat → Int32) (y : Nat) : mS f a 4 y = a 106 y := rfl
theorem mS_5 (f : Nat → Int32) (a : Nat → Nat → Int32) (y : Nat) : mS f a 5 y = bI (hb (f 5) (nI y)) := rfl
theorem mS_z (f : Nat → Int32) (a : Nat → Nat → Int32) : wfZ (mS f a) := ⟨fun i _ => bI_z _, fun i _ => bI_z _⟩
theorem wfT_of {f : Nat → Int32} {a : Nat → Nat → Int32} (h : ∀ i, i < 6 → hb (f 0) (nI i) = true → 1 ≤ a 106 i) : wfT (mS f a) := by
  intro i hi
  refine ⟨bI_z _, ?_⟩
  cases q : hb (f 0) (nI i) with
  | false => left; rw [mS_1, q]; rfl
  | true => right; exact h i hi q
theorem wfT_at {f : Nat → Int32} {a : Nat → Nat → Int32} (h : wfT (mS f a)) {i : Nat} (hi : i < 6) (q : hb (f 0) (nI i) = true) : 1 ≤ a 106 i := by
  rcases (h i hi).2 with z | z
  · rw [mS_1, q] at z; exact absurd z (by decide)
  · exact z
theorem wfC_of {f : Nat → Int32} {a : Nat → Nat → Int32} (h : ∀ j, j < 60 → a 107 j = -6 ∨ 0 ≤ a 107 j ∧ a 107 j ≤ 60) : wfC (mS f a) := by
  intro i hi j hj
  rw [mS_col]
  exact h _ (by omega)
theorem wfC_at {f : Nat → Int32} {a : Nat → Nat → Int32} (h : wfC (mS f a)) {j : Nat} (hj : j < 60) : a 107 j = -6 ∨ 0 ≤ a 107 j ∧ a 107 j ≤ 60 := by
  have := h (j / 6) (by omega) (j % 6) (by omega)
  rw [mS_col, show 6 * (j / 6) + j % 6 = j from by omega] at this
  exact this
theorem tB_ag {g h : Nat → Int32} {n : Nat} (e : ∀ j, j < n → g j = h j) : tB g n = tB h n := fN_congr (fun j x hj => by rw [e j hj])
theorem nI63 {f : Int32} (h : f &&& 63 = f) : ∃ F, F < 64 ∧ f = nI F := by
  obtain ⟨F, hF, e⟩ := and1023 (s := f) (by
    conv => lhs; rw [← h]
    rw [Int32.and_assoc, show (63 : Int32) &&& 1023 = 63 from by decide, h])
  refine ⟨F, ?_, e⟩
  rw [e, show (63 : Int32) = nI 63 from rfl, nI_and] at h
  have := nI_inj2 (by have : F &&& 63 ≤ 63 := Nat.and_le_right; omega) (by omega) h
  have h2 : F &&& 63 ≤ 63 := Nat.and_le_right
  omega
theorem and63 {F : Nat} (h : F < 64) : nI F &&& 63 = nI F := by
  rw [show (63 : Int32) = nI (2 ^ 6 - 1) from rfl, nI_and, Nat.and_two_pow_sub_one_eq_mod, Nat.mod_eq_of_lt h]
theorem and10 {F : Nat} (h : F < 1024) : nI F &&& 1023 = nI F := by
  rw [show (1023 : Int32) = nI (2 ^ 10 - 1) from rfl, nI_and, Nat.and_two_pow_sub_one_eq_mod, Nat.mod_eq_of_lt h]
/-- a bit put in, a bit taken out -/
theorem put_n {F T : Nat} (hT : T < 10) : nI F ||| ((1 : Int32) <<< (nI T &&& 31)) = nI (F ||| 2 ^ T) := by rw [sh2 T hT, nI_or]
theorem put_hb {F T j : Nat} (hF : F < 1024) (hT : T < 10) (hj : j < 10) : hb (nI (F ||| 2 ^ T)) (nI j) = (hb (nI F) (nI j) || decide (j = T)) := by
  have h2 : 2 ^ T < 2 ^ 10 := Nat.pow_lt_pow_right (by decide) hT
  rw [hb_n (Nat.or_lt_two_pow (n := 10) hF h2) hj, hb_n hF hj, Nat.testBit_or, Nat.testBit_two_pow]
  by_cases z : j = T
  · rw [decide_eq_true z, decide_eq_true z.symm]
  · rw [decide_eq_false z, decide_eq_false (fun y => z y.symm)]
theorem clr_hb {F T j : Nat} (hF : F < 1024) (hT : T < 10) (hj : j < 10) : hb (nI (clr F T)) (nI j) = (hb (nI F) (nI j) && !decide (j = T)) := by
  rw [hb_n (Nat.lt_of_le_of_lt (clr_le _ _) hF) hj, hb_n hF hj, clr_tb F hF T hT j hj]
/-- kept images stay when the kept rows do -/
theorem kpt.eq {a b : Nat → Nat → Int32} {k : Nat} {ik : Nat → Nat → Int32} (h : kpt a k ik) (e1 : b 113 = a 113) (e2 : b 114 = a 114) : kpt b k ik := by
  unfold kpt at h ⊢
  rw [e1, e2]; exact h
theorem wfA.sM {f : Nat → Int32} {a : Nat → Nat → Int32} {g : Nat → Int32} {b : Nat → Nat → Int32} (h : wfA f a) (s : sM f a g b) : wfA g b := by
  refine ⟨by rw [s.1.1]; exact h.1, by rw [s.1.2.2.1]; exact h.2.1, ?_, ?_⟩
  · rw [s.eS]; exact h.2.2.1
  · rw [s.eS]; exact h.2.2.2
/-- scratch alone has changed -/
theorem LwI.sM {D : va_G} {adr : Nat → Nat} {G W : Nat → va_E} {f g : Nat → Int32} {a b : Nat → Nat → Int32} {i0 i1 : Nat → Nat → Int32} {n : Nat} (hW : isSW D adr G (mS f a) i0 i1 (a 114) (a 108) n) (hM : isMF D adr G W g b) (s : sM f a g b) (hP : LwP f a i0 i1 n) : LwI D adr W := by
  obtain ⟨p1, p2, p3, p4, p5, p6, p7⟩ := hP
  refine ⟨g, b, i0, i1, n, ?_, hM.1, s.1.2.2.2.trans p1, p2, p3.sM s, p4, p5, p6.eq s.2.2.1 s.2.2.2, p7.eq s.2.2.1 s.2.2.2⟩
  rw [s.eS, s.2.2.2, s.2.1 108 (by decide) (by decide)]
  exact hW.same hM.2
/-- the general step -/
theorem LwI.put {D : va_G} {adr : Nat → Nat} {V W : Nat → va_E} {sc i0 i1 : Nat → Nat → Int32} {kp sg : Nat → Int32} {n : Nat} {f : Nat → Int32} {a : Nat → Nat → Int32} (hW : isSW D adr V sc i0 i1 kp sg n) (hM : isMF D adr V W f a) (e : agS sc (mS f a)) (e1 : kp = a 114) (e2 : sg = a 108) (hP : LwP f a i0 i1 n) : LwI D adr W := by
  subst e1; subst e2
  exact ⟨f, a, i0, i1, n, (hW.same hM.2).cong e, hM.1, hP⟩
