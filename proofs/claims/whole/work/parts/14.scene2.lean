/-! ===== scenes, writing ===== -/
def upT (sc : Nat → Nat → Int32) (i : Nat) (a b c d : Int32) : Nat → Nat → Int32 := fun x y => if y = i ∧ x = 1 then a else if y = i ∧ x = 2 then b else if y = i ∧ x = 3 then c else if y = i ∧ x = 4 then d else sc x y
def upP (sc : Nat → Nat → Int32) (i : Nat) (th : Int32) (g : Nat → Int32) : Nat → Nat → Int32 := fun x y => if x = 5 ∧ y = i then th else if x = 6 + i then g y else sc x y
def upF (sc : Nat → Nat → Int32) (v : Int32) : Nat → Nat → Int32 := fun x y => if x = 0 then v else sc x y
theorem isPic.cong {D : va_G} {adr : Nat → Nat} {G : Nat → va_E} {k : Nat} {th th2 : Int32} {col col2 : Nat → Int32} (h : isPic D adr G k th col) (e : th2 = th) (e2 : ∀ j, j < 6 → col2 j = col j) : isPic D adr G k th2 col2 := by
  obtain ⟨a, f, b, c⟩ := h
  exact ⟨by rw [e]; exact a, f, b, fun j hj => by rw [e2 j hj]; exact c j hj⟩
theorem isTh.cong {D : va_G} {adr : Nat → Nat} {G : Nat → va_E} {k : Nat} {sc sc2 : Nat → Nat → Int32} (h : isTh D adr G k sc) (e0 : sc2 0 0 = sc 0 0) (e : ∀ i, i < 6 → sc2 1 i = sc 1 i ∧ sc2 2 i = sc 2 i ∧ sc2 3 i = sc 3 i ∧ sc2 4 i = sc 4 i) : isTh D adr G k sc2 := by
  obtain ⟨a, b, c⟩ := h
  exact ⟨by rw [e0]; exact a, b, fun i hi => by obtain ⟨e1, e2, e3, e4⟩ := e i hi; rw [e1, e2, e3, e4]; exact c i hi⟩
theorem isPs.cong {D : va_G} {adr : Nat → Nat} {G : Nat → va_E} {k : Nat} {sc sc2 : Nat → Nat → Int32} (h : isPs D adr G k sc) (e : ∀ i, i < 10 → sc2 5 i = sc 5 i ∧ ∀ j, j < 6 → sc2 (6 + i) j = sc (6 + i) j) : isPs D adr G k sc2 := by
  obtain ⟨b, c⟩ := h
  exact ⟨b, fun i hi => (c i hi).cong (e i hi).1 (e i hi).2⟩
theorem isSc_th {D : va_G} {adr : Nat → Nat} {G : Nat → va_E} {k : Nat} {sc : Nat → Nat → Int32} (h : isSc D adr G k sc) {i : Nat} (hi : i < 6) (a b c d : Int32) : isSc D adr (va_up G (k + 3 + i) (.inr (5, [.int a, .int b, .int c, .int d]))) k (upT sc i a b c d) := by
  obtain ⟨⟨h1, ⟨f, h2, h3⟩, h4⟩, h5⟩ := h
  have hp : isPs D adr (va_up G (k + 3 + i) (.inr (5, [.int a, .int b, .int c, .int d]))) k sc := h5.same (fun j q1 q2 => up_ne _ _ (by omega)) (up_ne _ _ (by omega))
  refine ⟨⟨?_, ⟨f, ?_, h3⟩, fun j hj => ?_⟩, hp.cong (fun j hj => ⟨?_, fun y hy => ?_⟩)⟩
  · rw [up_ne _ _ (by omega), h1]; simp [upT]
  · rw [up_ne _ _ (by omega)]; exact h2
  · by_cases q : j = i
    · subst q; rw [up_eq]; simp [upT]
    · rw [up_ne _ _ (by omega), h4 j hj]; simp [upT, q]
  · simp [upT]
  · have e1 : ¬ (6 + j = 1) := by omega
    have e2 : ¬ (6 + j = 2) := by omega
    have e3 : ¬ (6 + j = 3) := by omega
    have e4 : ¬ (6 + j = 4) := by omega
    simp [upT, e1, e2, e3, e4]
theorem isSc_pic {D : va_G} {adr : Nat → Nat} {G G2 : Nat → va_E} {k : Nat} {sc : Nat → Nat → Int32} (h : isSc D adr G k sc) {i : Nat} (hi : i < 10) {th : Int32} {g : Nat → Int32} (hp : isPic D adr G2 (k + 9 + 2 * i) th g) (e : ∀ j, j ≠ k + 9 + 2 * i → j ≠ k + 9 + 2 * i + 1 → G2 j = G j) : isSc D adr G2 k (upP sc i th g) := by
  obtain ⟨h1, ⟨f, h2, h3⟩, h5⟩ := h
  refine ⟨(h1.same (fun j q1 q2 q3 => e j (by omega) (by omega))).cong ?_ (fun j hj => ?_), ⟨f, ?_, h3⟩, fun j hj => ?_⟩
  · have e1 : ¬ (0 = 6 + i) := by omega
    simp [upP, e1]
  · have e1 : ¬ (1 = 6 + i) := by omega
    have e2 : ¬ (2 = 6 + i) := by omega
    have e3 : ¬ (3 = 6 + i) := by omega
    have e4 : ¬ (4 = 6 + i) := by omega
    simp [upP, e1, e2, e3, e4]
  · rw [e _ (by omega) (by omega)]; exact h2
  · by_cases q : j = i
    · subst q
      refine hp.cong ?_ (fun y hy => ?_)
      · simp [upP]
      · have e1 : ¬ (6 + j = 5) := by omega
        simp [upP, e1]
    · refine ((h5 j hj).same (e _ (by omega) (by omega)) (e _ (by omega) (by omega))).cong ?_ (fun y hy => ?_)
      · have e1 : ¬ (5 = 6 + i) := by omega
        simp [upP, q, e1]
      · have e1 : ¬ (6 + j = 5) := by omega
        have e2 : ¬ (6 + j = 6 + i) := by omega
        simp [upP, q, e1]
theorem isSc_foc {D : va_G} {adr : Nat → Nat} {G : Nat → va_E} {k : Nat} {sc : Nat → Nat → Int32} (h : isSc D adr G k sc) (v : Int32) : isSc D adr (va_up G k (.inr (3, [.ref (adr (k + 1)), .ref (adr (k + 2)), .int v]))) k (upF sc v) := by
  obtain ⟨⟨h1, ⟨f, h2, h3⟩, h4⟩, h5⟩ := h
  have hp : isPs D adr (va_up G k (.inr (3, [.ref (adr (k + 1)), .ref (adr (k + 2)), .int v]))) k sc := h5.same (fun j q1 q2 => up_ne _ _ (by omega)) (up_ne _ _ (by omega))
  refine ⟨⟨?_, ⟨f, ?_, h3⟩, fun j hj => ?_⟩, hp.cong (fun j hj => ⟨?_, fun y hy => ?_⟩)⟩
  · rw [up_eq]; rfl
  · rw [up_ne _ _ (by omega)]; exact h2
  · rw [up_ne _ _ (by omega), h4 j hj]; rfl
  · rfl
  · have e1 : ¬ (6 + j = 0) := by omega
    simp [upF]

theorem c_X3_expose {l : Launch} {D : va_G} {N : Nat} {adr : Nat → Nat} {G : Nat → va_E} {k : Nat} {sc : Nat → Nat → Int32} (hkN : k + 28 < N) (hT : isTh D adr G k sc) (hwf : wfT sc) {k2 : Nat} {th : Int32} {f : Nat → Int32} (hk21 : k2 + 1 < N) (hg2 : G k2 = .inr (2, [.int th, .ref (adr (k2 + 1))])) (hf2 : G (k2 + 1) = aI D 6 f) (hd : k2 + 1 < k ∨ k + 9 ≤ k2) {c m : Int32} :
    CT l D yX3_expose cX3_expose 5 (none) (rl 3) [.ref (adr k), .ref (adr k2), .int c, .int m] N adr G (PE none N adr (va_up G (k2 + 1) (aI D 6 (cpF f (sCol sc c m) 6)))) := by
  refine CT.of (by decide +kernel) (Nat.le_of_ble_eq_true rfl) (fun Γ h he => ?_)
  have h : cx l D (rl 3) RX3 cX3_expose 5 Γ := h
  show SX Γ 0 0 0 [(0, .ref (adr k)), (1, .ref (adr k2)), (2, .int c), (3, .int m)] [] N adr G
  refine s_iconst h dX3_expose_0 ic_0 <|
    s_istore h dX3_expose_1 rfl <|
    ?_
  refine SX.world (G2 := (va_up G (k2 + 1) (aI D 6 (cpF f (sCol sc c m) 0)))) (up_self hf2).symm ?_
  refine SX.loc (up_ind (n := 6) (Q := fun i => SX Γ 0 0 3 [(0, .ref (adr k)), (1, .ref (adr k2)), (2, .int c), (3, .int m), (4, .int (nI i))] [] N adr (va_up G (k2 + 1) (aI D 6 (cpF f (sCol sc c m) i)))) ?_ ?_ 0 (Nat.zero_le _)) ⟨rfl, rfl, rfl, rfl, rfl, trivial⟩
  · show SX _ _ _ _ _ _ _ _ _
    refine s_iload h dX3_expose_3 rfl <|
    s_bipush h dX3_expose_5 bp_6 <|
    s_icmp_ge (tgt := 30) h dX3_expose_7 (by decide) (kf := fun q => absurd (by decide +kernel) q) (kt := fun _ => ?_)
    refine s_vret h he dX3_expose_30 ⟨Nat.le_refl _, Nat.le_refl _⟩ ?_
    exact PE.is
  · intro i hi ih 
    show SX _ _ _ _ _ _ _ _ _
    have t0 : isTh D adr (va_up G (k2 + 1) (aI D 6 (cpF f (sCol sc c m) i))) k sc := hT.same (fun j q1 q2 q3 => up_ne _ _ (by omega))
    have w2 : (va_up G (k2 + 1) (aI D 6 (cpF f (sCol sc c m) i))) k2 = .inr (2, [.int th, .ref (adr (k2 + 1))]) := by rw [up_ne _ _ (by omega), hg2]
    have w3 : (va_up G (k2 + 1) (aI D 6 (cpF f (sCol sc c m) i))) (k2 + 1) = aI D 6 (cpF f (sCol sc c m) i) := up_eq _ _ _
    refine s_iload h dX3_expose_3 rfl <|
    s_bipush h dX3_expose_5 bp_6 <|
    s_icmp_ge (tgt := 30) h dX3_expose_7 (by decide) (kt := fun q => absurd q (nI_ge hi (by decide))) (kf := fun _ => ?_)
    refine s_aload_n h dX3_expose_10 rfl <|
    s_iload h dX3_expose_11 rfl <|
    s_aload_n h dX3_expose_13 rfl <|
    s_iload h dX3_expose_14 rfl <|
    s_iload_n h dX3_expose_16 rfl <|
    s_iload_n h dX3_expose_17 rfl <|
    k_X3_62 h (c_X3_columnOf hkN t0 hwf hi) (by omega) t0.1 rfl rfl dX3_expose_18 <|
    PE.go <|
    k_X3_66 h (c_X2_putColumn hk21 w2 w3 (ix_n hi (by decide))) (by omega) w2 rfl rfl dX3_expose_21 <|
    PE.go0 <|
    s_iincR h dX3_expose_24 rfl rfl ic_1 (nI_1 i) <|
    s_goto (tgt := 3) h dX3_expose_27 (by decide) <|
    ?_
    refine SX.world (G2 := (va_up G (k2 + 1) (aI D 6 (cpF f (sCol sc c m) (i + 1))))) (by rw [up_up]; rfl) ?_
    exact SX.loc (ih) ⟨rfl, rfl, rfl, rfl, rfl, trivial⟩
theorem shB_cp (f g : Nat → Int32) : shB (cpF f g 6) 6 = shB g 6 := shB_congr (fun j hj => cpF_lt hj)
def frS (G G2 : Nat → va_E) (k n : Nat) : Prop := ∀ j, (j < k ∨ k + n ≤ j) → G2 j = G j
theorem c_X3_takePicture {l : Launch} {D : va_G} {N : Nat} {adr : Nat → Nat} {G : Nat → va_E} {k : Nat} {sc : Nat → Nat → Int32} (hkN : k + 28 < N) (hT : isTh D adr G k sc) (hPs : isPs D adr G k sc) (hwf : wfT sc) {t : Int32} {i : Nat} (hix : ix t i 10) {c m : Int32} :
    CT l D yX3_takePicture cX3_takePicture 5 (some FieldType.int) (rl 4) [.ref (adr k), .int t, .int c, .int m] N adr G (PR (some (.int (shB (sCol sc c m) 6))) N adr (fun W => isSc D adr W k (upP sc i 1 (sCol sc c m)) ∧ frS G W k 29)) := by
  obtain ⟨⟨fp, hfp, hfp2⟩, hpp⟩ := hPs
  have hi := hix.2.2
  obtain ⟨hp0, fc, hp1, hp2⟩ := hpp _ hi
  have t1 : isTh D adr (va_up G (k + 9 + 2 * i) (.inr (2, [.int 1, .ref (adr (k + 9 + 2 * i + 1))]))) k sc := hT.same (fun j q1 q2 q3 => up_ne _ _ (by omega))
  have a0 : (va_up G (k + 9 + 2 * i) (.inr (2, [.int 1, .ref (adr (k + 9 + 2 * i + 1))]))) (k + 9 + 2 * i) = .inr (2, [.int 1, .ref (adr (k + 9 + 2 * i + 1))]) := up_eq _ _ _
  have a1 : (va_up G (k + 9 + 2 * i) (.inr (2, [.int 1, .ref (adr (k + 9 + 2 * i + 1))]))) (k + 9 + 2 * i + 1) = aI D 6 fc := by rw [up_ne _ _ (by omega)]; exact hp1
  have b0 : (va_up (va_up G (k + 9 + 2 * i) (.inr (2, [.int 1, .ref (adr (k + 9 + 2 * i + 1))]))) (k + 9 + 2 * i + 1) (aI D 6 (cpF fc (sCol sc c m) 6))) (k + 9 + 2 * i) = .inr (2, [.int 1, .ref (adr (k + 9 + 2 * i + 1))]) := by rw [up_ne _ _ (by omega)]; exact a0
  have b1 : (va_up (va_up G (k + 9 + 2 * i) (.inr (2, [.int 1, .ref (adr (k + 9 + 2 * i + 1))]))) (k + 9 + 2 * i + 1) (aI D 6 (cpF fc (sCol sc c m) 6))) (k + 9 + 2 * i + 1) = aI D 6 (cpF fc (sCol sc c m) 6) := up_eq _ _ _
  refine CT.of (by decide +kernel) (Nat.le_of_ble_eq_true rfl) (fun Γ h he => ?_)
  have h : cx l D (rl 4) RX3 cX3_takePicture 5 Γ := h
  show SX Γ 0 0 0 [(0, .ref (adr k)), (1, .int t), (2, .int c), (3, .int m)] [] N adr G
  refine s_iload_n h dX3_takePicture_0 rfl <|
    s_iconst h dX3_takePicture_1 ic_0 <|
    s_aload_n h dX3_takePicture_2 rfl <|
    g_X3_19 h dX3_takePicture_3 (by omega) hT.1 <|
    s_alenP h dX3_takePicture_6 (by omega) hfp (show Int32.ofNat 10 = 10 from rfl) <|
    s_iconst h dX3_takePicture_7 ic_1 <|
    s_isub h dX3_takePicture_8 <|
    k_X3_36 h (c_X7_within) rfl rfl dX3_takePicture_9 <|
    PE.go <|
    s_if_ne (tgt := 17) h dX3_takePicture_12 (by decide) (kf := fun q => absurd q (by rw [l101, (show wb t 0 9 = true from ix_wb hix (by decide) rfl)]; decide)) (kt := fun _ => ?_)
  refine s_aload_n h dX3_takePicture_17 rfl <|
    g_X3_19 h dX3_takePicture_18 (by omega) hT.1 <|
    s_iload_n h dX3_takePicture_21 rfl <|
    s_aaldP h dX3_takePicture_22 (by omega) hfp hix (hfp2 _ hi) <|
    s_astore h dX3_takePicture_23 rfl <|
    s_aload h dX3_takePicture_25 rfl <|
    s_iconst h dX3_takePicture_27 ic_1 <|
    p_X3_44 h dX3_takePicture_28 (by omega) hp0 (Or.inr rfl) <|
    s_aload_n h dX3_takePicture_31 rfl <|
    s_aload h dX3_takePicture_32 rfl <|
    s_iload_n h dX3_takePicture_34 rfl <|
    s_iload_n h dX3_takePicture_35 rfl <|
    k_X3_54 h (c_X3_expose hkN t1 hwf (k2 := k + 9 + 2 * i) (by omega) a0 a1 (by omega)) (by omega) t1.1 rfl rfl dX3_takePicture_36 <|
    PE.go0 <|
    s_aload h dX3_takePicture_39 rfl <|
    k_X3_58 h (c_X2_shownBits (k := k + 9 + 2 * i) (by omega) b0 b1) (by omega) b0 rfl rfl dX3_takePicture_41 <|
    PE.go <|
    s_iret h he rfl dX3_takePicture_44 ⟨Nat.le_refl _, Nat.le_refl _⟩ ?_
  rw [shB_cp]
  exact PR.is ⟨isSc_pic ⟨hT, ⟨fp, hfp, hfp2⟩, hpp⟩ hi ⟨b0, _, b1, fun j hj => cpF_lt hj⟩ (fun j q1 q2 => by rw [up_ne _ _ q2, up_ne _ _ q1]), fun j q => by rw [up_ne _ _ (by omega), up_ne _ _ (by omega)]⟩
theorem c_X3_putThing {l : Launch} {D : va_G} {N : Nat} {adr : Nat → Nat} {G : Nat → va_E} {k : Nat} {sc : Nat → Nat → Int32} (hkN : k + 28 < N) (hT : isTh D adr G k sc) (hPs : isPs D adr G k sc) {t : Int32} {i : Nat} (hix : ix t i 6) {p q d : Int32} :
    CT l D yX3_putThing cX3_putThing 6 (none) (rl 1) [.ref (adr k), .int t, .int p, .int q, .int d] N adr G (PR none N adr (fun W => isSc D adr W k (upT sc i 1 p q d) ∧ frS G W k 29)) := by
  obtain ⟨ft, hft, hft2⟩ := hT.2.1
  have hi := hix.2.2
  refine CT.of (by decide +kernel) (Nat.le_of_ble_eq_true rfl) (fun Γ h he => ?_)
  have h : cx l D (rl 1) RX3 cX3_putThing 6 Γ := h
  show SX Γ 0 0 0 [(0, .ref (adr k)), (1, .int t), (2, .int p), (3, .int q), (4, .int d)] [] N adr G
  refine s_iload_n h dX3_putThing_0 rfl <|
    s_iconst h dX3_putThing_1 ic_0 <|
    s_aload_n h dX3_putThing_2 rfl <|
    g_X3_11 h dX3_putThing_3 (by omega) hT.1 <|
    s_alenT h dX3_putThing_6 (by omega) hft (show Int32.ofNat 6 = 6 from rfl) <|
    s_iconst h dX3_putThing_7 ic_1 <|
    s_isub h dX3_putThing_8 <|
    k_X3_36 h (c_X7_within) rfl rfl dX3_putThing_9 <|
    PE.go <|
    s_if_ne (tgt := 16) h dX3_putThing_12 (by decide) (kf := fun q => absurd q (by rw [l61, (show wb t 0 5 = true from ix_wb hix (by decide) rfl)]; decide)) (kt := fun _ => ?_)
  refine s_aload_n h dX3_putThing_16 rfl <|
    g_X3_11 h dX3_putThing_17 (by omega) hT.1 <|
    s_iload_n h dX3_putThing_20 rfl <|
    s_aaldT h dX3_putThing_21 (by omega) hft hix (hft2 _ hi) <|
    s_astore h dX3_putThing_22 rfl <|
    s_aload h dX3_putThing_24 rfl <|
    s_iconst h dX3_putThing_26 ic_1 <|
    p_X3_40 h dX3_putThing_27 (by omega) (hT.th hi) (Or.inr rfl) <|
    s_aload h dX3_putThing_30 rfl <|
    s_iload_n h dX3_putThing_32 rfl <|
    p_X3_45 h dX3_putThing_33 (by omega) (up_eq _ _ _) <|
    s_aload h dX3_putThing_36 rfl <|
    s_iload_n h dX3_putThing_38 rfl <|
    p_X3_48 h dX3_putThing_39 (by omega) (up_eq _ _ _) <|
    s_aload h dX3_putThing_42 rfl <|
    s_iload h dX3_putThing_44 rfl <|
    p_X3_51 h dX3_putThing_46 (by omega) (up_eq _ _ _) <|
    s_vret h he dX3_putThing_49 ⟨Nat.le_refl _, Nat.le_refl _⟩ ?_
  simp only [up_up]
  exact PR.is ⟨isSc_th ⟨hT, hPs⟩ hi 1 p q d, fun j z => up_ne _ _ (by omega)⟩
/-- i things are copied -/
def JT (G W : Nat → va_E) (k : Nat) (sc2 : Nat → Nat → Int32) (i : Nat) : Prop := (∀ j, (j < k + 3 ∨ k + 3 + i ≤ j) → W j = G j) ∧ ∀ j, j < i → W (k + 3 + j) = .inr (5, [.int (sc2 1 j), .int (sc2 2 j), .int (sc2 3 j), .int (sc2 4 j)])
theorem JT_s {G W : Nat → va_E} {k i : Nat} {sc2 : Nat → Nat → Int32} (h : JT G W k sc2 i) : JT G (va_up W (k + 3 + i) (.inr (5, [.int (sc2 1 i), .int (sc2 2 i), .int (sc2 3 i), .int (sc2 4 i)]))) k sc2 (i + 1) := by
  refine ⟨fun j hj => ?_, fun j hj => ?_⟩
  · rw [up_ne _ _ (by omega)]; exact h.1 j (by omega)
  · by_cases q : j = i
    · subst q; rw [up_eq]
    · rw [up_ne _ _ (by omega)]; exact h.2 j (by omega)
/-- and i pictures -/
def JP (D : va_G) (adr : Nat → Nat) (G W : Nat → va_E) (k : Nat) (sc2 : Nat → Nat → Int32) (i : Nat) : Prop := (∀ j, (j < k + 9 ∨ k + 9 + 2 * i ≤ j) → W j = G j) ∧ ∀ j, j < i → isPic D adr W (k + 9 + 2 * j) (sc2 5 j) (sc2 (6 + j))
theorem JP_s {D : va_G} {adr : Nat → Nat} {G W W2 : Nat → va_E} {k i : Nat} {sc2 : Nat → Nat → Int32} (h : JP D adr G W k sc2 i) (hp : isPic D adr W2 (k + 9 + 2 * i) (sc2 5 i) (sc2 (6 + i))) (e : ∀ j, j ≠ k + 9 + 2 * i → j ≠ k + 9 + 2 * i + 1 → W2 j = W j) : JP D adr G W2 k sc2 (i + 1) := by
  refine ⟨fun j hj => ?_, fun j hj => ?_⟩
  · rw [e j (by omega) (by omega)]; exact h.1 j (by omega)
  · by_cases q : j = i
    · subst q; exact hp
    · exact (h.2 j (by omega)).same (e _ (by omega) (by omega)) (e _ (by omega) (by omega))
def wfZ (sc : Nat → Nat → Int32) : Prop := (∀ i, i < 6 → sc 1 i = 0 ∨ sc 1 i = 1) ∧ ∀ i, i < 10 → sc 5 i = 0 ∨ sc 5 i = 1
theorem c_X3_copyFrom {l : Launch} {D : va_G} {N : Nat} {adr : Nat → Nat} {G : Nat → va_E} {k : Nat} {sc : Nat → Nat → Int32} (hkN : k + 28 < N) (hT : isTh D adr G k sc) (hPs : isPs D adr G k sc) {k2 : Nat} {sc2 : Nat → Nat → Int32} (hk2N : k2 + 28 < N) (hS2 : isSc D adr G k2 sc2) (hz : wfZ sc2) (hd : k + 28 < k2 ∨ k2 + 28 < k) :
    CT l D yX3_copyFrom cX3_copyFrom 3 (none) (rl 3) [.ref (adr k), .ref (adr k2)] N adr G (PR none N adr (fun W => isSc D adr W k sc2 ∧ frS G W k 29)) := by
  obtain ⟨ft, hft, hft2⟩ := hT.2.1
  obtain ⟨⟨fp, hfp, hfp2⟩, hpp⟩ := hPs
  obtain ⟨fu, hfu, hfu2⟩ := hS2.1.2.1
  obtain ⟨⟨fq, hfq, hfq2⟩, hqq⟩ := hS2.2
  refine CT.of (by decide +kernel) (Nat.le_of_ble_eq_true rfl) (fun Γ h he => ?_)
  have h : cx l D (rl 3) RX3 cX3_copyFrom 3 Γ := h
  show SX Γ 0 0 0 [(0, .ref (adr k)), (1, .ref (adr k2))] [] N adr G
  refine s_aload_n h dX3_copyFrom_0 rfl <|
    s_aload_n h dX3_copyFrom_1 rfl <|
    g_X3_23 h dX3_copyFrom_2 (by omega) hS2.1.1 <|
    p_X3_23 h dX3_copyFrom_5 (by omega) hT.1 <|
    s_iconst h dX3_copyFrom_8 ic_0 <|
    s_istore_n h dX3_copyFrom_9 rfl <|
    ?_
  refine SX.loc (up_ind (n := 6) (Q := fun i => ∀ (W : Nat → va_E), JT (va_up G k (.inr (3, [.ref (adr (k + 1)), .ref (adr (k + 2)), .int (sc2 0 0)]))) W k sc2 i → SX Γ 0 0 10 [(0, .ref (adr k)), (1, .ref (adr k2)), (2, .int (nI i))] [] N adr W) ?_ ?_ 0 (Nat.zero_le _) (va_up G k (.inr (3, [.ref (adr (k + 1)), .ref (adr (k + 2)), .int (sc2 0 0)]))) ⟨fun _ _ => rfl, fun j hj => absurd hj (Nat.not_lt_zero j)⟩) ⟨rfl, rfl, rfl, trivial⟩
  · intro W hH
    show SX _ _ _ _ _ _ _ _ _
    refine s_iload_n h dX3_copyFrom_10 rfl <|
    s_bipush h dX3_copyFrom_11 bp_6 <|
    s_icmp_ge (tgt := 37) h dX3_copyFrom_13 (by decide) (kf := fun q => absurd (by decide +kernel) q) (kt := fun _ => ?_)
    refine s_iconst h dX3_copyFrom_37 ic_0 <|
    s_istore_n h dX3_copyFrom_38 rfl <|
    ?_
    refine SX.loc (up_ind (n := 10) (Q := fun i => ∀ (V : Nat → va_E), JP D adr W V k sc2 i → SX Γ 0 0 39 [(0, .ref (adr k)), (1, .ref (adr k2)), (2, .int (nI i))] [] N adr V) ?_ ?_ 0 (Nat.zero_le _) W ⟨fun _ _ => rfl, fun j hj => absurd hj (Nat.not_lt_zero j)⟩) ⟨rfl, rfl, rfl, trivial⟩
    · intro V hV
      show SX _ _ _ _ _ _ _ _ _
      refine s_iload_n h dX3_copyFrom_39 rfl <|
      s_bipush h dX3_copyFrom_40 bp_10 <|
      s_icmp_ge (tgt := 66) h dX3_copyFrom_42 (by decide) (kf := fun q => absurd (by decide +kernel) q) (kt := fun _ => ?_)
      refine s_vret h he dX3_copyFrom_66 ⟨Nat.le_refl _, Nat.le_refl _⟩ ?_
      exact PR.is ⟨⟨⟨by rw [hV.1 _ (by omega), hH.1 _ (by omega), up_eq], ⟨ft, by rw [hV.1 _ (by omega), hH.1 _ (by omega), up_ne _ _ (by omega)]; exact hft, hft2⟩, fun j hj => by rw [hV.1 _ (by omega)]; exact hH.2 j hj⟩, ⟨fp, by rw [hV.1 _ (by omega), hH.1 _ (by omega), up_ne _ _ (by omega)]; exact hfp, hfp2⟩, hV.2⟩, fun j hj => by rw [hV.1 _ (by omega), hH.1 _ (by omega), up_ne _ _ (by omega)]⟩
    · intro i hi ih V hV
      show SX _ _ _ _ _ _ _ _ _
      have a0 : V k = .inr (3, [.ref (adr (k + 1)), .ref (adr (k + 2)), .int (sc2 0 0)]) := by rw [hV.1 _ (by omega), hH.1 _ (by omega), up_eq]
      have a1 : V (k + 2) = aP D 10 fp := by rw [hV.1 _ (by omega), hH.1 _ (by omega), up_ne _ _ (by omega)]; exact hfp
      obtain ⟨ap0, af, ap1, ap2⟩ := hpp i hi
      have a2 := (show V (k + 9 + 2 * i) = G (k + 9 + 2 * i) from by rw [hV.1 _ (by omega), hH.1 _ (by omega), up_ne _ _ (by omega)]).trans (ap0)
      have a3 := (show V (k + 9 + 2 * i + 1) = G (k + 9 + 2 * i + 1) from by rw [hV.1 _ (by omega), hH.1 _ (by omega), up_ne _ _ (by omega)]).trans (ap1)
      have b0 : V k2 = .inr (3, [.ref (adr (k2 + 1)), .ref (adr (k2 + 2)), .int (sc2 0 0)]) := by rw [hV.1 _ (by omega), hH.1 _ (by omega), up_ne _ _ (by omega)]; exact hS2.1.1
      have b1 : V (k2 + 2) = aP D 10 fq := by rw [hV.1 _ (by omega), hH.1 _ (by omega), up_ne _ _ (by omega)]; exact hfq
      obtain ⟨bp0, bf, bp1, bp2⟩ := hqq i hi
      have b2 := (show V (k2 + 9 + 2 * i) = G (k2 + 9 + 2 * i) from by rw [hV.1 _ (by omega), hH.1 _ (by omega), up_ne _ _ (by omega)]).trans (bp0)
      have b3 := (show V (k2 + 9 + 2 * i + 1) = G (k2 + 9 + 2 * i + 1) from by rw [hV.1 _ (by omega), hH.1 _ (by omega), up_ne _ _ (by omega)]).trans (bp1)
      refine s_iload_n h dX3_copyFrom_39 rfl <|
      s_bipush h dX3_copyFrom_40 bp_10 <|
      s_icmp_ge (tgt := 66) h dX3_copyFrom_42 (by decide) (kt := fun q => absurd q (nI_ge hi (by decide))) (kf := fun _ => ?_)
      refine s_aload_n h dX3_copyFrom_45 rfl <|
      g_X3_19 h dX3_copyFrom_46 (by omega) a0 <|
      s_iload_n h dX3_copyFrom_49 rfl <|
      s_aaldP h dX3_copyFrom_50 (by omega) a1 (ix_n hi (by decide)) (hfp2 _ hi) <|
      s_aload_n h dX3_copyFrom_51 rfl <|
      g_X3_19 h dX3_copyFrom_52 (by omega) b0 <|
      s_iload_n h dX3_copyFrom_55 rfl <|
      s_aaldP h dX3_copyFrom_56 (by omega) b1 (ix_n hi (by decide)) (hfq2 _ hi) <|
      k_X3_33 h (c_X2_copyFrom (k := k + 9 + 2 * i) (k2 := k2 + 9 + 2 * i) (by omega) a2 a3 (by omega) b2 b3 (by omega) (hz.2 i hi)) (by omega) a2 rfl rfl dX3_copyFrom_57 <|
      PE.go0 <|
      s_iincR h dX3_copyFrom_60 rfl rfl ic_1 (nI_1 i) <|
      s_goto (tgt := 39) h dX3_copyFrom_63 (by decide) <|
      ?_
      refine SX.loc (ih _ (JP_s hV ⟨by rw [up_ne _ _ (by omega), up_eq], _, up_eq _ _ _, fun j hj => by rw [cpF_lt hj]; exact bp2 j hj⟩ (fun j q1 q2 => by rw [up_ne _ _ q2, up_ne _ _ q1]))) ⟨rfl, rfl, rfl, trivial⟩
  · intro i hi ih W hH
    show SX _ _ _ _ _ _ _ _ _
    have a0 : W k = .inr (3, [.ref (adr (k + 1)), .ref (adr (k + 2)), .int (sc2 0 0)]) := by rw [hH.1 _ (by omega), up_eq]
    have a1 : W (k + 1) = aT D 6 ft := by rw [hH.1 _ (by omega), up_ne _ _ (by omega)]; exact hft
    have a2 := (show W (k + 3 + i) = G (k + 3 + i) from by rw [hH.1 _ (by omega), up_ne _ _ (by omega)]).trans (hT.2.2 i hi)
    have b0 : W k2 = .inr (3, [.ref (adr (k2 + 1)), .ref (adr (k2 + 2)), .int (sc2 0 0)]) := by rw [hH.1 _ (by omega), up_ne _ _ (by omega)]; exact hS2.1.1
    have b1 : W (k2 + 1) = aT D 6 fu := by rw [hH.1 _ (by omega), up_ne _ _ (by omega)]; exact hfu
    have b2 := (show W (k2 + 3 + i) = G (k2 + 3 + i) from by rw [hH.1 _ (by omega), up_ne _ _ (by omega)]).trans (hS2.1.2.2 i hi)
    refine s_iload_n h dX3_copyFrom_10 rfl <|
    s_bipush h dX3_copyFrom_11 bp_6 <|
    s_icmp_ge (tgt := 37) h dX3_copyFrom_13 (by decide) (kt := fun q => absurd q (nI_ge hi (by decide))) (kf := fun _ => ?_)
    refine s_aload_n h dX3_copyFrom_16 rfl <|
    g_X3_11 h dX3_copyFrom_17 (by omega) a0 <|
    s_iload_n h dX3_copyFrom_20 rfl <|
    s_aaldT h dX3_copyFrom_21 (by omega) a1 (ix_n hi (by decide)) (hft2 _ hi) <|
    s_aload_n h dX3_copyFrom_22 rfl <|
    g_X3_11 h dX3_copyFrom_23 (by omega) b0 <|
    s_iload_n h dX3_copyFrom_26 rfl <|
    s_aaldT h dX3_copyFrom_27 (by omega) b1 (ix_n hi (by decide)) (hfu2 _ hi) <|
    k_X3_29 h (c_X6_copyFrom (k := k + 3 + i) (k2 := k2 + 3 + i) (by omega) a2 (by omega) b2 (by omega) (hz.1 i hi)) (by omega) a2 rfl rfl dX3_copyFrom_28 <|
    PE.go0 <|
    s_iincR h dX3_copyFrom_31 rfl rfl ic_1 (nI_1 i) <|
    s_goto (tgt := 10) h dX3_copyFrom_34 (by decide) <|
    ?_
    exact SX.loc (ih _ (JT_s hH)) ⟨rfl, rfl, rfl, trivial⟩
