theorem fN_congr {α : Type} {f g : Nat → α → α} {a : α} : ∀ {n : Nat}, (∀ j x, j < n → f j x = g j x) → fN f a n = fN g a n
  | 0, _ => rfl
  | n + 1, h => by
    rw [fN_s, fN_s, fN_congr (n := n) (fun j x hj => h j x (by omega)), h n _ (by omega)]
theorem shB_congr {f g : Nat → Int32} {n : Nat} (h : ∀ j, j < n → f j = g j) : shB f n = shB g n := by
  unfold shB
  exact fN_congr (fun j x hj => by rw [h j hj])
theorem shb_congr {f g f2 g2 : Nat → Int32} {j : Nat} (h : f j = g j) (h2 : f2 j = g2 j) : shb f f2 j = shb g g2 j := by
  unfold shb; rw [h, h2]
theorem kW_congr {f g f2 g2 : Nat → Int32} (h : ∀ j, j < 6 → f j = g j) (h2 : ∀ j, j < 6 → f2 j = g2 j) : kW f f2 = kW g g2 := by
  have e1 : aA f f2 6 = aA g g2 6 := by
    unfold aA
    exact fN_congr (fun j x hj => by rw [shb_congr (h j hj) (h2 j hj), h j hj, h2 j hj])
  have e2 : aB f f2 6 = aB g g2 6 := by
    unfold aB
    exact fN_congr (fun j x hj => by rw [shb_congr (h j hj) (h2 j hj), h j hj, h2 j hj])
  unfold kW; rw [e1, e2]
theorem cB_congr {f g f2 g2 : Nat → Int32} {t : Nat} (ht : t < 6) (h : ∀ j, j < 6 → f j = g j) (h2 : ∀ j, j < 6 → f2 j = g2 j) : cB f f2 t 6 = cB g g2 t 6 := by
  unfold cB
  exact fN_congr (fun j x hj => by unfold cbp; rw [shb_congr (h j hj) (h2 j hj), h j hj, h2 j hj, h t ht, h2 t ht])
theorem ffO_congr {p q : Nat → Bool} {n : Nat} (h : ∀ j, j < n → p j = q j) : ffO p n = ffO q n := by
  by_cases hx : ∃ i, i < n ∧ p i = true
  · obtain ⟨i, hi, hp, hm⟩ : ∃ i, i < n ∧ p i = true ∧ ∀ j, j < i → p j = false := by
      obtain ⟨i, hi, hp⟩ := hx
      induction i using Nat.strongRecOn with
      | ind i ih =>
        by_cases hy : ∃ j, j < i ∧ p j = true
        · obtain ⟨j, hj, hpj⟩ := hy
          exact ih j hj (by omega) hpj
        · exact ⟨i, hi, hp, fun j hj => by
            cases e : p j
            · rfl
            · exact absurd ⟨j, hj, e⟩ hy⟩
    rw [ffO_some hi hp hm, ffO_some hi (by rw [← h i hi]; exact hp) (fun j hj => by rw [← h j (by omega)]; exact hm j hj)]
  · have hm : ∀ j, j < n → p j = false := fun j hj => by
      cases e : p j
      · rfl
      · exact absurd ⟨j, hj, e⟩ hx
    rw [ffO_none hm, ffO_none (fun j hj => by rw [← h j hj]; exact hm j hj)]
theorem nWp_congr {f g f2 g2 : Nat → Int32} {b : Int32} (h : ∀ j, j < 6 → f j = g j) (h2 : ∀ j, j < 6 → f2 j = g2 j) : ffO (nWp f f2 b) 6 = ffO (nWp g g2 b) 6 := by
  apply ffO_congr
  intro j hj
  unfold nWp
  rw [shb_congr (h j hj) (h2 j hj), cB_congr hj h h2]
/-! ===== scenes: sc 0 0 the focus, sc 1..4 i of thing i, sc 5 i of picture i, sc (6 + i) its columns ===== -/
def isPic (D : va_G) (adr : Nat → Nat) (G : Nat → va_E) (k : Nat) (th : Int32) (col : Nat → Int32) : Prop := G k = .inr (2, [.int th, .ref (adr (k + 1))]) ∧ ∃ f, G (k + 1) = aI D 6 f ∧ ∀ j, j < 6 → f j = col j
def isTh (D : va_G) (adr : Nat → Nat) (G : Nat → va_E) (k : Nat) (sc : Nat → Nat → Int32) : Prop :=
  G k = .inr (3, [.ref (adr (k + 1)), .ref (adr (k + 2)), .int (sc 0 0)]) ∧ (∃ f, G (k + 1) = aT D 6 f ∧ ∀ i, i < 6 → f i = some (adr (k + 3 + i))) ∧ ∀ i, i < 6 → G (k + 3 + i) = .inr (5, [.int (sc 1 i), .int (sc 2 i), .int (sc 3 i), .int (sc 4 i)])
def isPs (D : va_G) (adr : Nat → Nat) (G : Nat → va_E) (k : Nat) (sc : Nat → Nat → Int32) : Prop :=
  (∃ f, G (k + 2) = aP D 10 f ∧ ∀ i, i < 10 → f i = some (adr (k + 9 + 2 * i))) ∧ ∀ i, i < 10 → isPic D adr G (k + 9 + 2 * i) (sc 5 i) (sc (6 + i))
def isSc (D : va_G) (adr : Nat → Nat) (G : Nat → va_E) (k : Nat) (sc : Nat → Nat → Int32) : Prop := isTh D adr G k sc ∧ isPs D adr G k sc
theorem isPic.up {D : va_G} {adr : Nat → Nat} {G : Nat → va_E} {k j : Nat} {v : va_E} {th : Int32} {col : Nat → Int32} (h : isPic D adr G k th col) (h1 : j ≠ k) (h2 : j ≠ k + 1) : isPic D adr (va_up G j v) k th col := by
  obtain ⟨a, f, b, c⟩ := h
  exact ⟨by rw [up_ne _ _ (Ne.symm h1)]; exact a, f, by rw [up_ne _ _ (Ne.symm h2)]; exact b, c⟩
theorem isTh.same {D : va_G} {adr : Nat → Nat} {G G2 : Nat → va_E} {k : Nat} {sc : Nat → Nat → Int32} (h : isTh D adr G k sc) (e : ∀ j, k ≤ j → j < k + 9 → j ≠ k + 2 → G2 j = G j) : isTh D adr G2 k sc := by
  obtain ⟨a, ⟨f, b1, b2⟩, c⟩ := h
  exact ⟨by rw [e k (by omega) (by omega) (by omega)]; exact a, ⟨f, by rw [e _ (by omega) (by omega) (by omega)]; exact b1, b2⟩, fun i hi => by rw [e _ (by omega) (by omega) (by omega)]; exact c i hi⟩
theorem isPic.same {D : va_G} {adr : Nat → Nat} {G G2 : Nat → va_E} {k : Nat} {th : Int32} {col : Nat → Int32} (h : isPic D adr G k th col) (e1 : G2 k = G k) (e2 : G2 (k + 1) = G (k + 1)) : isPic D adr G2 k th col := by
  obtain ⟨a, f, b, c⟩ := h
  exact ⟨by rw [e1]; exact a, f, by rw [e2]; exact b, c⟩
theorem isPs.same {D : va_G} {adr : Nat → Nat} {G G2 : Nat → va_E} {k : Nat} {sc : Nat → Nat → Int32} (h : isPs D adr G k sc) (e : ∀ j, k + 9 ≤ j → j < k + 29 → G2 j = G j) (e2 : G2 (k + 2) = G (k + 2)) : isPs D adr G2 k sc := by
  obtain ⟨⟨f, b1, b2⟩, c⟩ := h
  exact ⟨⟨f, by rw [e2]; exact b1, b2⟩, fun i hi => (c i hi).same (e _ (by omega) (by omega)) (e _ (by omega) (by omega))⟩
theorem isSc.same {D : va_G} {adr : Nat → Nat} {G G2 : Nat → va_E} {k : Nat} {sc : Nat → Nat → Int32} (h : isSc D adr G k sc) (e : ∀ j, k ≤ j → j < k + 29 → G2 j = G j) : isSc D adr G2 k sc :=
  ⟨h.1.same (fun j h1 h2 _ => e j h1 (by omega)), h.2.same (fun j h1 h2 => e j (by omega) h2) (e _ (by omega) (by omega))⟩
theorem isTh.th {D : va_G} {adr : Nat → Nat} {G : Nat → va_E} {k : Nat} {sc : Nat → Nat → Int32} (h : isTh D adr G k sc) {i : Nat} (hi : i < 6) : G (k + 3 + i) = .inr (5, [.int (sc 1 i), .int (sc 2 i), .int (sc 3 i), .int (sc 4 i)]) := h.2.2 i hi
/-- there is such a thing, such a picture -/
def tE (sc : Nat → Nat → Int32) (t : Int32) : Bool := wb t 0 5 && !decide (sc 1 t.toNatClampNeg = 0)
def pE (sc : Nat → Nat → Int32) (t : Int32) : Bool := wb t 0 9 && !decide (sc 5 t.toNatClampNeg = 0)
theorem tE_t {sc : Nat → Nat → Int32} {t : Int32} (h : tE sc t = true) : ix t t.toNatClampNeg 6 ∧ ¬ sc 1 t.toNatClampNeg = 0 := by
  unfold tE at h
  rw [Bool.and_eq_true] at h
  exact ⟨wb_ix (n := 5) (by decide) rfl h.1, by simpa using h.2⟩
theorem pE_t {sc : Nat → Nat → Int32} {t : Int32} (h : pE sc t = true) : ix t t.toNatClampNeg 10 ∧ ¬ sc 5 t.toNatClampNeg = 0 := by
  unfold pE at h
  rw [Bool.and_eq_true] at h
  exact ⟨wb_ix (n := 9) (by decide) rfl h.1, by simpa using h.2⟩
theorem tE_f {sc : Nat → Nat → Int32} {t : Int32} (h : tE sc t = false) (hw : wb t 0 5 = true) : sc 1 t.toNatClampNeg = 0 := by
  unfold tE at h
  rw [hw] at h
  simpa using h
theorem pE_f {sc : Nat → Nat → Int32} {t : Int32} (h : pE sc t = false) (hw : wb t 0 9 = true) : sc 5 t.toNatClampNeg = 0 := by
  unfold pE at h
  rw [hw] at h
  simpa using h
theorem l61 : (6 : Int32) - 1 = 5 := by decide
theorem l101 : (10 : Int32) - 1 = 9 := by decide

theorem c_X3_thingAt_t {l : Launch} {D : va_G} {N : Nat} {adr : Nat → Nat} {G : Nat → va_E} {k : Nat} {sc : Nat → Nat → Int32} (hkN : k + 28 < N) (hT : isTh D adr G k sc) {t : Int32} (he1 : tE sc t = true) :
    CT l D yX3_thingAt cX3_thingAt 2 (some (FieldType.object "StereoWar$Thing")) (rl 1) [.ref (adr k), .int t] N adr G (PE (some (.ref (adr (k + 3 + t.toNatClampNeg)))) N adr G) := by
  obtain ⟨ft, hft, hft2⟩ := hT.2.1
  obtain ⟨hix, hne⟩ := tE_t he1
  have hi := hix.2.2
  refine CT.of (by decide +kernel) (Nat.le_of_ble_eq_true rfl) (fun Γ h he => ?_)
  have h : cx l D (rl 1) RX3 cX3_thingAt 2 Γ := h
  show SX Γ 0 0 0 [(0, .ref (adr k)), (1, .int t)] [] N adr G
  refine s_iload_n h dX3_thingAt_0 rfl <|
    s_iconst h dX3_thingAt_1 ic_0 <|
    s_aload_n h dX3_thingAt_2 rfl <|
    g_X3_11 h dX3_thingAt_3 (by omega) hT.1 <|
    s_alenT h dX3_thingAt_6 (by omega) hft (show Int32.ofNat 6 = 6 from rfl) <|
    s_iconst h dX3_thingAt_7 ic_1 <|
    s_isub h dX3_thingAt_8 <|
    k_X3_36 h (c_X7_within) rfl rfl dX3_thingAt_9 <|
    PE.go <|
    s_if_ne (tgt := 17) h dX3_thingAt_12 (by decide) (kf := fun q => absurd q (by rw [l61, (show wb t 0 5 = true from ix_wb hix (by decide) rfl)]; decide)) (kt := fun _ => ?_)
  refine s_aload_n h dX3_thingAt_17 rfl <|
    g_X3_11 h dX3_thingAt_18 (by omega) hT.1 <|
    s_iload_n h dX3_thingAt_21 rfl <|
    s_aaldT h dX3_thingAt_22 (by omega) hft hix (hft2 _ hi) <|
    g_X3_40 h dX3_thingAt_23 (by omega) (hT.th hi) <|
    s_if_eq (tgt := 38) h dX3_thingAt_26 (by decide) (kt := fun q => absurd q (hne)) (kf := fun _ => ?_)
  refine s_aload_n h dX3_thingAt_29 rfl <|
    g_X3_11 h dX3_thingAt_30 (by omega) hT.1 <|
    s_iload_n h dX3_thingAt_33 rfl <|
    s_aaldT h dX3_thingAt_34 (by omega) hft hix (hft2 _ hi) <|
    s_goto (tgt := 39) h dX3_thingAt_35 (by decide) <|
    s_aret h he (Or.inr ⟨_, rfl⟩) dX3_thingAt_39 ⟨Nat.le_refl _, Nat.le_refl _⟩ ?_
  exact PE.is
theorem c_X3_thingAt_f {l : Launch} {D : va_G} {N : Nat} {adr : Nat → Nat} {G : Nat → va_E} {k : Nat} {sc : Nat → Nat → Int32} (hkN : k + 28 < N) (hT : isTh D adr G k sc) {t : Int32} (he1 : tE sc t = false) :
    CT l D yX3_thingAt cX3_thingAt 2 (some (FieldType.object "StereoWar$Thing")) (rl 1) [.ref (adr k), .int t] N adr G (PE (some .null) N adr G) := by
  obtain ⟨ft, hft, hft2⟩ := hT.2.1
  refine CT.of (by decide +kernel) (Nat.le_of_ble_eq_true rfl) (fun Γ h he => ?_)
  have h : cx l D (rl 1) RX3 cX3_thingAt 2 Γ := h
  show SX Γ 0 0 0 [(0, .ref (adr k)), (1, .int t)] [] N adr G
  refine s_iload_n h dX3_thingAt_0 rfl <|
    s_iconst h dX3_thingAt_1 ic_0 <|
    s_aload_n h dX3_thingAt_2 rfl <|
    g_X3_11 h dX3_thingAt_3 (by omega) hT.1 <|
    s_alenT h dX3_thingAt_6 (by omega) hft (show Int32.ofNat 6 = 6 from rfl) <|
    s_iconst h dX3_thingAt_7 ic_1 <|
    s_isub h dX3_thingAt_8 <|
    k_X3_36 h (c_X7_within) rfl rfl dX3_thingAt_9 <|
    PE.go <|
    s_if_ne (tgt := 17) h dX3_thingAt_12 (by decide) (fun c12 => ?_) (fun c12 => ?_)
  · have hw : wb t 0 5 = true := by rw [l61] at c12; exact bI_1 c12
    have hix := wb_ix (n := 5) (by decide) rfl hw
    have hi := hix.2.2
    refine s_aload_n h dX3_thingAt_17 rfl <|
      g_X3_11 h dX3_thingAt_18 (by omega) hT.1 <|
      s_iload_n h dX3_thingAt_21 rfl <|
      s_aaldT h dX3_thingAt_22 (by omega) hft hix (hft2 _ hi) <|
      g_X3_40 h dX3_thingAt_23 (by omega) (hT.th hi) <|
      s_if_eq (tgt := 38) h dX3_thingAt_26 (by decide) (kf := fun q => absurd ((tE_f he1 hw)) q) (kt := fun _ => ?_)
    refine s_null h dX3_thingAt_38 <|
      s_aret h he (Or.inl rfl) dX3_thingAt_39 ⟨Nat.le_refl _, Nat.le_refl _⟩ ?_
    exact PE.is
  · refine s_null h dX3_thingAt_15 <|
      s_aret h he (Or.inl rfl) dX3_thingAt_16 ⟨Nat.le_refl _, Nat.le_refl _⟩ ?_
    exact PE.is
theorem c_X3_pictureAt_t {l : Launch} {D : va_G} {N : Nat} {adr : Nat → Nat} {G : Nat → va_E} {k : Nat} {sc : Nat → Nat → Int32} (hkN : k + 28 < N) (hT : isTh D adr G k sc) (hPs : isPs D adr G k sc) {t : Int32} (he1 : pE sc t = true) :
    CT l D yX3_pictureAt cX3_pictureAt 2 (some (FieldType.object "StereoWar$Picture")) (rl 1) [.ref (adr k), .int t] N adr G (PE (some (.ref (adr (k + 9 + 2 * t.toNatClampNeg)))) N adr G) := by
  obtain ⟨⟨fp, hfp, hfp2⟩, hpp⟩ := hPs
  obtain ⟨hix, hne⟩ := pE_t he1
  have hi := hix.2.2
  obtain ⟨hp0, fc, hp1, hp2⟩ := hpp _ hi
  refine CT.of (by decide +kernel) (Nat.le_of_ble_eq_true rfl) (fun Γ h he => ?_)
  have h : cx l D (rl 1) RX3 cX3_pictureAt 2 Γ := h
  show SX Γ 0 0 0 [(0, .ref (adr k)), (1, .int t)] [] N adr G
  refine s_iload_n h dX3_pictureAt_0 rfl <|
    s_iconst h dX3_pictureAt_1 ic_0 <|
    s_aload_n h dX3_pictureAt_2 rfl <|
    g_X3_19 h dX3_pictureAt_3 (by omega) hT.1 <|
    s_alenP h dX3_pictureAt_6 (by omega) hfp (show Int32.ofNat 10 = 10 from rfl) <|
    s_iconst h dX3_pictureAt_7 ic_1 <|
    s_isub h dX3_pictureAt_8 <|
    k_X3_36 h (c_X7_within) rfl rfl dX3_pictureAt_9 <|
    PE.go <|
    s_if_ne (tgt := 17) h dX3_pictureAt_12 (by decide) (kf := fun q => absurd q (by rw [l101, (show wb t 0 9 = true from ix_wb hix (by decide) rfl)]; decide)) (kt := fun _ => ?_)
  refine s_aload_n h dX3_pictureAt_17 rfl <|
    g_X3_19 h dX3_pictureAt_18 (by omega) hT.1 <|
    s_iload_n h dX3_pictureAt_21 rfl <|
    s_aaldP h dX3_pictureAt_22 (by omega) hfp hix (hfp2 _ hi) <|
    g_X3_44 h dX3_pictureAt_23 (by omega) hp0 <|
    s_if_eq (tgt := 38) h dX3_pictureAt_26 (by decide) (kt := fun q => absurd q (hne)) (kf := fun _ => ?_)
  refine s_aload_n h dX3_pictureAt_29 rfl <|
    g_X3_19 h dX3_pictureAt_30 (by omega) hT.1 <|
    s_iload_n h dX3_pictureAt_33 rfl <|
    s_aaldP h dX3_pictureAt_34 (by omega) hfp hix (hfp2 _ hi) <|
    s_goto (tgt := 39) h dX3_pictureAt_35 (by decide) <|
    s_aret h he (Or.inr ⟨_, rfl⟩) dX3_pictureAt_39 ⟨Nat.le_refl _, Nat.le_refl _⟩ ?_
  exact PE.is
theorem c_X3_pictureAt_f {l : Launch} {D : va_G} {N : Nat} {adr : Nat → Nat} {G : Nat → va_E} {k : Nat} {sc : Nat → Nat → Int32} (hkN : k + 28 < N) (hT : isTh D adr G k sc) (hPs : isPs D adr G k sc) {t : Int32} (he1 : pE sc t = false) :
    CT l D yX3_pictureAt cX3_pictureAt 2 (some (FieldType.object "StereoWar$Picture")) (rl 1) [.ref (adr k), .int t] N adr G (PE (some .null) N adr G) := by
  obtain ⟨⟨fp, hfp, hfp2⟩, hpp⟩ := hPs
  refine CT.of (by decide +kernel) (Nat.le_of_ble_eq_true rfl) (fun Γ h he => ?_)
  have h : cx l D (rl 1) RX3 cX3_pictureAt 2 Γ := h
  show SX Γ 0 0 0 [(0, .ref (adr k)), (1, .int t)] [] N adr G
  refine s_iload_n h dX3_pictureAt_0 rfl <|
    s_iconst h dX3_pictureAt_1 ic_0 <|
    s_aload_n h dX3_pictureAt_2 rfl <|
    g_X3_19 h dX3_pictureAt_3 (by omega) hT.1 <|
    s_alenP h dX3_pictureAt_6 (by omega) hfp (show Int32.ofNat 10 = 10 from rfl) <|
    s_iconst h dX3_pictureAt_7 ic_1 <|
    s_isub h dX3_pictureAt_8 <|
    k_X3_36 h (c_X7_within) rfl rfl dX3_pictureAt_9 <|
    PE.go <|
    s_if_ne (tgt := 17) h dX3_pictureAt_12 (by decide) (fun c12 => ?_) (fun c12 => ?_)
  · have hw : wb t 0 9 = true := by rw [l101] at c12; exact bI_1 c12
    have hix := wb_ix (n := 9) (by decide) rfl hw
    have hi := hix.2.2
    obtain ⟨hp0, fc, hp1, hp2⟩ := hpp _ hi
    refine s_aload_n h dX3_pictureAt_17 rfl <|
      g_X3_19 h dX3_pictureAt_18 (by omega) hT.1 <|
      s_iload_n h dX3_pictureAt_21 rfl <|
      s_aaldP h dX3_pictureAt_22 (by omega) hfp hix (hfp2 _ hi) <|
      g_X3_44 h dX3_pictureAt_23 (by omega) hp0 <|
      s_if_eq (tgt := 38) h dX3_pictureAt_26 (by decide) (kf := fun q => absurd ((pE_f he1 hw)) q) (kt := fun _ => ?_)
    refine s_null h dX3_pictureAt_38 <|
      s_aret h he (Or.inl rfl) dX3_pictureAt_39 ⟨Nat.le_refl _, Nat.le_refl _⟩ ?_
    exact PE.is
  · refine s_null h dX3_pictureAt_15 <|
      s_aret h he (Or.inl rfl) dX3_pictureAt_16 ⟨Nat.le_refl _, Nat.le_refl _⟩ ?_
    exact PE.is
/-- the column that a camera gives thing i now; -6, if it is not there -/
def sCol (sc : Nat → Nat → Int32) (c m : Int32) (i : Nat) : Int32 := if sc 1 i = 0 then -6 else colF (sc 0 0) (sc 2 i) (sc 3 i) (sc 4 i) c m
def wfT (sc : Nat → Nat → Int32) : Prop := ∀ i, i < 6 → (sc 1 i = 0 ∨ sc 1 i = 1) ∧ (sc 1 i = 0 ∨ 1 ≤ sc 4 i)
theorem tE_n {sc : Nat → Nat → Int32} {i : Nat} (hi : i < 6) : tE sc (nI i) = !decide (sc 1 i = 0) := by
  have h : wb (nI i) 0 5 = true := ix_wb (ix_n (n := 6) hi (by decide)) (by decide) rfl
  unfold tE
  rw [h, nI_clamp (by omega)]
  rfl
theorem pE_n {sc : Nat → Nat → Int32} {i : Nat} (hi : i < 10) : pE sc (nI i) = !decide (sc 5 i = 0) := by
  have h : wb (nI i) 0 9 = true := ix_wb (ix_n (n := 10) hi (by decide)) (by decide) rfl
  unfold pE
  rw [h, nI_clamp (by omega)]
  rfl
theorem c_X3_columnOf {l : Launch} {D : va_G} {N : Nat} {adr : Nat → Nat} {G : Nat → va_E} {k : Nat} {sc : Nat → Nat → Int32} (hkN : k + 28 < N) (hT : isTh D adr G k sc) (hwf : wfT sc) {i : Nat} (hi : i < 6) {c m : Int32} :
    CT l D yX3_columnOf cX3_columnOf 5 (some FieldType.int) (rl 2) [.ref (adr k), .int (nI i), .int c, .int m] N adr G (PE (some (.int (sCol sc c m i))) N adr G) := by
  refine CT.of (by decide +kernel) (Nat.le_of_ble_eq_true rfl) (fun Γ h he => ?_)
  have h : cx l D (rl 2) RX3 cX3_columnOf 5 Γ := h
  show SX Γ 0 0 0 [(0, .ref (adr k)), (1, .int (nI i)), (2, .int c), (3, .int m)] [] N adr G
  by_cases hz : sc 1 i = 0
  · have he1 : tE sc (nI i) = false := by rw [tE_n hi, decide_eq_true hz]; rfl
    refine s_aload_n h dX3_columnOf_0 rfl <|
      s_iload_n h dX3_columnOf_1 rfl <|
      k_X3_70 h (c_X3_thingAt_f hkN hT he1) (by omega) hT.1 rfl rfl dX3_columnOf_2 <|
      PE.go <|
      s_astoreN h dX3_columnOf_5 rfl <|
      s_aloadN h dX3_columnOf_7 rfl <|
      s_ifnonnullN h dX3_columnOf_9 <|
      s_bipush h dX3_columnOf_12 bp_m6 <|
      s_goto (tgt := 28) h dX3_columnOf_14 (by decide) <|
      s_iret h he rfl dX3_columnOf_28 ⟨Nat.le_refl _, Nat.le_refl _⟩ ?_
    exact PE.eq (by rw [sCol, if_pos hz]) rfl
  · have hne := hz
    have hdp : 1 ≤ sc 4 i := ((hwf i hi).2).resolve_left hz
    have he1 : tE sc (nI i) = true := by rw [tE_n hi, decide_eq_false hz]; rfl
    have hcall := c_X3_thingAt_t (l := l) hkN hT he1
    rw [nI_clamp (by omega)] at hcall
    refine s_aload_n h dX3_columnOf_0 rfl <|
      s_iload_n h dX3_columnOf_1 rfl <|
      k_X3_70 h (hcall) (by omega) hT.1 rfl rfl dX3_columnOf_2 <|
      PE.go <|
      s_astore h dX3_columnOf_5 rfl <|
      s_aload h dX3_columnOf_7 rfl <|
      s_ifnonnull (tgt := 17) h dX3_columnOf_9 (by decide) <|
      s_aload h dX3_columnOf_17 rfl <|
      s_iload_n h dX3_columnOf_19 rfl <|
      s_iload_n h dX3_columnOf_20 rfl <|
      s_aload_n h dX3_columnOf_21 rfl <|
      g_X3_23 h dX3_columnOf_22 (by omega) hT.1 <|
      k_X3_74 h (c_X6_columnFrom (by omega) (hT.th hi) hdp) (by omega) (hT.th hi) rfl rfl dX3_columnOf_25 <|
      PE.go <|
      s_iret h he rfl dX3_columnOf_28 ⟨Nat.le_refl _, Nat.le_refl _⟩ ?_
    exact PE.eq (by rw [sCol, if_neg hne]) rfl
def nSh (sc : Nat → Nat → Int32) (c m : Int32) (n : Nat) : Int32 := fN (fun j x => if sCol sc c m j = -6 then x else x + 1) 0 n
theorem nSh_s (sc : Nat → Nat → Int32) (c m : Int32) (n : Nat) : nSh sc c m (n + 1) = if sCol sc c m n = -6 then nSh sc c m n else nSh sc c m n + 1 := rfl
theorem c_X3_countShown {l : Launch} {D : va_G} {N : Nat} {adr : Nat → Nat} {G : Nat → va_E} {k : Nat} {sc : Nat → Nat → Int32} (hkN : k + 28 < N) (hT : isTh D adr G k sc) (hwf : wfT sc) {c m : Int32} :
    CT l D yX3_countShown cX3_countShown 5 (some FieldType.int) (rl 3) [.ref (adr k), .int c, .int m] N adr G (PE (some (.int (nSh sc c m 6))) N adr G) := by
  refine CT.of (by decide +kernel) (Nat.le_of_ble_eq_true rfl) (fun Γ h he => ?_)
  have h : cx l D (rl 3) RX3 cX3_countShown 5 Γ := h
  show SX Γ 0 0 0 [(0, .ref (adr k)), (1, .int c), (2, .int m)] [] N adr G
  refine s_iconst h dX3_countShown_0 ic_0 <|
    s_istore_n h dX3_countShown_1 rfl <|
    s_iconst h dX3_countShown_2 ic_0 <|
    s_istore h dX3_countShown_3 rfl <|
    ?_
  refine SX.loc (up_ind (n := 6) (Q := fun i => SX Γ 0 0 5 [(0, .ref (adr k)), (1, .int c), (2, .int m), (3, .int (nSh sc c m i)), (4, .int (nI i))] [] N adr G) ?_ ?_ 0 (Nat.zero_le _)) ⟨rfl, rfl, rfl, rfl, rfl, trivial⟩
  · show SX _ _ _ _ _ _ _ _ _
    refine s_iload h dX3_countShown_5 rfl <|
    s_bipush h dX3_countShown_7 bp_6 <|
    s_icmp_ge (tgt := 34) h dX3_countShown_9 (by decide) (kf := fun q => absurd (by decide +kernel) q) (kt := fun _ => ?_)
    refine s_iload_n h dX3_countShown_34 rfl <|
    s_iret h he rfl dX3_countShown_35 ⟨Nat.le_refl _, Nat.le_refl _⟩ ?_
    exact PE.is
  · intro i hi ih 
    show SX _ _ _ _ _ _ _ _ _
    refine s_iload h dX3_countShown_5 rfl <|
    s_bipush h dX3_countShown_7 bp_6 <|
    s_icmp_ge (tgt := 34) h dX3_countShown_9 (by decide) (kt := fun q => absurd q (nI_ge hi (by decide))) (kf := fun _ => ?_)
    refine s_aload_n h dX3_countShown_12 rfl <|
    s_iload h dX3_countShown_13 rfl <|
    s_iload_n h dX3_countShown_15 rfl <|
    s_iload_n h dX3_countShown_16 rfl <|
    k_X3_62 h (c_X3_columnOf hkN hT hwf hi) (by omega) hT.1 rfl rfl dX3_countShown_17 <|
    PE.go <|
    s_bipush h dX3_countShown_20 bp_m6 <|
    s_icmp_eq (tgt := 28) h dX3_countShown_22 (by decide) (fun c22 => ?_) (fun c22 => ?_)
    · refine s_iincR h dX3_countShown_28 rfl rfl ic_1 (nI_1 i) <|
      s_goto (tgt := 5) h dX3_countShown_31 (by decide) <|
      ?_
      first
        | exact SX.loc ih ⟨rfl, rfl, rfl, rfl, rfl, trivial⟩
        | (have q := (nSh_s sc c m i).trans (if_pos c22); exact SX.loc (lv2 := [(0, .ref (adr k)), (1, .int c), (2, .int m), (3, .int (nSh sc c m i)), (4, .int (nI (i + 1)))]) (q ▸ ih) ⟨rfl, rfl, rfl, rfl, rfl, trivial⟩)
    · refine s_iincR h dX3_countShown_25 rfl rfl ic_1 (show nSh sc c m i + 1 = nSh sc c m (i + 1) from ((nSh_s sc c m i).trans (if_neg c22)).symm) <|
      s_iincR h dX3_countShown_28 rfl rfl ic_1 (nI_1 i) <|
      s_goto (tgt := 5) h dX3_countShown_31 (by decide) <|
      ?_
      first
        | exact SX.loc ih ⟨rfl, rfl, rfl, rfl, rfl, trivial⟩
        | (have q := (nSh_s sc c m i).trans (if_pos c22); exact SX.loc (lv2 := [(0, .ref (adr k)), (1, .int c), (2, .int m), (3, .int (nSh sc c m i)), (4, .int (nI (i + 1)))]) (q ▸ ih) ⟨rfl, rfl, rfl, rfl, rfl, trivial⟩)
/-- the bits of the first n that are not 0 -/
def tB (g : Nat → Int32) (n : Nat) : Int32 := fN (fun j b => if g j = 0 then b else b ||| (1 <<< (nI j &&& 31))) 0 n
theorem tB_s (g : Nat → Int32) (n : Nat) : tB g (n + 1) = if g n = 0 then tB g n else tB g n ||| (1 <<< (nI n &&& 31)) := rfl
theorem c_X3_thingBits {l : Launch} {D : va_G} {N : Nat} {adr : Nat → Nat} {G : Nat → va_E} {k : Nat} {sc : Nat → Nat → Int32} (hkN : k + 28 < N) (hT : isTh D adr G k sc) :
    CT l D yX3_thingBits cX3_thingBits 3 (some FieldType.int) (rl 0) [.ref (adr k)] N adr G (PE (some (.int (tB (sc 1) 6))) N adr G) := by
  obtain ⟨ft, hft, hft2⟩ := hT.2.1
  refine CT.of (by decide +kernel) (Nat.le_of_ble_eq_true rfl) (fun Γ h he => ?_)
  have h : cx l D (rl 0) RX3 cX3_thingBits 3 Γ := h
  show SX Γ 0 0 0 [(0, .ref (adr k))] [] N adr G
  refine s_iconst h dX3_thingBits_0 ic_0 <|
    s_istore_n h dX3_thingBits_1 rfl <|
    s_iconst h dX3_thingBits_2 ic_0 <|
    s_istore_n h dX3_thingBits_3 rfl <|
    ?_
  refine SX.loc (up_ind (n := 6) (Q := fun i => SX Γ 0 0 4 [(0, .ref (adr k)), (1, .int (tB (sc 1) i)), (2, .int (nI i))] [] N adr G) ?_ ?_ 0 (Nat.zero_le _)) ⟨rfl, rfl, rfl, trivial⟩
  · show SX _ _ _ _ _ _ _ _ _
    refine s_iload_n h dX3_thingBits_4 rfl <|
    s_aload_n h dX3_thingBits_5 rfl <|
    g_X3_11 h dX3_thingBits_6 (by omega) hT.1 <|
    s_alenT h dX3_thingBits_9 (by omega) hft (show Int32.ofNat 6 = 6 from rfl) <|
    s_icmp_ge (tgt := 37) h dX3_thingBits_10 (by decide) (kf := fun q => absurd (by decide +kernel) q) (kt := fun _ => ?_)
    refine s_iload_n h dX3_thingBits_37 rfl <|
    s_iret h he rfl dX3_thingBits_38 ⟨Nat.le_refl _, Nat.le_refl _⟩ ?_
    exact PE.is
  · intro i hi ih 
    show SX _ _ _ _ _ _ _ _ _
    refine s_iload_n h dX3_thingBits_4 rfl <|
    s_aload_n h dX3_thingBits_5 rfl <|
    g_X3_11 h dX3_thingBits_6 (by omega) hT.1 <|
    s_alenT h dX3_thingBits_9 (by omega) hft (show Int32.ofNat 6 = 6 from rfl) <|
    s_icmp_ge (tgt := 37) h dX3_thingBits_10 (by decide) (kt := fun q => absurd q (nI_ge hi (by decide))) (kf := fun _ => ?_)
    refine s_aload_n h dX3_thingBits_13 rfl <|
    g_X3_11 h dX3_thingBits_14 (by omega) hT.1 <|
    s_iload_n h dX3_thingBits_17 rfl <|
    s_aaldT h dX3_thingBits_18 (by omega) hft (ix_n hi (by decide)) (hft2 _ hi) <|
    g_X3_40 h dX3_thingBits_19 (by omega) (hT.th hi) <|
    s_if_eq (tgt := 31) h dX3_thingBits_22 (by decide) (fun c22 => ?_) (fun c22 => ?_)
    · refine s_iincR h dX3_thingBits_31 rfl rfl ic_1 (nI_1 i) <|
      s_goto (tgt := 4) h dX3_thingBits_34 (by decide) <|
      ?_
      first
        | exact SX.loc ih ⟨rfl, rfl, rfl, trivial⟩
        | (have q := (tB_s (sc 1) i).trans (if_pos c22); exact SX.loc (lv2 := [(0, .ref (adr k)), (1, .int (tB (sc 1) i)), (2, .int (nI (i + 1)))]) (q ▸ ih) ⟨rfl, rfl, rfl, trivial⟩)
    · refine s_iload_n h dX3_thingBits_25 rfl <|
      s_iconst h dX3_thingBits_26 ic_1 <|
      s_iload_n h dX3_thingBits_27 rfl <|
      s_ishl h dX3_thingBits_28 <|
      s_ior h dX3_thingBits_29 <|
      s_topi (tB (sc 1) (i + 1)) ((tB_s (sc 1) i).trans (if_neg c22)).symm <|
      s_istore_n h dX3_thingBits_30 rfl <|
      s_iincR h dX3_thingBits_31 rfl rfl ic_1 (nI_1 i) <|
      s_goto (tgt := 4) h dX3_thingBits_34 (by decide) <|
      ?_
      first
        | exact SX.loc ih ⟨rfl, rfl, rfl, trivial⟩
        | (have q := (tB_s (sc 1) i).trans (if_pos c22); exact SX.loc (lv2 := [(0, .ref (adr k)), (1, .int (tB (sc 1) i)), (2, .int (nI (i + 1)))]) (q ▸ ih) ⟨rfl, rfl, rfl, trivial⟩)
theorem c_X3_pictureBits {l : Launch} {D : va_G} {N : Nat} {adr : Nat → Nat} {G : Nat → va_E} {k : Nat} {sc : Nat → Nat → Int32} (hkN : k + 28 < N) (hT : isTh D adr G k sc) (hPs : isPs D adr G k sc) :
    CT l D yX3_pictureBits cX3_pictureBits 3 (some FieldType.int) (rl 0) [.ref (adr k)] N adr G (PE (some (.int (tB (sc 5) 10))) N adr G) := by
  obtain ⟨⟨fp, hfp, hfp2⟩, hpp⟩ := hPs
  refine CT.of (by decide +kernel) (Nat.le_of_ble_eq_true rfl) (fun Γ h he => ?_)
  have h : cx l D (rl 0) RX3 cX3_pictureBits 3 Γ := h
  show SX Γ 0 0 0 [(0, .ref (adr k))] [] N adr G
  refine s_iconst h dX3_pictureBits_0 ic_0 <|
    s_istore_n h dX3_pictureBits_1 rfl <|
    s_iconst h dX3_pictureBits_2 ic_0 <|
    s_istore_n h dX3_pictureBits_3 rfl <|
    ?_
  refine SX.loc (up_ind (n := 10) (Q := fun i => SX Γ 0 0 4 [(0, .ref (adr k)), (1, .int (tB (sc 5) i)), (2, .int (nI i))] [] N adr G) ?_ ?_ 0 (Nat.zero_le _)) ⟨rfl, rfl, rfl, trivial⟩
  · show SX _ _ _ _ _ _ _ _ _
    refine s_iload_n h dX3_pictureBits_4 rfl <|
    s_aload_n h dX3_pictureBits_5 rfl <|
    g_X3_19 h dX3_pictureBits_6 (by omega) hT.1 <|
    s_alenP h dX3_pictureBits_9 (by omega) hfp (show Int32.ofNat 10 = 10 from rfl) <|
    s_icmp_ge (tgt := 37) h dX3_pictureBits_10 (by decide) (kf := fun q => absurd (by decide +kernel) q) (kt := fun _ => ?_)
    refine s_iload_n h dX3_pictureBits_37 rfl <|
    s_iret h he rfl dX3_pictureBits_38 ⟨Nat.le_refl _, Nat.le_refl _⟩ ?_
    exact PE.is
  · intro i hi ih 
    show SX _ _ _ _ _ _ _ _ _
    obtain ⟨hp0, fc, hp1, hp2⟩ := hpp _ hi
    refine s_iload_n h dX3_pictureBits_4 rfl <|
    s_aload_n h dX3_pictureBits_5 rfl <|
    g_X3_19 h dX3_pictureBits_6 (by omega) hT.1 <|
    s_alenP h dX3_pictureBits_9 (by omega) hfp (show Int32.ofNat 10 = 10 from rfl) <|
    s_icmp_ge (tgt := 37) h dX3_pictureBits_10 (by decide) (kt := fun q => absurd q (nI_ge hi (by decide))) (kf := fun _ => ?_)
    refine s_aload_n h dX3_pictureBits_13 rfl <|
    g_X3_19 h dX3_pictureBits_14 (by omega) hT.1 <|
    s_iload_n h dX3_pictureBits_17 rfl <|
    s_aaldP h dX3_pictureBits_18 (by omega) hfp (ix_n hi (by decide)) (hfp2 _ hi) <|
    g_X3_44 h dX3_pictureBits_19 (by omega) hp0 <|
    s_if_eq (tgt := 31) h dX3_pictureBits_22 (by decide) (fun c22 => ?_) (fun c22 => ?_)
    · refine s_iincR h dX3_pictureBits_31 rfl rfl ic_1 (nI_1 i) <|
      s_goto (tgt := 4) h dX3_pictureBits_34 (by decide) <|
      ?_
      first
        | exact SX.loc ih ⟨rfl, rfl, rfl, trivial⟩
        | (have q := (tB_s (sc 5) i).trans (if_pos c22); exact SX.loc (lv2 := [(0, .ref (adr k)), (1, .int (tB (sc 5) i)), (2, .int (nI (i + 1)))]) (q ▸ ih) ⟨rfl, rfl, rfl, trivial⟩)
    · refine s_iload_n h dX3_pictureBits_25 rfl <|
      s_iconst h dX3_pictureBits_26 ic_1 <|
      s_iload_n h dX3_pictureBits_27 rfl <|
      s_ishl h dX3_pictureBits_28 <|
      s_ior h dX3_pictureBits_29 <|
      s_topi (tB (sc 5) (i + 1)) ((tB_s (sc 5) i).trans (if_neg c22)).symm <|
      s_istore_n h dX3_pictureBits_30 rfl <|
      s_iincR h dX3_pictureBits_31 rfl rfl ic_1 (nI_1 i) <|
      s_goto (tgt := 4) h dX3_pictureBits_34 (by decide) <|
      ?_
      first
        | exact SX.loc ih ⟨rfl, rfl, rfl, trivial⟩
        | (have q := (tB_s (sc 5) i).trans (if_pos c22); exact SX.loc (lv2 := [(0, .ref (adr k)), (1, .int (tB (sc 5) i)), (2, .int (nI (i + 1)))]) (q ▸ ih) ⟨rfl, rfl, rfl, trivial⟩)
def kP (sc : Nat → Nat → Int32) (a b : Int32) : Int32 := if pE sc a && (pE sc b && !decide (a = b)) then kW (sc (6 + a.toNatClampNeg)) (sc (6 + b.toNatClampNeg)) else -1
theorem c_X3_kindOfPair {l : Launch} {D : va_G} {N : Nat} {adr : Nat → Nat} {G : Nat → va_E} {k : Nat} {sc : Nat → Nat → Int32} (hkN : k + 28 < N) (hT : isTh D adr G k sc) (hPs : isPs D adr G k sc) {a b : Int32} :
    CT l D yX3_kindOfPair cX3_kindOfPair 5 (some FieldType.int) (rl 4) [.ref (adr k), .int a, .int b] N adr G (PE (some (.int (kP sc a b))) N adr G) := by
  refine CT.of (by decide +kernel) (Nat.le_of_ble_eq_true rfl) (fun Γ h he => ?_)
  have h : cx l D (rl 4) RX3 cX3_kindOfPair 5 Γ := h
  show SX Γ 0 0 0 [(0, .ref (adr k)), (1, .int a), (2, .int b)] [] N adr G
  cases ha : pE sc a
  · refine s_aload_n h dX3_kindOfPair_0 rfl <|
      s_iload_n h dX3_kindOfPair_1 rfl <|
      k_X3_77 h (c_X3_pictureAt_f hkN hT hPs ha) (by omega) hT.1 rfl rfl dX3_kindOfPair_2 <|
      PE.go <|
      s_astore_nN h dX3_kindOfPair_5 rfl <|
      s_aload_n h dX3_kindOfPair_6 rfl <|
      s_iload_n h dX3_kindOfPair_7 rfl <|
      ?_
    have e : kP sc a b = -1 := by rw [kP, ha]; rfl
    cases hb : pE sc b
    · refine k_X3_77 h (c_X3_pictureAt_f hkN hT hPs hb) (by omega) hT.1 rfl rfl dX3_kindOfPair_8 <|
        PE.go <|
        s_astoreN h dX3_kindOfPair_11 rfl <|
        s_aload_nN h dX3_kindOfPair_13 rfl <|
        s_ifnullN (tgt := 27) h dX3_kindOfPair_14 (by decide) <|
        s_iconst h dX3_kindOfPair_27 ic_m1 <|
        s_iret h he rfl dX3_kindOfPair_28 ⟨Nat.le_refl _, Nat.le_refl _⟩ ?_
      exact PE.eq (by rw [e]) rfl
    · refine k_X3_77 h (c_X3_pictureAt_t hkN hT hPs hb) (by omega) hT.1 rfl rfl dX3_kindOfPair_8 <|
        PE.go <|
        s_astore h dX3_kindOfPair_11 rfl <|
        s_aload_nN h dX3_kindOfPair_13 rfl <|
        s_ifnullN (tgt := 27) h dX3_kindOfPair_14 (by decide) <|
        s_iconst h dX3_kindOfPair_27 ic_m1 <|
        s_iret h he rfl dX3_kindOfPair_28 ⟨Nat.le_refl _, Nat.le_refl _⟩ ?_
      exact PE.eq (by rw [e]) rfl
  · refine s_aload_n h dX3_kindOfPair_0 rfl <|
      s_iload_n h dX3_kindOfPair_1 rfl <|
      k_X3_77 h (c_X3_pictureAt_t hkN hT hPs ha) (by omega) hT.1 rfl rfl dX3_kindOfPair_2 <|
      PE.go <|
      s_astore_n h dX3_kindOfPair_5 rfl <|
      s_aload_n h dX3_kindOfPair_6 rfl <|
      s_iload_n h dX3_kindOfPair_7 rfl <|
      ?_
    obtain ⟨hixa, -⟩ := pE_t ha
    obtain ⟨hp0, fa, hp1, hp2⟩ := hPs.2 _ hixa.2.2
    have hka : k + 9 + 2 * a.toNatClampNeg + 1 < N := by have := hixa.2.2; omega
    cases hb : pE sc b
    · refine k_X3_77 h (c_X3_pictureAt_f hkN hT hPs hb) (by omega) hT.1 rfl rfl dX3_kindOfPair_8 <|
        PE.go <|
        s_astoreN h dX3_kindOfPair_11 rfl <|
        s_aload_n h dX3_kindOfPair_13 rfl <|
        s_ifnull h dX3_kindOfPair_14 <|
        s_aloadN h dX3_kindOfPair_17 rfl <|
        s_ifnullN (tgt := 27) h dX3_kindOfPair_19 (by decide) <|
        s_iconst h dX3_kindOfPair_27 ic_m1 <|
        s_iret h he rfl dX3_kindOfPair_28 ⟨Nat.le_refl _, Nat.le_refl _⟩ ?_
      exact PE.eq (by rw [show kP sc a b = -1 from by rw [kP, ha, hb]; rfl]) rfl
    · obtain ⟨hixb, -⟩ := pE_t hb
      obtain ⟨hq0, fb, hq1, hq2⟩ := hPs.2 _ hixb.2.2
      have hkb : k + 9 + 2 * b.toNatClampNeg + 1 < N := by have := hixb.2.2; omega
      refine k_X3_77 h (c_X3_pictureAt_t hkN hT hPs hb) (by omega) hT.1 rfl rfl dX3_kindOfPair_8 <|
        PE.go <|
        s_astore h dX3_kindOfPair_11 rfl <|
        s_aload_n h dX3_kindOfPair_13 rfl <|
        s_ifnull h dX3_kindOfPair_14 <|
        s_aload h dX3_kindOfPair_17 rfl <|
        s_ifnull h dX3_kindOfPair_19 <|
        s_iload_n h dX3_kindOfPair_22 rfl <|
        s_iload_n h dX3_kindOfPair_23 rfl <|
        s_icmp_ne (tgt := 29) h dX3_kindOfPair_24 (by decide) (fun c24 => ?_) (fun c24 => ?_)
      · refine s_aload_n h dX3_kindOfPair_29 rfl <|
          s_aload h dX3_kindOfPair_30 rfl <|
          k_X3_81 h (c_X2_kindWith hka hp0 hp1 hkb hq0 hq1) (by omega) hp0 rfl rfl dX3_kindOfPair_32 <|
          PE.go <|
          s_iret h he rfl dX3_kindOfPair_35 ⟨Nat.le_refl _, Nat.le_refl _⟩ ?_
        first
          | exact PE.eq (by rw [show kP sc a b = -1 from by rw [kP, ha, hb, decide_eq_true c24]; rfl]) rfl
          | exact PE.eq (by rw [show kP sc a b = kW fa fb from by rw [kP, ha, hb, decide_eq_false c24, kW_congr hp2 hq2]; rfl]) rfl
      · refine s_iconst h dX3_kindOfPair_27 ic_m1 <|
          s_iret h he rfl dX3_kindOfPair_28 ⟨Nat.le_refl _, Nat.le_refl _⟩ ?_
        first
          | exact PE.eq (by rw [show kP sc a b = -1 from by rw [kP, ha, hb, decide_eq_true c24]; rfl]) rfl
          | exact PE.eq (by rw [show kP sc a b = kW fa fb from by rw [kP, ha, hb, decide_eq_false c24, kW_congr hp2 hq2]; rfl]) rfl
