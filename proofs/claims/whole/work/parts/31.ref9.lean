def rSt (f : Nat → Int32) (a : Nat → Nat → Int32) (B n : Nat) (g : Nat → Int32) (b : Nat → Nat → Int32) : Prop :=
  g 8 = f 8 ∧ b 108 = a 108 ∧ b 113 = a 113 ∧ b 114 = a 114 ∧ (0 < n → g 0 = a 113 (B + 0)) ∧ (1 < n → g 4 = a 113 (B + 1)) ∧ (2 < n → g 5 = a 113 (B + 2)) ∧ (∀ i, i < 6 → 3 + 3 * i < n → b 104 i = a 113 (B + (3 + 3 * i))) ∧ (∀ i, i < 6 → 3 + 3 * i + 1 < n → b 105 i = a 113 (B + (3 + 3 * i + 1))) ∧ (∀ i, i < 6 → 3 + 3 * i + 1 + 1 < n → b 106 i = a 113 (B + (3 + 3 * i + 1 + 1))) ∧ (∀ j, 21 + j < n → b 107 j = a 113 (B + (21 + j))) ∧ g 23 = 0 ∧ g 22 = nI (B + n)
theorem rSt.f0 {f : Nat → Int32} {a : Nat → Nat → Int32} {B : Nat} {g : Nat → Int32} {b : Nat → Nat → Int32} (h : rSt f a B 0 g b) : rSt f a B 1 (upd (upd g 22 (nI (B + 0 + 1))) 0 (b 113 (B + 0))) b := by
  obtain ⟨h1, h2, h3, h4, k0, k1, k2, ka, kb, kc, kd, h5, h6⟩ := h
  exact ⟨h1, h2, h3, h4, fun _ => congrFun h3 _, fun q => absurd q (by omega), fun q => absurd q (by omega), fun j hj q => absurd q (by omega), fun j hj q => absurd q (by omega), fun j hj q => absurd q (by omega), fun j q => absurd q (by omega), h5, rfl⟩
theorem rSt.f4 {f : Nat → Int32} {a : Nat → Nat → Int32} {B : Nat} {g : Nat → Int32} {b : Nat → Nat → Int32} (h : rSt f a B 1 g b) : rSt f a B 2 (upd (upd g 22 (nI (B + 1 + 1))) 4 (b 113 (B + 1))) b := by
  obtain ⟨h1, h2, h3, h4, k0, k1, k2, ka, kb, kc, kd, h5, h6⟩ := h
  exact ⟨h1, h2, h3, h4, fun _ => k0 (by omega), fun _ => congrFun h3 _, fun q => absurd q (by omega), fun j hj q => absurd q (by omega), fun j hj q => absurd q (by omega), fun j hj q => absurd q (by omega), fun j q => absurd q (by omega), h5, rfl⟩
theorem rSt.f5 {f : Nat → Int32} {a : Nat → Nat → Int32} {B : Nat} {g : Nat → Int32} {b : Nat → Nat → Int32} (h : rSt f a B 2 g b) : rSt f a B 3 (upd (upd g 22 (nI (B + 2 + 1))) 5 (b 113 (B + 2))) b := by
  obtain ⟨h1, h2, h3, h4, k0, k1, k2, ka, kb, kc, kd, h5, h6⟩ := h
  exact ⟨h1, h2, h3, h4, fun _ => k0 (by omega), fun _ => k1 (by omega), fun _ => congrFun h3 _, fun j hj q => absurd q (by omega), fun j hj q => absurd q (by omega), fun j hj q => absurd q (by omega), fun j q => absurd q (by omega), h5, rfl⟩
theorem rSt.a {f : Nat → Int32} {a : Nat → Nat → Int32} {B : Nat} {g : Nat → Int32} {b : Nat → Nat → Int32} {i : Nat} (h : rSt f a B (3 + 3 * i) g b) (hi : i < 6) : rSt f a B (3 + 3 * i + 1) (upd g 22 (nI (B + (3 + 3 * i) + 1))) (uA b 104 (upd (b 104) i (b 113 (B + (3 + 3 * i))))) := by
  obtain ⟨h1, h2, h3, h4, k0, k1, k2, ka, kb, kc, kd, h5, h6⟩ := h
  refine ⟨h1, h2, h3, h4, fun _ => k0 (by omega), fun _ => k1 (by omega), fun _ => k2 (by omega), fun j hj q => ?_, fun j hj q => kb j hj (by omega), fun j hj q => kc j hj (by omega), fun j q => absurd q (by omega), h5, rfl⟩
  show upd (b 104) i _ j = _
  by_cases e : j = i
  · subst e; simp only [upd, if_true]; rw [h3]
  · simp only [upd, e, if_false]; exact ka j hj (by omega)
theorem rSt.b {f : Nat → Int32} {a : Nat → Nat → Int32} {B : Nat} {g : Nat → Int32} {b : Nat → Nat → Int32} {i : Nat} (h : rSt f a B (3 + 3 * i + 1) g b) (hi : i < 6) : rSt f a B (3 + 3 * i + 1 + 1) (upd g 22 (nI (B + (3 + 3 * i + 1) + 1))) (uA b 105 (upd (b 105) i (b 113 (B + (3 + 3 * i + 1))))) := by
  obtain ⟨h1, h2, h3, h4, k0, k1, k2, ka, kb, kc, kd, h5, h6⟩ := h
  refine ⟨h1, h2, h3, h4, fun _ => k0 (by omega), fun _ => k1 (by omega), fun _ => k2 (by omega), fun j hj q => ka j hj (by omega), fun j hj q => ?_, fun j hj q => kc j hj (by omega), fun j q => absurd q (by omega), h5, rfl⟩
  show upd (b 105) i _ j = _
  by_cases e : j = i
  · subst e; simp only [upd, if_true]; rw [h3]
  · simp only [upd, e, if_false]; exact kb j hj (by omega)
theorem rSt.c {f : Nat → Int32} {a : Nat → Nat → Int32} {B : Nat} {g : Nat → Int32} {b : Nat → Nat → Int32} {i : Nat} (h : rSt f a B (3 + 3 * i + 1 + 1) g b) (hi : i < 6) : rSt f a B (3 + 3 * i + 1 + 1 + 1) (upd g 22 (nI (B + (3 + 3 * i + 1 + 1) + 1))) (uA b 106 (upd (b 106) i (b 113 (B + (3 + 3 * i + 1 + 1))))) := by
  obtain ⟨h1, h2, h3, h4, k0, k1, k2, ka, kb, kc, kd, h5, h6⟩ := h
  refine ⟨h1, h2, h3, h4, fun _ => k0 (by omega), fun _ => k1 (by omega), fun _ => k2 (by omega), fun j hj q => ka j hj (by omega), fun j hj q => kb j hj (by omega), fun j hj q => ?_, fun j q => absurd q (by omega), h5, rfl⟩
  show upd (b 106) i _ j = _
  by_cases e : j = i
  · subst e; simp only [upd, if_true]; rw [h3]
  · simp only [upd, e, if_false]; exact kc j hj (by omega)
theorem rSt.d {f : Nat → Int32} {a : Nat → Nat → Int32} {B : Nat} {g : Nat → Int32} {b : Nat → Nat → Int32} {i : Nat} (h : rSt f a B (21 + i) g b) : rSt f a B (21 + (i + 1)) (upd g 22 (nI (B + (21 + i) + 1))) (uA b 107 (upd (b 107) i (b 113 (B + (21 + i))))) := by
  obtain ⟨h1, h2, h3, h4, k0, k1, k2, ka, kb, kc, kd, h5, h6⟩ := h
  refine ⟨h1, h2, h3, h4, fun _ => k0 (by omega), fun _ => k1 (by omega), fun _ => k2 (by omega), fun j hj q => ka j hj (by omega), fun j hj q => kb j hj (by omega), fun j hj q => kc j hj (by omega), fun j q => ?_, h5, rfl⟩
  show upd (b 107) i _ j = _
  by_cases e : j = i
  · subst e; simp only [upd, if_true]; rw [h3]
  · simp only [upd, e, if_false]; exact kd j (by omega)
theorem c_X8_passAll_r {l : Launch} {D : va_G} {N : Nat} {adr : Nat → Nat} {G : Nat → va_E} {G0 : Nat → va_E} {f : Nat → Int32} {a : Nat → Nat → Int32} (hN : 115 ≤ N) (hM : isMF D adr G0 G f a) {B : Nat} (hB : B ≤ 100) (h23 : f 23 = 0) (h22 : f 22 = nI B) :
    CT l D yX8_passAll cX8_passAll 2 (none) (rl 1) [.ref (adr 103)] N adr G (PR none N adr (fun W => ∃ g b, isMF D adr G0 W g b ∧ rSt f a B 81 g b)) := by
  have hw : rSt f a B 0 f a := ⟨rfl, rfl, rfl, rfl, fun q => absurd q (by omega), fun q => absurd q (by omega), fun q => absurd q (by omega), fun j hj q => absurd q (by omega), fun j hj q => absurd q (by omega), fun j hj q => absurd q (by omega), fun j q => absurd q (by omega), h23, h22⟩
  refine CT.of (by decide +kernel) (Nat.le_of_ble_eq_true rfl) (fun Γ h he => ?_)
  have h : cx l D (rl 1) RX8 cX8_passAll 2 Γ := h
  show SX Γ 0 0 0 [(0, .ref (adr 103))] [] N adr G
  refine s_aload_n h dX8_passAll_0 rfl <|
    s_aload_n h dX8_passAll_1 rfl <|
    s_aload_n h dX8_passAll_2 rfl <|
    gm_56 h dX8_passAll_3 hN hM <|
    k_X8_208 h (c_X8_pass_r hN hM hw.2.2.2.2.2.2.2.2.2.2.2.1 hw.2.2.2.2.2.2.2.2.2.2.2.2 (by omega)) (by omega) hM.o rfl rfl dX8_passAll_6 (PR.go fun V hM => ?_)
  refine pm_56 h dX8_passAll_9 hN hM <|
    fun W hM =>
    ?_
  replace hw := hw.f0
  refine s_aload_n h dX8_passAll_12 rfl <|
    s_aload_n h dX8_passAll_13 rfl <|
    s_aload_n h dX8_passAll_14 rfl <|
    gm_44 h dX8_passAll_15 hN hM <|
    k_X8_208 h (c_X8_pass_r hN hM hw.2.2.2.2.2.2.2.2.2.2.2.1 hw.2.2.2.2.2.2.2.2.2.2.2.2 (by omega)) (by omega) hM.o rfl rfl dX8_passAll_18 (PR.go fun V hM => ?_)
  refine pm_44 h dX8_passAll_21 hN hM <|
    fun W hM =>
    ?_
  replace hw := hw.f4
  refine s_aload_n h dX8_passAll_24 rfl <|
    s_aload_n h dX8_passAll_25 rfl <|
    s_aload_n h dX8_passAll_26 rfl <|
    gm_61 h dX8_passAll_27 hN hM <|
    k_X8_208 h (c_X8_pass_r hN hM hw.2.2.2.2.2.2.2.2.2.2.2.1 hw.2.2.2.2.2.2.2.2.2.2.2.2 (by omega)) (by omega) hM.o rfl rfl dX8_passAll_30 (PR.go fun V hM => ?_)
  refine pm_61 h dX8_passAll_33 hN hM <|
    fun W hM =>
    ?_
  replace hw := hw.f5
  refine s_iconst h dX8_passAll_36 ic_0 <|
    s_istore_n h dX8_passAll_37 rfl <|
    ?_
  refine SX.loc (up_ind (n := 6) (Q := fun i => ∀ (W : Nat → va_E) (g : Nat → Int32) (b : Nat → Nat → Int32), (isMF D adr G0 W g b ∧ rSt f a B (3 + 3 * i) g b) → SX Γ 0 0 38 [(0, .ref (adr 103)), (1, .int (nI i))] [] N adr W) ?_ ?_ 0 (Nat.zero_le _) _ _ _ ⟨hM, hw⟩) ⟨rfl, rfl, trivial⟩
  · intro W g b hH
    show SX _ _ _ _ _ _ _ _ _
    obtain ⟨hM, hw⟩ := hH
    refine s_iload_n h dX8_passAll_38 rfl <|
    s_bipush h dX8_passAll_39 bp_6 <|
    s_icmp_ge (tgt := 98) h dX8_passAll_41 (by decide) (kf := fun qx => absurd (by decide +kernel) qx) (kt := fun _ => ?_)
    refine s_iconst h dX8_passAll_98 ic_0 <|
    s_istore_n h dX8_passAll_99 rfl <|
    ?_
    refine SX.loc (up_ind (n := 60) (Q := fun i => ∀ (W : Nat → va_E) (g : Nat → Int32) (b : Nat → Nat → Int32), (isMF D adr G0 W g b ∧ rSt f a B (21 + i) g b) → SX Γ 0 0 100 [(0, .ref (adr 103)), (1, .int (nI i))] [] N adr W) ?_ ?_ 0 (Nat.zero_le _) _ _ _ ⟨hM, hw⟩) ⟨rfl, rfl, trivial⟩
    · intro W g b hH
      show SX _ _ _ _ _ _ _ _ _
      obtain ⟨hM, hw⟩ := hH
      refine s_iload_n h dX8_passAll_100 rfl <|
      s_bipush h dX8_passAll_101 bp_60 <|
      s_icmp_ge (tgt := 128) h dX8_passAll_103 (by decide) (kf := fun qx => absurd (by decide +kernel) qx) (kt := fun _ => ?_)
      refine s_vret h he dX8_passAll_128 ⟨Nat.le_refl _, Nat.le_refl _⟩ ?_
      exact PR.is ⟨_, _, hM, hw⟩
    · intro i hi ih W g b hH
      show SX _ _ _ _ _ _ _ _ _
      obtain ⟨hM, hw⟩ := hH
      refine s_iload_n h dX8_passAll_100 rfl <|
      s_bipush h dX8_passAll_101 bp_60 <|
      s_icmp_ge (tgt := 128) h dX8_passAll_103 (by decide) (kt := fun qx => absurd qx (nI_ge hi (by decide))) (kf := fun _ => ?_)
      refine s_aload_n h dX8_passAll_106 rfl <|
      gm_19 h dX8_passAll_107 hN hM <|
      s_iload_n h dX8_passAll_110 rfl <|
      s_aload_n h dX8_passAll_111 rfl <|
      s_aload_n h dX8_passAll_112 rfl <|
      gm_19 h dX8_passAll_113 hN hM <|
      s_iload_n h dX8_passAll_116 rfl <|
      s_iald h dX8_passAll_117 (by omega) hM.a107 (ix_n hi (by decide)) rfl <|
      k_X8_208 h (c_X8_pass_r hN hM hw.2.2.2.2.2.2.2.2.2.2.2.1 hw.2.2.2.2.2.2.2.2.2.2.2.2 (by omega)) (by omega) hM.o rfl rfl dX8_passAll_118 (PR.go fun V hM => ?_)
      refine sm_107 h dX8_passAll_121 hN hM (ix_n hi (by decide)) <|
      fun W hM =>
      ?_
      replace hw := hw.d
      refine s_iincR h dX8_passAll_122 rfl rfl ic_1 (nI_1 i) <|
      s_goto (tgt := 100) h dX8_passAll_125 (by decide) <|
      ?_
      exact SX.loc (ih _ _ _ ⟨hM, hw⟩) ⟨rfl, rfl, trivial⟩
  · intro i hi ih W g b hH
    show SX _ _ _ _ _ _ _ _ _
    obtain ⟨hM, hw⟩ := hH
    refine s_iload_n h dX8_passAll_38 rfl <|
    s_bipush h dX8_passAll_39 bp_6 <|
    s_icmp_ge (tgt := 98) h dX8_passAll_41 (by decide) (kt := fun qx => absurd qx (nI_ge hi (by decide))) (kf := fun _ => ?_)
    refine s_aload_n h dX8_passAll_44 rfl <|
    gm_7 h dX8_passAll_45 hN hM <|
    s_iload_n h dX8_passAll_48 rfl <|
    s_aload_n h dX8_passAll_49 rfl <|
    s_aload_n h dX8_passAll_50 rfl <|
    gm_7 h dX8_passAll_51 hN hM <|
    s_iload_n h dX8_passAll_54 rfl <|
    s_iald h dX8_passAll_55 (by omega) hM.a104 (ix_n hi (by decide)) rfl <|
    k_X8_208 h (c_X8_pass_r hN hM hw.2.2.2.2.2.2.2.2.2.2.2.1 hw.2.2.2.2.2.2.2.2.2.2.2.2 (by omega)) (by omega) hM.o rfl rfl dX8_passAll_56 (PR.go fun V hM => ?_)
    refine sm_104 h dX8_passAll_59 hN hM (ix_n hi (by decide)) <|
    fun W hM =>
    ?_
    replace hw := hw.a hi
    refine s_aload_n h dX8_passAll_60 rfl <|
    gm_13 h dX8_passAll_61 hN hM <|
    s_iload_n h dX8_passAll_64 rfl <|
    s_aload_n h dX8_passAll_65 rfl <|
    s_aload_n h dX8_passAll_66 rfl <|
    gm_13 h dX8_passAll_67 hN hM <|
    s_iload_n h dX8_passAll_70 rfl <|
    s_iald h dX8_passAll_71 (by omega) hM.a105 (ix_n hi (by decide)) rfl <|
    k_X8_208 h (c_X8_pass_r hN hM hw.2.2.2.2.2.2.2.2.2.2.2.1 hw.2.2.2.2.2.2.2.2.2.2.2.2 (by omega)) (by omega) hM.o rfl rfl dX8_passAll_72 (PR.go fun V hM => ?_)
    refine sm_105 h dX8_passAll_75 hN hM (ix_n hi (by decide)) <|
    fun W hM =>
    ?_
    replace hw := hw.b hi
    refine s_aload_n h dX8_passAll_76 rfl <|
    gm_16 h dX8_passAll_77 hN hM <|
    s_iload_n h dX8_passAll_80 rfl <|
    s_aload_n h dX8_passAll_81 rfl <|
    s_aload_n h dX8_passAll_82 rfl <|
    gm_16 h dX8_passAll_83 hN hM <|
    s_iload_n h dX8_passAll_86 rfl <|
    s_iald h dX8_passAll_87 (by omega) hM.a106 (ix_n hi (by decide)) rfl <|
    k_X8_208 h (c_X8_pass_r hN hM hw.2.2.2.2.2.2.2.2.2.2.2.1 hw.2.2.2.2.2.2.2.2.2.2.2.2 (by omega)) (by omega) hM.o rfl rfl dX8_passAll_88 (PR.go fun V hM => ?_)
    refine sm_106 h dX8_passAll_91 hN hM (ix_n hi (by decide)) <|
    fun W hM =>
    ?_
    replace hw := hw.c hi
    refine s_iincR h dX8_passAll_92 rfl rfl ic_1 (nI_1 i) <|
    s_goto (tgt := 38) h dX8_passAll_95 (by decide) <|
    ?_
    exact SX.loc (ih _ _ _ ⟨hM, hw⟩) ⟨rfl, rfl, trivial⟩
def iSt (f : Nat → Int32) (a : Nat → Nat → Int32) (k : Nat) (g : Nat → Int32) (b : Nat → Nat → Int32) : Prop :=
  (g 0 = f 0 ∧ g 4 = f 4 ∧ g 5 = f 5 ∧ g 8 = f 8) ∧ (∀ j, 104 ≤ j → j ≤ 108 → b j = a j) ∧ b 114 = upd (a 114) k 1 ∧ (∀ j, j < 81 → b 113 (100 * k + j) = img f a j) ∧ (∀ x, x < 100 * k ∨ 100 * k + 81 ≤ x → b 113 x = a 113 x)
theorem iSt_of {f : Nat → Int32} {a : Nat → Nat → Int32} {k : Nat} {g : Nat → Int32} {b : Nat → Nat → Int32} (h : wSt (upd (upd f 22 (nI (100 * k))) 23 1) a (100 * k) 81 g b) : iSt f a k g (uA b 114 (upd (b 114) k 1)) := by
  obtain ⟨h1, h2, h3, h4, h5, h6, h7⟩ := h
  exact ⟨h1, fun j p q => (uA_ne _ _ (by omega)).trans (h2 j p q), by rw [uA_eq, h3], h4, h5⟩
theorem c_X8_image_no {l : Launch} {D : va_G} {N : Nat} {adr : Nat → Nat} {G : Nat → va_E} {G0 : Nat → va_E} {f : Nat → Int32} {a : Nat → Nat → Int32} (hN : 115 ≤ N) (hM : isMF D adr G0 G f a) {x : Int32} (hb : wb x 0 1 = false) :
    CT l D yX8_image cX8_image 2 (some FieldType.int) (rl 2) [.ref (adr 103), .int x] N adr G (PE (some (.int (-2))) N adr G) := by
  refine CT.of (by decide +kernel) (Nat.le_of_ble_eq_true rfl) (fun Γ h he => ?_)
  have h : cx l D (rl 2) RX8 cX8_image 2 Γ := h
  show SX Γ 0 0 0 [(0, .ref (adr 103)), (1, .int x)] [] N adr G
  refine s_iload_n h dX8_image_0 rfl <|
    s_i2l h dX8_image_1 <|
    s_lconst h dX8_image_2 lc_0 <|
    s_lconst h dX8_image_3 lc_1 <|
    k_X8_50 h (c_X8_inw (a := 0) (b := 1) (by decide) (by decide)) rfl rfl dX8_image_4 <|
    PE.go <|
    s_if_ne (tgt := 13) h dX8_image_7 (by decide) (kt := fun qx => absurd (by rw [hb]; rfl) qx) (kf := fun _ => ?_)
  refine s_bipush h dX8_image_10 bp_m2 <|
    s_iret h he rfl dX8_image_12 ⟨Nat.le_refl _, Nat.le_refl _⟩ ?_
  exact PE.is
theorem c_X8_image_ok {l : Launch} {D : va_G} {N : Nat} {adr : Nat → Nat} {G : Nat → va_E} {G0 : Nat → va_E} {f : Nat → Int32} {a : Nat → Nat → Int32} (hN : 115 ≤ N) (hM : isMF D adr G0 G f a) {k : Nat} (hk : k < 2) :
    CT l D yX8_image cX8_image 2 (some FieldType.int) (rl 2) [.ref (adr 103), .int (nI k)] N adr G (PR (some (.int 1)) N adr (fun W => ∃ g b, isMF D adr G0 W g b ∧ iSt f a k g b)) := by
  refine CT.of (by decide +kernel) (Nat.le_of_ble_eq_true rfl) (fun Γ h he => ?_)
  have h : cx l D (rl 2) RX8 cX8_image 2 Γ := h
  show SX Γ 0 0 0 [(0, .ref (adr 103)), (1, .int (nI k))] [] N adr G
  refine s_iload_n h dX8_image_0 rfl <|
    s_i2l h dX8_image_1 <|
    s_lconst h dX8_image_2 lc_0 <|
    s_lconst h dX8_image_3 lc_1 <|
    k_X8_50 h (c_X8_inw (a := 0) (b := 1) (by decide) (by decide)) rfl rfl dX8_image_4 <|
    PE.go <|
    s_if_ne (tgt := 13) h dX8_image_7 (by decide) (kf := fun qx => absurd qx (by rw [show wb (nI k) 0 1 = true from ix_wb (ix_n hk (by decide)) (by decide) rfl]; decide)) (kt := fun _ => ?_)
  refine s_aload_n h dX8_image_13 rfl <|
    s_bipush h dX8_image_14 bp_100 <|
    s_iload_n h dX8_image_16 rfl <|
    s_imul h dX8_image_17 <|
    s_topi (nI (100 * k)) (by rw [show (100 : Int32) = nI 100 from rfl, nI_mulI]) <|
    pm_205 h dX8_image_18 hN hM <|
    fun W hM =>
    s_aload_n h dX8_image_21 rfl <|
    s_iconst h dX8_image_22 ic_1 <|
    pm_201 h dX8_image_23 hN hM (Or.inr rfl) <|
    fun W hM =>
    s_aload_n h dX8_image_26 rfl <|
    k_X8_211 h (c_X8_passAll_w (B := 100 * k) hN hM (by omega) rfl rfl) (by omega) hM.o rfl rfl dX8_image_27 (PR.go0 fun V hV => ?_)
  obtain ⟨g, b, hM, hw⟩ := hV
  refine s_aload_n h dX8_image_30 rfl <|
    gm_40 h dX8_image_31 hN hM <|
    s_iload_n h dX8_image_34 rfl <|
    s_iconst h dX8_image_35 ic_1 <|
    sm_114 h dX8_image_36 hN hM (ix_n hk (by decide)) <|
    fun W hM =>
    s_iconst h dX8_image_37 ic_1 <|
    s_iret h he rfl dX8_image_38 ⟨Nat.le_refl _, Nat.le_refl _⟩ ?_
  exact PR.is ⟨_, _, hM, iSt_of hw⟩
theorem c_X8_restore_no {l : Launch} {D : va_G} {N : Nat} {adr : Nat → Nat} {G : Nat → va_E} {G0 : Nat → va_E} {f : Nat → Int32} {a : Nat → Nat → Int32} (hN : 115 ≤ N) (hM : isMF D adr G0 G f a) {x : Int32} (hb : wb x 0 1 = false) :
    CT l D yX8_restore cX8_restore 2 (some FieldType.int) (rl 2) [.ref (adr 103), .int x] N adr G (PE (some (.int (-2))) N adr G) := by
  refine CT.of (by decide +kernel) (Nat.le_of_ble_eq_true rfl) (fun Γ h he => ?_)
  have h : cx l D (rl 2) RX8 cX8_restore 2 Γ := h
  show SX Γ 0 0 0 [(0, .ref (adr 103)), (1, .int x)] [] N adr G
  refine s_iload_n h dX8_restore_0 rfl <|
    s_i2l h dX8_restore_1 <|
    s_lconst h dX8_restore_2 lc_0 <|
    s_lconst h dX8_restore_3 lc_1 <|
    k_X8_50 h (c_X8_inw (a := 0) (b := 1) (by decide) (by decide)) rfl rfl dX8_restore_4 <|
    PE.go <|
    s_if_ne (tgt := 13) h dX8_restore_7 (by decide) (kt := fun qx => absurd (by rw [hb]; rfl) qx) (kf := fun _ => ?_)
  refine s_bipush h dX8_restore_10 bp_m2 <|
    s_iret h he rfl dX8_restore_12 ⟨Nat.le_refl _, Nat.le_refl _⟩ ?_
  exact PE.is
theorem c_X8_restore_un {l : Launch} {D : va_G} {N : Nat} {adr : Nat → Nat} {G : Nat → va_E} {G0 : Nat → va_E} {f : Nat → Int32} {a : Nat → Nat → Int32} (hN : 115 ≤ N) (hM : isMF D adr G0 G f a) {k : Nat} (hk : k < 2) (hz : a 114 k = 0) :
    CT l D yX8_restore cX8_restore 2 (some FieldType.int) (rl 2) [.ref (adr 103), .int (nI k)] N adr G (PE (some (.int (-3))) N adr G) := by
  refine CT.of (by decide +kernel) (Nat.le_of_ble_eq_true rfl) (fun Γ h he => ?_)
  have h : cx l D (rl 2) RX8 cX8_restore 2 Γ := h
  show SX Γ 0 0 0 [(0, .ref (adr 103)), (1, .int (nI k))] [] N adr G
  refine s_iload_n h dX8_restore_0 rfl <|
    s_i2l h dX8_restore_1 <|
    s_lconst h dX8_restore_2 lc_0 <|
    s_lconst h dX8_restore_3 lc_1 <|
    k_X8_50 h (c_X8_inw (a := 0) (b := 1) (by decide) (by decide)) rfl rfl dX8_restore_4 <|
    PE.go <|
    s_if_ne (tgt := 13) h dX8_restore_7 (by decide) (kf := fun qx => absurd qx (by rw [show wb (nI k) 0 1 = true from ix_wb (ix_n hk (by decide)) (by decide) rfl]; decide)) (kt := fun _ => ?_)
  refine s_aload_n h dX8_restore_13 rfl <|
    gm_40 h dX8_restore_14 hN hM <|
    s_iload_n h dX8_restore_17 rfl <|
    s_zald h dX8_restore_18 (by omega) hM.a114 (ix_n hk (by decide)) rfl <|
    s_if_ne (tgt := 25) h dX8_restore_19 (by decide) (kt := fun qx => absurd (hz) qx) (kf := fun _ => ?_)
  refine s_bipush h dX8_restore_22 bp_m3 <|
    s_iret h he rfl dX8_restore_24 ⟨Nat.le_refl _, Nat.le_refl _⟩ ?_
  exact PE.is
theorem c_X8_restore_ok {l : Launch} {D : va_G} {N : Nat} {adr : Nat → Nat} {G : Nat → va_E} {G0 : Nat → va_E} {f : Nat → Int32} {a : Nat → Nat → Int32} (hN : 115 ≤ N) (hM : isMF D adr G0 G f a) {k : Nat} (hk : k < 2) (hz : ¬ a 114 k = 0) :
    CT l D yX8_restore cX8_restore 2 (some FieldType.int) (rl 2) [.ref (adr 103), .int (nI k)] N adr G (PR (some (.int 1)) N adr (fun W => ∃ g b, isMF D adr G0 W g b ∧ rSt f a (100 * k) 81 g b)) := by
  refine CT.of (by decide +kernel) (Nat.le_of_ble_eq_true rfl) (fun Γ h he => ?_)
  have h : cx l D (rl 2) RX8 cX8_restore 2 Γ := h
  show SX Γ 0 0 0 [(0, .ref (adr 103)), (1, .int (nI k))] [] N adr G
  refine s_iload_n h dX8_restore_0 rfl <|
    s_i2l h dX8_restore_1 <|
    s_lconst h dX8_restore_2 lc_0 <|
    s_lconst h dX8_restore_3 lc_1 <|
    k_X8_50 h (c_X8_inw (a := 0) (b := 1) (by decide) (by decide)) rfl rfl dX8_restore_4 <|
    PE.go <|
    s_if_ne (tgt := 13) h dX8_restore_7 (by decide) (kf := fun qx => absurd qx (by rw [show wb (nI k) 0 1 = true from ix_wb (ix_n hk (by decide)) (by decide) rfl]; decide)) (kt := fun _ => ?_)
  refine s_aload_n h dX8_restore_13 rfl <|
    gm_40 h dX8_restore_14 hN hM <|
    s_iload_n h dX8_restore_17 rfl <|
    s_zald h dX8_restore_18 (by omega) hM.a114 (ix_n hk (by decide)) rfl <|
    s_if_ne (tgt := 25) h dX8_restore_19 (by decide) (kf := fun qx => absurd qx (hz)) (kt := fun _ => ?_)
  refine s_aload_n h dX8_restore_25 rfl <|
    s_bipush h dX8_restore_26 bp_100 <|
    s_iload_n h dX8_restore_28 rfl <|
    s_imul h dX8_restore_29 <|
    s_topi (nI (100 * k)) (by rw [show (100 : Int32) = nI 100 from rfl, nI_mulI]) <|
    pm_205 h dX8_restore_30 hN hM <|
    fun W hM =>
    s_aload_n h dX8_restore_33 rfl <|
    s_iconst h dX8_restore_34 ic_0 <|
    pm_201 h dX8_restore_35 hN hM (Or.inl rfl) <|
    fun W hM =>
    s_aload_n h dX8_restore_38 rfl <|
    k_X8_211 h (c_X8_passAll_r (B := 100 * k) hN hM (by omega) rfl rfl) (by omega) hM.o rfl rfl dX8_restore_39 (PR.go0 fun V hV => ?_)
  obtain ⟨g, b, hM, hw⟩ := hV
  refine s_iconst h dX8_restore_42 ic_1 <|
    s_iret h he rfl dX8_restore_43 ⟨Nat.le_refl _, Nat.le_refl _⟩ ?_
  exact PR.is ⟨_, _, hM, hw⟩
