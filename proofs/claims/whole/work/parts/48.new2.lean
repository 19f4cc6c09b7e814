theorem SX.to {Γ : GT} {ce sl ce2 sl2 pc N N2 : Nat} {lv : List (Nat × Value)} {st : List Value} {adr : Nat → Nat} {G : Nat → va_E} (h1 : ce = ce2) (h2 : sl = sl2) (h3 : N = N2) (k : SX Γ ce2 sl2 pc lv st N2 adr G) : SX Γ ce sl pc lv st N adr G := by
  subst h1; subst h2; subst h3; exact k
/-- the first scene: nothing is there -/
def sc0 : Nat → Nat → Int32 := fun x _ => if x = 0 then 20 else 0
def JA (D : va_G) (adr : Nat → Nat) (G : Nat → va_E) (k i : Nat) (adr2 : Nat → Nat) (G2 : Nat → va_E) : Prop :=
  (∀ j, j < k + 1 → adr2 j = adr j) ∧ (∀ j, j < k → G2 j = G j) ∧ G2 k = .inr (3, [.ref (adr2 (k + 1)), .ref (adr2 (k + 2)), .int 20]) ∧ (∃ f, G2 (k + 1) = aT D 6 f ∧ ∀ j, j < i → f j = some (adr2 (k + 3 + j))) ∧ ∀ j, j < i → G2 (k + 3 + j) = .inr (5, [.int 0, .int 0, .int 0, .int 0])
def JB (D : va_G) (k i : Nat) (adr2 : Nat → Nat) (G2 : Nat → va_E) : Prop :=
  (∃ f, G2 (k + 2) = aP D 10 f ∧ ∀ j, j < i → f j = some (adr2 (k + 9 + 2 * j))) ∧ ∀ j, j < i → isPic D adr2 G2 (k + 9 + 2 * j) 0 (fun _ => 0)
theorem isPic.mv {D : va_G} {adr adr2 : Nat → Nat} {G G2 : Nat → va_E} {k : Nat} {th : Int32} {col : Nat → Int32} (h : isPic D adr G k th col) (ea : adr2 (k + 1) = adr (k + 1)) (e0 : G2 k = G k) (e1 : G2 (k + 1) = G (k + 1)) : isPic D adr2 G2 k th col := by
  obtain ⟨a, f, b, c⟩ := h
  exact ⟨by rw [e0, ea]; exact a, f, by rw [e1]; exact b, c⟩
theorem isPic.cc {D : va_G} {adr : Nat → Nat} {G : Nat → va_E} {k : Nat} {th : Int32} {col col2 : Nat → Int32} (h : isPic D adr G k th col) (e : ∀ j, j < 6 → col j = col2 j) : isPic D adr G k th col2 := by
  obtain ⟨a, f, b, c⟩ := h
  exact ⟨a, f, b, fun j hj => (c j hj).trans (e j hj)⟩
theorem JA.mv {D : va_G} {adr : Nat → Nat} {G : Nat → va_E} {k i : Nat} {adr2 adr3 : Nat → Nat} {G2 G3 : Nat → va_E} (h : JA D adr G k i adr2 G2) (ea : ∀ j, j < k + 3 + i → adr3 j = adr2 j) (eg : ∀ j, j < k + 3 + i → j ≠ k + 2 → G3 j = G2 j) : JA D adr G k i adr3 G3 := by
  obtain ⟨a, b, c, ⟨f, d1, d2⟩, e⟩ := h
  refine ⟨fun j hj => (ea j (by omega)).trans (a j hj), fun j hj => (eg j (by omega) (by omega)).trans (b j hj), ?_, ⟨f, (eg _ (by omega) (by omega)).trans d1, fun j hj => by rw [ea _ (by omega)]; exact d2 j hj⟩, fun j hj => (eg _ (by omega) (by omega)).trans (e j hj)⟩
  rw [eg k (by omega) (by omega), ea _ (by omega), ea _ (by omega)]; exact c
theorem c_X3_init {l : Launch} {D : va_G} {N : Nat} {adr : Nat → Nat} {G : Nat → va_E} {k : Nat} (hk : N = k + 1) (hg : G k = .inr (3, [.null, .null, .int 0])) :
    CT l D yX3_init cX3_init 2 none (rc 2 28 120) [.ref (adr k)] N adr G (PN k 28 N adr G (fun adr2 G2 => isSc D adr2 G2 k sc0)) := by
  subst hk
  refine CT.of (by decide +kernel) (Nat.le_of_ble_eq_true rfl) (fun Γ h he => ?_)
  have h : cx l D (rc 2 28 120) RX3 cX3_init 2 Γ := h
  have he : ex "<init>" none (PN k 28 (k + 1) adr G (fun adr2 G2 => isSc D adr2 G2 k sc0)) 28 120 Γ := he
  show SX Γ 0 0 0 [(0, .ref (adr k))] [] (k + 1) adr G
  refine s_aload_n h dX3_init_0 rfl <|
    s_oinit h tw90 dX3_init_1 ⟨(by decide), (by decide)⟩ <|
    ?_
  refine s_aload_n h dX3_init_4 rfl <|
    s_bipush h dX3_init_5 bp_6 <|
    s_anewT (n := 6) h tw91 dX3_init_7 rfl (by decide) (by decide) (by decide) (fun adr1 ha1 => ?_)
  rw [← ha1 k (by omega)]
  refine pF_X3_11 h he dX3_init_10 (k := k) (by omega) (by rw [up_ne _ _ (by omega)]; exact hg) <|
    SX.gen (fun G1 hG1 => ?_)
  have hg1 : G1 k = .inr (3, [.ref (adr1 (k + 1)), .null, .int 0]) := by rw [hG1, up_eq]
  have hc1 : G1 (k + 1) = aT D 6 (fun _ => none) := by rw [hG1, up_ne _ _ (by omega), up_at _ _ (by omega)]
  have hb1 : ∀ j, j < k → G1 j = G j := fun j hj => by rw [hG1, up_ne _ _ (by omega), up_ne _ _ (by omega)]
  refine s_aload_n h dX3_init_13 rfl <|
    s_bipush h dX3_init_14 bp_10 <|
    s_anewP (n := 10) h tw93 dX3_init_16 rfl (by decide) (by decide) (by decide) (fun adr2 ha2 => ?_)
  rw [← ha2 k (by omega)]
  refine pF_X3_19 h he dX3_init_19 (k := k) (by omega) (by rw [up_ne _ _ (by omega)]; exact hg1) <|
    SX.gen (fun G2 hG2 => ?_)
  have hg2 : G2 k = .inr (3, [.ref (adr1 (k + 1)), .ref (adr2 (k + 2)), .int 0]) := by rw [hG2, up_eq]
  have hc2 : G2 (k + 2) = aP D 10 (fun _ => none) := by rw [hG2, up_ne _ _ (by omega), up_at _ _ (by omega)]
  have hc1 : G2 (k + 1) = aT D 6 (fun _ => none) := by rw [hG2, up_ne _ _ (by omega), up_ne _ _ (by omega)]; exact hc1
  have hb2 : ∀ j, j < k → G2 j = G j := fun j hj => by rw [hG2, up_ne _ _ (by omega), up_ne _ _ (by omega)]; exact hb1 j hj
  have hz2 : ∀ j, j < k + 1 → adr2 j = adr j := fun j hj => (ha2 j (by omega)).trans (ha1 j hj)
  refine s_aload_n h dX3_init_22 rfl <|
    s_bipush h dX3_init_23 bp_20 <|
    p_X3_23 h dX3_init_25 (k := k) (by omega) hg2 <|
    SX.gen (fun G3 hG3 => ?_)
  have j0 : JA D adr G k 0 adr2 G3 := by
    refine ⟨hz2, fun j hj => by rw [hG3, up_ne _ _ (by omega)]; exact hb2 j hj, ?_, ⟨fun _ => none, by rw [hG3, up_ne _ _ (by omega)]; exact hc1, fun j hj => absurd hj (Nat.not_lt_zero j)⟩, fun j hj => absurd hj (Nat.not_lt_zero j)⟩
    rw [hG3, up_eq, ha2 (k + 1) (by omega)]
  have p0 : G3 (k + 2) = aP D 10 (fun _ => none) := by rw [hG3, up_ne _ _ (by omega)]; exact hc2
  refine s_iconst h dX3_init_28 ic_0 <|
    s_istore_n h dX3_init_29 rfl <|
    ?_
  clear hG3 hG2 hG1 hg2 hg1 hb1 hb2 hc1 hc2 hz2 ha1 ha2
  refine SX.to rfl rfl (show k + 1 + 1 + 1 = k + 3 + 0 by omega) (SX.loc (up_ind (n := 6) (Q := fun i => ∀ adr2 G2, JA D adr G k i adr2 G2 → G2 (k + 2) = aP D 10 (fun _ => none) → SX Γ (2 + i) (16 + 4 * i) 30 [(0, .ref (adr2 k)), (1, .int (nI i))] [] (k + 3 + i) adr2 G2) ?_ ?_ 0 (Nat.zero_le _) adr2 G3 j0 p0) ⟨rfl, rfl, trivial⟩)
  · clear j0 p0
    intro adr2 G2 hJ hp
    obtain ⟨a, b, c, ⟨f, d1, d2⟩, e⟩ := id hJ
    refine s_iload_n h dX3_init_30 rfl <|
      s_aload_n h dX3_init_31 rfl <|
      g_X3_11 h dX3_init_32 (by omega) c <|
      s_alenT h dX3_init_35 (by omega) d1 rfl <|
      s_icmp_ge (tgt := 58) h dX3_init_36 (by decide) (kf := fun qx => absurd (by decide +kernel) qx) (kt := fun _ => ?_)
    refine s_iconst h dX3_init_58 ic_0 <|
      s_istore_n h dX3_init_59 rfl <|
      ?_
    have q0 : JB D k 0 adr2 G2 := ⟨⟨_, hp, fun j hj => absurd hj (Nat.not_lt_zero j)⟩, fun j hj => absurd hj (Nat.not_lt_zero j)⟩
    clear a b c d1 d2 e hp
    refine SX.to rfl rfl (show k + 3 + 6 = k + 9 + 2 * 0 by omega) (SX.loc (up_ind (n := 10) (Q := fun i => ∀ adr2 G2, JA D adr G k 6 adr2 G2 → JB D k i adr2 G2 → SX Γ (8 + 2 * i) (40 + 8 * i) 60 [(0, .ref (adr2 k)), (1, .int (nI i))] [] (k + 9 + 2 * i) adr2 G2) ?_ ?_ 0 (Nat.zero_le _) adr2 G2 hJ q0) ⟨rfl, rfl, trivial⟩)
    · clear q0 hJ
      intro adr2 G2 hJ hB
      obtain ⟨a, b, c, d, e⟩ := hJ
      obtain ⟨⟨f2, e1, e2⟩, e3⟩ := hB
      refine s_iload_n h dX3_init_60 rfl <|
        s_aload_n h dX3_init_61 rfl <|
        g_X3_19 h dX3_init_62 (by omega) c <|
        s_alenP h dX3_init_65 (by omega) e1 rfl <|
        s_icmp_ge (tgt := 88) h dX3_init_66 (by decide) (kf := fun qx => absurd (by decide +kernel) qx) (kt := fun _ => ?_)
      refine s_vret h he dX3_init_88 ⟨(by decide), (by decide)⟩ ?_
      exact ⟨rfl, by omega, a, b, ⟨c, d, e⟩, ⟨f2, e1, e2⟩, fun j hj => (e3 j hj).cc (fun q hq => by show (0 : Int32) = if 6 + j = 0 then 20 else 0; rw [if_neg (by omega)])⟩
    · clear q0 hJ
      intro i hi ih adr2 G2 hJ hB
      obtain ⟨a, b, c, d, e⟩ := id hJ
      obtain ⟨⟨f2, e1, e2⟩, e3⟩ := hB
      refine s_iload_n h dX3_init_60 rfl <|
        s_aload_n h dX3_init_61 rfl <|
        g_X3_19 h dX3_init_62 (by omega) c <|
        s_alenP h dX3_init_65 (by omega) e1 rfl <|
        s_icmp_ge (tgt := 88) h dX3_init_66 (by decide) (kt := fun qx => absurd qx (nI_ge hi (by decide))) (kf := fun _ => ?_)
      refine s_aload_n h dX3_init_69 rfl <|
        g_X3_19 h dX3_init_70 (by omega) c <|
        s_iload_n h dX3_init_73 rfl <|
        s_new (ci := 2) (fs := [.int 0, .null]) (ty0 := tyX2) h inX2 tyX2_ok rfl tw93 tw121 tw68 (fun j hj => match j, hj with | 0, _ => rfl | 1, _ => rfl) dX3_init_74 (show 8 + 2 * i + 1 ≤ 28 by omega) (show 40 + 8 * i + 2 ≤ 120 by omega) (fun adr3 ha3 => ?_)
      refine s_dup h dX3_init_77 rfl <|
        i_X3_28 h (c_X2_init (k := k + 9 + 2 * i) rfl (by rw [up_eq])) (by decide) (show 8 + 2 * i + 1 + 1 ≤ 28 ∧ 40 + 8 * i + 2 + 6 ≤ 120 by omega) rfl dX3_init_78 (PN.go (fun adr4 G4 ha4 hb4 hr4 => ?_))
      have hz : ∀ j, j < k + 9 + 2 * i → adr4 j = adr2 j := fun j hj => (ha4 j (by omega)).trans (ha3 j hj)
      have hG : ∀ j, j < k + 9 + 2 * i → G4 j = G2 j := fun j hj => (hb4 j hj).trans (up_ne _ _ (by omega))
      rw [← ha4 (k + 9 + 2 * i) (by omega), ← hz (k + 2) (by omega), ← hz k (by omega)]
      refine s_aastP h dX3_init_81 (k := k + 2) (k2 := k + 9 + 2 * i) (by omega) ((hG _ (by omega)).trans e1) (by omega) hr4.1 (ix_n hi (by decide)) <|
        SX.gen (fun G5 hG5 => ?_)
      refine s_iincR h dX3_init_82 rfl rfl ic_1 (nI_1 i) <|
        s_goto (tgt := 60) h dX3_init_85 (by decide) <|
        ?_
      have hN : ∀ j, j ≠ k + 2 → G5 j = G4 j := fun j hj => by rw [hG5, up_ne _ _ hj]
      refine SX.to (show 8 + 2 * i + 1 + 1 = 8 + 2 * (i + 1) by omega) (show 40 + 8 * i + 2 + 6 = 40 + 8 * (i + 1) by omega) (show k + 9 + 2 * i + 1 + 1 = k + 9 + 2 * (i + 1) by omega) (SX.loc (ih adr4 G5 (hJ.mv (fun j hj => hz j (by omega)) (fun j hj hne => (hN j hne).trans (hG j (by omega)))) ⟨⟨_, by rw [hG5, up_eq], fun j hj => ?_⟩, fun j hj => ?_⟩) ⟨rfl, rfl, trivial⟩)
      · by_cases z : j = i
        · subst z; rw [up_eq]
        · rw [up_ne _ _ z, hz _ (by omega)]; exact e2 j (by omega)
      · by_cases z : j = i
        · subst z; exact hr4.mv rfl (hN _ (by omega)) (hN _ (by omega))
        · exact (e3 j (by omega)).mv (hz _ (by omega)) ((hN _ (by omega)).trans (hG _ (by omega))) ((hN _ (by omega)).trans (hG _ (by omega)))
  · clear j0 p0
    intro i hi ih adr2 G2 hJ hp
    obtain ⟨a, b, c, ⟨f, d1, d2⟩, e⟩ := id hJ
    refine s_iload_n h dX3_init_30 rfl <|
      s_aload_n h dX3_init_31 rfl <|
      g_X3_11 h dX3_init_32 (by omega) c <|
      s_alenT h dX3_init_35 (by omega) d1 rfl <|
      s_icmp_ge (tgt := 58) h dX3_init_36 (by decide) (kt := fun qx => absurd qx (nI_ge hi (by decide))) (kf := fun _ => ?_)
    refine s_aload_n h dX3_init_39 rfl <|
      g_X3_11 h dX3_init_40 (by omega) c <|
      s_iload_n h dX3_init_43 rfl <|
      s_new (ci := 5) (fs := [.int 0, .int 0, .int 0, .int 0]) (ty0 := tyX6) h inX6 tyX6_ok rfl tw91 tw95 tw67 (fun j hj => match j, hj with | 0, _ => rfl | 1, _ => rfl | 2, _ => rfl | 3, _ => rfl) dX3_init_44 (show 2 + i + 1 ≤ 28 by omega) (show 16 + 4 * i + 4 ≤ 120 by omega) (fun adr3 ha3 => ?_)
    refine s_dup h dX3_init_47 rfl <|
      i_X3_27 h c_X6_init (by decide) (show 2 + i + 1 + 0 ≤ 28 ∧ 16 + 4 * i + 4 + 0 ≤ 120 by omega) rfl dX3_init_48 (PE.go0 ?_)
    rw [← ha3 (k + 1) (by omega), ← ha3 k (by omega)]
    refine s_aastT h dX3_init_51 (k := k + 1) (k2 := k + 3 + i) (by omega) ((up_ne _ _ (by omega)).trans d1) (by omega) (up_eq _ _ _) (ix_n hi (by decide)) <|
      SX.gen (fun G5 hG5 => ?_)
    refine s_iincR h dX3_init_52 rfl rfl ic_1 (nI_1 i) <|
      s_goto (tgt := 30) h dX3_init_55 (by decide) <|
      ?_
    have hN : ∀ j, j ≠ k + 1 → j < k + 3 + i → G5 j = G2 j := fun j hj h2 => by rw [hG5, up_ne _ _ hj, up_ne _ _ (by omega)]
    refine SX.to (show 2 + i + 1 + 0 = 2 + (i + 1) by omega) (show 16 + 4 * i + 4 + 0 = 16 + 4 * (i + 1) by omega) (show k + 3 + i + 1 = k + 3 + (i + 1) by omega) (SX.loc (ih adr3 G5 ⟨fun j hj => (ha3 j (by omega)).trans (a j hj), fun j hj => (hN j (by omega) (by omega)).trans (b j hj), ?_, ⟨_, by rw [hG5, up_eq], fun j hj => ?_⟩, fun j hj => ?_⟩ ((hN _ (by omega) (by omega)).trans hp)) ⟨rfl, rfl, trivial⟩)
    · rw [hN k (by omega) (by omega), ha3 _ (by omega), ha3 _ (by omega)]; exact c
    · by_cases z : j = i
      · subst z; rw [up_eq]
      · rw [up_ne _ _ z, ha3 _ (by omega)]; exact d2 j (by omega)
    · by_cases z : j = i
      · subst z; rw [hG5, up_ne _ _ (by omega), up_eq]
      · rw [hN _ (by omega) (by omega)]; exact e j (by omega)
