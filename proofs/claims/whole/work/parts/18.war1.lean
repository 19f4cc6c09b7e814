/-! ===== the whole object: cell 0, its scene 1 to 29, rows 30, 31, pad 32 to 35, matcher 36 to 38, shutter 39, 40, plates 41 to 44, images 45 to 73, 74 to 102 ===== -/
def isSW (D : va_G) (adr : Nat → Nat) (G : Nat → va_E) (sc i0 i1 : Nat → Nat → Int32) (kp : Nat → Int32) (sg : Nat → Int32) (n : Nat) : Prop :=
  G 0 = .inr (6, [.ref (adr 1), .ref (adr 30), .ref (adr 31), .ref (adr 32), .ref (adr 36), .ref (adr 39), .ref (adr 41), .ref (adr 43)]) ∧ isSc D adr G 1 sc ∧ (∃ f, G 30 = aS D 2 f ∧ f 0 = some (adr 45) ∧ f 1 = some (adr 74)) ∧ G 31 = aZ D 2 kp ∧ (∃ pa tu lf rg, isPad D adr G 32 sg (nI n) pa tu lf rg) ∧ (∃ fr mo, isMt D adr G 36 fr mo ∧ mo 0 = 0) ∧ (G 39 = .inr (4, [.ref (adr 40)]) ∧ ∃ wy, G 40 = aJ D 9 wy) ∧ (∃ th col, isPic D adr G 41 th col) ∧ (∃ th col, isPic D adr G 43 th col) ∧ isSc D adr G 45 i0 ∧ isSc D adr G 74 i1
def frW (G G2 : Nat → va_E) : Prop := ∀ j, 103 ≤ j → G2 j = G j
theorem isMt.same {D : va_G} {adr : Nat → Nat} {G G2 : Nat → va_E} {k : Nat} {fr mo : Nat → Int32} (h : isMt D adr G k fr mo) (e : ∀ j, k ≤ j → j < k + 3 → G2 j = G j) : isMt D adr G2 k fr mo :=
  ⟨by rw [e _ (by omega) (by omega)]; exact h.1, by rw [e _ (by omega) (by omega)]; exact h.2.1, by rw [e _ (by omega) (by omega)]; exact h.2.2⟩
/-- a change of the cells of one part leaves the others -/
theorem isSW.sc {D : va_G} {adr : Nat → Nat} {G G2 : Nat → va_E} {sc i0 i1 sc2 : Nat → Nat → Int32} {kp sg : Nat → Int32} {n : Nat} (h : isSW D adr G sc i0 i1 kp sg n) (hs : isSc D adr G2 1 sc2) (e : frS G G2 1 29) : isSW D adr G2 sc2 i0 i1 kp sg n := by
  obtain ⟨a, -, ⟨f, b1, b2⟩, c, ⟨pa, tu, lf, rg, hp⟩, ⟨fr, mo, hm, hm0⟩, ⟨s1, wy, s2⟩, ⟨th, col, p1⟩, ⟨th2, col2, p2⟩, j0, j1⟩ := h
  exact ⟨(e 0 (by omega)).trans a, hs, ⟨f, (e 30 (by omega)).trans b1, b2⟩, (e 31 (by omega)).trans c, ⟨pa, tu, lf, rg, hp.same (fun j h1 h2 => e j (by omega))⟩, ⟨fr, mo, hm.same (fun j h1 h2 => e j (by omega)), hm0⟩, ⟨(e 39 (by omega)).trans s1, wy, (e 40 (by omega)).trans s2⟩, ⟨th, col, p1.same (e 41 (by omega)) (e 42 (by omega))⟩, ⟨th2, col2, p2.same (e 43 (by omega)) (e 44 (by omega))⟩, j0.same (fun j h1 h2 => e j (by omega)), j1.same (fun j h1 h2 => e j (by omega))⟩
theorem isSW.pad {D : va_G} {adr : Nat → Nat} {G G2 : Nat → va_E} {sc i0 i1 : Nat → Nat → Int32} {kp sg sg2 : Nat → Int32} {n n2 : Nat} (h : isSW D adr G sc i0 i1 kp sg n) (hp : ∃ pa tu lf rg, isPad D adr G2 32 sg2 (nI n2) pa tu lf rg) (e : frP G G2 32) : isSW D adr G2 sc i0 i1 kp sg2 n2 := by
  obtain ⟨a, hs, ⟨f, b1, b2⟩, c, -, ⟨fr, mo, hm, hm0⟩, ⟨s1, wy, s2⟩, ⟨th, col, p1⟩, ⟨th2, col2, p2⟩, j0, j1⟩ := h
  exact ⟨(e 0 (by omega)).trans a, hs.same (fun j h1 h2 => e j (by omega)), ⟨f, (e 30 (by omega)).trans b1, b2⟩, (e 31 (by omega)).trans c, hp, ⟨fr, mo, hm.same (fun j h1 h2 => e j (by omega)), hm0⟩, ⟨(e 39 (by omega)).trans s1, wy, (e 40 (by omega)).trans s2⟩, ⟨th, col, p1.same (e 41 (by omega)) (e 42 (by omega))⟩, ⟨th2, col2, p2.same (e 43 (by omega)) (e 44 (by omega))⟩, j0.same (fun j h1 h2 => e j (by omega)), j1.same (fun j h1 h2 => e j (by omega))⟩
theorem isSW.mt {D : va_G} {adr : Nat → Nat} {G G2 : Nat → va_E} {sc i0 i1 : Nat → Nat → Int32} {kp sg : Nat → Int32} {n : Nat} (h : isSW D adr G sc i0 i1 kp sg n) (hm : ∃ fr mo, isMt D adr G2 36 fr mo ∧ mo 0 = 0) (e : ∀ j, (j < 36 ∨ 36 + 3 ≤ j) → G2 j = G j) : isSW D adr G2 sc i0 i1 kp sg n := by
  obtain ⟨a, hs, ⟨f, b1, b2⟩, c, ⟨pa, tu, lf, rg, hp⟩, -, ⟨s1, wy, s2⟩, ⟨th, col, p1⟩, ⟨th2, col2, p2⟩, j0, j1⟩ := h
  exact ⟨(e 0 (by omega)).trans a, hs.same (fun j h1 h2 => e j (by omega)), ⟨f, (e 30 (by omega)).trans b1, b2⟩, (e 31 (by omega)).trans c, ⟨pa, tu, lf, rg, hp.same (fun j h1 h2 => e j (by omega))⟩, hm, ⟨(e 39 (by omega)).trans s1, wy, (e 40 (by omega)).trans s2⟩, ⟨th, col, p1.same (e 41 (by omega)) (e 42 (by omega))⟩, ⟨th2, col2, p2.same (e 43 (by omega)) (e 44 (by omega))⟩, j0.same (fun j h1 h2 => e j (by omega)), j1.same (fun j h1 h2 => e j (by omega))⟩
def okT (p q d : Int32) : Bool := wb p 0 99 && (wb q (-9) 9 && wb d 1 20)
def thS (sc : Nat → Nat → Int32) (t p q d : Int32) : Nat → Nat → Int32 := if wb t 0 5 && okT p q d then upT sc t.toNatClampNeg 1 p q d else sc
def thR (sc : Nat → Nat → Int32) (t p q d : Int32) : Int32 := if wb t 0 5 then (if okT p q d then bC (tB (thS sc t p q d 1) 6) else -2) else -1
def lvS (sc : Nat → Nat → Int32) (t : Int32) : Nat → Nat → Int32 := if tE sc t then upT sc t.toNatClampNeg 0 (sc 2 t.toNatClampNeg) (sc 3 t.toNatClampNeg) (sc 4 t.toNatClampNeg) else sc
def lvR (sc : Nat → Nat → Int32) (t : Int32) : Int32 := if tE sc t then bC (tB (lvS sc t 1) 6) else -1
def foS (sc : Nat → Nat → Int32) (v : Int32) : Nat → Nat → Int32 := if wb v 1 40 then upF sc v else sc
def foR (sc : Nat → Nat → Int32) (v : Int32) : Int32 := if wb v 1 40 then sc 0 0 else -2
def okC (c m : Int32) : Bool := wb c 0 99 && wb m 0 99
def tkS (sc : Nat → Nat → Int32) (t c m : Int32) : Nat → Nat → Int32 := if wb t 0 9 && okC c m then upP sc t.toNatClampNeg 1 (sCol sc c m) else sc
def tkR (sc : Nat → Nat → Int32) (t c m : Int32) : Int32 := if wb t 0 9 then (if okC c m then shB (sCol sc c m) 6 else -2) else -1
def okR (c : Int32) : Bool := decide (c = -6) || wb c 0 60
def reS (sc : Nat → Nat → Int32) (p t c : Int32) : Nat → Nat → Int32 := if pE sc p && (wb t 0 5 && okR c) then upP sc p.toNatClampNeg (sc 5 p.toNatClampNeg) (upd (sc (6 + p.toNatClampNeg)) t.toNatClampNeg c) else sc
def reR (sc : Nat → Nat → Int32) (p t c : Int32) : Int32 := if pE sc p && wb t 0 5 then (if okR c then sc (6 + p.toNatClampNeg) t.toNatClampNeg else -2) else -1
def buS (sc : Nat → Nat → Int32) (p : Int32) : Nat → Nat → Int32 := if pE sc p then upP sc p.toNatClampNeg 0 (sc (6 + p.toNatClampNeg)) else sc
def buR (sc : Nat → Nat → Int32) (p : Int32) : Int32 := if pE sc p then bC (tB (buS sc p 5) 10) else -1
def okS (s : Int32) (n : Nat) : Bool := wb s 33 126 && decide (n < 60)
def syS (sg : Nat → Int32) (n : Nat) (s : Int32) : Nat → Int32 := if okS s n then upd sg n s else sg
def syN (n : Nat) (s : Int32) : Nat := if okS s n then n + 1 else n
def syR (n : Nat) (s : Int32) : Int32 := if wb s 33 126 then (if n < 60 then nI (n + 1) else -4) else -2

theorem c_X7_thing {l : Launch} {D : va_G} {N : Nat} {adr : Nat → Nat} {G : Nat → va_E} {sc i0 i1 : Nat → Nat → Int32} {kp sg : Nat → Int32} {n : Nat} (hN : 103 ≤ N) (hW : isSW D adr G sc i0 i1 kp sg n) {t p q d : Int32} :
    CT l D yX7_thing cX7_thing 5 (some FieldType.int) (rl 2) [.ref (adr 0), .int t, .int p, .int q, .int d] N adr G (PR (some (.int (thR sc t p q d))) N adr (fun W => isSW D adr W (thS sc t p q d) i0 i1 kp sg n ∧ frW G W)) := by
  have hS := hW.2.1
  have hT := hS.1
  have hPs := hS.2
  refine CT.of (by decide +kernel) (Nat.le_of_ble_eq_true rfl) (fun Γ h he => ?_)
  have h : cx l D (rl 2) RX7 cX7_thing 5 Γ := h
  show SX Γ 0 0 0 [(0, .ref (adr 0)), (1, .int t), (2, .int p), (3, .int q), (4, .int d)] [] N adr G
  refine s_iload_n h dX7_thing_0 rfl <|
    s_iconst h dX7_thing_1 ic_0 <|
    s_iconst h dX7_thing_2 ic_5 <|
    k_X7_55 h (c_X7_within) rfl rfl dX7_thing_3 <|
    PE.go <|
    s_if_ne (tgt := 11) h dX7_thing_6 (by decide) (fun c6 => ?_) (fun c6 => ?_)
  · refine s_iload_n h dX7_thing_11 rfl <|
      s_iconst h dX7_thing_12 ic_0 <|
      s_bipush h dX7_thing_13 bp_99 <|
      k_X7_55 h (c_X7_within) rfl rfl dX7_thing_15 <|
      PE.go <|
      s_if_eq (tgt := 43) h dX7_thing_18 (by decide) (fun c18 => ?_) (fun c18 => ?_)
    · refine s_bipush h dX7_thing_43 bp_m2 <|
        s_iret h he rfl dX7_thing_45 ⟨Nat.le_refl _, Nat.le_refl _⟩ ?_
      (try have e6 := bI_1 c6)
      (try have e6 := bI_0 c6)
      (try have e18 := bI_1 c18)
      (try have e18 := bI_0 c18)
      (try have e29 := bI_1 c29)
      (try have e29 := bI_0 c29)
      (try have e40 := bI_1 c40)
      (try have e40 := bI_0 c40)
      have hok : okT p q d = false := by simp [okT, *]
      exact PR.eq (by simp [thR, *]) ⟨by simpa [thS, *] using hW, fun j hj => rfl⟩
    · refine s_iload_n h dX7_thing_21 rfl <|
        s_bipush h dX7_thing_22 bp_m9 <|
        s_bipush h dX7_thing_24 bp_9 <|
        k_X7_55 h (c_X7_within) rfl rfl dX7_thing_26 <|
        PE.go <|
        s_if_eq (tgt := 43) h dX7_thing_29 (by decide) (fun c29 => ?_) (fun c29 => ?_)
      · refine s_bipush h dX7_thing_43 bp_m2 <|
          s_iret h he rfl dX7_thing_45 ⟨Nat.le_refl _, Nat.le_refl _⟩ ?_
        (try have e6 := bI_1 c6)
        (try have e6 := bI_0 c6)
        (try have e18 := bI_1 c18)
        (try have e18 := bI_0 c18)
        (try have e29 := bI_1 c29)
        (try have e29 := bI_0 c29)
        (try have e40 := bI_1 c40)
        (try have e40 := bI_0 c40)
        have hok : okT p q d = false := by simp [okT, *]
        exact PR.eq (by simp [thR, *]) ⟨by simpa [thS, *] using hW, fun j hj => rfl⟩
      · refine s_iload h dX7_thing_32 rfl <|
          s_iconst h dX7_thing_34 ic_1 <|
          s_bipush h dX7_thing_35 bp_20 <|
          k_X7_55 h (c_X7_within) rfl rfl dX7_thing_37 <|
          PE.go <|
          s_if_ne (tgt := 46) h dX7_thing_40 (by decide) (fun c40 => ?_) (fun c40 => ?_)
        · (try have e6 := bI_1 c6)
          (try have e6 := bI_0 c6)
          (try have e18 := bI_1 c18)
          (try have e18 := bI_0 c18)
          (try have e29 := bI_1 c29)
          (try have e29 := bI_0 c29)
          (try have e40 := bI_1 c40)
          (try have e40 := bI_0 c40)
          have hix := wb_ix (n := 5) (by decide) rfl e6
          have hok : okT p q d = true := by simp [okT, *]
          have hs : thS sc t p q d = upT sc t.toNatClampNeg 1 p q d := by simp [thS, *]
          refine s_aload_n h dX7_thing_46 rfl <|
            g_X7_10 h dX7_thing_47 (by omega) hW.1 <|
            s_iload_n h dX7_thing_50 rfl <|
            s_iload_n h dX7_thing_51 rfl <|
            s_iload_n h dX7_thing_52 rfl <|
            s_iload h dX7_thing_53 rfl <|
            k_X7_59 h (c_X3_putThing (k := 1) (by omega) hT hPs hix) (by omega) hT.1 rfl rfl dX7_thing_55 (PR.go0 fun V hV => ?_)
          have hW2 := hW.sc hV.1 hV.2
          refine s_aload_n h dX7_thing_58 rfl <|
            g_X7_10 h dX7_thing_59 (by omega) hW2.1 <|
            k_X7_63 h (c_X3_thingBits (k := 1) (by omega) hV.1.1) (by omega) hV.1.1.1 rfl rfl dX7_thing_62 <|
            PE.go <|
            k_X7_67 h (c_J6_bitCount_0f7a4) rfl rfl dX7_thing_65 <|
            PE.go <|
            s_iret h he rfl dX7_thing_68 ⟨Nat.le_refl _, Nat.le_refl _⟩ ?_
          refine PR.eq (by simp [thR, *]) ⟨by rw [hs]; exact hW2, fun j hj => hV.2 j (by omega)⟩
        · refine s_bipush h dX7_thing_43 bp_m2 <|
            s_iret h he rfl dX7_thing_45 ⟨Nat.le_refl _, Nat.le_refl _⟩ ?_
          (try have e6 := bI_1 c6)
          (try have e6 := bI_0 c6)
          (try have e18 := bI_1 c18)
          (try have e18 := bI_0 c18)
          (try have e29 := bI_1 c29)
          (try have e29 := bI_0 c29)
          (try have e40 := bI_1 c40)
          (try have e40 := bI_0 c40)
          have hok : okT p q d = false := by simp [okT, *]
          exact PR.eq (by simp [thR, *]) ⟨by simpa [thS, *] using hW, fun j hj => rfl⟩
  · refine s_iconst h dX7_thing_9 ic_m1 <|
      s_iret h he rfl dX7_thing_10 ⟨Nat.le_refl _, Nat.le_refl _⟩ ?_
    (try have e6 := bI_1 c6)
    (try have e6 := bI_0 c6)
    exact PR.eq (by simp [thR, *]) ⟨by simpa [thS, *] using hW, fun j hj => rfl⟩
theorem c_X7_leave {l : Launch} {D : va_G} {N : Nat} {adr : Nat → Nat} {G : Nat → va_E} {sc i0 i1 : Nat → Nat → Int32} {kp sg : Nat → Int32} {n : Nat} (hN : 103 ≤ N) (hW : isSW D adr G sc i0 i1 kp sg n) {t : Int32} :
    CT l D yX7_leave cX7_leave 3 (some FieldType.int) (rl 2) [.ref (adr 0), .int t] N adr G (PR (some (.int (lvR sc t))) N adr (fun W => isSW D adr W (lvS sc t) i0 i1 kp sg n ∧ frW G W)) := by
  have hS := hW.2.1
  have hT := hS.1
  have hPs := hS.2
  refine CT.of (by decide +kernel) (Nat.le_of_ble_eq_true rfl) (fun Γ h he => ?_)
  have h : cx l D (rl 2) RX7 cX7_leave 3 Γ := h
  show SX Γ 0 0 0 [(0, .ref (adr 0)), (1, .int t)] [] N adr G
  cases he1 : tE sc t
  · refine s_aload_n h dX7_leave_0 rfl <|
      g_X7_10 h dX7_leave_1 (by omega) hW.1 <|
      s_iload_n h dX7_leave_4 rfl <|
      k_X7_73 h (c_X3_thingAt_f (k := 1) (by omega) hT he1) (by omega) hT.1 rfl rfl dX7_leave_5 <|
      PE.go <|
      s_astore_nN h dX7_leave_8 rfl <|
      s_aload_nN h dX7_leave_9 rfl <|
      s_ifnonnullN h dX7_leave_10 <|
      s_iconst h dX7_leave_13 ic_m1 <|
      s_iret h he rfl dX7_leave_14 ⟨Nat.le_refl _, Nat.le_refl _⟩ ?_
    exact PR.eq (by simp [lvR, he1]) ⟨by simpa [lvS, he1] using hW, fun j hj => rfl⟩
  · obtain ⟨hix, -⟩ := tE_t he1
    have hi := hix.2.2
    refine s_aload_n h dX7_leave_0 rfl <|
      g_X7_10 h dX7_leave_1 (by omega) hW.1 <|
      s_iload_n h dX7_leave_4 rfl <|
      k_X7_73 h (c_X3_thingAt_t (k := 1) (by omega) hT he1) (by omega) hT.1 rfl rfl dX7_leave_5 <|
      PE.go <|
      s_astore_n h dX7_leave_8 rfl <|
      s_aload_n h dX7_leave_9 rfl <|
      s_ifnonnull (tgt := 15) h dX7_leave_10 (by decide) <|
      s_aload_n h dX7_leave_15 rfl <|
      s_iconst h dX7_leave_16 ic_0 <|
      p_X7_77 h dX7_leave_17 (by omega) (hT.th hi) (Or.inl rfl) <|
      ?_
    have hV := isSc_th hS hi 0 (sc 2 t.toNatClampNeg) (sc 3 t.toNatClampNeg) (sc 4 t.toNatClampNeg)
    have hfr : frS G (va_up G (1 + 3 + t.toNatClampNeg) (.inr (5, [.int 0, .int (sc 2 t.toNatClampNeg), .int (sc 3 t.toNatClampNeg), .int (sc 4 t.toNatClampNeg)]))) 1 29 := fun j hj => up_ne _ _ (by omega)
    have hW2 := hW.sc hV hfr
    refine s_aload_n h dX7_leave_20 rfl <|
      g_X7_10 h dX7_leave_21 (by omega) hW2.1 <|
      k_X7_63 h (c_X3_thingBits (k := 1) (by omega) hV.1) (by omega) hV.1.1 rfl rfl dX7_leave_24 <|
      PE.go <|
      k_X7_67 h (c_J6_bitCount_0f7a4) rfl rfl dX7_leave_27 <|
      PE.go <|
      s_iret h he rfl dX7_leave_30 ⟨Nat.le_refl _, Nat.le_refl _⟩ ?_
    exact PR.eq (by simp [lvR, lvS, he1]) ⟨by simpa [lvS, he1] using hW2, fun j hj => hfr j (by omega)⟩
theorem c_X7_focus {l : Launch} {D : va_G} {N : Nat} {adr : Nat → Nat} {G : Nat → va_E} {sc i0 i1 : Nat → Nat → Int32} {kp sg : Nat → Int32} {n : Nat} (hN : 103 ≤ N) (hW : isSW D adr G sc i0 i1 kp sg n) {v : Int32} :
    CT l D yX7_focus cX7_focus 3 (some FieldType.int) (rl 1) [.ref (adr 0), .int v] N adr G (PR (some (.int (foR sc v))) N adr (fun W => isSW D adr W (foS sc v) i0 i1 kp sg n ∧ frW G W)) := by
  have hS := hW.2.1
  have hT := hS.1
  have hPs := hS.2
  refine CT.of (by decide +kernel) (Nat.le_of_ble_eq_true rfl) (fun Γ h he => ?_)
  have h : cx l D (rl 1) RX7 cX7_focus 3 Γ := h
  show SX Γ 0 0 0 [(0, .ref (adr 0)), (1, .int v)] [] N adr G
  refine s_iload_n h dX7_focus_0 rfl <|
    s_iconst h dX7_focus_1 ic_1 <|
    s_bipush h dX7_focus_2 bp_40 <|
    k_X7_55 h (c_X7_within) rfl rfl dX7_focus_4 <|
    PE.go <|
    s_if_ne (tgt := 13) h dX7_focus_7 (by decide) (fun c7 => ?_) (fun c7 => ?_)
  · refine s_aload_n h dX7_focus_13 rfl <|
      g_X7_10 h dX7_focus_14 (by omega) hW.1 <|
      g_X7_83 h dX7_focus_17 (by omega) hT.1 <|
      s_istore_n h dX7_focus_20 rfl <|
      s_aload_n h dX7_focus_21 rfl <|
      g_X7_10 h dX7_focus_22 (by omega) hW.1 <|
      s_iload_n h dX7_focus_25 rfl <|
      p_X7_83 h dX7_focus_26 (by omega) hT.1 <|
      s_iload_n h dX7_focus_29 rfl <|
      s_iret h he rfl dX7_focus_30 ⟨Nat.le_refl _, Nat.le_refl _⟩ ?_
    (try have e7 := bI_1 c7)
    (try have e7 := bI_0 c7)
    have hfr : frS G (va_up G 1 (.inr (3, [.ref (adr (1 + 1)), .ref (adr (1 + 2)), .int v]))) 1 29 := fun j hj => up_ne _ _ (by omega)
    have hW2 := hW.sc (isSc_foc hS v) hfr
    exact PR.eq (by simp [foR, *]) ⟨by simpa [foS, *] using hW2, fun j hj => hfr j (by omega)⟩
  · refine s_bipush h dX7_focus_10 bp_m2 <|
      s_iret h he rfl dX7_focus_12 ⟨Nat.le_refl _, Nat.le_refl _⟩ ?_
    (try have e7 := bI_1 c7)
    (try have e7 := bI_0 c7)
    exact PR.eq (by simp [foR, *]) ⟨by simpa [foS, *] using hW, fun j hj => rfl⟩
theorem c_X7_take {l : Launch} {D : va_G} {N : Nat} {adr : Nat → Nat} {G : Nat → va_E} {sc i0 i1 : Nat → Nat → Int32} {kp sg : Nat → Int32} {n : Nat} (hN : 103 ≤ N) (hW : isSW D adr G sc i0 i1 kp sg n) (hwf : wfT sc) {t c m : Int32} :
    CT l D yX7_take cX7_take 4 (some FieldType.int) (rl 5) [.ref (adr 0), .int t, .int c, .int m] N adr G (PR (some (.int (tkR sc t c m))) N adr (fun W => isSW D adr W (tkS sc t c m) i0 i1 kp sg n ∧ frW G W)) := by
  have hS := hW.2.1
  have hT := hS.1
  have hPs := hS.2
  refine CT.of (by decide +kernel) (Nat.le_of_ble_eq_true rfl) (fun Γ h he => ?_)
  have h : cx l D (rl 5) RX7 cX7_take 4 Γ := h
  show SX Γ 0 0 0 [(0, .ref (adr 0)), (1, .int t), (2, .int c), (3, .int m)] [] N adr G
  refine s_iload_n h dX7_take_0 rfl <|
    s_iconst h dX7_take_1 ic_0 <|
    s_bipush h dX7_take_2 bp_9 <|
    k_X7_55 h (c_X7_within) rfl rfl dX7_take_4 <|
    PE.go <|
    s_if_ne (tgt := 12) h dX7_take_7 (by decide) (fun c7 => ?_) (fun c7 => ?_)
  · refine s_iload_n h dX7_take_12 rfl <|
      k_X7_87 h (c_X7_isStand) rfl rfl dX7_take_13 <|
      PE.go <|
      s_if_eq (tgt := 26) h dX7_take_16 (by decide) (fun c16 => ?_) (fun c16 => ?_)
    · refine s_bipush h dX7_take_26 bp_m2 <|
        s_iret h he rfl dX7_take_28 ⟨Nat.le_refl _, Nat.le_refl _⟩ ?_
      (try have e7 := bI_1 c7)
      (try have e7 := bI_0 c7)
      (try have e16 := bI_1 c16)
      (try have e16 := bI_0 c16)
      (try have e23 := bI_1 c23)
      (try have e23 := bI_0 c23)
      have hok : okC c m = false := by simp [okC, *]
      exact PR.eq (by simp [tkR, *]) ⟨by simpa [tkS, *] using hW, fun j hj => rfl⟩
    · refine s_iload_n h dX7_take_19 rfl <|
        k_X7_91 h (c_X7_isMinute) rfl rfl dX7_take_20 <|
        PE.go <|
        s_if_ne (tgt := 29) h dX7_take_23 (by decide) (fun c23 => ?_) (fun c23 => ?_)
      · (try have e7 := bI_1 c7)
        (try have e7 := bI_0 c7)
        (try have e16 := bI_1 c16)
        (try have e16 := bI_0 c16)
        (try have e23 := bI_1 c23)
        (try have e23 := bI_0 c23)
        have hix := wb_ix (n := 9) (by decide) rfl e7
        refine s_aload_n h dX7_take_29 rfl <|
          g_X7_10 h dX7_take_30 (by omega) hW.1 <|
          s_iload_n h dX7_take_33 rfl <|
          s_iload_n h dX7_take_34 rfl <|
          s_iload_n h dX7_take_35 rfl <|
          k_X7_94 h (c_X3_takePicture (k := 1) (by omega) hT hPs hwf hix) (by omega) hT.1 rfl rfl dX7_take_36 (PR.go fun V hV => ?_)
        refine s_iret h he rfl dX7_take_39 ⟨Nat.le_refl _, Nat.le_refl _⟩ ?_
        have hok : okC c m = true := by simp [okC, *]
        have hW2 := hW.sc hV.1 hV.2
        exact PR.eq (by simp [tkR, *]) ⟨by simpa [tkS, *] using hW2, fun j hj => hV.2 j (by omega)⟩
      · refine s_bipush h dX7_take_26 bp_m2 <|
          s_iret h he rfl dX7_take_28 ⟨Nat.le_refl _, Nat.le_refl _⟩ ?_
        (try have e7 := bI_1 c7)
        (try have e7 := bI_0 c7)
        (try have e16 := bI_1 c16)
        (try have e16 := bI_0 c16)
        (try have e23 := bI_1 c23)
        (try have e23 := bI_0 c23)
        have hok : okC c m = false := by simp [okC, *]
        exact PR.eq (by simp [tkR, *]) ⟨by simpa [tkS, *] using hW, fun j hj => rfl⟩
  · refine s_iconst h dX7_take_10 ic_m1 <|
      s_iret h he rfl dX7_take_11 ⟨Nat.le_refl _, Nat.le_refl _⟩ ?_
    (try have e7 := bI_1 c7)
    (try have e7 := bI_0 c7)
    exact PR.eq (by simp [tkR, *]) ⟨by simpa [tkS, *] using hW, fun j hj => rfl⟩
theorem c_X7_retouch {l : Launch} {D : va_G} {N : Nat} {adr : Nat → Nat} {G : Nat → va_E} {sc i0 i1 : Nat → Nat → Int32} {kp sg : Nat → Int32} {n : Nat} (hN : 103 ≤ N) (hW : isSW D adr G sc i0 i1 kp sg n) {p t c : Int32} :
    CT l D yX7_retouch cX7_retouch 6 (some FieldType.int) (rl 2) [.ref (adr 0), .int p, .int t, .int c] N adr G (PR (some (.int (reR sc p t c))) N adr (fun W => isSW D adr W (reS sc p t c) i0 i1 kp sg n ∧ frW G W)) := by
  have hS := hW.2.1
  have hT := hS.1
  have hPs := hS.2
  refine CT.of (by decide +kernel) (Nat.le_of_ble_eq_true rfl) (fun Γ h he => ?_)
  have h : cx l D (rl 2) RX7 cX7_retouch 6 Γ := h
  show SX Γ 0 0 0 [(0, .ref (adr 0)), (1, .int p), (2, .int t), (3, .int c)] [] N adr G
  cases he1 : pE sc p
  · refine s_aload_n h dX7_retouch_0 rfl <|
      g_X7_10 h dX7_retouch_1 (by omega) hW.1 <|
      s_iload_n h dX7_retouch_4 rfl <|
      k_X7_98 h (c_X3_pictureAt_f (k := 1) (by omega) hT hPs he1) (by omega) hT.1 rfl rfl dX7_retouch_5 <|
      PE.go <|
      s_astoreN h dX7_retouch_8 rfl <|
      s_aloadN h dX7_retouch_10 rfl <|
      s_ifnullN (tgt := 24) h dX7_retouch_12 (by decide) <|
      s_iconst h dX7_retouch_24 ic_m1 <|
      s_iret h he rfl dX7_retouch_25 ⟨Nat.le_refl _, Nat.le_refl _⟩ ?_
    exact PR.eq (by simp [reR, he1]) ⟨by simpa [reS, he1] using hW, fun j hj => rfl⟩
  · obtain ⟨hix, -⟩ := pE_t he1
    have hi := hix.2.2
    obtain ⟨hp0, fc, hp1, hp2⟩ := hPs.2 _ hi
    refine s_aload_n h dX7_retouch_0 rfl <|
      g_X7_10 h dX7_retouch_1 (by omega) hW.1 <|
      s_iload_n h dX7_retouch_4 rfl <|
      k_X7_98 h (c_X3_pictureAt_t (k := 1) (by omega) hT hPs he1) (by omega) hT.1 rfl rfl dX7_retouch_5 <|
      PE.go <|
      s_astore h dX7_retouch_8 rfl <|
      s_aload h dX7_retouch_10 rfl <|
      s_ifnull h dX7_retouch_12 <|
      s_iload_n h dX7_retouch_15 rfl <|
      s_iconst h dX7_retouch_16 ic_0 <|
      s_iconst h dX7_retouch_17 ic_5 <|
      k_X7_55 h (c_X7_within) rfl rfl dX7_retouch_18 <|
      PE.go <|
      s_if_ne (tgt := 26) h dX7_retouch_21 (by decide) (fun c21 => ?_) (fun c21 => ?_)
    · (try have e21 := bI_1 c21)
      (try have e21 := bI_0 c21)
      have hixt := wb_ix (n := 5) (by decide) rfl e21
      refine s_iload_n h dX7_retouch_26 rfl <|
        s_bipush h dX7_retouch_27 bp_m6 <|
        s_icmp_eq (tgt := 45) h dX7_retouch_29 (by decide) (fun c29 => ?_) (fun c29 => ?_)
      · refine s_aload h dX7_retouch_45 rfl <|
          s_iload_n h dX7_retouch_47 rfl <|
          k_X7_102 h (c_X2_columnOf (k := 1 + 9 + 2 * p.toNatClampNeg) (by omega) hp0 hp1 hixt) (by omega) hp0 rfl rfl dX7_retouch_48 <|
          PE.go <|
          s_istore h dX7_retouch_51 rfl <|
          s_aload h dX7_retouch_53 rfl <|
          s_iload_n h dX7_retouch_55 rfl <|
          s_iload_n h dX7_retouch_56 rfl <|
          k_X7_105 h (c_X2_putColumn (k := 1 + 9 + 2 * p.toNatClampNeg) (by omega) hp0 hp1 hixt) (by omega) hp0 rfl rfl dX7_retouch_57 <|
          PE.go0 <|
          s_iload h dX7_retouch_60 rfl <|
          s_iret h he rfl dX7_retouch_62 ⟨Nat.le_refl _, Nat.le_refl _⟩ ?_
        (try have e21 := bI_1 c21)
        (try have e21 := bI_0 c21)
        (try have e39 := bI_1 c39)
        (try have e39 := bI_0 c39)
        have hok : okR c = true := by simp [okR, *]
        have hfr : frS G (va_up G (1 + 9 + 2 * p.toNatClampNeg + 1) (aI D 6 (upd fc t.toNatClampNeg c))) 1 29 := fun j hj => up_ne _ _ (by omega)
        have hV := isSc_pic (G2 := (va_up G (1 + 9 + 2 * p.toNatClampNeg + 1) (aI D 6 (upd fc t.toNatClampNeg c)))) hS hi (th := sc 5 p.toNatClampNeg) (g := upd (sc (6 + p.toNatClampNeg)) t.toNatClampNeg c) ⟨(up_ne _ _ (by omega)).trans hp0, _, up_eq _ _ _, fun j hj => by simp only [upd]; split <;> first | rfl | exact hp2 j hj⟩ (fun j q1 q2 => up_ne _ _ q2)
        have hW2 := hW.sc hV hfr
        exact PR.eq (by rw [hp2 _ hixt.2.2]; simp [reR, he1, e21, hok]) ⟨by simpa [reS, he1, e21, hok] using hW2, fun j hj => hfr j (by omega)⟩
      · refine s_iload_n h dX7_retouch_32 rfl <|
          s_iconst h dX7_retouch_33 ic_0 <|
          s_bipush h dX7_retouch_34 bp_60 <|
          k_X7_55 h (c_X7_within) rfl rfl dX7_retouch_36 <|
          PE.go <|
          s_if_ne (tgt := 45) h dX7_retouch_39 (by decide) (fun c39 => ?_) (fun c39 => ?_)
        · refine s_aload h dX7_retouch_45 rfl <|
            s_iload_n h dX7_retouch_47 rfl <|
            k_X7_102 h (c_X2_columnOf (k := 1 + 9 + 2 * p.toNatClampNeg) (by omega) hp0 hp1 hixt) (by omega) hp0 rfl rfl dX7_retouch_48 <|
            PE.go <|
            s_istore h dX7_retouch_51 rfl <|
            s_aload h dX7_retouch_53 rfl <|
            s_iload_n h dX7_retouch_55 rfl <|
            s_iload_n h dX7_retouch_56 rfl <|
            k_X7_105 h (c_X2_putColumn (k := 1 + 9 + 2 * p.toNatClampNeg) (by omega) hp0 hp1 hixt) (by omega) hp0 rfl rfl dX7_retouch_57 <|
            PE.go0 <|
            s_iload h dX7_retouch_60 rfl <|
            s_iret h he rfl dX7_retouch_62 ⟨Nat.le_refl _, Nat.le_refl _⟩ ?_
          (try have e21 := bI_1 c21)
          (try have e21 := bI_0 c21)
          (try have e39 := bI_1 c39)
          (try have e39 := bI_0 c39)
          have hok : okR c = true := by simp [okR, *]
          have hfr : frS G (va_up G (1 + 9 + 2 * p.toNatClampNeg + 1) (aI D 6 (upd fc t.toNatClampNeg c))) 1 29 := fun j hj => up_ne _ _ (by omega)
          have hV := isSc_pic (G2 := (va_up G (1 + 9 + 2 * p.toNatClampNeg + 1) (aI D 6 (upd fc t.toNatClampNeg c)))) hS hi (th := sc 5 p.toNatClampNeg) (g := upd (sc (6 + p.toNatClampNeg)) t.toNatClampNeg c) ⟨(up_ne _ _ (by omega)).trans hp0, _, up_eq _ _ _, fun j hj => by simp only [upd]; split <;> first | rfl | exact hp2 j hj⟩ (fun j q1 q2 => up_ne _ _ q2)
          have hW2 := hW.sc hV hfr
          exact PR.eq (by rw [hp2 _ hixt.2.2]; simp [reR, he1, e21, hok]) ⟨by simpa [reS, he1, e21, hok] using hW2, fun j hj => hfr j (by omega)⟩
        · refine s_bipush h dX7_retouch_42 bp_m2 <|
            s_iret h he rfl dX7_retouch_44 ⟨Nat.le_refl _, Nat.le_refl _⟩ ?_
          (try have e21 := bI_1 c21)
          (try have e21 := bI_0 c21)
          (try have e39 := bI_1 c39)
          (try have e39 := bI_0 c39)
          have hok : okR c = false := by simp [okR, *]
          exact PR.eq (by simp [reR, *]) ⟨by simpa [reS, *] using hW, fun j hj => rfl⟩
    · refine s_iconst h dX7_retouch_24 ic_m1 <|
        s_iret h he rfl dX7_retouch_25 ⟨Nat.le_refl _, Nat.le_refl _⟩ ?_
      (try have e21 := bI_1 c21)
      (try have e21 := bI_0 c21)
      exact PR.eq (by simp [reR, *]) ⟨by simpa [reS, *] using hW, fun j hj => rfl⟩
theorem c_X7_burn {l : Launch} {D : va_G} {N : Nat} {adr : Nat → Nat} {G : Nat → va_E} {sc i0 i1 : Nat → Nat → Int32} {kp sg : Nat → Int32} {n : Nat} (hN : 103 ≤ N) (hW : isSW D adr G sc i0 i1 kp sg n) {p : Int32} :
    CT l D yX7_burn cX7_burn 3 (some FieldType.int) (rl 2) [.ref (adr 0), .int p] N adr G (PR (some (.int (buR sc p))) N adr (fun W => isSW D adr W (buS sc p) i0 i1 kp sg n ∧ frW G W)) := by
  have hS := hW.2.1
  have hT := hS.1
  have hPs := hS.2
  refine CT.of (by decide +kernel) (Nat.le_of_ble_eq_true rfl) (fun Γ h he => ?_)
  have h : cx l D (rl 2) RX7 cX7_burn 3 Γ := h
  show SX Γ 0 0 0 [(0, .ref (adr 0)), (1, .int p)] [] N adr G
  cases he1 : pE sc p
  · refine s_aload_n h dX7_burn_0 rfl <|
      g_X7_10 h dX7_burn_1 (by omega) hW.1 <|
      s_iload_n h dX7_burn_4 rfl <|
      k_X7_98 h (c_X3_pictureAt_f (k := 1) (by omega) hT hPs he1) (by omega) hT.1 rfl rfl dX7_burn_5 <|
      PE.go <|
      s_astore_nN h dX7_burn_8 rfl <|
      s_aload_nN h dX7_burn_9 rfl <|
      s_ifnonnullN h dX7_burn_10 <|
      s_iconst h dX7_burn_13 ic_m1 <|
      s_iret h he rfl dX7_burn_14 ⟨Nat.le_refl _, Nat.le_refl _⟩ ?_
    exact PR.eq (by simp [buR, he1]) ⟨by simpa [buS, he1] using hW, fun j hj => rfl⟩
  · obtain ⟨hix, -⟩ := pE_t he1
    have hi := hix.2.2
    obtain ⟨hp0, fc, hp1, hp2⟩ := hPs.2 _ hi
    refine s_aload_n h dX7_burn_0 rfl <|
      g_X7_10 h dX7_burn_1 (by omega) hW.1 <|
      s_iload_n h dX7_burn_4 rfl <|
      k_X7_98 h (c_X3_pictureAt_t (k := 1) (by omega) hT hPs he1) (by omega) hT.1 rfl rfl dX7_burn_5 <|
      PE.go <|
      s_astore_n h dX7_burn_8 rfl <|
      s_aload_n h dX7_burn_9 rfl <|
      s_ifnonnull (tgt := 15) h dX7_burn_10 (by decide) <|
      s_aload_n h dX7_burn_15 rfl <|
      s_iconst h dX7_burn_16 ic_0 <|
      p_X7_109 h dX7_burn_17 (by omega) hp0 (Or.inl rfl) <|
      ?_
    have hV := isSc_pic (G2 := (va_up G (1 + 9 + 2 * p.toNatClampNeg) (.inr (2, [.int 0, .ref (adr (1 + 9 + 2 * p.toNatClampNeg + 1))])))) hS hi (th := 0) (g := sc (6 + p.toNatClampNeg)) ⟨up_eq _ _ _, _, (up_ne _ _ (by omega)).trans hp1, hp2⟩ (fun j q1 q2 => up_ne _ _ q1)
    have hfr : frS G (va_up G (1 + 9 + 2 * p.toNatClampNeg) (.inr (2, [.int 0, .ref (adr (1 + 9 + 2 * p.toNatClampNeg + 1))]))) 1 29 := fun j hj => up_ne _ _ (by omega)
    have hW2 := hW.sc hV hfr
    refine s_aload_n h dX7_burn_20 rfl <|
      g_X7_10 h dX7_burn_21 (by omega) hW2.1 <|
      k_X7_110 h (c_X3_pictureBits (k := 1) (by omega) hV.1 hV.2) (by omega) hV.1.1 rfl rfl dX7_burn_24 <|
      PE.go <|
      k_X7_67 h (c_J6_bitCount_0f7a4) rfl rfl dX7_burn_27 <|
      PE.go <|
      s_iret h he rfl dX7_burn_30 ⟨Nat.le_refl _, Nat.le_refl _⟩ ?_
    exact PR.eq (by simp [buR, buS, he1]) ⟨by simpa [buS, he1] using hW2, fun j hj => hfr j (by omega)⟩
theorem c_X7_say {l : Launch} {D : va_G} {N : Nat} {adr : Nat → Nat} {G : Nat → va_E} {sc i0 i1 : Nat → Nat → Int32} {kp sg : Nat → Int32} {n : Nat} (hN : 103 ≤ N) (hW : isSW D adr G sc i0 i1 kp sg n) (hn60 : n ≤ 60) {s : Int32} :
    CT l D yX7_say cX7_say 2 (some FieldType.int) (rl 2) [.ref (adr 0), .int s] N adr G (PR (some (.int (syR n s))) N adr (fun W => isSW D adr W sc i0 i1 kp (syS sg n s) (syN n s) ∧ frW G W)) := by
  obtain ⟨pa, tu, lf, rg, hp⟩ := hW.2.2.2.2.1
  refine CT.of (by decide +kernel) (Nat.le_of_ble_eq_true rfl) (fun Γ h he => ?_)
  have h : cx l D (rl 2) RX7 cX7_say 2 Γ := h
  show SX Γ 0 0 0 [(0, .ref (adr 0)), (1, .int s)] [] N adr G
  by_cases hn : n < 60
  · refine s_iload_n h dX7_say_0 rfl <|
      s_bipush h dX7_say_1 bp_33 <|
      s_bipush h dX7_say_3 bp_126 <|
      k_X7_55 h (c_X7_within) rfl rfl dX7_say_5 <|
      PE.go <|
      s_if_ne (tgt := 14) h dX7_say_8 (by decide) (fun c8 => ?_) (fun c8 => ?_)
    · have e8 := bI_1 c8
      refine s_aload_n h dX7_say_14 rfl <|
        g_X7_27 h dX7_say_15 (by omega) hW.1 <|
        s_iload_n h dX7_say_18 rfl <|
        k_X7_113 h (c_X1_addSign_t (k := 32) (by omega) hp hn) (by omega) hp.1 rfl rfl dX7_say_19 (PR.go fun V hV => ?_)
      have hW2 := hW.pad ⟨_, _, _, _, hV.1⟩ hV.2
      refine s_if_eq (tgt := 35) h dX7_say_22 (by decide) (kt := fun qx => absurd qx (by decide)) (kf := fun _ => ?_)
      refine s_aload_n h dX7_say_25 rfl <|
        g_X7_27 h dX7_say_26 (by omega) hW2.1 <|
        g_X7_116 h dX7_say_29 (by omega) hV.1.1 <|
        s_goto (tgt := 37) h dX7_say_32 (by decide) <|
        s_iret h he rfl dX7_say_37 ⟨Nat.le_refl _, Nat.le_refl _⟩ ?_
      (try have e8 := bI_1 c8)
      (try have e8 := bI_0 c8)
      have hok : okS s n = true := by simp [okS, *]
      exact PR.eq (by simp [syR, *]) ⟨by simpa [syS, syN, *] using hW2, fun j hj => hV.2 j (by omega)⟩
    · refine s_bipush h dX7_say_11 bp_m2 <|
        s_iret h he rfl dX7_say_13 ⟨Nat.le_refl _, Nat.le_refl _⟩ ?_
      (try have e8 := bI_1 c8)
      (try have e8 := bI_0 c8)
      have hok : okS s n = false := by simp [okS, *]
      exact PR.eq (by simp [syR, *]) ⟨by simpa [syS, syN, *] using hW, fun j hj => rfl⟩
  · have hn2 : n = 60 := by omega
    subst hn2
    refine s_iload_n h dX7_say_0 rfl <|
      s_bipush h dX7_say_1 bp_33 <|
      s_bipush h dX7_say_3 bp_126 <|
      k_X7_55 h (c_X7_within) rfl rfl dX7_say_5 <|
      PE.go <|
      s_if_ne (tgt := 14) h dX7_say_8 (by decide) (fun c8 => ?_) (fun c8 => ?_)
    · refine s_aload_n h dX7_say_14 rfl <|
        g_X7_27 h dX7_say_15 (by omega) hW.1 <|
        s_iload_n h dX7_say_18 rfl <|
        k_X7_113 h (c_X1_addSign_f (k := 32) (by omega) hp) (by omega) hp.1 rfl rfl dX7_say_19 <|
        PE.go <|
        s_if_eq (tgt := 35) h dX7_say_22 (by decide) (kf := fun qx => absurd (rfl) qx) (kt := fun _ => ?_)
      refine s_bipush h dX7_say_35 bp_m4 <|
        s_iret h he rfl dX7_say_37 ⟨Nat.le_refl _, Nat.le_refl _⟩ ?_
      (try have e8 := bI_1 c8)
      (try have e8 := bI_0 c8)
      have hok : okS s 60 = false := by simp [okS]
      exact PR.eq (by simp [syR, *]) ⟨by simpa [syS, syN, *] using hW, fun j hj => rfl⟩
    · refine s_bipush h dX7_say_11 bp_m2 <|
        s_iret h he rfl dX7_say_13 ⟨Nat.le_refl _, Nat.le_refl _⟩ ?_
      (try have e8 := bI_1 c8)
      (try have e8 := bI_0 c8)
      have hok : okS s 60 = false := by simp [okS, *]
      exact PR.eq (by simp [syR, *]) ⟨by simpa [syS, syN, *] using hW, fun j hj => rfl⟩
theorem c_X7_wipe {l : Launch} {D : va_G} {N : Nat} {adr : Nat → Nat} {G : Nat → va_E} {sc i0 i1 : Nat → Nat → Int32} {kp sg : Nat → Int32} {n : Nat} (hN : 103 ≤ N) (hW : isSW D adr G sc i0 i1 kp sg n) :
    CT l D yX7_wipe cX7_wipe 2 (some FieldType.int) (rl 0) [.ref (adr 0)] N adr G (PR (some (.int (nI n))) N adr (fun W => isSW D adr W sc i0 i1 kp sg 0 ∧ frW G W)) := by
  obtain ⟨pa, tu, lf, rg, hp⟩ := hW.2.2.2.2.1
  refine CT.of (by decide +kernel) (Nat.le_of_ble_eq_true rfl) (fun Γ h he => ?_)
  have h : cx l D (rl 0) RX7 cX7_wipe 2 Γ := h
  show SX Γ 0 0 0 [(0, .ref (adr 0))] [] N adr G
  refine s_aload_n h dX7_wipe_0 rfl <|
    g_X7_27 h dX7_wipe_1 (by omega) hW.1 <|
    g_X7_116 h dX7_wipe_4 (by omega) hp.1 <|
    s_istore_n h dX7_wipe_7 rfl <|
    s_aload_n h dX7_wipe_8 rfl <|
    g_X7_27 h dX7_wipe_9 (by omega) hW.1 <|
    s_iconst h dX7_wipe_12 ic_0 <|
    p_X7_116 h dX7_wipe_13 (by omega) hp.1 <|
    s_iload_n h dX7_wipe_16 rfl <|
    s_iret h he rfl dX7_wipe_17 ⟨Nat.le_refl _, Nat.le_refl _⟩ ?_
  have hfr : frP G (va_up G 32 (.inr (1, [.ref (adr (32 + 1)), .int 0, .ref (adr (32 + 2)), .ref (adr (32 + 3)), .int pa, .int tu]))) 32 := fun j hj => up_ne _ _ (by omega)
  exact PR.is ⟨hW.pad ⟨pa, tu, lf, rg, up_eq _ _ _, (up_ne _ _ (by omega)).trans hp.2.1, (up_ne _ _ (by omega)).trans hp.2.2.1, (up_ne _ _ (by omega)).trans hp.2.2.2⟩ hfr, fun j hj => hfr j (by omega)⟩
theorem c_X7_fault {l : Launch} {D : va_G} {N : Nat} {adr : Nat → Nat} {G : Nat → va_E} {sc i0 i1 : Nat → Nat → Int32} {kp sg : Nat → Int32} {n : Nat} (hN : 103 ≤ N) (hW : isSW D adr G sc i0 i1 kp sg n) (hn60 : n ≤ 60) :
    CT l D yX7_fault cX7_fault 1 (some FieldType.int) (rl 3) [.ref (adr 0)] N adr G (PR (some (.int (rdR sg n))) N adr (fun W => isSW D adr W (sc) i0 i1 kp sg n ∧ frW G W)) := by
  obtain ⟨pa, tu, lf, rg, hp⟩ := hW.2.2.2.2.1
  refine CT.of (by decide +kernel) (Nat.le_of_ble_eq_true rfl) (fun Γ h he => ?_)
  have h : cx l D (rl 3) RX7 cX7_fault 1 Γ := h
  show SX Γ 0 0 0 [(0, .ref (adr 0))] [] N adr G
  refine s_aload_n h dX7_fault_0 rfl <|
    g_X7_27 h dX7_fault_1 (by omega) hW.1 <|
    k_X7_119 h (c_X1_read (k := 32) (by omega) hp hn60) (by omega) hp.1 rfl rfl dX7_fault_4 (PR.go fun V hV => ?_)
  obtain ⟨lf2, rg2, pa2, tu2, hp2, hfr, -⟩ := hV
  refine s_iret h he rfl dX7_fault_7 ⟨Nat.le_refl _, Nat.le_refl _⟩ ?_
  exact PR.is ⟨hW.pad ⟨_, _, _, _, hp2⟩ hfr, fun j hj => hfr j (by omega)⟩
theorem c_X7_kind {l : Launch} {D : va_G} {N : Nat} {adr : Nat → Nat} {G : Nat → va_E} {sc i0 i1 : Nat → Nat → Int32} {kp sg : Nat → Int32} {n : Nat} (hN : 103 ≤ N) (hW : isSW D adr G sc i0 i1 kp sg n) {a b : Int32} :
    CT l D yX7_kind cX7_kind 3 (some FieldType.int) (rl 5) [.ref (adr 0), .int a, .int b] N adr G (PE (some (.int (kP sc a b))) N adr G) := by
  have hS := hW.2.1
  have hT := hS.1
  have hPs := hS.2
  refine CT.of (by decide +kernel) (Nat.le_of_ble_eq_true rfl) (fun Γ h he => ?_)
  have h : cx l D (rl 5) RX7 cX7_kind 3 Γ := h
  show SX Γ 0 0 0 [(0, .ref (adr 0)), (1, .int a), (2, .int b)] [] N adr G
  refine s_aload_n h dX7_kind_0 rfl <|
    g_X7_10 h dX7_kind_1 (by omega) hW.1 <|
    s_iload_n h dX7_kind_4 rfl <|
    s_iload_n h dX7_kind_5 rfl <|
    k_X7_142 h (c_X3_kindOfPair (k := 1) (by omega) hT hPs) (by omega) hT.1 rfl rfl dX7_kind_6 <|
    PE.go <|
    s_iret h he rfl dX7_kind_9 ⟨Nat.le_refl _, Nat.le_refl _⟩ ?_
  exact PE.is
def okP (sc : Nat → Nat → Int32) (a b : Int32) : Bool := pE sc a && (pE sc b && !decide (a = b))
def cA (sc : Nat → Nat → Int32) (a : Int32) : Nat → Int32 := sc (6 + a.toNatClampNeg)
def sfR (sc : Nat → Nat → Int32) (a b t : Int32) : Int32 := if okP sc a b && wb t 0 5 then (if shb (cA sc a) (cA sc b) t.toNatClampNeg then cA sc a t.toNatClampNeg - cA sc b t.toNatClampNeg + 100 else -3) else -1
def neR (sc : Nat → Nat → Int32) (a b i : Int32) : Int32 := if okP sc a b then (if i = -1 then bC (shB (cA sc a) 6 &&& shB (cA sc b) 6) else oI (ffO (nWp (cA sc a) (cA sc b) i) 6)) else -1
theorem c_X7_shift {l : Launch} {D : va_G} {N : Nat} {adr : Nat → Nat} {G : Nat → va_E} {sc i0 i1 : Nat → Nat → Int32} {kp sg : Nat → Int32} {n : Nat} (hN : 103 ≤ N) (hW : isSW D adr G sc i0 i1 kp sg n) {a b t : Int32} :
    CT l D yX7_shift cX7_shift 6 (some FieldType.int) (rl 3) [.ref (adr 0), .int a, .int b, .int t] N adr G (PE (some (.int (sfR sc a b t))) N adr G) := by
  have hS := hW.2.1
  have hT := hS.1
  have hPs := hS.2
  refine CT.of (by decide +kernel) (Nat.le_of_ble_eq_true rfl) (fun Γ h he => ?_)
  have h : cx l D (rl 3) RX7 cX7_shift 6 Γ := h
  show SX Γ 0 0 0 [(0, .ref (adr 0)), (1, .int a), (2, .int b), (3, .int t)] [] N adr G
  cases ha : pE sc a
  · refine s_aload_n h dX7_shift_0 rfl <|
      g_X7_10 h dX7_shift_1 (by omega) hW.1 <|
      s_iload_n h dX7_shift_4 rfl <|
      k_X7_98 h (c_X3_pictureAt_f (k := 1) (by omega) hT hPs ha) (by omega) hT.1 rfl rfl dX7_shift_5 <|
      PE.go <|
      s_astoreN h dX7_shift_8 rfl <|
      s_aload_n h dX7_shift_10 rfl <|
      g_X7_10 h dX7_shift_11 (by omega) hW.1 <|
      s_iload_n h dX7_shift_14 rfl <|
      ?_
    cases hb : pE sc b
    · refine k_X7_98 h (c_X3_pictureAt_f (k := 1) (by omega) hT hPs hb) (by omega) hT.1 rfl rfl dX7_shift_15 <|
        PE.go <|
        s_astoreN h dX7_shift_18 rfl <|
        s_aloadN h dX7_shift_20 rfl <|
        s_ifnullN (tgt := 44) h dX7_shift_22 (by decide) <|
        s_iconst h dX7_shift_44 ic_m1 <|
        s_iret h he rfl dX7_shift_45 ⟨Nat.le_refl _, Nat.le_refl _⟩ ?_
      (try have e41 := bI_1 c41)
      (try have e41 := bI_0 c41)
      exact PE.eq (by simp [sfR, okP, *]) rfl
    · refine k_X7_98 h (c_X3_pictureAt_t (k := 1) (by omega) hT hPs hb) (by omega) hT.1 rfl rfl dX7_shift_15 <|
        PE.go <|
        s_astore h dX7_shift_18 rfl <|
        s_aloadN h dX7_shift_20 rfl <|
        s_ifnullN (tgt := 44) h dX7_shift_22 (by decide) <|
        s_iconst h dX7_shift_44 ic_m1 <|
        s_iret h he rfl dX7_shift_45 ⟨Nat.le_refl _, Nat.le_refl _⟩ ?_
      (try have e41 := bI_1 c41)
      (try have e41 := bI_0 c41)
      exact PE.eq (by simp [sfR, okP, *]) rfl
  · refine s_aload_n h dX7_shift_0 rfl <|
      g_X7_10 h dX7_shift_1 (by omega) hW.1 <|
      s_iload_n h dX7_shift_4 rfl <|
      k_X7_98 h (c_X3_pictureAt_t (k := 1) (by omega) hT hPs ha) (by omega) hT.1 rfl rfl dX7_shift_5 <|
      PE.go <|
      s_astore h dX7_shift_8 rfl <|
      s_aload_n h dX7_shift_10 rfl <|
      g_X7_10 h dX7_shift_11 (by omega) hW.1 <|
      s_iload_n h dX7_shift_14 rfl <|
      ?_
    obtain ⟨hixa, -⟩ := pE_t ha
    have hia := hixa.2.2
    obtain ⟨hp0, fa, hp1, hp2⟩ := hPs.2 _ hia
    cases hb : pE sc b
    · refine k_X7_98 h (c_X3_pictureAt_f (k := 1) (by omega) hT hPs hb) (by omega) hT.1 rfl rfl dX7_shift_15 <|
        PE.go <|
        s_astoreN h dX7_shift_18 rfl <|
        s_aload h dX7_shift_20 rfl <|
        s_ifnull h dX7_shift_22 <|
        s_aloadN h dX7_shift_25 rfl <|
        s_ifnullN (tgt := 44) h dX7_shift_27 (by decide) <|
        s_iconst h dX7_shift_44 ic_m1 <|
        s_iret h he rfl dX7_shift_45 ⟨Nat.le_refl _, Nat.le_refl _⟩ ?_
      (try have e41 := bI_1 c41)
      (try have e41 := bI_0 c41)
      exact PE.eq (by simp [sfR, okP, *]) rfl
    · obtain ⟨hixb, -⟩ := pE_t hb
      have hib := hixb.2.2
      obtain ⟨hq0, fb, hq1, hq2⟩ := hPs.2 _ hib
      refine k_X7_98 h (c_X3_pictureAt_t (k := 1) (by omega) hT hPs hb) (by omega) hT.1 rfl rfl dX7_shift_15 <|
        PE.go <|
        s_astore h dX7_shift_18 rfl <|
        s_aload h dX7_shift_20 rfl <|
        s_ifnull h dX7_shift_22 <|
        s_aload h dX7_shift_25 rfl <|
        s_ifnull h dX7_shift_27 <|
        s_iload_n h dX7_shift_30 rfl <|
        s_iload_n h dX7_shift_31 rfl <|
        s_icmp_eq (tgt := 44) h dX7_shift_32 (by decide) (fun c32 => ?_) (fun c32 => ?_)
      · refine s_iconst h dX7_shift_44 ic_m1 <|
          s_iret h he rfl dX7_shift_45 ⟨Nat.le_refl _, Nat.le_refl _⟩ ?_
        (try have e41 := bI_1 c41)
        (try have e41 := bI_0 c41)
        exact PE.eq (by simp [sfR, okP, *]) rfl
      · refine s_iload_n h dX7_shift_35 rfl <|
          s_iconst h dX7_shift_36 ic_0 <|
          s_iconst h dX7_shift_37 ic_5 <|
          k_X7_55 h (c_X7_within) rfl rfl dX7_shift_38 <|
          PE.go <|
          s_if_ne (tgt := 46) h dX7_shift_41 (by decide) (fun c41 => ?_) (fun c41 => ?_)
        · (try have e41 := bI_1 c41)
          (try have e41 := bI_0 c41)
          have hixt := wb_ix (n := 5) (by decide) rfl e41
          refine s_aload h dX7_shift_46 rfl <|
            s_aload h dX7_shift_48 rfl <|
            s_iload_n h dX7_shift_50 rfl <|
            k_X7_146 h (c_X2_sharesWith (k := 1 + 9 + 2 * a.toNatClampNeg) (k2 := 1 + 9 + 2 * b.toNatClampNeg) (by omega) hp0 hp1 (by omega) hq0 hq1 hixt) (by omega) hp0 rfl rfl dX7_shift_51 <|
            PE.go <|
            s_if_eq (tgt := 71) h dX7_shift_54 (by decide) (fun c54 => ?_) (fun c54 => ?_)
          · refine s_bipush h dX7_shift_71 bp_m3 <|
              s_iret h he rfl dX7_shift_73 ⟨Nat.le_refl _, Nat.le_refl _⟩ ?_
            have q32 : ¬ a = b := c32
            have e41 := bI_1 c41
            have z1 : shb fa fb t.toNatClampNeg = shb (cA sc a) (cA sc b) t.toNatClampNeg := shb_congr (hp2 _ hixt.2.2) (hq2 _ hixt.2.2)
            have ok : okP sc a b = true := by simp [okP, ha, hb, q32]
            first
              | (have z2 := z1.symm.trans (bI_0 c54)
                 exact PE.eq (by rw [sfR, ok, e41, z2]; rfl) rfl)
              | (have z2 := z1.symm.trans (bI_1 c54)
                 rw [hp2 _ hixt.2.2, hq2 _ hixt.2.2]
                 exact PE.eq (by rw [sfR, ok, e41, z2]; rfl) rfl)
          · refine s_aload h dX7_shift_57 rfl <|
              s_aload h dX7_shift_59 rfl <|
              s_iload_n h dX7_shift_61 rfl <|
              k_X7_150 h (c_X2_shiftTo (k := 1 + 9 + 2 * a.toNatClampNeg) (k2 := 1 + 9 + 2 * b.toNatClampNeg) (by omega) hp0 hp1 (by omega) hq0 hq1 hixt) (by omega) hp0 rfl rfl dX7_shift_62 <|
              PE.go <|
              s_bipush h dX7_shift_65 bp_100 <|
              s_iadd h dX7_shift_67 <|
              s_goto (tgt := 73) h dX7_shift_68 (by decide) <|
              s_iret h he rfl dX7_shift_73 ⟨Nat.le_refl _, Nat.le_refl _⟩ ?_
            have q32 : ¬ a = b := c32
            have e41 := bI_1 c41
            have z1 : shb fa fb t.toNatClampNeg = shb (cA sc a) (cA sc b) t.toNatClampNeg := shb_congr (hp2 _ hixt.2.2) (hq2 _ hixt.2.2)
            have ok : okP sc a b = true := by simp [okP, ha, hb, q32]
            first
              | (have z2 := z1.symm.trans (bI_0 c54)
                 exact PE.eq (by rw [sfR, ok, e41, z2]; rfl) rfl)
              | (have z2 := z1.symm.trans (bI_1 c54)
                 rw [hp2 _ hixt.2.2, hq2 _ hixt.2.2]
                 exact PE.eq (by rw [sfR, ok, e41, z2]; rfl) rfl)
        · refine s_iconst h dX7_shift_44 ic_m1 <|
            s_iret h he rfl dX7_shift_45 ⟨Nat.le_refl _, Nat.le_refl _⟩ ?_
          (try have e41 := bI_1 c41)
          (try have e41 := bI_0 c41)
          exact PE.eq (by simp [sfR, okP, *]) rfl
theorem c_X7_near {l : Launch} {D : va_G} {N : Nat} {adr : Nat → Nat} {G : Nat → va_E} {sc i0 i1 : Nat → Nat → Int32} {kp sg : Nat → Int32} {n : Nat} (hN : 103 ≤ N) (hW : isSW D adr G sc i0 i1 kp sg n) {a b i : Int32} :
    CT l D yX7_near cX7_near 6 (some FieldType.int) (rl 5) [.ref (adr 0), .int a, .int b, .int i] N adr G (PE (some (.int (neR sc a b i))) N adr G) := by
  have hS := hW.2.1
  have hT := hS.1
  have hPs := hS.2
  refine CT.of (by decide +kernel) (Nat.le_of_ble_eq_true rfl) (fun Γ h he => ?_)
  have h : cx l D (rl 5) RX7 cX7_near 6 Γ := h
  show SX Γ 0 0 0 [(0, .ref (adr 0)), (1, .int a), (2, .int b), (3, .int i)] [] N adr G
  cases ha : pE sc a
  · refine s_aload_n h dX7_near_0 rfl <|
      g_X7_10 h dX7_near_1 (by omega) hW.1 <|
      s_iload_n h dX7_near_4 rfl <|
      k_X7_98 h (c_X3_pictureAt_f (k := 1) (by omega) hT hPs ha) (by omega) hT.1 rfl rfl dX7_near_5 <|
      PE.go <|
      s_astoreN h dX7_near_8 rfl <|
      s_aload_n h dX7_near_10 rfl <|
      g_X7_10 h dX7_near_11 (by omega) hW.1 <|
      s_iload_n h dX7_near_14 rfl <|
      ?_
    cases hb : pE sc b
    · refine k_X7_98 h (c_X3_pictureAt_f (k := 1) (by omega) hT hPs hb) (by omega) hT.1 rfl rfl dX7_near_15 <|
        PE.go <|
        s_astoreN h dX7_near_18 rfl <|
        s_aloadN h dX7_near_20 rfl <|
        s_ifnullN (tgt := 35) h dX7_near_22 (by decide) <|
        s_iconst h dX7_near_35 ic_m1 <|
        s_iret h he rfl dX7_near_36 ⟨Nat.le_refl _, Nat.le_refl _⟩ ?_
      exact PE.eq (by simp [neR, okP, *]) rfl
    · refine k_X7_98 h (c_X3_pictureAt_t (k := 1) (by omega) hT hPs hb) (by omega) hT.1 rfl rfl dX7_near_15 <|
        PE.go <|
        s_astore h dX7_near_18 rfl <|
        s_aloadN h dX7_near_20 rfl <|
        s_ifnullN (tgt := 35) h dX7_near_22 (by decide) <|
        s_iconst h dX7_near_35 ic_m1 <|
        s_iret h he rfl dX7_near_36 ⟨Nat.le_refl _, Nat.le_refl _⟩ ?_
      exact PE.eq (by simp [neR, okP, *]) rfl
  · refine s_aload_n h dX7_near_0 rfl <|
      g_X7_10 h dX7_near_1 (by omega) hW.1 <|
      s_iload_n h dX7_near_4 rfl <|
      k_X7_98 h (c_X3_pictureAt_t (k := 1) (by omega) hT hPs ha) (by omega) hT.1 rfl rfl dX7_near_5 <|
      PE.go <|
      s_astore h dX7_near_8 rfl <|
      s_aload_n h dX7_near_10 rfl <|
      g_X7_10 h dX7_near_11 (by omega) hW.1 <|
      s_iload_n h dX7_near_14 rfl <|
      ?_
    obtain ⟨hixa, -⟩ := pE_t ha
    have hia := hixa.2.2
    obtain ⟨hp0, fa, hp1, hp2⟩ := hPs.2 _ hia
    cases hb : pE sc b
    · refine k_X7_98 h (c_X3_pictureAt_f (k := 1) (by omega) hT hPs hb) (by omega) hT.1 rfl rfl dX7_near_15 <|
        PE.go <|
        s_astoreN h dX7_near_18 rfl <|
        s_aload h dX7_near_20 rfl <|
        s_ifnull h dX7_near_22 <|
        s_aloadN h dX7_near_25 rfl <|
        s_ifnullN (tgt := 35) h dX7_near_27 (by decide) <|
        s_iconst h dX7_near_35 ic_m1 <|
        s_iret h he rfl dX7_near_36 ⟨Nat.le_refl _, Nat.le_refl _⟩ ?_
      exact PE.eq (by simp [neR, okP, *]) rfl
    · obtain ⟨hixb, -⟩ := pE_t hb
      have hib := hixb.2.2
      obtain ⟨hq0, fb, hq1, hq2⟩ := hPs.2 _ hib
      refine k_X7_98 h (c_X3_pictureAt_t (k := 1) (by omega) hT hPs hb) (by omega) hT.1 rfl rfl dX7_near_15 <|
        PE.go <|
        s_astore h dX7_near_18 rfl <|
        s_aload h dX7_near_20 rfl <|
        s_ifnull h dX7_near_22 <|
        s_aload h dX7_near_25 rfl <|
        s_ifnull h dX7_near_27 <|
        s_iload_n h dX7_near_30 rfl <|
        s_iload_n h dX7_near_31 rfl <|
        s_icmp_ne (tgt := 37) h dX7_near_32 (by decide) (fun c32 => ?_) (fun c32 => ?_)
      · refine s_iload_n h dX7_near_37 rfl <|
          s_iconst h dX7_near_38 ic_m1 <|
          s_icmp_ne (tgt := 52) h dX7_near_39 (by decide) (fun c39 => ?_) (fun c39 => ?_)
        · refine s_aload h dX7_near_52 rfl <|
            s_aload h dX7_near_54 rfl <|
            s_iload_n h dX7_near_56 rfl <|
            k_X7_158 h (c_X2_nearestWith (k := 1 + 9 + 2 * a.toNatClampNeg) (k2 := 1 + 9 + 2 * b.toNatClampNeg) (by omega) hp0 hp1 (by omega) hq0 hq1) (by omega) hp0 rfl rfl dX7_near_57 <|
            PE.go <|
            s_iret h he rfl dX7_near_60 ⟨Nat.le_refl _, Nat.le_refl _⟩ ?_
          first
            | (have q32 : a = b := c32; exact PE.eq (by simp [neR, okP, *]) rfl)
            | (have q32 : ¬ a = b := c32
               have q39 : i = -1 := c39
               have z1 := shB_congr hp2
               have z2 := shB_congr hq2
               exact PE.eq (by rw [z1, z2]; simp [neR, okP, cA, *]) rfl)
            | (have q32 : ¬ a = b := c32
               have q39 : ¬ i = -1 := c39
               have z1 := nWp_congr (b := i) hp2 hq2
               exact PE.eq (by rw [z1]; simp [neR, okP, cA, *]) rfl)
        · refine s_aload h dX7_near_42 rfl <|
            s_aload h dX7_near_44 rfl <|
            k_X7_154 h (c_X2_countSharedWith (k := 1 + 9 + 2 * a.toNatClampNeg) (k2 := 1 + 9 + 2 * b.toNatClampNeg) (by omega) hp0 hp1 (by omega) hq0 hq1) (by omega) hp0 rfl rfl dX7_near_46 <|
            PE.go <|
            s_goto (tgt := 60) h dX7_near_49 (by decide) <|
            s_iret h he rfl dX7_near_60 ⟨Nat.le_refl _, Nat.le_refl _⟩ ?_
          first
            | (have q32 : a = b := c32; exact PE.eq (by simp [neR, okP, *]) rfl)
            | (have q32 : ¬ a = b := c32
               have q39 : i = -1 := c39
               have z1 := shB_congr hp2
               have z2 := shB_congr hq2
               exact PE.eq (by rw [z1, z2]; simp [neR, okP, cA, *]) rfl)
            | (have q32 : ¬ a = b := c32
               have q39 : ¬ i = -1 := c39
               have z1 := nWp_congr (b := i) hp2 hq2
               exact PE.eq (by rw [z1]; simp [neR, okP, cA, *]) rfl)
      · refine s_iconst h dX7_near_35 ic_m1 <|
          s_iret h he rfl dX7_near_36 ⟨Nat.le_refl _, Nat.le_refl _⟩ ?_
        first
          | (have q32 : a = b := c32; exact PE.eq (by simp [neR, okP, *]) rfl)
          | (have q32 : ¬ a = b := c32
             have q39 : i = -1 := c39
             have z1 := shB_congr hp2
             have z2 := shB_congr hq2
             exact PE.eq (by rw [z1, z2]; simp [neR, okP, cA, *]) rfl)
          | (have q32 : ¬ a = b := c32
             have q39 : ¬ i = -1 := c39
             have z1 := nWp_congr (b := i) hp2 hq2
             exact PE.eq (by rw [z1]; simp [neR, okP, cA, *]) rfl)
