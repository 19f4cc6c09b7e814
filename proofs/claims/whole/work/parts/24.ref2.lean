theorem c_X8_onesM {l : Launch} {D : va_G} {N : Nat} {adr : Nat → Nat} {G : Nat → va_E} {x : Int32} (hx : x &&& 1023 = x) : CT l D yX8_ones cX8_ones 3 (some FieldType.int) (rl 0) [.int x] N adr G (PE (some (.int (bC x))) N adr G) := by
  obtain ⟨S, hS, rfl⟩ := and1023 hx
  exact c_X8_ones hS
theorem ixc {x t : Int32} {p j : Nat} (hx : ix x p 10) (ht : ix t j 6) : ix (6 * x + t) (6 * p + j) 60 := by
  have e1 := ix_eq hx
  have e2 := ix_eq ht
  have h1 := hx.2.2
  have h2 := ht.2.2
  rw [e1, e2, show (6 : Int32) = nI 6 from rfl, nI_mulI, nI_add]
  exact ix_n (by omega) (by decide)
theorem bit_or {x t : Int32} {i : Nat} (hx : x &&& 1023 = x) (ht : ix t i 10) : (x ||| ((1 : Int32) <<< (t &&& 31))) &&& 1023 = x ||| ((1 : Int32) <<< (t &&& 31)) := by
  rw [i32_or_and, hx, ix_eq ht, bit1023 i ht.2.2]
theorem bit_wo {x t : Int32} (hx : x &&& 1023 = x) : wo x t &&& 1023 = wo x t := by
  unfold wo
  rw [Int32.and_assoc, Int32.and_comm _ 1023, ← Int32.and_assoc, hx]
theorem ix6 {t : Int32} {i : Nat} (h : ix t i 6) : ix t i 10 := ⟨h.1, h.2.1, by have := h.2.2; omega⟩
def mthF (f : Nat → Int32) (t p q d : Int32) : Nat → Int32 := if wb t 0 5 && okT p q d then upd f 0 (f 0 ||| ((1 : Int32) <<< (t &&& 31))) else f
def mthA (a : Nat → Nat → Int32) (t p q d : Int32) : Nat → Nat → Int32 := if wb t 0 5 && okT p q d then uA (uA (uA a 104 (upd (a 104) t.toNatClampNeg p)) 105 (upd (a 105) t.toNatClampNeg q)) 106 (upd (a 106) t.toNatClampNeg d) else a
def mthR (f : Nat → Int32) (t p q d : Int32) : Int32 := if wb t 0 5 then (if okT p q d then bC (f 0 ||| ((1 : Int32) <<< (t &&& 31))) else -2) else -1
def mlvF (f : Nat → Int32) (a : Nat → Nat → Int32) (t : Int32) : Nat → Int32 := if tE (mS f a) t then upd f 0 (wo (f 0) t) else f
def mlvR (f : Nat → Int32) (a : Nat → Nat → Int32) (t : Int32) : Int32 := if tE (mS f a) t then bC (wo (f 0) t) else -1
def mfoF (f : Nat → Int32) (v : Int32) : Nat → Int32 := if wb v 1 40 then upd f 4 v else f
def mfoR (f : Nat → Int32) (v : Int32) : Int32 := if wb v 1 40 then f 4 else -2
def mbuF (f : Nat → Int32) (a : Nat → Nat → Int32) (t : Int32) : Nat → Int32 := if pE (mS f a) t then upd f 5 (wo (f 5) t) else f
def mbuR (f : Nat → Int32) (a : Nat → Nat → Int32) (t : Int32) : Int32 := if pE (mS f a) t then bC (wo (f 5) t) else -1
def mreA (f : Nat → Int32) (a : Nat → Nat → Int32) (p t c : Int32) : Nat → Nat → Int32 := if pE (mS f a) p && (wb t 0 5 && okR c) then uA a 107 (upd (a 107) (6 * p.toNatClampNeg + t.toNatClampNeg) c) else a
def mreR (f : Nat → Int32) (a : Nat → Nat → Int32) (p t c : Int32) : Int32 := if pE (mS f a) p && wb t 0 5 then (if okR c then a 107 (6 * p.toNatClampNeg + t.toNatClampNeg) else -2) else -1
def msyF (f : Nat → Int32) (n : Nat) (s : Int32) : Nat → Int32 := if okS s n then upd f 8 (nI (n + 1)) else f
def msyA (a : Nat → Nat → Int32) (n : Nat) (s : Int32) : Nat → Nat → Int32 := if okS s n then uA a 108 (upd (a 108) n s) else a
theorem pE_ix {sc : Nat → Nat → Int32} {t : Int32} (h : pE sc t = true) : ix t t.toNatClampNeg 10 := (pE_t h).1
theorem c_X8_thing {l : Launch} {D : va_G} {N : Nat} {adr : Nat → Nat} {G : Nat → va_E} {G0 : Nat → va_E} {f : Nat → Int32} {a : Nat → Nat → Int32} (hN : 115 ≤ N) (hM : isMF D adr G0 G f a) (hw6 : f 0 &&& 1023 = f 0) {t p q d : Int32} :
    CT l D yX8_thing cX8_thing 5 (some FieldType.int) (rl 2) [.ref (adr 103), .int t, .int p, .int q, .int d] N adr G (PR (some (.int (mthR f t p q d))) N adr (fun W => isMF D adr G0 W (mthF f t p q d) (mthA a t p q d))) := by
  refine CT.of (by decide +kernel) (Nat.le_of_ble_eq_true rfl) (fun Γ h he => ?_)
  have h : cx l D (rl 2) RX8 cX8_thing 5 Γ := h
  show SX Γ 0 0 0 [(0, .ref (adr 103)), (1, .int t), (2, .int p), (3, .int q), (4, .int d)] [] N adr G
  refine s_iload_n h dX8_thing_0 rfl <|
    s_i2l h dX8_thing_1 <|
    s_lconst h dX8_thing_2 lc_0 <|
    s_ldc2 h dX8_thing_3 tw697 <|
    k_X8_50 h (c_X8_inw (a := 0) (b := 5) (by decide) (by decide)) rfl rfl dX8_thing_6 <|
    PE.go <|
    s_if_ne (tgt := 14) h dX8_thing_9 (by decide) (fun c9 => ?_) (fun c9 => ?_)
  · refine s_iload_n h dX8_thing_14 rfl <|
      k_X8_68 h (c_X8_isHundred) rfl rfl dX8_thing_15 <|
      PE.go <|
      s_if_eq (tgt := 48) h dX8_thing_18 (by decide) (fun c18 => ?_) (fun c18 => ?_)
    · refine s_bipush h dX8_thing_48 bp_m2 <|
        s_iret h he rfl dX8_thing_50 ⟨Nat.le_refl _, Nat.le_refl _⟩ ?_
      (try have e9 := bI_1 c9)
      (try have e9 := bI_0 c9)
      (try have e18 := bI_1 c18)
      (try have e18 := bI_0 c18)
      (try have e32 := bI_1 c32)
      (try have e32 := bI_0 c32)
      (try have e45 := bI_1 c45)
      (try have e45 := bI_0 c45)
      have hok : okT p q d = false := by simp [okT, *]
      exact PR.eq (by simp [mthR, *]) (by simpa [mthF, mthA, *] using hM)
    · refine s_iload_n h dX8_thing_21 rfl <|
        s_i2l h dX8_thing_22 <|
        s_ldc2 h dX8_thing_23 tw705 <|
        s_ldc2 h dX8_thing_26 tw706 <|
        k_X8_50 h (c_X8_inw (a := -9) (b := 9) (by decide) (by decide)) rfl rfl dX8_thing_29 <|
        PE.go <|
        s_if_eq (tgt := 48) h dX8_thing_32 (by decide) (fun c32 => ?_) (fun c32 => ?_)
      · refine s_bipush h dX8_thing_48 bp_m2 <|
          s_iret h he rfl dX8_thing_50 ⟨Nat.le_refl _, Nat.le_refl _⟩ ?_
        (try have e9 := bI_1 c9)
        (try have e9 := bI_0 c9)
        (try have e18 := bI_1 c18)
        (try have e18 := bI_0 c18)
        (try have e32 := bI_1 c32)
        (try have e32 := bI_0 c32)
        (try have e45 := bI_1 c45)
        (try have e45 := bI_0 c45)
        have hok : okT p q d = false := by simp [okT, *]
        exact PR.eq (by simp [mthR, *]) (by simpa [mthF, mthA, *] using hM)
      · refine s_iload h dX8_thing_35 rfl <|
          s_i2l h dX8_thing_37 <|
          s_lconst h dX8_thing_38 lc_1 <|
          s_ldc2 h dX8_thing_39 tw707 <|
          k_X8_50 h (c_X8_inw (a := 1) (b := 20) (by decide) (by decide)) rfl rfl dX8_thing_42 <|
          PE.go <|
          s_if_ne (tgt := 51) h dX8_thing_45 (by decide) (fun c45 => ?_) (fun c45 => ?_)
        · (try have e9 := bI_1 c9)
          (try have e9 := bI_0 c9)
          (try have e18 := bI_1 c18)
          (try have e18 := bI_0 c18)
          (try have e32 := bI_1 c32)
          (try have e32 := bI_0 c32)
          (try have e45 := bI_1 c45)
          (try have e45 := bI_0 c45)
          have hix := wb_ix (n := 5) (by decide) rfl e9
          have hok : okT p q d = true := by simp [okT, *]
          have hb1 := bit_or hw6 (ix6 hix)
          refine s_aload_n h dX8_thing_51 rfl <|
            gm_7 h dX8_thing_52 hN hM <|
            s_iload_n h dX8_thing_55 rfl <|
            s_iload_n h dX8_thing_56 rfl <|
            sm_104 h dX8_thing_57 hN hM hix <|
            fun W hM =>
            s_aload_n h dX8_thing_58 rfl <|
            gm_13 h dX8_thing_59 hN hM <|
            s_iload_n h dX8_thing_62 rfl <|
            s_iload_n h dX8_thing_63 rfl <|
            sm_105 h dX8_thing_64 hN hM hix <|
            fun W hM =>
            s_aload_n h dX8_thing_65 rfl <|
            gm_16 h dX8_thing_66 hN hM <|
            s_iload_n h dX8_thing_69 rfl <|
            s_iload h dX8_thing_70 rfl <|
            sm_106 h dX8_thing_72 hN hM hix <|
            fun W hM =>
            s_aload_n h dX8_thing_73 rfl <|
            s_dup h dX8_thing_74 rfl <|
            gm_56 h dX8_thing_75 hN hM <|
            s_iconst h dX8_thing_78 ic_1 <|
            s_iload_n h dX8_thing_79 rfl <|
            s_ishl h dX8_thing_80 <|
            s_ior h dX8_thing_81 <|
            pm_56 h dX8_thing_82 hN hM <|
            fun W hM =>
            s_aload_n h dX8_thing_85 rfl <|
            gm_56 h dX8_thing_86 hN hM <|
            k_X8_75 h (c_X8_onesM hb1) rfl rfl dX8_thing_89 <|
            PE.go <|
            s_iret h he rfl dX8_thing_92 ⟨Nat.le_refl _, Nat.le_refl _⟩ ?_
          refine PR.eq (by simp [mthR, e9, hok, upd]) ?_
          rw [mthF, mthA, e9, hok]
          exact hM
        · refine s_bipush h dX8_thing_48 bp_m2 <|
            s_iret h he rfl dX8_thing_50 ⟨Nat.le_refl _, Nat.le_refl _⟩ ?_
          (try have e9 := bI_1 c9)
          (try have e9 := bI_0 c9)
          (try have e18 := bI_1 c18)
          (try have e18 := bI_0 c18)
          (try have e32 := bI_1 c32)
          (try have e32 := bI_0 c32)
          (try have e45 := bI_1 c45)
          (try have e45 := bI_0 c45)
          have hok : okT p q d = false := by simp [okT, *]
          exact PR.eq (by simp [mthR, *]) (by simpa [mthF, mthA, *] using hM)
  · refine s_iconst h dX8_thing_12 ic_m1 <|
      s_iret h he rfl dX8_thing_13 ⟨Nat.le_refl _, Nat.le_refl _⟩ ?_
    (try have e9 := bI_1 c9)
    (try have e9 := bI_0 c9)
    (try have e18 := bI_1 c18)
    (try have e18 := bI_0 c18)
    (try have e32 := bI_1 c32)
    (try have e32 := bI_0 c32)
    (try have e45 := bI_1 c45)
    (try have e45 := bI_0 c45)
    exact PR.eq (by simp [mthR, *]) (by simpa [mthF, mthA, *] using hM)
theorem c_X8_leave {l : Launch} {D : va_G} {N : Nat} {adr : Nat → Nat} {G : Nat → va_E} {G0 : Nat → va_E} {f : Nat → Int32} {a : Nat → Nat → Int32} (hN : 115 ≤ N) (hM : isMF D adr G0 G f a) (hw : f 0 &&& 1023 = f 0) {t : Int32} :
    CT l D yX8_leave cX8_leave 2 (some FieldType.int) (rl 2) [.ref (adr 103), .int t] N adr G (PR (some (.int (mlvR f a t))) N adr (fun W => isMF D adr G0 W (mlvF f a t) (a))) := by
  refine CT.of (by decide +kernel) (Nat.le_of_ble_eq_true rfl) (fun Γ h he => ?_)
  have h : cx l D (rl 2) RX8 cX8_leave 2 Γ := h
  show SX Γ 0 0 0 [(0, .ref (adr 103)), (1, .int t)] [] N adr G
  refine s_aload_n h dX8_leave_0 rfl <|
    s_iload_n h dX8_leave_1 rfl <|
    k_X8_79 h (c_X8_isThing hN hM) (by omega) hM.o rfl rfl dX8_leave_2 <|
    PE.go <|
    s_if_ne (tgt := 10) h dX8_leave_5 (by decide) (fun c5 => ?_) (fun c5 => ?_)
  · have e5 := bI_1 c5
    have hb1 := bit_wo (t := t) hw
    refine s_aload_n h dX8_leave_10 rfl <|
      s_dup h dX8_leave_11 rfl <|
      gm_56 h dX8_leave_12 hN hM <|
      s_iconst h dX8_leave_15 ic_1 <|
      s_iload_n h dX8_leave_16 rfl <|
      s_ishl h dX8_leave_17 <|
      s_iconst h dX8_leave_18 ic_m1 <|
      s_ixor h dX8_leave_19 <|
      s_iand h dX8_leave_20 <|
      pm_56 h dX8_leave_21 hN hM <|
      fun W hM =>
      s_aload_n h dX8_leave_24 rfl <|
      gm_56 h dX8_leave_25 hN hM <|
      k_X8_75 h (c_X8_onesM hb1) rfl rfl dX8_leave_28 <|
      PE.go <|
      s_iret h he rfl dX8_leave_31 ⟨Nat.le_refl _, Nat.le_refl _⟩ ?_
    refine PR.eq (by simp [mlvR, e5, upd, wo]) ?_
    rw [mlvF, e5, if_pos rfl]
    exact hM
  · refine s_iconst h dX8_leave_8 ic_m1 <|
      s_iret h he rfl dX8_leave_9 ⟨Nat.le_refl _, Nat.le_refl _⟩ ?_
    (try have e5 := bI_1 c5)
    (try have e5 := bI_0 c5)
    exact PR.eq (by simp [mlvR, *]) (by simpa [mlvF, *] using hM)
theorem c_X8_burn {l : Launch} {D : va_G} {N : Nat} {adr : Nat → Nat} {G : Nat → va_E} {G0 : Nat → va_E} {f : Nat → Int32} {a : Nat → Nat → Int32} (hN : 115 ≤ N) (hM : isMF D adr G0 G f a) (hw : f 5 &&& 1023 = f 5) {t : Int32} :
    CT l D yX8_burn cX8_burn 2 (some FieldType.int) (rl 2) [.ref (adr 103), .int t] N adr G (PR (some (.int (mbuR f a t))) N adr (fun W => isMF D adr G0 W (mbuF f a t) (a))) := by
  refine CT.of (by decide +kernel) (Nat.le_of_ble_eq_true rfl) (fun Γ h he => ?_)
  have h : cx l D (rl 2) RX8 cX8_burn 2 Γ := h
  show SX Γ 0 0 0 [(0, .ref (adr 103)), (1, .int t)] [] N adr G
  refine s_aload_n h dX8_burn_0 rfl <|
    s_iload_n h dX8_burn_1 rfl <|
    k_X8_64 h (c_X8_isPicture hN hM) (by omega) hM.o rfl rfl dX8_burn_2 <|
    PE.go <|
    s_if_ne (tgt := 10) h dX8_burn_5 (by decide) (fun c5 => ?_) (fun c5 => ?_)
  · have e5 := bI_1 c5
    have hb1 := bit_wo (t := t) hw
    refine s_aload_n h dX8_burn_10 rfl <|
      s_dup h dX8_burn_11 rfl <|
      gm_61 h dX8_burn_12 hN hM <|
      s_iconst h dX8_burn_15 ic_1 <|
      s_iload_n h dX8_burn_16 rfl <|
      s_ishl h dX8_burn_17 <|
      s_iconst h dX8_burn_18 ic_m1 <|
      s_ixor h dX8_burn_19 <|
      s_iand h dX8_burn_20 <|
      pm_61 h dX8_burn_21 hN hM <|
      fun W hM =>
      s_aload_n h dX8_burn_24 rfl <|
      gm_61 h dX8_burn_25 hN hM <|
      k_X8_75 h (c_X8_onesM hb1) rfl rfl dX8_burn_28 <|
      PE.go <|
      s_iret h he rfl dX8_burn_31 ⟨Nat.le_refl _, Nat.le_refl _⟩ ?_
    refine PR.eq (by simp [mbuR, e5, upd, wo]) ?_
    rw [mbuF, e5, if_pos rfl]
    exact hM
  · refine s_iconst h dX8_burn_8 ic_m1 <|
      s_iret h he rfl dX8_burn_9 ⟨Nat.le_refl _, Nat.le_refl _⟩ ?_
    (try have e5 := bI_1 c5)
    (try have e5 := bI_0 c5)
    exact PR.eq (by simp [mbuR, *]) (by simpa [mbuF, *] using hM)
theorem c_X8_focus {l : Launch} {D : va_G} {N : Nat} {adr : Nat → Nat} {G : Nat → va_E} {G0 : Nat → va_E} {f : Nat → Int32} {a : Nat → Nat → Int32} (hN : 115 ≤ N) (hM : isMF D adr G0 G f a) {v : Int32} :
    CT l D yX8_focus cX8_focus 3 (some FieldType.int) (rl 1) [.ref (adr 103), .int v] N adr G (PR (some (.int (mfoR f v))) N adr (fun W => isMF D adr G0 W (mfoF f v) (a))) := by
  refine CT.of (by decide +kernel) (Nat.le_of_ble_eq_true rfl) (fun Γ h he => ?_)
  have h : cx l D (rl 1) RX8 cX8_focus 3 Γ := h
  show SX Γ 0 0 0 [(0, .ref (adr 103)), (1, .int v)] [] N adr G
  refine s_iload_n h dX8_focus_0 rfl <|
    s_i2l h dX8_focus_1 <|
    s_lconst h dX8_focus_2 lc_1 <|
    s_ldc2 h dX8_focus_3 tw723 <|
    k_X8_50 h (c_X8_inw (a := 1) (b := 40) (by decide) (by decide)) rfl rfl dX8_focus_6 <|
    PE.go <|
    s_if_ne (tgt := 15) h dX8_focus_9 (by decide) (fun c9 => ?_) (fun c9 => ?_)
  · refine s_aload_n h dX8_focus_15 rfl <|
      gm_44 h dX8_focus_16 hN hM <|
      s_istore_n h dX8_focus_19 rfl <|
      s_aload_n h dX8_focus_20 rfl <|
      s_iload_n h dX8_focus_21 rfl <|
      pm_44 h dX8_focus_22 hN hM <|
      fun W hM =>
      s_iload_n h dX8_focus_25 rfl <|
      s_iret h he rfl dX8_focus_26 ⟨Nat.le_refl _, Nat.le_refl _⟩ ?_
    (try have e9 := bI_1 c9)
    (try have e9 := bI_0 c9)
    exact PR.eq (by simp [mfoR, *]) (by simpa [mfoF, *] using hM)
  · refine s_bipush h dX8_focus_12 bp_m2 <|
      s_iret h he rfl dX8_focus_14 ⟨Nat.le_refl _, Nat.le_refl _⟩ ?_
    (try have e9 := bI_1 c9)
    (try have e9 := bI_0 c9)
    exact PR.eq (by simp [mfoR, *]) (by simpa [mfoF, *] using hM)
theorem c_X8_retouch {l : Launch} {D : va_G} {N : Nat} {adr : Nat → Nat} {G : Nat → va_E} {G0 : Nat → va_E} {f : Nat → Int32} {a : Nat → Nat → Int32} (hN : 115 ≤ N) (hM : isMF D adr G0 G f a) {p t c : Int32} :
    CT l D yX8_retouch cX8_retouch 5 (some FieldType.int) (rl 2) [.ref (adr 103), .int p, .int t, .int c] N adr G (PR (some (.int (mreR f a p t c))) N adr (fun W => isMF D adr G0 W (f) (mreA f a p t c))) := by
  refine CT.of (by decide +kernel) (Nat.le_of_ble_eq_true rfl) (fun Γ h he => ?_)
  have h : cx l D (rl 2) RX8 cX8_retouch 5 Γ := h
  show SX Γ 0 0 0 [(0, .ref (adr 103)), (1, .int p), (2, .int t), (3, .int c)] [] N adr G
  refine s_aload_n h dX8_retouch_0 rfl <|
    s_iload_n h dX8_retouch_1 rfl <|
    k_X8_64 h (c_X8_isPicture hN hM) (by omega) hM.o rfl rfl dX8_retouch_2 <|
    PE.go <|
    s_if_eq (tgt := 20) h dX8_retouch_5 (by decide) (fun c5 => ?_) (fun c5 => ?_)
  · refine s_iconst h dX8_retouch_20 ic_m1 <|
      s_iret h he rfl dX8_retouch_21 ⟨Nat.le_refl _, Nat.le_refl _⟩ ?_
    (try have e5 := bI_1 c5)
    (try have e5 := bI_0 c5)
    (try have e17 := bI_1 c17)
    (try have e17 := bI_0 c17)
    exact PR.eq (by simp [mreR, *]) (by simpa [mreA, *] using hM)
  · refine s_iload_n h dX8_retouch_8 rfl <|
      s_i2l h dX8_retouch_9 <|
      s_lconst h dX8_retouch_10 lc_0 <|
      s_ldc2 h dX8_retouch_11 tw697 <|
      k_X8_50 h (c_X8_inw (a := 0) (b := 5) (by decide) (by decide)) rfl rfl dX8_retouch_14 <|
      PE.go <|
      s_if_ne (tgt := 22) h dX8_retouch_17 (by decide) (fun c17 => ?_) (fun c17 => ?_)
    · refine s_iload_n h dX8_retouch_22 rfl <|
        s_i2l h dX8_retouch_23 <|
        s_lconst h dX8_retouch_24 lc_0 <|
        s_ldc2 h dX8_retouch_25 tw732 <|
        k_X8_50 h (c_X8_inw (a := 0) (b := 60) (by decide) (by decide)) rfl rfl dX8_retouch_28 <|
        PE.go <|
        s_if_ne (tgt := 43) h dX8_retouch_31 (by decide) (fun c31 => ?_) (fun c31 => ?_)
      · (try have e5 := bI_1 c5)
        (try have e5 := bI_0 c5)
        (try have e17 := bI_1 c17)
        (try have e17 := bI_0 c17)
        have hok : okR c = true := by
          first
            | (have q := bI_1 c31; simp [okR, q])
            | (have q : c = -6 := c37; simp [okR, q])
        have hixc := ixc (pE_ix e5) (wb_ix (n := 5) (by decide) rfl e17)
        refine s_aload_n h dX8_retouch_43 rfl <|
          gm_19 h dX8_retouch_44 hN hM <|
          s_bipush h dX8_retouch_47 bp_6 <|
          s_iload_n h dX8_retouch_49 rfl <|
          s_imul h dX8_retouch_50 <|
          s_iload_n h dX8_retouch_51 rfl <|
          s_iadd h dX8_retouch_52 <|
          s_iald h dX8_retouch_53 (by omega) hM.a107 hixc rfl <|
          s_istore h dX8_retouch_54 rfl <|
          s_aload_n h dX8_retouch_56 rfl <|
          gm_19 h dX8_retouch_57 hN hM <|
          s_bipush h dX8_retouch_60 bp_6 <|
          s_iload_n h dX8_retouch_62 rfl <|
          s_imul h dX8_retouch_63 <|
          s_iload_n h dX8_retouch_64 rfl <|
          s_iadd h dX8_retouch_65 <|
          s_iload_n h dX8_retouch_66 rfl <|
          sm_107 h dX8_retouch_67 hN hM hixc <|
          fun W hM =>
          s_iload h dX8_retouch_68 rfl <|
          s_iret h he rfl dX8_retouch_70 ⟨Nat.le_refl _, Nat.le_refl _⟩ ?_
        refine PR.eq (by simp [mreR, e5, e17, hok]) ?_
        rw [mreA, e5, e17, hok]
        exact hM
      · refine s_iload_n h dX8_retouch_34 rfl <|
          s_bipush h dX8_retouch_35 bp_m6 <|
          s_icmp_eq (tgt := 43) h dX8_retouch_37 (by decide) (fun c37 => ?_) (fun c37 => ?_)
        · (try have e5 := bI_1 c5)
          (try have e5 := bI_0 c5)
          (try have e17 := bI_1 c17)
          (try have e17 := bI_0 c17)
          have hok : okR c = true := by
            first
              | (have q := bI_1 c31; simp [okR, q])
              | (have q : c = -6 := c37; simp [okR, q])
          have hixc := ixc (pE_ix e5) (wb_ix (n := 5) (by decide) rfl e17)
          refine s_aload_n h dX8_retouch_43 rfl <|
            gm_19 h dX8_retouch_44 hN hM <|
            s_bipush h dX8_retouch_47 bp_6 <|
            s_iload_n h dX8_retouch_49 rfl <|
            s_imul h dX8_retouch_50 <|
            s_iload_n h dX8_retouch_51 rfl <|
            s_iadd h dX8_retouch_52 <|
            s_iald h dX8_retouch_53 (by omega) hM.a107 hixc rfl <|
            s_istore h dX8_retouch_54 rfl <|
            s_aload_n h dX8_retouch_56 rfl <|
            gm_19 h dX8_retouch_57 hN hM <|
            s_bipush h dX8_retouch_60 bp_6 <|
            s_iload_n h dX8_retouch_62 rfl <|
            s_imul h dX8_retouch_63 <|
            s_iload_n h dX8_retouch_64 rfl <|
            s_iadd h dX8_retouch_65 <|
            s_iload_n h dX8_retouch_66 rfl <|
            sm_107 h dX8_retouch_67 hN hM hixc <|
            fun W hM =>
            s_iload h dX8_retouch_68 rfl <|
            s_iret h he rfl dX8_retouch_70 ⟨Nat.le_refl _, Nat.le_refl _⟩ ?_
          refine PR.eq (by simp [mreR, e5, e17, hok]) ?_
          rw [mreA, e5, e17, hok]
          exact hM
        · refine s_bipush h dX8_retouch_40 bp_m2 <|
            s_iret h he rfl dX8_retouch_42 ⟨Nat.le_refl _, Nat.le_refl _⟩ ?_
          (try have e5 := bI_1 c5)
          (try have e5 := bI_0 c5)
          (try have e17 := bI_1 c17)
          (try have e17 := bI_0 c17)
          have e31 := bI_0 c31
          have hok : okR c = false := by simp [okR, *]
          exact PR.eq (by simp [mreR, *]) (by simpa [mreA, *] using hM)
    · refine s_iconst h dX8_retouch_20 ic_m1 <|
        s_iret h he rfl dX8_retouch_21 ⟨Nat.le_refl _, Nat.le_refl _⟩ ?_
      (try have e5 := bI_1 c5)
      (try have e5 := bI_0 c5)
      (try have e17 := bI_1 c17)
      (try have e17 := bI_0 c17)
      exact PR.eq (by simp [mreR, *]) (by simpa [mreA, *] using hM)
theorem c_X8_say {l : Launch} {D : va_G} {N : Nat} {adr : Nat → Nat} {G : Nat → va_E} {G0 : Nat → va_E} {f : Nat → Int32} {a : Nat → Nat → Int32} (hN : 115 ≤ N) (hM : isMF D adr G0 G f a) {n : Nat} (hf8 : f 8 = nI n) (hn60 : n ≤ 60) {s : Int32} :
    CT l D yX8_say cX8_say 2 (some FieldType.int) (rl 1) [.ref (adr 103), .int s] N adr G (PR (some (.int (syR n s))) N adr (fun W => isMF D adr G0 W (msyF f n s) (msyA a n s))) := by
  refine CT.of (by decide +kernel) (Nat.le_of_ble_eq_true rfl) (fun Γ h he => ?_)
  have h : cx l D (rl 1) RX8 cX8_say 2 Γ := h
  show SX Γ 0 0 0 [(0, .ref (adr 103)), (1, .int s)] [] N adr G
  refine s_iload_n h dX8_say_0 rfl <|
    s_i2l h dX8_say_1 <|
    s_ldc2 h dX8_say_2 tw749 <|
    s_ldc2 h dX8_say_5 tw750 <|
    k_X8_50 h (c_X8_inw (a := 33) (b := 126) (by decide) (by decide)) rfl rfl dX8_say_8 <|
    PE.go <|
    s_if_ne (tgt := 17) h dX8_say_11 (by decide) (fun c11 => ?_) (fun c11 => ?_)
  · refine s_aload_n h dX8_say_17 rfl <|
      gm_94 h dX8_say_18 hN hM <|
      s_bipush h dX8_say_21 bp_60 <|
      s_icmp_ne (tgt := 29) h dX8_say_23 (by decide) (fun c23 => ?_) (fun c23 => ?_)
    · (try have e11 := bI_1 c11)
      (try have e11 := bI_0 c11)
      have q : ¬ f 8 = 60 := c23
      have hn : n < 60 := by
        rcases Nat.lt_or_ge n 60 with z | z
        · exact z
        · exact absurd (by rw [hf8, show n = 60 from by omega]; rfl) q
      have hok : okS s n = true := by simp [okS, *]
      refine s_aload_n h dX8_say_29 rfl <|
        gm_22 h dX8_say_30 hN hM <|
        s_aload_n h dX8_say_33 rfl <|
        gm_94 h dX8_say_34 hN hM <|
        s_topi (nI n) hf8 <|
        s_iload_n h dX8_say_37 rfl <|
        sm_108 h dX8_say_38 hN hM (ix_n hn (by decide)) <|
        fun W hM =>
        s_aload_n h dX8_say_39 rfl <|
        s_dup h dX8_say_40 rfl <|
        gm_94 h dX8_say_41 hN hM <|
        s_iconst h dX8_say_44 ic_1 <|
        s_iadd h dX8_say_45 <|
        s_topi (nI (n + 1)) (by rw [hf8]; exact nI_1 n) <|
        pm_94 h dX8_say_46 hN hM <|
        fun W hM =>
        s_aload_n h dX8_say_49 rfl <|
        gm_94 h dX8_say_50 hN hM <|
        s_iret h he rfl dX8_say_53 ⟨Nat.le_refl _, Nat.le_refl _⟩ ?_
      refine PR.eq (by simp [syR, e11, hn, upd]) ?_
      rw [msyF, msyA, hok, if_pos rfl, if_pos rfl]
      exact hM
    · refine s_bipush h dX8_say_26 bp_m4 <|
        s_iret h he rfl dX8_say_28 ⟨Nat.le_refl _, Nat.le_refl _⟩ ?_
      (try have e11 := bI_1 c11)
      (try have e11 := bI_0 c11)
      have q : f 8 = 60 := c23
      have q2 : n = 60 := by rw [hf8, show (60 : Int32) = nI 60 from rfl] at q; exact (nI_eq (by omega) (by decide)).mp q
      exact PR.eq (by simp [syR, *]) (by simpa [msyF, msyA, okS, q2] using hM)
  · refine s_bipush h dX8_say_14 bp_m2 <|
      s_iret h he rfl dX8_say_16 ⟨Nat.le_refl _, Nat.le_refl _⟩ ?_
    (try have e11 := bI_1 c11)
    (try have e11 := bI_0 c11)
    exact PR.eq (by simp [syR, *]) (by simpa [msyF, msyA, okS, *] using hM)
theorem c_X8_wipe {l : Launch} {D : va_G} {N : Nat} {adr : Nat → Nat} {G : Nat → va_E} {G0 : Nat → va_E} {f : Nat → Int32} {a : Nat → Nat → Int32} (hN : 115 ≤ N) (hM : isMF D adr G0 G f a) :
    CT l D yX8_wipe cX8_wipe 2 (some FieldType.int) (rl 0) [.ref (adr 103)] N adr G (PR (some (.int (f 8))) N adr (fun W => isMF D adr G0 W (upd f 8 0) (a))) := by
  refine CT.of (by decide +kernel) (Nat.le_of_ble_eq_true rfl) (fun Γ h he => ?_)
  have h : cx l D (rl 0) RX8 cX8_wipe 2 Γ := h
  show SX Γ 0 0 0 [(0, .ref (adr 103))] [] N adr G
  refine s_aload_n h dX8_wipe_0 rfl <|
    gm_94 h dX8_wipe_1 hN hM <|
    s_istore_n h dX8_wipe_4 rfl <|
    s_aload_n h dX8_wipe_5 rfl <|
    s_iconst h dX8_wipe_6 ic_0 <|
    pm_94 h dX8_wipe_7 hN hM <|
    fun W hM =>
    s_iload_n h dX8_wipe_10 rfl <|
    s_iret h he rfl dX8_wipe_11 ⟨Nat.le_refl _, Nat.le_refl _⟩ ?_
  exact PR.is hM
def wfC (sc : Nat → Nat → Int32) : Prop := ∀ i, i < 10 → ∀ j, j < 6 → sc (6 + i) j = -6 ∨ 0 ≤ sc (6 + i) j ∧ sc (6 + i) j ≤ 60
theorem ge_ne {x : Int32} (h : x = -6 ∨ 0 ≤ x ∧ x ≤ 60) : (x < 0) ↔ x = -6 := by
  constructor
  · intro q
    rcases h with h | h
    · exact h
    · exact absurd q (i32_nlt.mpr h.1)
  · intro q; rw [q]; decide
def kBy (b a : Bool) : Int32 := if !b && !a then 1 else if !b then 0 else if !a then 2 else 3
theorem kBy_kW (f f2 : Nat → Int32) : kBy (aB f f2 6) (aA f f2 6) = kW f f2 := by
  unfold kBy kW
  cases aB f f2 6 <;> cases aA f f2 6 <;> rfl
theorem aA_s (f f2 : Nat → Int32) (n : Nat) : aA f f2 (n + 1) = if shb f f2 n then aA f f2 n || decide (0 < f n - f2 n) else aA f f2 n := rfl
theorem aB_s (f f2 : Nat → Int32) (n : Nat) : aB f f2 (n + 1) = if shb f f2 n then aB f f2 n || decide (f n - f2 n < 0) else aB f f2 n := rfl
theorem c_X8_shiftOf {l : Launch} {D : va_G} {N : Nat} {adr : Nat → Nat} {G : Nat → va_E} {G0 : Nat → va_E} {f : Nat → Int32} {a : Nat → Nat → Int32} (hN : 115 ≤ N) (hM : isMF D adr G0 G f a) {x y : Int32} {p q : Nat} (hx : ix x p 10) (hy : ix y q 10) {t : Int32} {j : Nat} (ht : ix t j 6) :
    CT l D yX8_shiftOf cX8_shiftOf 4 (some FieldType.int) (rl 0) [.ref (adr 103), .int x, .int y, .int t] N adr G (PE (some (.int (mS f a (6 + p) j - mS f a (6 + q) j))) N adr G) := by
  refine CT.of (by decide +kernel) (Nat.le_of_ble_eq_true rfl) (fun Γ h he => ?_)
  have h : cx l D (rl 0) RX8 cX8_shiftOf 4 Γ := h
  show SX Γ 0 0 0 [(0, .ref (adr 103)), (1, .int x), (2, .int y), (3, .int t)] [] N adr G
  refine s_aload_n h dX8_shiftOf_0 rfl <|
    gm_19 h dX8_shiftOf_1 hN hM <|
    s_bipush h dX8_shiftOf_4 bp_6 <|
    s_iload_n h dX8_shiftOf_6 rfl <|
    s_imul h dX8_shiftOf_7 <|
    s_iload_n h dX8_shiftOf_8 rfl <|
    s_iadd h dX8_shiftOf_9 <|
    s_iald h dX8_shiftOf_10 (by omega) hM.a107 (ixc hx ht) (mS_col f a p j).symm <|
    s_aload_n h dX8_shiftOf_11 rfl <|
    gm_19 h dX8_shiftOf_12 hN hM <|
    s_bipush h dX8_shiftOf_15 bp_6 <|
    s_iload_n h dX8_shiftOf_17 rfl <|
    s_imul h dX8_shiftOf_18 <|
    s_iload_n h dX8_shiftOf_19 rfl <|
    s_iadd h dX8_shiftOf_20 <|
    s_iald h dX8_shiftOf_21 (by omega) hM.a107 (ixc hy ht) (mS_col f a q j).symm <|
    s_isub h dX8_shiftOf_22 <|
    s_iret h he rfl dX8_shiftOf_23 ⟨Nat.le_refl _, Nat.le_refl _⟩ ?_
  exact PE.is
theorem c_X8_areBoth {l : Launch} {D : va_G} {N : Nat} {adr : Nat → Nat} {G : Nat → va_E} {G0 : Nat → va_E} {f : Nat → Int32} {a : Nat → Nat → Int32} (hN : 115 ≤ N) (hM : isMF D adr G0 G f a) {x y : Int32} {p q : Nat} (hx : ix x p 10) (hy : ix y q 10) (hwc : wfC (mS f a)) {t : Int32} {j : Nat} (ht : ix t j 6) :
    CT l D yX8_areBoth cX8_areBoth 4 (some FieldType.boolean) (rl 0) [.ref (adr 103), .int x, .int y, .int t] N adr G (PE (some (.int (bI (shb (mS f a (6 + p)) (mS f a (6 + q)) j)))) N adr G) := by
  refine CT.of (by decide +kernel) (Nat.le_of_ble_eq_true rfl) (fun Γ h he => ?_)
  have h : cx l D (rl 0) RX8 cX8_areBoth 4 Γ := h
  show SX Γ 0 0 0 [(0, .ref (adr 103)), (1, .int x), (2, .int y), (3, .int t)] [] N adr G
  refine s_aload_n h dX8_areBoth_0 rfl <|
    gm_19 h dX8_areBoth_1 hN hM <|
    s_bipush h dX8_areBoth_4 bp_6 <|
    s_iload_n h dX8_areBoth_6 rfl <|
    s_imul h dX8_areBoth_7 <|
    s_iload_n h dX8_areBoth_8 rfl <|
    s_iadd h dX8_areBoth_9 <|
    s_iald h dX8_areBoth_10 (by omega) hM.a107 (ixc hx ht) (mS_col f a p j).symm <|
    s_if_lt (tgt := 32) h dX8_areBoth_11 (by decide) (fun c11 => ?_) (fun c11 => ?_)
  · refine s_iconst h dX8_areBoth_32 ic_0 <|
      s_iret h he rfl dX8_areBoth_33 ⟨Nat.le_refl _, Nat.le_refl _⟩ ?_
    have g1 := ge_ne (hwc p hx.2.2 j ht.2.2)
    have g2 := ge_ne (hwc q hy.2.2 j ht.2.2)
    first
      | (have q11 := g1.mp c11; exact PE.eq (by simp [shb, bI, q11]) rfl)
      | (have q11 : ¬ mS f a (6 + p) j = -6 := fun z => c11 (g1.mpr z); have q25 := g2.mp c25; exact PE.eq (by simp [shb, bI, q25]) rfl)
      | (have q11 : ¬ mS f a (6 + p) j = -6 := fun z => c11 (g1.mpr z); have q25 : ¬ mS f a (6 + q) j = -6 := fun z => c25 (g2.mpr z); exact PE.eq (by simp [shb, bI, q11, q25]) rfl)
  · refine s_aload_n h dX8_areBoth_14 rfl <|
      gm_19 h dX8_areBoth_15 hN hM <|
      s_bipush h dX8_areBoth_18 bp_6 <|
      s_iload_n h dX8_areBoth_20 rfl <|
      s_imul h dX8_areBoth_21 <|
      s_iload_n h dX8_areBoth_22 rfl <|
      s_iadd h dX8_areBoth_23 <|
      s_iald h dX8_areBoth_24 (by omega) hM.a107 (ixc hy ht) (mS_col f a q j).symm <|
      s_if_lt (tgt := 32) h dX8_areBoth_25 (by decide) (fun c25 => ?_) (fun c25 => ?_)
    · refine s_iconst h dX8_areBoth_32 ic_0 <|
        s_iret h he rfl dX8_areBoth_33 ⟨Nat.le_refl _, Nat.le_refl _⟩ ?_
      have g1 := ge_ne (hwc p hx.2.2 j ht.2.2)
      have g2 := ge_ne (hwc q hy.2.2 j ht.2.2)
      first
        | (have q11 := g1.mp c11; exact PE.eq (by simp [shb, bI, q11]) rfl)
        | (have q11 : ¬ mS f a (6 + p) j = -6 := fun z => c11 (g1.mpr z); have q25 := g2.mp c25; exact PE.eq (by simp [shb, bI, q25]) rfl)
        | (have q11 : ¬ mS f a (6 + p) j = -6 := fun z => c11 (g1.mpr z); have q25 : ¬ mS f a (6 + q) j = -6 := fun z => c25 (g2.mpr z); exact PE.eq (by simp [shb, bI, q11, q25]) rfl)
    · refine s_iconst h dX8_areBoth_28 ic_1 <|
        s_goto (tgt := 33) h dX8_areBoth_29 (by decide) <|
        s_iret h he rfl dX8_areBoth_33 ⟨Nat.le_refl _, Nat.le_refl _⟩ ?_
      have g1 := ge_ne (hwc p hx.2.2 j ht.2.2)
      have g2 := ge_ne (hwc q hy.2.2 j ht.2.2)
      first
        | (have q11 := g1.mp c11; exact PE.eq (by simp [shb, bI, q11]) rfl)
        | (have q11 : ¬ mS f a (6 + p) j = -6 := fun z => c11 (g1.mpr z); have q25 := g2.mp c25; exact PE.eq (by simp [shb, bI, q25]) rfl)
        | (have q11 : ¬ mS f a (6 + p) j = -6 := fun z => c11 (g1.mpr z); have q25 : ¬ mS f a (6 + q) j = -6 := fun z => c25 (g2.mpr z); exact PE.eq (by simp [shb, bI, q11, q25]) rfl)
theorem c_X8_kindBy {l : Launch} {D : va_G} {N : Nat} {adr : Nat → Nat} {G : Nat → va_E} {b a : Bool} :
    CT l D yX8_kindBy cX8_kindBy 2 (some FieldType.int) (rl 0) [.int (bI b), .int (bI a)] N adr G (PE (some (.int (kBy b a))) N adr G) := by
  refine CT.of (by decide +kernel) (Nat.le_of_ble_eq_true rfl) (fun Γ h he => ?_)
  have h : cx l D (rl 0) RX8 cX8_kindBy 2 Γ := h
  show SX Γ 0 0 0 [(0, .int (bI b)), (1, .int (bI a))] [] N adr G
  refine s_iload_n h dX8_kindBy_0 rfl <|
    s_if_ne (tgt := 12) h dX8_kindBy_1 (by decide) (fun c1 => ?_) (fun c1 => ?_)
  · refine s_iload_n h dX8_kindBy_12 rfl <|
      s_if_ne (tgt := 20) h dX8_kindBy_13 (by decide) (fun c13 => ?_) (fun c13 => ?_)
    · refine s_iload_n h dX8_kindBy_20 rfl <|
        s_if_ne (tgt := 28) h dX8_kindBy_21 (by decide) (fun c21 => ?_) (fun c21 => ?_)
      · refine s_iconst h dX8_kindBy_28 ic_3 <|
          s_iret h he rfl dX8_kindBy_29 ⟨Nat.le_refl _, Nat.le_refl _⟩ ?_
        first
          | (have q1 := bI_0 c1; have q5 := bI_0 c5; exact PE.eq (by rw [q1, q5]; rfl) rfl)
          | (have q1 := bI_0 c1; have q5 := bI_1 c5; exact PE.eq (by rw [q1, q5]; rfl) rfl)
          | (have q1 := bI_1 c1; have q21 := bI_1 c21; exact PE.eq (by rw [q1, q21]; rfl) rfl)
          | (have q1 := bI_1 c1; have q21 := bI_0 c21; exact PE.eq (by rw [q1, q21]; rfl) rfl)
          | exact absurd c13 (by rw [bI_1 c1]; decide)
          | exact absurd c1 (by rw [bI_0 c13]; decide)
          | exact absurd c13 c1
          | exact absurd c1 c13
      · refine s_iconst h dX8_kindBy_24 ic_2 <|
          s_goto (tgt := 29) h dX8_kindBy_25 (by decide) <|
          s_iret h he rfl dX8_kindBy_29 ⟨Nat.le_refl _, Nat.le_refl _⟩ ?_
        first
          | (have q1 := bI_0 c1; have q5 := bI_0 c5; exact PE.eq (by rw [q1, q5]; rfl) rfl)
          | (have q1 := bI_0 c1; have q5 := bI_1 c5; exact PE.eq (by rw [q1, q5]; rfl) rfl)
          | (have q1 := bI_1 c1; have q21 := bI_1 c21; exact PE.eq (by rw [q1, q21]; rfl) rfl)
          | (have q1 := bI_1 c1; have q21 := bI_0 c21; exact PE.eq (by rw [q1, q21]; rfl) rfl)
          | exact absurd c13 (by rw [bI_1 c1]; decide)
          | exact absurd c1 (by rw [bI_0 c13]; decide)
          | exact absurd c13 c1
          | exact absurd c1 c13
    · refine s_iconst h dX8_kindBy_16 ic_0 <|
        s_goto (tgt := 29) h dX8_kindBy_17 (by decide) <|
        s_iret h he rfl dX8_kindBy_29 ⟨Nat.le_refl _, Nat.le_refl _⟩ ?_
      first
        | (have q1 := bI_0 c1; have q5 := bI_0 c5; exact PE.eq (by rw [q1, q5]; rfl) rfl)
        | (have q1 := bI_0 c1; have q5 := bI_1 c5; exact PE.eq (by rw [q1, q5]; rfl) rfl)
        | (have q1 := bI_1 c1; have q21 := bI_1 c21; exact PE.eq (by rw [q1, q21]; rfl) rfl)
        | (have q1 := bI_1 c1; have q21 := bI_0 c21; exact PE.eq (by rw [q1, q21]; rfl) rfl)
        | exact absurd c13 (by rw [bI_1 c1]; decide)
        | exact absurd c1 (by rw [bI_0 c13]; decide)
        | exact absurd c13 c1
        | exact absurd c1 c13
  · refine s_iload_n h dX8_kindBy_4 rfl <|
      s_if_ne (tgt := 12) h dX8_kindBy_5 (by decide) (fun c5 => ?_) (fun c5 => ?_)
    · refine s_iload_n h dX8_kindBy_12 rfl <|
        s_if_ne (tgt := 20) h dX8_kindBy_13 (by decide) (fun c13 => ?_) (fun c13 => ?_)
      · refine s_iload_n h dX8_kindBy_20 rfl <|
          s_if_ne (tgt := 28) h dX8_kindBy_21 (by decide) (fun c21 => ?_) (fun c21 => ?_)
        · refine s_iconst h dX8_kindBy_28 ic_3 <|
            s_iret h he rfl dX8_kindBy_29 ⟨Nat.le_refl _, Nat.le_refl _⟩ ?_
          first
            | (have q1 := bI_0 c1; have q5 := bI_0 c5; exact PE.eq (by rw [q1, q5]; rfl) rfl)
            | (have q1 := bI_0 c1; have q5 := bI_1 c5; exact PE.eq (by rw [q1, q5]; rfl) rfl)
            | (have q1 := bI_1 c1; have q21 := bI_1 c21; exact PE.eq (by rw [q1, q21]; rfl) rfl)
            | (have q1 := bI_1 c1; have q21 := bI_0 c21; exact PE.eq (by rw [q1, q21]; rfl) rfl)
            | exact absurd c13 (by rw [bI_1 c1]; decide)
            | exact absurd c1 (by rw [bI_0 c13]; decide)
            | exact absurd c13 c1
            | exact absurd c1 c13
        · refine s_iconst h dX8_kindBy_24 ic_2 <|
            s_goto (tgt := 29) h dX8_kindBy_25 (by decide) <|
            s_iret h he rfl dX8_kindBy_29 ⟨Nat.le_refl _, Nat.le_refl _⟩ ?_
          first
            | (have q1 := bI_0 c1; have q5 := bI_0 c5; exact PE.eq (by rw [q1, q5]; rfl) rfl)
            | (have q1 := bI_0 c1; have q5 := bI_1 c5; exact PE.eq (by rw [q1, q5]; rfl) rfl)
            | (have q1 := bI_1 c1; have q21 := bI_1 c21; exact PE.eq (by rw [q1, q21]; rfl) rfl)
            | (have q1 := bI_1 c1; have q21 := bI_0 c21; exact PE.eq (by rw [q1, q21]; rfl) rfl)
            | exact absurd c13 (by rw [bI_1 c1]; decide)
            | exact absurd c1 (by rw [bI_0 c13]; decide)
            | exact absurd c13 c1
            | exact absurd c1 c13
      · refine s_iconst h dX8_kindBy_16 ic_0 <|
          s_goto (tgt := 29) h dX8_kindBy_17 (by decide) <|
          s_iret h he rfl dX8_kindBy_29 ⟨Nat.le_refl _, Nat.le_refl _⟩ ?_
        first
          | (have q1 := bI_0 c1; have q5 := bI_0 c5; exact PE.eq (by rw [q1, q5]; rfl) rfl)
          | (have q1 := bI_0 c1; have q5 := bI_1 c5; exact PE.eq (by rw [q1, q5]; rfl) rfl)
          | (have q1 := bI_1 c1; have q21 := bI_1 c21; exact PE.eq (by rw [q1, q21]; rfl) rfl)
          | (have q1 := bI_1 c1; have q21 := bI_0 c21; exact PE.eq (by rw [q1, q21]; rfl) rfl)
          | exact absurd c13 (by rw [bI_1 c1]; decide)
          | exact absurd c1 (by rw [bI_0 c13]; decide)
          | exact absurd c13 c1
          | exact absurd c1 c13
    · refine s_iconst h dX8_kindBy_8 ic_1 <|
        s_goto (tgt := 29) h dX8_kindBy_9 (by decide) <|
        s_iret h he rfl dX8_kindBy_29 ⟨Nat.le_refl _, Nat.le_refl _⟩ ?_
      first
        | (have q1 := bI_0 c1; have q5 := bI_0 c5; exact PE.eq (by rw [q1, q5]; rfl) rfl)
        | (have q1 := bI_0 c1; have q5 := bI_1 c5; exact PE.eq (by rw [q1, q5]; rfl) rfl)
        | (have q1 := bI_1 c1; have q21 := bI_1 c21; exact PE.eq (by rw [q1, q21]; rfl) rfl)
        | (have q1 := bI_1 c1; have q21 := bI_0 c21; exact PE.eq (by rw [q1, q21]; rfl) rfl)
        | exact absurd c13 (by rw [bI_1 c1]; decide)
        | exact absurd c1 (by rw [bI_0 c13]; decide)
        | exact absurd c13 c1
        | exact absurd c1 c13
theorem c_X8_kindOf {l : Launch} {D : va_G} {N : Nat} {adr : Nat → Nat} {G : Nat → va_E} {G0 : Nat → va_E} {f : Nat → Int32} {a : Nat → Nat → Int32} (hN : 115 ≤ N) (hM : isMF D adr G0 G f a) {x y : Int32} {p q : Nat} (hx : ix x p 10) (hy : ix y q 10) (hwc : wfC (mS f a)) :
    CT l D yX8_kindOf cX8_kindOf 7 (some FieldType.int) (rl 1) [.ref (adr 103), .int x, .int y] N adr G (PE (some (.int (kW (mS f a (6 + p)) (mS f a (6 + q))))) N adr G) := by
  refine CT.of (by decide +kernel) (Nat.le_of_ble_eq_true rfl) (fun Γ h he => ?_)
  have h : cx l D (rl 1) RX8 cX8_kindOf 7 Γ := h
  show SX Γ 0 0 0 [(0, .ref (adr 103)), (1, .int x), (2, .int y)] [] N adr G
  refine s_iconst h dX8_kindOf_0 ic_0 <|
    s_istore_n h dX8_kindOf_1 rfl <|
    s_iconst h dX8_kindOf_2 ic_0 <|
    s_istore h dX8_kindOf_3 rfl <|
    s_iconst h dX8_kindOf_5 ic_0 <|
    s_istore h dX8_kindOf_6 rfl <|
    ?_
  refine SX.loc (up_ind (n := 6) (Q := fun i => SX Γ 0 0 8 [(0, .ref (adr 103)), (1, .int x), (2, .int y), (3, .int (bI (aB (mS f a (6 + p)) (mS f a (6 + q)) i))), (4, .int (bI (aA (mS f a (6 + p)) (mS f a (6 + q)) i))), (5, .int (nI i))] [] N adr G) ?_ ?_ 0 (Nat.zero_le _)) ⟨rfl, rfl, rfl, rfl, rfl, rfl, trivial⟩
  · show SX _ _ _ _ _ _ _ _ _
    refine s_iload h dX8_kindOf_8 rfl <|
    s_bipush h dX8_kindOf_10 bp_6 <|
    s_icmp_ge (tgt := 85) h dX8_kindOf_12 (by decide) (kf := fun qx => absurd (by decide +kernel) qx) (kt := fun _ => ?_)
    refine s_iload_n h dX8_kindOf_85 rfl <|
    s_iload h dX8_kindOf_86 rfl <|
    k_X8_117 h (c_X8_kindBy) rfl rfl dX8_kindOf_88 <|
    PE.go <|
    s_iret h he rfl dX8_kindOf_91 ⟨Nat.le_refl _, Nat.le_refl _⟩ ?_
    exact PE.eq (by rw [kBy_kW]) rfl
  · intro i hi ih 
    show SX _ _ _ _ _ _ _ _ _
    refine s_iload h dX8_kindOf_8 rfl <|
    s_bipush h dX8_kindOf_10 bp_6 <|
    s_icmp_ge (tgt := 85) h dX8_kindOf_12 (by decide) (kt := fun qx => absurd qx (nI_ge hi (by decide))) (kf := fun _ => ?_)
    refine s_aload_n h dX8_kindOf_15 rfl <|
    s_iload_n h dX8_kindOf_16 rfl <|
    s_iload_n h dX8_kindOf_17 rfl <|
    s_iload h dX8_kindOf_18 rfl <|
    k_X8_110 h (c_X8_areBoth hN hM hx hy hwc (ix_n hi (by decide))) (by omega) hM.o rfl rfl dX8_kindOf_20 <|
    PE.go <|
    s_istore h dX8_kindOf_23 rfl <|
    s_iload_n h dX8_kindOf_25 rfl <|
    s_if_ne (tgt := 45) h dX8_kindOf_26 (by decide) (fun c26 => ?_) (fun c26 => ?_)
    · refine s_iconst h dX8_kindOf_45 ic_1 <|
      s_goto (tgt := 50) h dX8_kindOf_46 (by decide) <|
      s_topi (bI (aB (mS f a (6 + p)) (mS f a (6 + q)) (i + 1))) (by
        rw [aB_s]
        first
          | (have e1 := bI_1 c26; rw [e1]; cases shb (mS f a (6 + p)) (mS f a (6 + q)) i <;> rfl)
          | (have e1 := bI_0 c26; have e2 := bI_0 c31; rw [e1, e2]; rfl)
          | (have e1 := bI_0 c26; have e2 := bI_1 c31; have e3 := decide_eq_true (i32_nle.mp c42); rw [e1, e2, e3]; rfl)
          | (have e1 := bI_0 c26; have e2 := bI_1 c31; have e3 := decide_eq_false (i32_nlt.mpr c42); rw [e1, e2, e3]; rfl)) <|
      s_istore_n h dX8_kindOf_50 rfl <|
      s_iload h dX8_kindOf_51 rfl <|
      s_if_ne (tgt := 72) h dX8_kindOf_53 (by decide) (fun c53 => ?_) (fun c53 => ?_)
      · refine s_iconst h dX8_kindOf_72 ic_1 <|
        s_goto (tgt := 77) h dX8_kindOf_73 (by decide) <|
        s_topi (bI (aA (mS f a (6 + p)) (mS f a (6 + q)) (i + 1))) (by
        rw [aA_s]
        first
          | (have e1 := bI_1 c53; rw [e1]; cases shb (mS f a (6 + p)) (mS f a (6 + q)) i <;> rfl)
          | (have e1 := bI_0 c53; have e2 := bI_0 c58; rw [e1, e2]; rfl)
          | (have e1 := bI_0 c53; have e2 := bI_1 c58; have e3 := decide_eq_true (i32_nle.mp c69); rw [e1, e2, e3]; rfl)
          | (have e1 := bI_0 c53; have e2 := bI_1 c58; have e3 := decide_eq_false (i32_nlt.mpr c69); rw [e1, e2, e3]; rfl)) <|
        s_istore h dX8_kindOf_77 rfl <|
        s_iincR h dX8_kindOf_79 rfl rfl ic_1 (nI_1 i) <|
        s_goto (tgt := 8) h dX8_kindOf_82 (by decide) <|
        ?_
        exact SX.loc (ih) ⟨rfl, rfl, rfl, rfl, rfl, rfl, trivial⟩
      · refine s_iload h dX8_kindOf_56 rfl <|
        s_if_eq (tgt := 76) h dX8_kindOf_58 (by decide) (fun c58 => ?_) (fun c58 => ?_)
        · refine s_iconst h dX8_kindOf_76 ic_0 <|
          s_topi (bI (aA (mS f a (6 + p)) (mS f a (6 + q)) (i + 1))) (by
        rw [aA_s]
        first
          | (have e1 := bI_1 c53; rw [e1]; cases shb (mS f a (6 + p)) (mS f a (6 + q)) i <;> rfl)
          | (have e1 := bI_0 c53; have e2 := bI_0 c58; rw [e1, e2]; rfl)
          | (have e1 := bI_0 c53; have e2 := bI_1 c58; have e3 := decide_eq_true (i32_nle.mp c69); rw [e1, e2, e3]; rfl)
          | (have e1 := bI_0 c53; have e2 := bI_1 c58; have e3 := decide_eq_false (i32_nlt.mpr c69); rw [e1, e2, e3]; rfl)) <|
          s_istore h dX8_kindOf_77 rfl <|
          s_iincR h dX8_kindOf_79 rfl rfl ic_1 (nI_1 i) <|
          s_goto (tgt := 8) h dX8_kindOf_82 (by decide) <|
          ?_
          exact SX.loc (ih) ⟨rfl, rfl, rfl, rfl, rfl, rfl, trivial⟩
        · refine s_aload_n h dX8_kindOf_61 rfl <|
          s_iload_n h dX8_kindOf_62 rfl <|
          s_iload_n h dX8_kindOf_63 rfl <|
          s_iload h dX8_kindOf_64 rfl <|
          k_X8_114 h (c_X8_shiftOf hN hM hx hy (ix_n hi (by decide))) (by omega) hM.o rfl rfl dX8_kindOf_66 <|
          PE.go <|
          s_if_le (tgt := 76) h dX8_kindOf_69 (by decide) (fun c69 => ?_) (fun c69 => ?_)
          · refine s_iconst h dX8_kindOf_76 ic_0 <|
            s_topi (bI (aA (mS f a (6 + p)) (mS f a (6 + q)) (i + 1))) (by
        rw [aA_s]
        first
          | (have e1 := bI_1 c53; rw [e1]; cases shb (mS f a (6 + p)) (mS f a (6 + q)) i <;> rfl)
          | (have e1 := bI_0 c53; have e2 := bI_0 c58; rw [e1, e2]; rfl)
          | (have e1 := bI_0 c53; have e2 := bI_1 c58; have e3 := decide_eq_true (i32_nle.mp c69); rw [e1, e2, e3]; rfl)
          | (have e1 := bI_0 c53; have e2 := bI_1 c58; have e3 := decide_eq_false (i32_nlt.mpr c69); rw [e1, e2, e3]; rfl)) <|
            s_istore h dX8_kindOf_77 rfl <|
            s_iincR h dX8_kindOf_79 rfl rfl ic_1 (nI_1 i) <|
            s_goto (tgt := 8) h dX8_kindOf_82 (by decide) <|
            ?_
            exact SX.loc (ih) ⟨rfl, rfl, rfl, rfl, rfl, rfl, trivial⟩
          · refine s_iconst h dX8_kindOf_72 ic_1 <|
            s_goto (tgt := 77) h dX8_kindOf_73 (by decide) <|
            s_topi (bI (aA (mS f a (6 + p)) (mS f a (6 + q)) (i + 1))) (by
        rw [aA_s]
        first
          | (have e1 := bI_1 c53; rw [e1]; cases shb (mS f a (6 + p)) (mS f a (6 + q)) i <;> rfl)
          | (have e1 := bI_0 c53; have e2 := bI_0 c58; rw [e1, e2]; rfl)
          | (have e1 := bI_0 c53; have e2 := bI_1 c58; have e3 := decide_eq_true (i32_nle.mp c69); rw [e1, e2, e3]; rfl)
          | (have e1 := bI_0 c53; have e2 := bI_1 c58; have e3 := decide_eq_false (i32_nlt.mpr c69); rw [e1, e2, e3]; rfl)) <|
            s_istore h dX8_kindOf_77 rfl <|
            s_iincR h dX8_kindOf_79 rfl rfl ic_1 (nI_1 i) <|
            s_goto (tgt := 8) h dX8_kindOf_82 (by decide) <|
            ?_
            exact SX.loc (ih) ⟨rfl, rfl, rfl, rfl, rfl, rfl, trivial⟩
    · refine s_iload h dX8_kindOf_29 rfl <|
      s_if_eq (tgt := 49) h dX8_kindOf_31 (by decide) (fun c31 => ?_) (fun c31 => ?_)
      · refine s_iconst h dX8_kindOf_49 ic_0 <|
        s_topi (bI (aB (mS f a (6 + p)) (mS f a (6 + q)) (i + 1))) (by
        rw [aB_s]
        first
          | (have e1 := bI_1 c26; rw [e1]; cases shb (mS f a (6 + p)) (mS f a (6 + q)) i <;> rfl)
          | (have e1 := bI_0 c26; have e2 := bI_0 c31; rw [e1, e2]; rfl)
          | (have e1 := bI_0 c26; have e2 := bI_1 c31; have e3 := decide_eq_true (i32_nle.mp c42); rw [e1, e2, e3]; rfl)
          | (have e1 := bI_0 c26; have e2 := bI_1 c31; have e3 := decide_eq_false (i32_nlt.mpr c42); rw [e1, e2, e3]; rfl)) <|
        s_istore_n h dX8_kindOf_50 rfl <|
        s_iload h dX8_kindOf_51 rfl <|
        s_if_ne (tgt := 72) h dX8_kindOf_53 (by decide) (fun c53 => ?_) (fun c53 => ?_)
        · refine s_iconst h dX8_kindOf_72 ic_1 <|
          s_goto (tgt := 77) h dX8_kindOf_73 (by decide) <|
          s_topi (bI (aA (mS f a (6 + p)) (mS f a (6 + q)) (i + 1))) (by
        rw [aA_s]
        first
          | (have e1 := bI_1 c53; rw [e1]; cases shb (mS f a (6 + p)) (mS f a (6 + q)) i <;> rfl)
          | (have e1 := bI_0 c53; have e2 := bI_0 c58; rw [e1, e2]; rfl)
          | (have e1 := bI_0 c53; have e2 := bI_1 c58; have e3 := decide_eq_true (i32_nle.mp c69); rw [e1, e2, e3]; rfl)
          | (have e1 := bI_0 c53; have e2 := bI_1 c58; have e3 := decide_eq_false (i32_nlt.mpr c69); rw [e1, e2, e3]; rfl)) <|
          s_istore h dX8_kindOf_77 rfl <|
          s_iincR h dX8_kindOf_79 rfl rfl ic_1 (nI_1 i) <|
          s_goto (tgt := 8) h dX8_kindOf_82 (by decide) <|
          ?_
          exact SX.loc (ih) ⟨rfl, rfl, rfl, rfl, rfl, rfl, trivial⟩
        · refine s_iload h dX8_kindOf_56 rfl <|
          s_if_eq (tgt := 76) h dX8_kindOf_58 (by decide) (fun c58 => ?_) (fun c58 => ?_)
          · refine s_iconst h dX8_kindOf_76 ic_0 <|
            s_topi (bI (aA (mS f a (6 + p)) (mS f a (6 + q)) (i + 1))) (by
        rw [aA_s]
        first
          | (have e1 := bI_1 c53; rw [e1]; cases shb (mS f a (6 + p)) (mS f a (6 + q)) i <;> rfl)
          | (have e1 := bI_0 c53; have e2 := bI_0 c58; rw [e1, e2]; rfl)
          | (have e1 := bI_0 c53; have e2 := bI_1 c58; have e3 := decide_eq_true (i32_nle.mp c69); rw [e1, e2, e3]; rfl)
          | (have e1 := bI_0 c53; have e2 := bI_1 c58; have e3 := decide_eq_false (i32_nlt.mpr c69); rw [e1, e2, e3]; rfl)) <|
            s_istore h dX8_kindOf_77 rfl <|
            s_iincR h dX8_kindOf_79 rfl rfl ic_1 (nI_1 i) <|
            s_goto (tgt := 8) h dX8_kindOf_82 (by decide) <|
            ?_
            exact SX.loc (ih) ⟨rfl, rfl, rfl, rfl, rfl, rfl, trivial⟩
          · refine s_aload_n h dX8_kindOf_61 rfl <|
            s_iload_n h dX8_kindOf_62 rfl <|
            s_iload_n h dX8_kindOf_63 rfl <|
            s_iload h dX8_kindOf_64 rfl <|
            k_X8_114 h (c_X8_shiftOf hN hM hx hy (ix_n hi (by decide))) (by omega) hM.o rfl rfl dX8_kindOf_66 <|
            PE.go <|
            s_if_le (tgt := 76) h dX8_kindOf_69 (by decide) (fun c69 => ?_) (fun c69 => ?_)
            · refine s_iconst h dX8_kindOf_76 ic_0 <|
              s_topi (bI (aA (mS f a (6 + p)) (mS f a (6 + q)) (i + 1))) (by
        rw [aA_s]
        first
          | (have e1 := bI_1 c53; rw [e1]; cases shb (mS f a (6 + p)) (mS f a (6 + q)) i <;> rfl)
          | (have e1 := bI_0 c53; have e2 := bI_0 c58; rw [e1, e2]; rfl)
          | (have e1 := bI_0 c53; have e2 := bI_1 c58; have e3 := decide_eq_true (i32_nle.mp c69); rw [e1, e2, e3]; rfl)
          | (have e1 := bI_0 c53; have e2 := bI_1 c58; have e3 := decide_eq_false (i32_nlt.mpr c69); rw [e1, e2, e3]; rfl)) <|
              s_istore h dX8_kindOf_77 rfl <|
              s_iincR h dX8_kindOf_79 rfl rfl ic_1 (nI_1 i) <|
              s_goto (tgt := 8) h dX8_kindOf_82 (by decide) <|
              ?_
              exact SX.loc (ih) ⟨rfl, rfl, rfl, rfl, rfl, rfl, trivial⟩
            · refine s_iconst h dX8_kindOf_72 ic_1 <|
              s_goto (tgt := 77) h dX8_kindOf_73 (by decide) <|
              s_topi (bI (aA (mS f a (6 + p)) (mS f a (6 + q)) (i + 1))) (by
        rw [aA_s]
        first
          | (have e1 := bI_1 c53; rw [e1]; cases shb (mS f a (6 + p)) (mS f a (6 + q)) i <;> rfl)
          | (have e1 := bI_0 c53; have e2 := bI_0 c58; rw [e1, e2]; rfl)
          | (have e1 := bI_0 c53; have e2 := bI_1 c58; have e3 := decide_eq_true (i32_nle.mp c69); rw [e1, e2, e3]; rfl)
          | (have e1 := bI_0 c53; have e2 := bI_1 c58; have e3 := decide_eq_false (i32_nlt.mpr c69); rw [e1, e2, e3]; rfl)) <|
              s_istore h dX8_kindOf_77 rfl <|
              s_iincR h dX8_kindOf_79 rfl rfl ic_1 (nI_1 i) <|
              s_goto (tgt := 8) h dX8_kindOf_82 (by decide) <|
              ?_
              exact SX.loc (ih) ⟨rfl, rfl, rfl, rfl, rfl, rfl, trivial⟩
      · refine s_aload_n h dX8_kindOf_34 rfl <|
        s_iload_n h dX8_kindOf_35 rfl <|
        s_iload_n h dX8_kindOf_36 rfl <|
        s_iload h dX8_kindOf_37 rfl <|
        k_X8_114 h (c_X8_shiftOf hN hM hx hy (ix_n hi (by decide))) (by omega) hM.o rfl rfl dX8_kindOf_39 <|
        PE.go <|
        s_if_ge (tgt := 49) h dX8_kindOf_42 (by decide) (fun c42 => ?_) (fun c42 => ?_)
        · refine s_iconst h dX8_kindOf_49 ic_0 <|
          s_topi (bI (aB (mS f a (6 + p)) (mS f a (6 + q)) (i + 1))) (by
        rw [aB_s]
        first
          | (have e1 := bI_1 c26; rw [e1]; cases shb (mS f a (6 + p)) (mS f a (6 + q)) i <;> rfl)
          | (have e1 := bI_0 c26; have e2 := bI_0 c31; rw [e1, e2]; rfl)
          | (have e1 := bI_0 c26; have e2 := bI_1 c31; have e3 := decide_eq_true (i32_nle.mp c42); rw [e1, e2, e3]; rfl)
          | (have e1 := bI_0 c26; have e2 := bI_1 c31; have e3 := decide_eq_false (i32_nlt.mpr c42); rw [e1, e2, e3]; rfl)) <|
          s_istore_n h dX8_kindOf_50 rfl <|
          s_iload h dX8_kindOf_51 rfl <|
          s_if_ne (tgt := 72) h dX8_kindOf_53 (by decide) (fun c53 => ?_) (fun c53 => ?_)
          · refine s_iconst h dX8_kindOf_72 ic_1 <|
            s_goto (tgt := 77) h dX8_kindOf_73 (by decide) <|
            s_topi (bI (aA (mS f a (6 + p)) (mS f a (6 + q)) (i + 1))) (by
        rw [aA_s]
        first
          | (have e1 := bI_1 c53; rw [e1]; cases shb (mS f a (6 + p)) (mS f a (6 + q)) i <;> rfl)
          | (have e1 := bI_0 c53; have e2 := bI_0 c58; rw [e1, e2]; rfl)
          | (have e1 := bI_0 c53; have e2 := bI_1 c58; have e3 := decide_eq_true (i32_nle.mp c69); rw [e1, e2, e3]; rfl)
          | (have e1 := bI_0 c53; have e2 := bI_1 c58; have e3 := decide_eq_false (i32_nlt.mpr c69); rw [e1, e2, e3]; rfl)) <|
            s_istore h dX8_kindOf_77 rfl <|
            s_iincR h dX8_kindOf_79 rfl rfl ic_1 (nI_1 i) <|
            s_goto (tgt := 8) h dX8_kindOf_82 (by decide) <|
            ?_
            exact SX.loc (ih) ⟨rfl, rfl, rfl, rfl, rfl, rfl, trivial⟩
          · refine s_iload h dX8_kindOf_56 rfl <|
            s_if_eq (tgt := 76) h dX8_kindOf_58 (by decide) (fun c58 => ?_) (fun c58 => ?_)
            · refine s_iconst h dX8_kindOf_76 ic_0 <|
              s_topi (bI (aA (mS f a (6 + p)) (mS f a (6 + q)) (i + 1))) (by
        rw [aA_s]
        first
          | (have e1 := bI_1 c53; rw [e1]; cases shb (mS f a (6 + p)) (mS f a (6 + q)) i <;> rfl)
          | (have e1 := bI_0 c53; have e2 := bI_0 c58; rw [e1, e2]; rfl)
          | (have e1 := bI_0 c53; have e2 := bI_1 c58; have e3 := decide_eq_true (i32_nle.mp c69); rw [e1, e2, e3]; rfl)
          | (have e1 := bI_0 c53; have e2 := bI_1 c58; have e3 := decide_eq_false (i32_nlt.mpr c69); rw [e1, e2, e3]; rfl)) <|
              s_istore h dX8_kindOf_77 rfl <|
              s_iincR h dX8_kindOf_79 rfl rfl ic_1 (nI_1 i) <|
              s_goto (tgt := 8) h dX8_kindOf_82 (by decide) <|
              ?_
              exact SX.loc (ih) ⟨rfl, rfl, rfl, rfl, rfl, rfl, trivial⟩
            · refine s_aload_n h dX8_kindOf_61 rfl <|
              s_iload_n h dX8_kindOf_62 rfl <|
              s_iload_n h dX8_kindOf_63 rfl <|
              s_iload h dX8_kindOf_64 rfl <|
              k_X8_114 h (c_X8_shiftOf hN hM hx hy (ix_n hi (by decide))) (by omega) hM.o rfl rfl dX8_kindOf_66 <|
              PE.go <|
              s_if_le (tgt := 76) h dX8_kindOf_69 (by decide) (fun c69 => ?_) (fun c69 => ?_)
              · refine s_iconst h dX8_kindOf_76 ic_0 <|
                s_topi (bI (aA (mS f a (6 + p)) (mS f a (6 + q)) (i + 1))) (by
        rw [aA_s]
        first
          | (have e1 := bI_1 c53; rw [e1]; cases shb (mS f a (6 + p)) (mS f a (6 + q)) i <;> rfl)
          | (have e1 := bI_0 c53; have e2 := bI_0 c58; rw [e1, e2]; rfl)
          | (have e1 := bI_0 c53; have e2 := bI_1 c58; have e3 := decide_eq_true (i32_nle.mp c69); rw [e1, e2, e3]; rfl)
          | (have e1 := bI_0 c53; have e2 := bI_1 c58; have e3 := decide_eq_false (i32_nlt.mpr c69); rw [e1, e2, e3]; rfl)) <|
                s_istore h dX8_kindOf_77 rfl <|
                s_iincR h dX8_kindOf_79 rfl rfl ic_1 (nI_1 i) <|
                s_goto (tgt := 8) h dX8_kindOf_82 (by decide) <|
                ?_
                exact SX.loc (ih) ⟨rfl, rfl, rfl, rfl, rfl, rfl, trivial⟩
              · refine s_iconst h dX8_kindOf_72 ic_1 <|
                s_goto (tgt := 77) h dX8_kindOf_73 (by decide) <|
                s_topi (bI (aA (mS f a (6 + p)) (mS f a (6 + q)) (i + 1))) (by
        rw [aA_s]
        first
          | (have e1 := bI_1 c53; rw [e1]; cases shb (mS f a (6 + p)) (mS f a (6 + q)) i <;> rfl)
          | (have e1 := bI_0 c53; have e2 := bI_0 c58; rw [e1, e2]; rfl)
          | (have e1 := bI_0 c53; have e2 := bI_1 c58; have e3 := decide_eq_true (i32_nle.mp c69); rw [e1, e2, e3]; rfl)
          | (have e1 := bI_0 c53; have e2 := bI_1 c58; have e3 := decide_eq_false (i32_nlt.mpr c69); rw [e1, e2, e3]; rfl)) <|
                s_istore h dX8_kindOf_77 rfl <|
                s_iincR h dX8_kindOf_79 rfl rfl ic_1 (nI_1 i) <|
                s_goto (tgt := 8) h dX8_kindOf_82 (by decide) <|
                ?_
                exact SX.loc (ih) ⟨rfl, rfl, rfl, rfl, rfl, rfl, trivial⟩
        · refine s_iconst h dX8_kindOf_45 ic_1 <|
          s_goto (tgt := 50) h dX8_kindOf_46 (by decide) <|
          s_topi (bI (aB (mS f a (6 + p)) (mS f a (6 + q)) (i + 1))) (by
        rw [aB_s]
        first
          | (have e1 := bI_1 c26; rw [e1]; cases shb (mS f a (6 + p)) (mS f a (6 + q)) i <;> rfl)
          | (have e1 := bI_0 c26; have e2 := bI_0 c31; rw [e1, e2]; rfl)
          | (have e1 := bI_0 c26; have e2 := bI_1 c31; have e3 := decide_eq_true (i32_nle.mp c42); rw [e1, e2, e3]; rfl)
          | (have e1 := bI_0 c26; have e2 := bI_1 c31; have e3 := decide_eq_false (i32_nlt.mpr c42); rw [e1, e2, e3]; rfl)) <|
          s_istore_n h dX8_kindOf_50 rfl <|
          s_iload h dX8_kindOf_51 rfl <|
          s_if_ne (tgt := 72) h dX8_kindOf_53 (by decide) (fun c53 => ?_) (fun c53 => ?_)
          · refine s_iconst h dX8_kindOf_72 ic_1 <|
            s_goto (tgt := 77) h dX8_kindOf_73 (by decide) <|
            s_topi (bI (aA (mS f a (6 + p)) (mS f a (6 + q)) (i + 1))) (by
        rw [aA_s]
        first
          | (have e1 := bI_1 c53; rw [e1]; cases shb (mS f a (6 + p)) (mS f a (6 + q)) i <;> rfl)
          | (have e1 := bI_0 c53; have e2 := bI_0 c58; rw [e1, e2]; rfl)
          | (have e1 := bI_0 c53; have e2 := bI_1 c58; have e3 := decide_eq_true (i32_nle.mp c69); rw [e1, e2, e3]; rfl)
          | (have e1 := bI_0 c53; have e2 := bI_1 c58; have e3 := decide_eq_false (i32_nlt.mpr c69); rw [e1, e2, e3]; rfl)) <|
            s_istore h dX8_kindOf_77 rfl <|
            s_iincR h dX8_kindOf_79 rfl rfl ic_1 (nI_1 i) <|
            s_goto (tgt := 8) h dX8_kindOf_82 (by decide) <|
            ?_
            exact SX.loc (ih) ⟨rfl, rfl, rfl, rfl, rfl, rfl, trivial⟩
          · refine s_iload h dX8_kindOf_56 rfl <|
            s_if_eq (tgt := 76) h dX8_kindOf_58 (by decide) (fun c58 => ?_) (fun c58 => ?_)
            · refine s_iconst h dX8_kindOf_76 ic_0 <|
              s_topi (bI (aA (mS f a (6 + p)) (mS f a (6 + q)) (i + 1))) (by
        rw [aA_s]
        first
          | (have e1 := bI_1 c53; rw [e1]; cases shb (mS f a (6 + p)) (mS f a (6 + q)) i <;> rfl)
          | (have e1 := bI_0 c53; have e2 := bI_0 c58; rw [e1, e2]; rfl)
          | (have e1 := bI_0 c53; have e2 := bI_1 c58; have e3 := decide_eq_true (i32_nle.mp c69); rw [e1, e2, e3]; rfl)
          | (have e1 := bI_0 c53; have e2 := bI_1 c58; have e3 := decide_eq_false (i32_nlt.mpr c69); rw [e1, e2, e3]; rfl)) <|
              s_istore h dX8_kindOf_77 rfl <|
              s_iincR h dX8_kindOf_79 rfl rfl ic_1 (nI_1 i) <|
              s_goto (tgt := 8) h dX8_kindOf_82 (by decide) <|
              ?_
              exact SX.loc (ih) ⟨rfl, rfl, rfl, rfl, rfl, rfl, trivial⟩
            · refine s_aload_n h dX8_kindOf_61 rfl <|
              s_iload_n h dX8_kindOf_62 rfl <|
              s_iload_n h dX8_kindOf_63 rfl <|
              s_iload h dX8_kindOf_64 rfl <|
              k_X8_114 h (c_X8_shiftOf hN hM hx hy (ix_n hi (by decide))) (by omega) hM.o rfl rfl dX8_kindOf_66 <|
              PE.go <|
              s_if_le (tgt := 76) h dX8_kindOf_69 (by decide) (fun c69 => ?_) (fun c69 => ?_)
              · refine s_iconst h dX8_kindOf_76 ic_0 <|
                s_topi (bI (aA (mS f a (6 + p)) (mS f a (6 + q)) (i + 1))) (by
        rw [aA_s]
        first
          | (have e1 := bI_1 c53; rw [e1]; cases shb (mS f a (6 + p)) (mS f a (6 + q)) i <;> rfl)
          | (have e1 := bI_0 c53; have e2 := bI_0 c58; rw [e1, e2]; rfl)
          | (have e1 := bI_0 c53; have e2 := bI_1 c58; have e3 := decide_eq_true (i32_nle.mp c69); rw [e1, e2, e3]; rfl)
          | (have e1 := bI_0 c53; have e2 := bI_1 c58; have e3 := decide_eq_false (i32_nlt.mpr c69); rw [e1, e2, e3]; rfl)) <|
                s_istore h dX8_kindOf_77 rfl <|
                s_iincR h dX8_kindOf_79 rfl rfl ic_1 (nI_1 i) <|
                s_goto (tgt := 8) h dX8_kindOf_82 (by decide) <|
                ?_
                exact SX.loc (ih) ⟨rfl, rfl, rfl, rfl, rfl, rfl, trivial⟩
              · refine s_iconst h dX8_kindOf_72 ic_1 <|
                s_goto (tgt := 77) h dX8_kindOf_73 (by decide) <|
                s_topi (bI (aA (mS f a (6 + p)) (mS f a (6 + q)) (i + 1))) (by
        rw [aA_s]
        first
          | (have e1 := bI_1 c53; rw [e1]; cases shb (mS f a (6 + p)) (mS f a (6 + q)) i <;> rfl)
          | (have e1 := bI_0 c53; have e2 := bI_0 c58; rw [e1, e2]; rfl)
          | (have e1 := bI_0 c53; have e2 := bI_1 c58; have e3 := decide_eq_true (i32_nle.mp c69); rw [e1, e2, e3]; rfl)
          | (have e1 := bI_0 c53; have e2 := bI_1 c58; have e3 := decide_eq_false (i32_nlt.mpr c69); rw [e1, e2, e3]; rfl)) <|
                s_istore h dX8_kindOf_77 rfl <|
                s_iincR h dX8_kindOf_79 rfl rfl ic_1 (nI_1 i) <|
                s_goto (tgt := 8) h dX8_kindOf_82 (by decide) <|
                ?_
                exact SX.loc (ih) ⟨rfl, rfl, rfl, rfl, rfl, rfl, trivial⟩
theorem okP_ix {sc : Nat → Nat → Int32} {a b : Int32} (h : okP sc a b = true) : ix a a.toNatClampNeg 10 ∧ ix b b.toNatClampNeg 10 := by
  unfold okP at h
  rw [Bool.and_eq_true, Bool.and_eq_true] at h
  exact ⟨pE_ix h.1, pE_ix h.2.1⟩
theorem kP_ok {sc : Nat → Nat → Int32} {a b : Int32} (h : okP sc a b = true) : kP sc a b = kW (cA sc a) (cA sc b) := by
  rw [kP, show (pE sc a && (pE sc b && !decide (a = b))) = okP sc a b from rfl, h]; rfl
theorem kP_no {sc : Nat → Nat → Int32} {a b : Int32} (h : okP sc a b = false) : kP sc a b = -1 := by
  rw [kP, show (pE sc a && (pE sc b && !decide (a = b))) = okP sc a b from rfl, h]; rfl
theorem c_X8_kind {l : Launch} {D : va_G} {N : Nat} {adr : Nat → Nat} {G : Nat → va_E} {G0 : Nat → va_E} {f : Nat → Int32} {a : Nat → Nat → Int32} (hN : 115 ≤ N) (hM : isMF D adr G0 G f a) (hwc : wfC (mS f a)) {x y : Int32} :
    CT l D yX8_kind cX8_kind 3 (some FieldType.int) (rl 3) [.ref (adr 103), .int x, .int y] N adr G (PE (some (.int (kP (mS f a) x y))) N adr G) := by
  refine CT.of (by decide +kernel) (Nat.le_of_ble_eq_true rfl) (fun Γ h he => ?_)
  have h : cx l D (rl 3) RX8 cX8_kind 3 Γ := h
  show SX Γ 0 0 0 [(0, .ref (adr 103)), (1, .int x), (2, .int y)] [] N adr G
  refine s_aload_n h dX8_kind_0 rfl <|
    s_iload_n h dX8_kind_1 rfl <|
    s_iload_n h dX8_kind_2 rfl <|
    k_X8_143 h (c_X8_areTwo hN hM) (by omega) hM.o rfl rfl dX8_kind_3 <|
    PE.go <|
    s_if_eq (tgt := 18) h dX8_kind_6 (by decide) (fun c6 => ?_) (fun c6 => ?_)
  · refine s_iconst h dX8_kind_18 ic_m1 <|
      s_iret h he rfl dX8_kind_19 ⟨Nat.le_refl _, Nat.le_refl _⟩ ?_
    first
      | (have q := bI_0 c6; exact PE.eq (by rw [kP_no q]) rfl)
      | (have q := bI_1 c6; exact PE.eq (by rw [kP_ok q]; rfl) rfl)
  · have e6 := bI_1 c6
    have hix := okP_ix e6
    refine s_aload_n h dX8_kind_9 rfl <|
      s_iload_n h dX8_kind_10 rfl <|
      s_iload_n h dX8_kind_11 rfl <|
      k_X8_139 h (c_X8_kindOf hN hM hix.1 hix.2 hwc) (by omega) hM.o rfl rfl dX8_kind_12 <|
      PE.go <|
      s_goto (tgt := 19) h dX8_kind_15 (by decide) <|
      s_iret h he rfl dX8_kind_19 ⟨Nat.le_refl _, Nat.le_refl _⟩ ?_
    first
      | (have q := bI_0 c6; exact PE.eq (by rw [kP_no q]) rfl)
      | (have q := bI_1 c6; exact PE.eq (by rw [kP_ok q]; rfl) rfl)
theorem c_X8_shift {l : Launch} {D : va_G} {N : Nat} {adr : Nat → Nat} {G : Nat → va_E} {G0 : Nat → va_E} {f : Nat → Int32} {a : Nat → Nat → Int32} (hN : 115 ≤ N) (hM : isMF D adr G0 G f a) (hwc : wfC (mS f a)) {x y t : Int32} :
    CT l D yX8_shift cX8_shift 4 (some FieldType.int) (rl 3) [.ref (adr 103), .int x, .int y, .int t] N adr G (PE (some (.int (sfR (mS f a) x y t))) N adr G) := by
  refine CT.of (by decide +kernel) (Nat.le_of_ble_eq_true rfl) (fun Γ h he => ?_)
  have h : cx l D (rl 3) RX8 cX8_shift 4 Γ := h
  show SX Γ 0 0 0 [(0, .ref (adr 103)), (1, .int x), (2, .int y), (3, .int t)] [] N adr G
  refine s_aload_n h dX8_shift_0 rfl <|
    s_iload_n h dX8_shift_1 rfl <|
    s_iload_n h dX8_shift_2 rfl <|
    k_X8_143 h (c_X8_areTwo hN hM) (by omega) hM.o rfl rfl dX8_shift_3 <|
    PE.go <|
    s_if_eq (tgt := 21) h dX8_shift_6 (by decide) (fun c6 => ?_) (fun c6 => ?_)
  · refine s_iconst h dX8_shift_21 ic_m1 <|
      s_iret h he rfl dX8_shift_22 ⟨Nat.le_refl _, Nat.le_refl _⟩ ?_
    (try have e6 := bI_1 c6)
    (try have e6 := bI_0 c6)
    (try have e18 := bI_1 c18)
    (try have e18 := bI_0 c18)
    exact PE.eq (by simp [sfR, *]) rfl
  · refine s_iload_n h dX8_shift_9 rfl <|
      s_i2l h dX8_shift_10 <|
      s_lconst h dX8_shift_11 lc_0 <|
      s_ldc2 h dX8_shift_12 tw697 <|
      k_X8_50 h (c_X8_inw (a := 0) (b := 5) (by decide) (by decide)) rfl rfl dX8_shift_15 <|
      PE.go <|
      s_if_ne (tgt := 23) h dX8_shift_18 (by decide) (fun c18 => ?_) (fun c18 => ?_)
    · (try have e6 := bI_1 c6)
      (try have e6 := bI_0 c6)
      (try have e18 := bI_1 c18)
      (try have e18 := bI_0 c18)
      have hix := okP_ix e6
      have hixt := wb_ix (n := 5) (by decide) rfl e18
      refine s_aload_n h dX8_shift_23 rfl <|
        s_iload_n h dX8_shift_24 rfl <|
        s_iload_n h dX8_shift_25 rfl <|
        s_iload_n h dX8_shift_26 rfl <|
        k_X8_110 h (c_X8_areBoth hN hM hix.1 hix.2 hwc hixt) (by omega) hM.o rfl rfl dX8_shift_27 <|
        PE.go <|
        s_if_eq (tgt := 46) h dX8_shift_30 (by decide) (fun c30 => ?_) (fun c30 => ?_)
      · refine s_bipush h dX8_shift_46 bp_m3 <|
          s_iret h he rfl dX8_shift_48 ⟨Nat.le_refl _, Nat.le_refl _⟩ ?_
        first
          | (have q := bI_1 c30; exact PE.eq (by rw [sfR, e6, e18]; exact congrArg (fun z => some (Value.int z)) (if_pos q).symm) rfl)
          | (have q := bI_0 c30; exact PE.eq (by rw [sfR, e6, e18]; exact congrArg (fun z => some (Value.int z)) (if_neg (fun z => Bool.false_ne_true (q.symm.trans z))).symm) rfl)
      · refine s_aload_n h dX8_shift_33 rfl <|
          s_iload_n h dX8_shift_34 rfl <|
          s_iload_n h dX8_shift_35 rfl <|
          s_iload_n h dX8_shift_36 rfl <|
          k_X8_114 h (c_X8_shiftOf hN hM hix.1 hix.2 hixt) (by omega) hM.o rfl rfl dX8_shift_37 <|
          PE.go <|
          s_bipush h dX8_shift_40 bp_100 <|
          s_iadd h dX8_shift_42 <|
          s_goto (tgt := 48) h dX8_shift_43 (by decide) <|
          s_iret h he rfl dX8_shift_48 ⟨Nat.le_refl _, Nat.le_refl _⟩ ?_
        first
          | (have q := bI_1 c30; exact PE.eq (by rw [sfR, e6, e18]; exact congrArg (fun z => some (Value.int z)) (if_pos q).symm) rfl)
          | (have q := bI_0 c30; exact PE.eq (by rw [sfR, e6, e18]; exact congrArg (fun z => some (Value.int z)) (if_neg (fun z => Bool.false_ne_true (q.symm.trans z))).symm) rfl)
    · refine s_iconst h dX8_shift_21 ic_m1 <|
        s_iret h he rfl dX8_shift_22 ⟨Nat.le_refl _, Nat.le_refl _⟩ ?_
      (try have e6 := bI_1 c6)
      (try have e6 := bI_0 c6)
      (try have e18 := bI_1 c18)
      (try have e18 := bI_0 c18)
      exact PE.eq (by simp [sfR, *]) rfl
