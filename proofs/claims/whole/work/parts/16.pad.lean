/-! ===== the pad ===== -/
theorem PR.eq {r q : Option Value} {N : Nat} {adr : Nat → Nat} {G : Nat → va_E} {rel : (Nat → va_E) → Prop} (e : q = r) (h : rel G) : PR r N adr rel q N adr G := ⟨e, rfl, rfl, h⟩
def isPad (D : va_G) (adr : Nat → Nat) (G : Nat → va_E) (k : Nat) (sg : Nat → Int32) (cnt pa tu : Int32) (lf rg : Nat → Int32) : Prop :=
  G k = .inr (1, [.ref (adr (k + 1)), .int cnt, .ref (adr (k + 2)), .ref (adr (k + 3)), .int pa, .int tu]) ∧ G (k + 1) = aI D 60 sg ∧ G (k + 2) = aI D 30 lf ∧ G (k + 3) = aI D 30 rg
theorem isPad.same {D : va_G} {adr : Nat → Nat} {G G2 : Nat → va_E} {k : Nat} {sg : Nat → Int32} {cnt pa tu : Int32} {lf rg : Nat → Int32} (h : isPad D adr G k sg cnt pa tu lf rg) (e : ∀ j, k ≤ j → j < k + 4 → G2 j = G j) : isPad D adr G2 k sg cnt pa tu lf rg :=
  ⟨by rw [e _ (by omega) (by omega)]; exact h.1, by rw [e _ (by omega) (by omega)]; exact h.2.1, by rw [e _ (by omega) (by omega)]; exact h.2.2.1, by rw [e _ (by omega) (by omega)]; exact h.2.2.2⟩
abbrev PSt : Type := Int32 × Nat × Nat × (Nat → Int32) × (Nat → Int32)
def pIs (s : Int32) : Bool := wb (s - 97) 0 9
def pOk (s : Int32) (st : PSt) : Bool := pIs s || (decide (s = 47) && decide (st.1 = -6))
def pStep (s : Int32) (st : PSt) : PSt := if pIs s then (if st.1 = -6 then (s - 97, st.2) else (-6, st.2.1 + 1, st.2.2.1, upd st.2.2.2.1 st.2.1 st.1, upd st.2.2.2.2 st.2.1 (s - 97))) else (st.1, st.2.1, st.2.2.1 + 1, st.2.2.2)
/-- what is read of the first i signs: the letter left alone (or -6), pairs, turned pages, lefts, rights -/
def pA (sg : Nat → Int32) (i : Nat) : PSt := fN (fun j st => pStep (sg j) st) (-6, 0, 0, fun _ => 0, fun _ => 0) i
theorem pA_s (sg : Nat → Int32) (i : Nat) : pA sg (i + 1) = pStep (sg i) (pA sg i) := rfl
theorem wb9 {x : Int32} (h : wb x 0 9 = true) : ¬ x = -6 := by
  intro q
  rw [q] at h
  exact absurd h (by decide)
theorem pA_bound (sg : Nat → Int32) : ∀ i, 2 * (pA sg i).2.1 + (if (pA sg i).1 = -6 then 0 else 1) ≤ i
  | 0 => by show 2 * 0 + (if (-6 : Int32) = -6 then 0 else 1) ≤ 0; simp
  | i + 1 => by
    have ih := pA_bound sg i
    rw [pA_s, pStep]
    by_cases h : pIs (sg i) = true
    · rw [if_pos h]
      by_cases h2 : (pA sg i).1 = -6
      · rw [if_pos h2, if_neg (show ¬ (sg i - 97, (pA sg i).2).1 = -6 from wb9 h)]
        rw [if_pos h2] at ih
        show 2 * (pA sg i).2.1 + 1 ≤ i + 1
        omega
      · rw [if_neg h2]
        rw [if_neg h2] at ih
        show 2 * ((pA sg i).2.1 + 1) + (if (-6 : Int32) = -6 then 0 else 1) ≤ i + 1
        rw [if_pos rfl]
        omega
    · rw [if_neg h]
      show 2 * (pA sg i).2.1 + (if (pA sg i).1 = -6 then 0 else 1) ≤ i + 1
      omega
def rdP (sg : Nat → Int32) (i : Nat) : Bool := !pOk (sg i) (pA sg i)
def rdR (sg : Nat → Int32) (n : Nat) : Int32 := match ffO (rdP sg) n with
  | some i => nI i
  | none => if (pA sg n).1 = -6 then -6 else nI n
theorem rdR_some {sg : Nat → Int32} {n i : Nat} (h : ffO (rdP sg) n = some i) : rdR sg n = nI i := by rw [rdR, h]
theorem rdR_none {sg : Nat → Int32} {n : Nat} (h : ffO (rdP sg) n = none) : rdR sg n = if (pA sg n).1 = -6 then -6 else nI n := by rw [rdR, h]
theorem nI_m6 {n : Nat} (h : n < 2 ^ 31) : ¬ nI n = -6 := by
  intro q
  have := nI_pos h
  rw [q] at this
  exact this (by decide)
def frP (G G2 : Nat → va_E) (k : Nat) : Prop := ∀ j, (j < k ∨ k + 4 ≤ j) → G2 j = G j
/-- the rows hold the first n pairs read -/
def pEq (lf rg : Nat → Int32) (st : PSt) : Prop := ∀ j, j < st.2.1 → lf j = st.2.2.2.1 j ∧ rg j = st.2.2.2.2 j

theorem l301 : (30 : Int32) - 1 = 29 := by decide
theorem l601 : (60 : Int32) - 1 = 59 := by decide
theorem wn {j n : Nat} (h : j < n + 1) (hn : n < 2 ^ 31) {m : Int32} (hm : m = nI n) : wb (nI j) 0 m = true := ix_wb (ix_n h (by omega)) hn hm
theorem c_X1_addSign_t {l : Launch} {D : va_G} {N : Nat} {adr : Nat → Nat} {G : Nat → va_E} {k : Nat} {sg : Nat → Int32} {n : Nat} {pa tu : Int32} {lf rg : Nat → Int32} (hkN : k + 3 < N) (hp : isPad D adr G k sg (nI n) pa tu lf rg) (hn : n < 60) {s : Int32} :
    CT l D yX1_addSign cX1_addSign 2 (some FieldType.boolean) (rl 1) [.ref (adr k), .int s] N adr G (PR (some (.int 1)) N adr (fun W => isPad D adr W k (upd sg n s) (nI (n + 1)) pa tu lf rg ∧ frP G W k)) := by
  refine CT.of (by decide +kernel) (Nat.le_of_ble_eq_true rfl) (fun Γ h he => ?_)
  have h : cx l D (rl 1) RX1 cX1_addSign 2 Γ := h
  show SX Γ 0 0 0 [(0, .ref (adr k)), (1, .int s)] [] N adr G
  refine s_aload_n h dX1_addSign_0 rfl <|
    g_X1_21 h dX1_addSign_1 (by omega) hp.1 <|
    s_iconst h dX1_addSign_4 ic_0 <|
    s_aload_n h dX1_addSign_5 rfl <|
    g_X1_9 h dX1_addSign_6 (by omega) hp.1 <|
    s_alenI h dX1_addSign_9 (by omega) hp.2.1 (show Int32.ofNat 60 = 60 from rfl) <|
    s_iconst h dX1_addSign_10 ic_1 <|
    s_isub h dX1_addSign_11 <|
    k_X1_25 h (c_X7_within) rfl rfl dX1_addSign_12 <|
    PE.go <|
    s_if_ne (tgt := 20) h dX1_addSign_15 (by decide) (kf := fun qx => absurd qx (by rw [l601, show wb (nI n) 0 59 = true from wn (n := 59) hn (by decide) rfl]; decide)) (kt := fun _ => ?_)
  refine s_aload_n h dX1_addSign_20 rfl <|
    g_X1_9 h dX1_addSign_21 (by omega) hp.1 <|
    s_aload_n h dX1_addSign_24 rfl <|
    g_X1_21 h dX1_addSign_25 (by omega) hp.1 <|
    s_iload_n h dX1_addSign_28 rfl <|
    s_iast h dX1_addSign_29 (by omega) hp.2.1 (ix_n hn (by decide)) <|
    s_aload_n h dX1_addSign_30 rfl <|
    s_dup h dX1_addSign_31 rfl <|
    g_X1_21 h dX1_addSign_32 (by omega) ((up_ne _ _ (by omega)).trans (hp.1)) <|
    s_iconst h dX1_addSign_35 ic_1 <|
    s_iadd h dX1_addSign_36 <|
    s_topi (nI (n + 1)) (nI_1 n) <|
    p_X1_21 h dX1_addSign_37 (by omega) ((up_ne _ _ (by omega)).trans (hp.1)) <|
    s_iconst h dX1_addSign_40 ic_1 <|
    s_iret h he (show narrow .boolean (.int 1) = .int 1 from rfl) dX1_addSign_41 ⟨Nat.le_refl _, Nat.le_refl _⟩ ?_
  exact PR.is ⟨⟨by rw [up_eq], by rw [up_ne _ _ (by omega), up_eq], by rw [up_ne _ _ (by omega), up_ne _ _ (by omega)]; exact hp.2.2.1, by rw [up_ne _ _ (by omega), up_ne _ _ (by omega)]; exact hp.2.2.2⟩, fun j hj => by rw [up_ne _ _ (by omega), up_ne _ _ (by omega)]⟩
theorem c_X1_addSign_f {l : Launch} {D : va_G} {N : Nat} {adr : Nat → Nat} {G : Nat → va_E} {k : Nat} {sg : Nat → Int32} {pa tu : Int32} {lf rg : Nat → Int32} (hkN : k + 3 < N) (hp : isPad D adr G k sg 60 pa tu lf rg) {s : Int32} :
    CT l D yX1_addSign cX1_addSign 2 (some FieldType.boolean) (rl 1) [.ref (adr k), .int s] N adr G (PE (some (.int 0)) N adr G) := by
  refine CT.of (by decide +kernel) (Nat.le_of_ble_eq_true rfl) (fun Γ h he => ?_)
  have h : cx l D (rl 1) RX1 cX1_addSign 2 Γ := h
  show SX Γ 0 0 0 [(0, .ref (adr k)), (1, .int s)] [] N adr G
  refine s_aload_n h dX1_addSign_0 rfl <|
    g_X1_21 h dX1_addSign_1 (by omega) hp.1 <|
    s_iconst h dX1_addSign_4 ic_0 <|
    s_aload_n h dX1_addSign_5 rfl <|
    g_X1_9 h dX1_addSign_6 (by omega) hp.1 <|
    s_alenI h dX1_addSign_9 (by omega) hp.2.1 (show Int32.ofNat 60 = 60 from rfl) <|
    s_iconst h dX1_addSign_10 ic_1 <|
    s_isub h dX1_addSign_11 <|
    k_X1_25 h (c_X7_within) rfl rfl dX1_addSign_12 <|
    PE.go <|
    s_if_ne (tgt := 20) h dX1_addSign_15 (by decide) (kt := fun qx => absurd (by rw [l601]; decide +kernel) qx) (kf := fun _ => ?_)
  refine s_iconst h dX1_addSign_18 ic_0 <|
    s_iret h he (show narrow .boolean (.int 0) = .int 0 from rfl) dX1_addSign_19 ⟨Nat.le_refl _, Nat.le_refl _⟩ ?_
  exact PE.is
theorem c_X1_addPair {l : Launch} {D : va_G} {N : Nat} {adr : Nat → Nat} {G : Nat → va_E} {k : Nat} {sg : Nat → Int32} {q : Nat} {cnt tu : Int32} {lf rg : Nat → Int32} (hkN : k + 3 < N) (hp : isPad D adr G k sg cnt (nI q) tu lf rg) (hq : q < 30) {a b : Int32} :
    CT l D yX1_addPair cX1_addPair 3 (none) (rl 1) [.ref (adr k), .int a, .int b] N adr G (PR none N adr (fun W => isPad D adr W k sg cnt (nI (q + 1)) tu (upd lf q a) (upd rg q b) ∧ frP G W k)) := by
  refine CT.of (by decide +kernel) (Nat.le_of_ble_eq_true rfl) (fun Γ h he => ?_)
  have h : cx l D (rl 1) RX1 cX1_addPair 3 Γ := h
  show SX Γ 0 0 0 [(0, .ref (adr k)), (1, .int a), (2, .int b)] [] N adr G
  refine s_aload_n h dX1_addPair_0 rfl <|
    g_X1_29 h dX1_addPair_1 (by omega) hp.1 <|
    s_iconst h dX1_addPair_4 ic_0 <|
    s_aload_n h dX1_addPair_5 rfl <|
    g_X1_15 h dX1_addPair_6 (by omega) hp.1 <|
    s_alenI h dX1_addPair_9 (by omega) hp.2.2.1 (show Int32.ofNat 30 = 30 from rfl) <|
    s_iconst h dX1_addPair_10 ic_1 <|
    s_isub h dX1_addPair_11 <|
    k_X1_25 h (c_X7_within) rfl rfl dX1_addPair_12 <|
    PE.go <|
    s_if_eq (tgt := 60) h dX1_addPair_15 (by decide) (kt := fun qx => absurd qx (by rw [l301, show wb (nI q) 0 29 = true from wn (n := 29) hq (by decide) rfl]; decide)) (kf := fun _ => ?_)
  refine s_aload_n h dX1_addPair_18 rfl <|
    g_X1_29 h dX1_addPair_19 (by omega) hp.1 <|
    s_aload_n h dX1_addPair_22 rfl <|
    g_X1_18 h dX1_addPair_23 (by omega) hp.1 <|
    s_alenI h dX1_addPair_26 (by omega) hp.2.2.2 (show Int32.ofNat 30 = 30 from rfl) <|
    s_icmp_ge (tgt := 60) h dX1_addPair_27 (by decide) (kt := fun qx => absurd qx (nI_ge hq (by decide))) (kf := fun _ => ?_)
  refine s_aload_n h dX1_addPair_30 rfl <|
    g_X1_15 h dX1_addPair_31 (by omega) hp.1 <|
    s_aload_n h dX1_addPair_34 rfl <|
    g_X1_29 h dX1_addPair_35 (by omega) hp.1 <|
    s_iload_n h dX1_addPair_38 rfl <|
    s_iast h dX1_addPair_39 (by omega) hp.2.2.1 (ix_n hq (by decide)) <|
    s_aload_n h dX1_addPair_40 rfl <|
    g_X1_18 h dX1_addPair_41 (by omega) ((up_ne _ _ (by omega)).trans (hp.1)) <|
    s_aload_n h dX1_addPair_44 rfl <|
    g_X1_29 h dX1_addPair_45 (by omega) ((up_ne _ _ (by omega)).trans (hp.1)) <|
    s_iload_n h dX1_addPair_48 rfl <|
    s_iast h dX1_addPair_49 (by omega) ((up_ne _ _ (by omega)).trans (hp.2.2.2)) (ix_n hq (by decide)) <|
    s_aload_n h dX1_addPair_50 rfl <|
    s_dup h dX1_addPair_51 rfl <|
    g_X1_29 h dX1_addPair_52 (by omega) ((up_ne _ _ (by omega)).trans ((up_ne _ _ (by omega)).trans (hp.1))) <|
    s_iconst h dX1_addPair_55 ic_1 <|
    s_iadd h dX1_addPair_56 <|
    s_topi (nI (q + 1)) (nI_1 q) <|
    p_X1_29 h dX1_addPair_57 (by omega) ((up_ne _ _ (by omega)).trans ((up_ne _ _ (by omega)).trans (hp.1))) <|
    s_vret h he dX1_addPair_60 ⟨Nat.le_refl _, Nat.le_refl _⟩ ?_
  exact PR.is ⟨⟨by rw [up_eq], by rw [up_ne _ _ (by omega), up_ne _ _ (by omega), up_ne _ _ (by omega)]; exact hp.2.1, by rw [up_ne _ _ (by omega), up_ne _ _ (by omega), up_eq], by rw [up_ne _ _ (by omega), up_eq]⟩, fun j hj => by rw [up_ne _ _ (by omega), up_ne _ _ (by omega), up_ne _ _ (by omega)]⟩
theorem c_X1_leftOf {l : Launch} {D : va_G} {N : Nat} {adr : Nat → Nat} {G : Nat → va_E} {k : Nat} {sg : Nat → Int32} {cnt pa tu : Int32} {lf rg : Nat → Int32} (hkN : k + 3 < N) (hp : isPad D adr G k sg cnt pa tu lf rg) {j : Nat} (hj : j < 30) :
    CT l D yX1_leftOf cX1_leftOf 2 (some FieldType.int) (rl 1) [.ref (adr k), .int (nI j)] N adr G (PE (some (.int (lf j))) N adr G) := by
  refine CT.of (by decide +kernel) (Nat.le_of_ble_eq_true rfl) (fun Γ h he => ?_)
  have h : cx l D (rl 1) RX1 cX1_leftOf 2 Γ := h
  show SX Γ 0 0 0 [(0, .ref (adr k)), (1, .int (nI j))] [] N adr G
  refine s_iload_n h dX1_leftOf_0 rfl <|
    s_iconst h dX1_leftOf_1 ic_0 <|
    s_aload_n h dX1_leftOf_2 rfl <|
    g_X1_15 h dX1_leftOf_3 (by omega) hp.1 <|
    s_alenI h dX1_leftOf_6 (by omega) hp.2.2.1 (show Int32.ofNat 30 = 30 from rfl) <|
    s_iconst h dX1_leftOf_7 ic_1 <|
    s_isub h dX1_leftOf_8 <|
    k_X1_25 h (c_X7_within) rfl rfl dX1_leftOf_9 <|
    PE.go <|
    s_if_eq (tgt := 24) h dX1_leftOf_12 (by decide) (kt := fun qx => absurd qx (by rw [l301, show wb (nI j) 0 29 = true from wn (n := 29) hj (by decide) rfl]; decide)) (kf := fun _ => ?_)
  refine s_aload_n h dX1_leftOf_15 rfl <|
    g_X1_15 h dX1_leftOf_16 (by omega) hp.1 <|
    s_iload_n h dX1_leftOf_19 rfl <|
    s_iald h dX1_leftOf_20 (by omega) hp.2.2.1 (ix_n hj (by decide)) rfl <|
    s_goto (tgt := 26) h dX1_leftOf_21 (by decide) <|
    s_iret h he rfl dX1_leftOf_26 ⟨Nat.le_refl _, Nat.le_refl _⟩ ?_
  exact PE.is
theorem c_X1_rightOf {l : Launch} {D : va_G} {N : Nat} {adr : Nat → Nat} {G : Nat → va_E} {k : Nat} {sg : Nat → Int32} {cnt pa tu : Int32} {lf rg : Nat → Int32} (hkN : k + 3 < N) (hp : isPad D adr G k sg cnt pa tu lf rg) {j : Nat} (hj : j < 30) :
    CT l D yX1_rightOf cX1_rightOf 2 (some FieldType.int) (rl 1) [.ref (adr k), .int (nI j)] N adr G (PE (some (.int (rg j))) N adr G) := by
  refine CT.of (by decide +kernel) (Nat.le_of_ble_eq_true rfl) (fun Γ h he => ?_)
  have h : cx l D (rl 1) RX1 cX1_rightOf 2 Γ := h
  show SX Γ 0 0 0 [(0, .ref (adr k)), (1, .int (nI j))] [] N adr G
  refine s_iload_n h dX1_rightOf_0 rfl <|
    s_iconst h dX1_rightOf_1 ic_0 <|
    s_aload_n h dX1_rightOf_2 rfl <|
    g_X1_18 h dX1_rightOf_3 (by omega) hp.1 <|
    s_alenI h dX1_rightOf_6 (by omega) hp.2.2.2 (show Int32.ofNat 30 = 30 from rfl) <|
    s_iconst h dX1_rightOf_7 ic_1 <|
    s_isub h dX1_rightOf_8 <|
    k_X1_25 h (c_X7_within) rfl rfl dX1_rightOf_9 <|
    PE.go <|
    s_if_eq (tgt := 24) h dX1_rightOf_12 (by decide) (kt := fun qx => absurd qx (by rw [l301, show wb (nI j) 0 29 = true from wn (n := 29) hj (by decide) rfl]; decide)) (kf := fun _ => ?_)
  refine s_aload_n h dX1_rightOf_15 rfl <|
    g_X1_18 h dX1_rightOf_16 (by omega) hp.1 <|
    s_iload_n h dX1_rightOf_19 rfl <|
    s_iald h dX1_rightOf_20 (by omega) hp.2.2.2 (ix_n hj (by decide)) rfl <|
    s_goto (tgt := 26) h dX1_rightOf_21 (by decide) <|
    s_iret h he rfl dX1_rightOf_26 ⟨Nat.le_refl _, Nat.le_refl _⟩ ?_
  exact PE.is
def iOf (lf rg : Nat → Int32) (p : Int32) (e : Nat) : Bool := decide (lf e = p) || decide (rg e = p)
theorem c_X1_isOf {l : Launch} {D : va_G} {N : Nat} {adr : Nat → Nat} {G : Nat → va_E} {k : Nat} {sg : Nat → Int32} {cnt pa tu : Int32} {lf rg : Nat → Int32} (hkN : k + 3 < N) (hp : isPad D adr G k sg cnt pa tu lf rg) {p : Int32} {j : Nat} (hj : j < 30) :
    CT l D yX1_isOf cX1_isOf 3 (some FieldType.boolean) (rl 2) [.ref (adr k), .int p, .int (nI j)] N adr G (PE (some (.int (bI (iOf lf rg p j)))) N adr G) := by
  refine CT.of (by decide +kernel) (Nat.le_of_ble_eq_true rfl) (fun Γ h he => ?_)
  have h : cx l D (rl 2) RX1 cX1_isOf 3 Γ := h
  show SX Γ 0 0 0 [(0, .ref (adr k)), (1, .int p), (2, .int (nI j))] [] N adr G
  refine s_aload_n h dX1_isOf_0 rfl <|
    s_iload_n h dX1_isOf_1 rfl <|
    k_X1_43 h (c_X1_leftOf hkN hp hj) (by omega) hp.1 rfl rfl dX1_isOf_2 <|
    PE.go <|
    s_iload_n h dX1_isOf_5 rfl <|
    s_icmp_eq (tgt := 18) h dX1_isOf_6 (by decide) (fun c6 => ?_) (fun c6 => ?_)
  · refine s_iconst h dX1_isOf_18 ic_1 <|
      s_goto (tgt := 23) h dX1_isOf_19 (by decide) <|
      s_iret h he rfl dX1_isOf_23 ⟨Nat.le_refl _, Nat.le_refl _⟩ ?_
    first
      | (have q6 : lf j = p := c6; exact PE.eq (by simp [iOf, bI, q6]) rfl)
      | (have q6 : ¬ lf j = p := c6; have q15 : rg j = p := c15; exact PE.eq (by simp [iOf, bI, q15]) rfl)
      | (have q6 : ¬ lf j = p := c6; have q15 : ¬ rg j = p := c15; exact PE.eq (by simp [iOf, bI, q6, q15]) rfl)
  · refine s_aload_n h dX1_isOf_9 rfl <|
      s_iload_n h dX1_isOf_10 rfl <|
      k_X1_47 h (c_X1_rightOf hkN hp hj) (by omega) hp.1 rfl rfl dX1_isOf_11 <|
      PE.go <|
      s_iload_n h dX1_isOf_14 rfl <|
      s_icmp_ne (tgt := 22) h dX1_isOf_15 (by decide) (fun c15 => ?_) (fun c15 => ?_)
    · refine s_iconst h dX1_isOf_22 ic_0 <|
        s_iret h he rfl dX1_isOf_23 ⟨Nat.le_refl _, Nat.le_refl _⟩ ?_
      first
        | (have q6 : lf j = p := c6; exact PE.eq (by simp [iOf, bI, q6]) rfl)
        | (have q6 : ¬ lf j = p := c6; have q15 : rg j = p := c15; exact PE.eq (by simp [iOf, bI, q15]) rfl)
        | (have q6 : ¬ lf j = p := c6; have q15 : ¬ rg j = p := c15; exact PE.eq (by simp [iOf, bI, q6, q15]) rfl)
    · refine s_iconst h dX1_isOf_18 ic_1 <|
        s_goto (tgt := 23) h dX1_isOf_19 (by decide) <|
        s_iret h he rfl dX1_isOf_23 ⟨Nat.le_refl _, Nat.le_refl _⟩ ?_
      first
        | (have q6 : lf j = p := c6; exact PE.eq (by simp [iOf, bI, q6]) rfl)
        | (have q6 : ¬ lf j = p := c6; have q15 : rg j = p := c15; exact PE.eq (by simp [iOf, bI, q15]) rfl)
        | (have q6 : ¬ lf j = p := c6; have q15 : ¬ rg j = p := c15; exact PE.eq (by simp [iOf, bI, q6, q15]) rfl)
def wNp (lf rg : Nat → Int32) (j e : Nat) : Bool := iOf lf rg (lf j) e || iOf lf rg (rg j) e
def wN (sc : Nat → Nat → Int32) (lf rg : Nat → Int32) (j : Nat) : Int32 := if !pE sc (lf j) || !pE sc (rg j) then 1 else if lf j = rg j then 2 else match ffO (wNp lf rg j) j with
  | some _ => 3
  | none => 0
theorem wN_1 {sc : Nat → Nat → Int32} {lf rg : Nat → Int32} {j : Nat} (h : pE sc (lf j) = false ∨ pE sc (rg j) = false) : wN sc lf rg j = 1 := by
  rw [wN, if_pos]
  rcases h with h | h <;> simp [h]
theorem wN_2 {sc : Nat → Nat → Int32} {lf rg : Nat → Int32} {j : Nat} (h : pE sc (lf j) = true) (h2 : pE sc (rg j) = true) (e : lf j = rg j) : wN sc lf rg j = 2 := by
  rw [wN, if_neg (by rw [h, h2]; decide), if_pos e]
theorem wN_3 {sc : Nat → Nat → Int32} {lf rg : Nat → Int32} {j : Nat} (h : pE sc (lf j) = true) (h2 : pE sc (rg j) = true) (e : ¬ lf j = rg j) : wN sc lf rg j = match ffO (wNp lf rg j) j with
  | some _ => 3
  | none => 0 := by
  rw [wN, if_neg (by rw [h, h2]; decide), if_neg e]
theorem c_X1_whyNot {l : Launch} {D : va_G} {N : Nat} {adr : Nat → Nat} {G : Nat → va_E} {k : Nat} {sg : Nat → Int32} {cnt pa tu : Int32} {lf rg : Nat → Int32} (hkN : k + 3 < N) (hp : isPad D adr G k sg cnt pa tu lf rg) {ks : Nat} {sc : Nat → Nat → Int32} (hsN : ks + 28 < N) (hT : isTh D adr G ks sc) (hPs : isPs D adr G ks sc) {j : Nat} (hj : j < 30) :
    CT l D yX1_whyNot cX1_whyNot 6 (some FieldType.int) (rl 3) [.ref (adr k), .int (nI j), .ref (adr ks)] N adr G (PE (some (.int (wN sc lf rg j))) N adr G) := by
  refine CT.of (by decide +kernel) (Nat.le_of_ble_eq_true rfl) (fun Γ h he => ?_)
  have h : cx l D (rl 3) RX1 cX1_whyNot 6 Γ := h
  show SX Γ 0 0 0 [(0, .ref (adr k)), (1, .int (nI j)), (2, .ref (adr ks))] [] N adr G
  cases ha : pE sc (lf j)
  · refine s_aload_n h dX1_whyNot_0 rfl <|
      s_iload_n h dX1_whyNot_1 rfl <|
      k_X1_43 h (c_X1_leftOf hkN hp hj) (by omega) hp.1 rfl rfl dX1_whyNot_2 <|
      PE.go <|
      s_istore_n h dX1_whyNot_5 rfl <|
      s_aload_n h dX1_whyNot_6 rfl <|
      s_iload_n h dX1_whyNot_7 rfl <|
      k_X1_47 h (c_X1_rightOf hkN hp hj) (by omega) hp.1 rfl rfl dX1_whyNot_8 <|
      PE.go <|
      s_istore h dX1_whyNot_11 rfl <|
      s_aload_n h dX1_whyNot_13 rfl <|
      s_iload_n h dX1_whyNot_14 rfl <|
      k_X1_50 h (c_X3_pictureAt_f hsN hT hPs ha) (by omega) hT.1 rfl rfl dX1_whyNot_15 <|
      PE.go <|
      s_ifnullN (tgt := 30) h dX1_whyNot_18 (by decide) <|
      s_iconst h dX1_whyNot_30 ic_1 <|
      s_iret h he rfl dX1_whyNot_31 ⟨Nat.le_refl _, Nat.le_refl _⟩ ?_
    exact PE.eq (by rw [wN_1 (Or.inl ha)]) rfl
  · refine s_aload_n h dX1_whyNot_0 rfl <|
      s_iload_n h dX1_whyNot_1 rfl <|
      k_X1_43 h (c_X1_leftOf hkN hp hj) (by omega) hp.1 rfl rfl dX1_whyNot_2 <|
      PE.go <|
      s_istore_n h dX1_whyNot_5 rfl <|
      s_aload_n h dX1_whyNot_6 rfl <|
      s_iload_n h dX1_whyNot_7 rfl <|
      k_X1_47 h (c_X1_rightOf hkN hp hj) (by omega) hp.1 rfl rfl dX1_whyNot_8 <|
      PE.go <|
      s_istore h dX1_whyNot_11 rfl <|
      s_aload_n h dX1_whyNot_13 rfl <|
      s_iload_n h dX1_whyNot_14 rfl <|
      k_X1_50 h (c_X3_pictureAt_t hsN hT hPs ha) (by omega) hT.1 rfl rfl dX1_whyNot_15 <|
      PE.go <|
      s_ifnull h dX1_whyNot_18 <|
      s_aload_n h dX1_whyNot_21 rfl <|
      s_iload h dX1_whyNot_22 rfl <|
      ?_
    cases hb : pE sc (rg j)
    · refine k_X1_50 h (c_X3_pictureAt_f hsN hT hPs hb) (by omega) hT.1 rfl rfl dX1_whyNot_24 <|
        PE.go <|
        s_ifnonnullN h dX1_whyNot_27 <|
        s_iconst h dX1_whyNot_30 ic_1 <|
        s_iret h he rfl dX1_whyNot_31 ⟨Nat.le_refl _, Nat.le_refl _⟩ ?_
      exact PE.eq (by rw [wN_1 (Or.inr hb)]) rfl
    · refine k_X1_50 h (c_X3_pictureAt_t hsN hT hPs hb) (by omega) hT.1 rfl rfl dX1_whyNot_24 <|
        PE.go <|
        s_ifnonnull (tgt := 32) h dX1_whyNot_27 (by decide) <|
        s_iload_n h dX1_whyNot_32 rfl <|
        s_iload h dX1_whyNot_33 rfl <|
        s_icmp_ne (tgt := 40) h dX1_whyNot_35 (by decide) (fun c35 => ?_) (fun c35 => ?_)
      · have hne : ¬ lf j = rg j := c35
        refine s_iconst h dX1_whyNot_40 ic_0 <|
          s_istore h dX1_whyNot_41 rfl <|
          ?_
        refine SX.loc (up_ind (n := j) (Q := fun i => (∀ a, a < i → wNp lf rg j a = false) → SX Γ 0 0 43 [(0, .ref (adr k)), (1, .int (nI j)), (2, .ref (adr ks)), (3, .int (lf j)), (4, .int (rg j)), (5, .int (nI i))] [] N adr G) ?_ ?_ 0 (Nat.zero_le _) nh_0) ⟨rfl, rfl, rfl, rfl, rfl, rfl, trivial⟩
        · intro hH
          show SX _ _ _ _ _ _ _ _ _
          refine s_iload h dX1_whyNot_43 rfl <|
          s_iload_n h dX1_whyNot_45 rfl <|
          s_icmp_ge (tgt := 78) h dX1_whyNot_46 (by decide) (kf := fun qx => absurd (nI_le (Nat.le_refl j) (by omega)) qx) (kt := fun _ => ?_)
          refine s_iconst h dX1_whyNot_78 ic_0 <|
          s_iret h he rfl dX1_whyNot_79 ⟨Nat.le_refl _, Nat.le_refl _⟩ ?_
          first
            | (have q := bI_1 c56; exact PE.eq (by rw [wN_3 ha hb hne, ffO_some hi (by simp [wNp, q]) hH]) rfl)
            | (have q := bI_1 c67; exact PE.eq (by rw [wN_3 ha hb hne, ffO_some hi (by simp [wNp, q]) hH]) rfl)
            | exact PE.eq (by rw [wN_3 ha hb hne, ffO_none hH]) rfl
        · intro i hi ih hH
          show SX _ _ _ _ _ _ _ _ _
          refine s_iload h dX1_whyNot_43 rfl <|
          s_iload_n h dX1_whyNot_45 rfl <|
          s_icmp_ge (tgt := 78) h dX1_whyNot_46 (by decide) (kt := fun qx => absurd qx (nI_ge hi (by omega))) (kf := fun _ => ?_)
          refine s_aload_n h dX1_whyNot_49 rfl <|
          s_iload_n h dX1_whyNot_50 rfl <|
          s_iload h dX1_whyNot_51 rfl <|
          k_X1_56 h (c_X1_isOf hkN hp (Nat.lt_trans hi hj)) (by omega) hp.1 rfl rfl dX1_whyNot_53 <|
          PE.go <|
          s_if_ne (tgt := 70) h dX1_whyNot_56 (by decide) (fun c56 => ?_) (fun c56 => ?_)
          · refine s_iconst h dX1_whyNot_70 ic_3 <|
            s_iret h he rfl dX1_whyNot_71 ⟨Nat.le_refl _, Nat.le_refl _⟩ ?_
            first
              | (have q := bI_1 c56; exact PE.eq (by rw [wN_3 ha hb hne, ffO_some hi (by simp [wNp, q]) hH]) rfl)
              | (have q := bI_1 c67; exact PE.eq (by rw [wN_3 ha hb hne, ffO_some hi (by simp [wNp, q]) hH]) rfl)
              | exact PE.eq (by rw [wN_3 ha hb hne, ffO_none hH]) rfl
          · refine s_aload_n h dX1_whyNot_59 rfl <|
            s_iload h dX1_whyNot_60 rfl <|
            s_iload h dX1_whyNot_62 rfl <|
            k_X1_56 h (c_X1_isOf hkN hp (Nat.lt_trans hi hj)) (by omega) hp.1 rfl rfl dX1_whyNot_64 <|
            PE.go <|
            s_if_eq (tgt := 72) h dX1_whyNot_67 (by decide) (fun c67 => ?_) (fun c67 => ?_)
            · refine s_iincR h dX1_whyNot_72 rfl rfl ic_1 (nI_1 i) <|
              s_goto (tgt := 43) h dX1_whyNot_75 (by decide) <|
              ?_
              exact SX.loc (ih (nh_s hH (by simp [wNp, bI_0 c56, bI_0 c67]))) ⟨rfl, rfl, rfl, rfl, rfl, rfl, trivial⟩
            · refine s_iconst h dX1_whyNot_70 ic_3 <|
              s_iret h he rfl dX1_whyNot_71 ⟨Nat.le_refl _, Nat.le_refl _⟩ ?_
              first
                | (have q := bI_1 c56; exact PE.eq (by rw [wN_3 ha hb hne, ffO_some hi (by simp [wNp, q]) hH]) rfl)
                | (have q := bI_1 c67; exact PE.eq (by rw [wN_3 ha hb hne, ffO_some hi (by simp [wNp, q]) hH]) rfl)
                | exact PE.eq (by rw [wN_3 ha hb hne, ffO_none hH]) rfl
      · refine s_iconst h dX1_whyNot_38 ic_2 <|
          s_iret h he rfl dX1_whyNot_39 ⟨Nat.le_refl _, Nat.le_refl _⟩ ?_
        exact PE.eq (by rw [wN_2 ha hb c35]) rfl
def wNz (sc : Nat → Nat → Int32) (lf rg : Nat → Int32) (j : Nat) : Bool := !decide (wN sc lf rg j = 0)
theorem c_X1_firstWrongPair {l : Launch} {D : va_G} {N : Nat} {adr : Nat → Nat} {G : Nat → va_E} {k : Nat} {sg : Nat → Int32} {q : Nat} {cnt tu : Int32} {lf rg : Nat → Int32} (hkN : k + 3 < N) (hp : isPad D adr G k sg cnt (nI q) tu lf rg) (hq : q ≤ 30) {ks : Nat} {sc : Nat → Nat → Int32} (hsN : ks + 28 < N) (hT : isTh D adr G ks sc) (hPs : isPs D adr G ks sc) :
    CT l D yX1_firstWrongPair cX1_firstWrongPair 3 (some FieldType.int) (rl 4) [.ref (adr k), .ref (adr ks)] N adr G (PE (some (.int (oI (ffO (wNz sc lf rg) q)))) N adr G) := by
  refine CT.of (by decide +kernel) (Nat.le_of_ble_eq_true rfl) (fun Γ h he => ?_)
  have h : cx l D (rl 4) RX1 cX1_firstWrongPair 3 Γ := h
  show SX Γ 0 0 0 [(0, .ref (adr k)), (1, .ref (adr ks))] [] N adr G
  refine s_iconst h dX1_firstWrongPair_0 ic_0 <|
    s_istore_n h dX1_firstWrongPair_1 rfl <|
    ?_
  refine SX.loc (up_ind (n := q) (Q := fun i => (∀ a, a < i → wNz sc lf rg a = false) → SX Γ 0 0 2 [(0, .ref (adr k)), (1, .ref (adr ks)), (2, .int (nI i))] [] N adr G) ?_ ?_ 0 (Nat.zero_le _) nh_0) ⟨rfl, rfl, rfl, trivial⟩
  · intro hH
    show SX _ _ _ _ _ _ _ _ _
    refine s_iload_n h dX1_firstWrongPair_2 rfl <|
    s_aload_n h dX1_firstWrongPair_3 rfl <|
    g_X1_29 h dX1_firstWrongPair_4 (by omega) hp.1 <|
    s_icmp_ge (tgt := 27) h dX1_firstWrongPair_7 (by decide) (kf := fun qx => absurd (nI_le (Nat.le_refl q) (by omega)) qx) (kt := fun _ => ?_)
    refine s_bipush h dX1_firstWrongPair_27 bp_m6 <|
    s_iret h he rfl dX1_firstWrongPair_29 ⟨Nat.le_refl _, Nat.le_refl _⟩ ?_
    first
      | (have q16 : ¬ wN sc lf rg i = 0 := c16; exact PE.eq (by rw [ffO_some hi (by rw [wNz, decide_eq_false q16]; rfl) hH]; rfl) rfl)
      | exact PE.eq (by rw [ffO_none hH]; rfl) rfl
  · intro i hi ih hH
    show SX _ _ _ _ _ _ _ _ _
    refine s_iload_n h dX1_firstWrongPair_2 rfl <|
    s_aload_n h dX1_firstWrongPair_3 rfl <|
    g_X1_29 h dX1_firstWrongPair_4 (by omega) hp.1 <|
    s_icmp_ge (tgt := 27) h dX1_firstWrongPair_7 (by decide) (kt := fun qx => absurd qx (nI_ge hi (by omega))) (kf := fun _ => ?_)
    refine s_aload_n h dX1_firstWrongPair_10 rfl <|
    s_iload_n h dX1_firstWrongPair_11 rfl <|
    s_aload_n h dX1_firstWrongPair_12 rfl <|
    k_X1_39 h (c_X1_whyNot hkN hp hsN hT hPs (Nat.lt_of_lt_of_le hi hq)) (by omega) hp.1 rfl rfl dX1_firstWrongPair_13 <|
    PE.go <|
    s_if_eq (tgt := 21) h dX1_firstWrongPair_16 (by decide) (fun c16 => ?_) (fun c16 => ?_)
    · refine s_iincR h dX1_firstWrongPair_21 rfl rfl ic_1 (nI_1 i) <|
      s_goto (tgt := 2) h dX1_firstWrongPair_24 (by decide) <|
      ?_
      exact SX.loc (ih (nh_s hH (by rw [wNz, decide_eq_true c16]; rfl))) ⟨rfl, rfl, rfl, trivial⟩
    · refine s_iload_n h dX1_firstWrongPair_19 rfl <|
      s_iret h he rfl dX1_firstWrongPair_20 ⟨Nat.le_refl _, Nat.le_refl _⟩ ?_
      first
        | (have q16 : ¬ wN sc lf rg i = 0 := c16; exact PE.eq (by rw [ffO_some hi (by rw [wNz, decide_eq_false q16]; rfl) hH]; rfl) rfl)
        | exact PE.eq (by rw [ffO_none hH]; rfl) rfl
def cKd (sc : Nat → Nat → Int32) (lf rg : Nat → Int32) (kd : Int32) (n : Nat) : Int32 := fN (fun j c => if kP sc (lf j) (rg j) = kd then c + 1 else c) 0 n
theorem cKd_s (sc : Nat → Nat → Int32) (lf rg : Nat → Int32) (kd : Int32) (n : Nat) : cKd sc lf rg kd (n + 1) = if kP sc (lf n) (rg n) = kd then cKd sc lf rg kd n + 1 else cKd sc lf rg kd n := rfl
def nGd (sc : Nat → Nat → Int32) (lf rg : Nat → Int32) (j : Nat) : Bool := !decide (kP sc (lf j) (rg j) = 0)
theorem c_X1_countOfKind {l : Launch} {D : va_G} {N : Nat} {adr : Nat → Nat} {G : Nat → va_E} {k : Nat} {sg : Nat → Int32} {q : Nat} {cnt tu : Int32} {lf rg : Nat → Int32} (hkN : k + 3 < N) (hp : isPad D adr G k sg cnt (nI q) tu lf rg) (hq : q ≤ 30) {ks : Nat} {sc : Nat → Nat → Int32} (hsN : ks + 28 < N) (hT : isTh D adr G ks sc) (hPs : isPs D adr G ks sc) {kd : Int32} :
    CT l D yX1_countOfKind cX1_countOfKind 5 (some FieldType.int) (rl 5) [.ref (adr k), .int kd, .ref (adr ks)] N adr G (PE (some (.int (cKd sc lf rg kd q))) N adr G) := by
  refine CT.of (by decide +kernel) (Nat.le_of_ble_eq_true rfl) (fun Γ h he => ?_)
  have h : cx l D (rl 5) RX1 cX1_countOfKind 5 Γ := h
  show SX Γ 0 0 0 [(0, .ref (adr k)), (1, .int kd), (2, .ref (adr ks))] [] N adr G
  refine s_iconst h dX1_countOfKind_0 ic_0 <|
    s_istore_n h dX1_countOfKind_1 rfl <|
    s_iconst h dX1_countOfKind_2 ic_0 <|
    s_istore h dX1_countOfKind_3 rfl <|
    ?_
  refine SX.loc (up_ind (n := q) (Q := fun i => SX Γ 0 0 5 [(0, .ref (adr k)), (1, .int kd), (2, .ref (adr ks)), (3, .int (cKd sc lf rg kd i)), (4, .int (nI i))] [] N adr G) ?_ ?_ 0 (Nat.zero_le _)) ⟨rfl, rfl, rfl, rfl, rfl, trivial⟩
  · show SX _ _ _ _ _ _ _ _ _
    refine s_iload h dX1_countOfKind_5 rfl <|
    s_aload_n h dX1_countOfKind_7 rfl <|
    g_X1_29 h dX1_countOfKind_8 (by omega) hp.1 <|
    s_icmp_ge (tgt := 43) h dX1_countOfKind_11 (by decide) (kf := fun qx => absurd (nI_le (Nat.le_refl q) (by omega)) qx) (kt := fun _ => ?_)
    refine s_iload_n h dX1_countOfKind_43 rfl <|
    s_iret h he rfl dX1_countOfKind_44 ⟨Nat.le_refl _, Nat.le_refl _⟩ ?_
    exact PE.is
  · intro i hi ih 
    show SX _ _ _ _ _ _ _ _ _
    refine s_iload h dX1_countOfKind_5 rfl <|
    s_aload_n h dX1_countOfKind_7 rfl <|
    g_X1_29 h dX1_countOfKind_8 (by omega) hp.1 <|
    s_icmp_ge (tgt := 43) h dX1_countOfKind_11 (by decide) (kt := fun qx => absurd qx (nI_ge hi (by omega))) (kf := fun _ => ?_)
    refine s_aload_n h dX1_countOfKind_14 rfl <|
    s_aload_n h dX1_countOfKind_15 rfl <|
    s_iload h dX1_countOfKind_16 rfl <|
    k_X1_43 h (c_X1_leftOf hkN hp (Nat.lt_of_lt_of_le hi hq)) (by omega) hp.1 rfl rfl dX1_countOfKind_18 <|
    PE.go <|
    s_aload_n h dX1_countOfKind_21 rfl <|
    s_iload h dX1_countOfKind_22 rfl <|
    k_X1_47 h (c_X1_rightOf hkN hp (Nat.lt_of_lt_of_le hi hq)) (by omega) hp.1 rfl rfl dX1_countOfKind_24 <|
    PE.go <|
    k_X1_60 h (c_X3_kindOfPair hsN hT hPs) (by omega) hT.1 rfl rfl dX1_countOfKind_27 <|
    PE.go <|
    s_iload_n h dX1_countOfKind_30 rfl <|
    s_icmp_ne (tgt := 37) h dX1_countOfKind_31 (by decide) (fun c31 => ?_) (fun c31 => ?_)
    · refine s_iincR h dX1_countOfKind_37 rfl rfl ic_1 (nI_1 i) <|
      s_goto (tgt := 5) h dX1_countOfKind_40 (by decide) <|
      ?_
      first
        | exact SX.loc ih ⟨rfl, rfl, rfl, rfl, rfl, trivial⟩
        | (have z := (cKd_s sc lf rg kd i).trans (if_neg c31); exact SX.loc (lv2 := [(0, .ref (adr k)), (1, .int kd), (2, .ref (adr ks)), (3, .int (cKd sc lf rg kd i)), (4, .int (nI (i + 1)))]) (z ▸ ih) ⟨rfl, rfl, rfl, rfl, rfl, trivial⟩)
    · refine s_iincR h dX1_countOfKind_34 rfl rfl ic_1 (show cKd sc lf rg kd i + 1 = cKd sc lf rg kd (i + 1) from ((cKd_s sc lf rg kd i).trans (if_pos c31)).symm) <|
      s_iincR h dX1_countOfKind_37 rfl rfl ic_1 (nI_1 i) <|
      s_goto (tgt := 5) h dX1_countOfKind_40 (by decide) <|
      ?_
      first
        | exact SX.loc ih ⟨rfl, rfl, rfl, rfl, rfl, trivial⟩
        | (have z := (cKd_s sc lf rg kd i).trans (if_neg c31); exact SX.loc (lv2 := [(0, .ref (adr k)), (1, .int kd), (2, .ref (adr ks)), (3, .int (cKd sc lf rg kd i)), (4, .int (nI (i + 1)))]) (z ▸ ih) ⟨rfl, rfl, rfl, rfl, rfl, trivial⟩)
theorem c_X1_firstNotGood {l : Launch} {D : va_G} {N : Nat} {adr : Nat → Nat} {G : Nat → va_E} {k : Nat} {sg : Nat → Int32} {q : Nat} {cnt tu : Int32} {lf rg : Nat → Int32} (hkN : k + 3 < N) (hp : isPad D adr G k sg cnt (nI q) tu lf rg) (hq : q ≤ 30) {ks : Nat} {sc : Nat → Nat → Int32} (hsN : ks + 28 < N) (hT : isTh D adr G ks sc) (hPs : isPs D adr G ks sc) :
    CT l D yX1_firstNotGood cX1_firstNotGood 3 (some FieldType.int) (rl 5) [.ref (adr k), .ref (adr ks)] N adr G (PE (some (.int (oI (ffO (nGd sc lf rg) q)))) N adr G) := by
  refine CT.of (by decide +kernel) (Nat.le_of_ble_eq_true rfl) (fun Γ h he => ?_)
  have h : cx l D (rl 5) RX1 cX1_firstNotGood 3 Γ := h
  show SX Γ 0 0 0 [(0, .ref (adr k)), (1, .ref (adr ks))] [] N adr G
  refine s_iconst h dX1_firstNotGood_0 ic_0 <|
    s_istore_n h dX1_firstNotGood_1 rfl <|
    ?_
  refine SX.loc (up_ind (n := q) (Q := fun i => (∀ a, a < i → nGd sc lf rg a = false) → SX Γ 0 0 2 [(0, .ref (adr k)), (1, .ref (adr ks)), (2, .int (nI i))] [] N adr G) ?_ ?_ 0 (Nat.zero_le _) nh_0) ⟨rfl, rfl, rfl, trivial⟩
  · intro hH
    show SX _ _ _ _ _ _ _ _ _
    refine s_iload_n h dX1_firstNotGood_2 rfl <|
    s_aload_n h dX1_firstNotGood_3 rfl <|
    g_X1_29 h dX1_firstNotGood_4 (by omega) hp.1 <|
    s_icmp_ge (tgt := 35) h dX1_firstNotGood_7 (by decide) (kf := fun qx => absurd (nI_le (Nat.le_refl q) (by omega)) qx) (kt := fun _ => ?_)
    refine s_bipush h dX1_firstNotGood_35 bp_m6 <|
    s_iret h he rfl dX1_firstNotGood_37 ⟨Nat.le_refl _, Nat.le_refl _⟩ ?_
    first
      | (have q24 : ¬ kP sc (lf i) (rg i) = 0 := c24; exact PE.eq (by rw [ffO_some hi (by rw [nGd, decide_eq_false q24]; rfl) hH]; rfl) rfl)
      | exact PE.eq (by rw [ffO_none hH]; rfl) rfl
  · intro i hi ih hH
    show SX _ _ _ _ _ _ _ _ _
    refine s_iload_n h dX1_firstNotGood_2 rfl <|
    s_aload_n h dX1_firstNotGood_3 rfl <|
    g_X1_29 h dX1_firstNotGood_4 (by omega) hp.1 <|
    s_icmp_ge (tgt := 35) h dX1_firstNotGood_7 (by decide) (kt := fun qx => absurd qx (nI_ge hi (by omega))) (kf := fun _ => ?_)
    refine s_aload_n h dX1_firstNotGood_10 rfl <|
    s_aload_n h dX1_firstNotGood_11 rfl <|
    s_iload_n h dX1_firstNotGood_12 rfl <|
    k_X1_43 h (c_X1_leftOf hkN hp (Nat.lt_of_lt_of_le hi hq)) (by omega) hp.1 rfl rfl dX1_firstNotGood_13 <|
    PE.go <|
    s_aload_n h dX1_firstNotGood_16 rfl <|
    s_iload_n h dX1_firstNotGood_17 rfl <|
    k_X1_47 h (c_X1_rightOf hkN hp (Nat.lt_of_lt_of_le hi hq)) (by omega) hp.1 rfl rfl dX1_firstNotGood_18 <|
    PE.go <|
    k_X1_60 h (c_X3_kindOfPair hsN hT hPs) (by omega) hT.1 rfl rfl dX1_firstNotGood_21 <|
    PE.go <|
    s_if_eq (tgt := 29) h dX1_firstNotGood_24 (by decide) (fun c24 => ?_) (fun c24 => ?_)
    · refine s_iincR h dX1_firstNotGood_29 rfl rfl ic_1 (nI_1 i) <|
      s_goto (tgt := 2) h dX1_firstNotGood_32 (by decide) <|
      ?_
      exact SX.loc (ih (nh_s hH (by rw [nGd, decide_eq_true c24]; rfl))) ⟨rfl, rfl, rfl, trivial⟩
    · refine s_iload_n h dX1_firstNotGood_27 rfl <|
      s_iret h he rfl dX1_firstNotGood_28 ⟨Nat.le_refl _, Nat.le_refl _⟩ ?_
      first
        | (have q24 : ¬ kP sc (lf i) (rg i) = 0 := c24; exact PE.eq (by rw [ffO_some hi (by rw [nGd, decide_eq_false q24]; rfl) hH]; rfl) rfl)
        | exact PE.eq (by rw [ffO_none hH]; rfl) rfl
theorem pEq_0 {lf rg : Nat → Int32} {sg : Nat → Int32} : pEq lf rg (pA sg 0) := fun j hj => absurd hj (Nat.not_lt_zero j)
theorem pA_let {sg : Nat → Int32} {i : Nat} (h : pIs (sg i) = true) (h2 : (pA sg i).1 = -6) : pA sg (i + 1) = (sg i - 97, (pA sg i).2) := by rw [pA_s, pStep, if_pos h, if_pos h2]
theorem pA_pair {sg : Nat → Int32} {i : Nat} (h : pIs (sg i) = true) (h2 : ¬ (pA sg i).1 = -6) : pA sg (i + 1) = (-6, (pA sg i).2.1 + 1, (pA sg i).2.2.1, upd (pA sg i).2.2.2.1 (pA sg i).2.1 (pA sg i).1, upd (pA sg i).2.2.2.2 (pA sg i).2.1 (sg i - 97)) := by rw [pA_s, pStep, if_pos h, if_neg h2]
theorem pA_turn {sg : Nat → Int32} {i : Nat} (h : pIs (sg i) = false) : pA sg (i + 1) = ((pA sg i).1, (pA sg i).2.1, (pA sg i).2.2.1 + 1, (pA sg i).2.2.2) := by rw [pA_s, pStep, if_neg (by rw [h]; decide)]
theorem pEq_let {lf rg : Nat → Int32} {sg : Nat → Int32} {i : Nat} (h : pIs (sg i) = true) (h2 : (pA sg i).1 = -6) (e : pEq lf rg (pA sg i)) : pEq lf rg (pA sg (i + 1)) := by rw [pA_let h h2]; exact e
theorem pEq_turn {lf rg : Nat → Int32} {sg : Nat → Int32} {i : Nat} (h : pIs (sg i) = false) (e : pEq lf rg (pA sg i)) : pEq lf rg (pA sg (i + 1)) := by rw [pA_turn h]; exact e
theorem pEq_pair {lf rg : Nat → Int32} {sg : Nat → Int32} {i : Nat} (h : pIs (sg i) = true) (h2 : ¬ (pA sg i).1 = -6) (e : pEq lf rg (pA sg i)) : pEq (upd lf (pA sg i).2.1 (pA sg i).1) (upd rg (pA sg i).2.1 (sg i - 97)) (pA sg (i + 1)) := by
  rw [pA_pair h h2]
  intro j hj
  show upd lf (pA sg i).2.1 (pA sg i).1 j = upd (pA sg i).2.2.2.1 (pA sg i).2.1 (pA sg i).1 j ∧ upd rg (pA sg i).2.1 (sg i - 97) j = upd (pA sg i).2.2.2.2 (pA sg i).2.1 (sg i - 97) j
  by_cases q : j = (pA sg i).2.1
  · simp [upd, q]
  · have hj2 : j < (pA sg i).2.1 + 1 := hj
    have := e j (by omega)
    simp [upd, q, this.1, this.2]
theorem rdP_f {sg : Nat → Int32} {i : Nat} (h : pOk (sg i) (pA sg i) = true) : rdP sg i = false := by rw [rdP, h]; rfl
theorem c_X1_read {l : Launch} {D : va_G} {N : Nat} {adr : Nat → Nat} {G : Nat → va_E} {k : Nat} {sg : Nat → Int32} {n : Nat} {pa tu : Int32} {lf rg : Nat → Int32} (hkN : k + 3 < N) (hp : isPad D adr G k sg (nI n) pa tu lf rg) (hn : n ≤ 60) :
    CT l D yX1_read cX1_read 4 (some FieldType.int) (rl 2) [.ref (adr k)] N adr G (PR (some (.int (rdR sg n))) N adr (fun W => ∃ lf2 rg2 pa2 tu2, isPad D adr W k sg (nI n) pa2 tu2 lf2 rg2 ∧ frP G W k ∧ (rdR sg n = -6 → pa2 = nI (pA sg n).2.1 ∧ tu2 = nI (pA sg n).2.2.1 ∧ pEq lf2 rg2 (pA sg n)))) := by
  refine CT.of (by decide +kernel) (Nat.le_of_ble_eq_true rfl) (fun Γ h he => ?_)
  have h : cx l D (rl 2) RX1 cX1_read 4 Γ := h
  show SX Γ 0 0 0 [(0, .ref (adr k))] [] N adr G
  refine s_aload_n h dX1_read_0 rfl <|
    s_iconst h dX1_read_1 ic_0 <|
    p_X1_29 h dX1_read_2 (by omega) hp.1 <|
    s_aload_n h dX1_read_5 rfl <|
    s_iconst h dX1_read_6 ic_0 <|
    p_X1_32 h dX1_read_7 (by omega) (up_eq _ _ _) <|
    ?_
  have hz : isPad D adr (va_up (va_up G k (.inr (1, [.ref (adr (k + 1)), .int (nI n), .ref (adr (k + 2)), .ref (adr (k + 3)), .int 0, .int tu]))) k (.inr (1, [.ref (adr (k + 1)), .int (nI n), .ref (adr (k + 2)), .ref (adr (k + 3)), .int 0, .int 0]))) k sg (nI n) (nI (pA sg 0).2.1) (nI (pA sg 0).2.2.1) lf rg := ⟨up_eq _ _ _, ((up_ne _ _ (by omega)).trans (up_ne _ _ (by omega))).trans hp.2.1, ((up_ne _ _ (by omega)).trans (up_ne _ _ (by omega))).trans hp.2.2.1, ((up_ne _ _ (by omega)).trans (up_ne _ _ (by omega))).trans hp.2.2.2⟩
  refine s_bipush h dX1_read_10 bp_m6 <|
    s_istore_n h dX1_read_12 rfl <|
    s_iconst h dX1_read_13 ic_0 <|
    s_istore_n h dX1_read_14 rfl <|
    ?_
  refine SX.loc (up_ind (n := n) (Q := fun i => ∀ (W : Nat → va_E) (lf2 rg2 : Nat → Int32), ((isPad D adr W k sg (nI n) (nI (pA sg i).2.1) (nI (pA sg i).2.2.1) lf2 rg2 ∧ pEq lf2 rg2 (pA sg i)) ∧ frP G W k ∧ ∀ a, a < i → rdP sg a = false) → SX Γ 0 0 15 [(0, .ref (adr k)), (1, .int (pA sg i).1), (2, .int (nI i))] [] N adr W) ?_ ?_ 0 (Nat.zero_le _) _ lf rg ⟨⟨hz, pEq_0⟩, fun j hj => by rw [up_ne _ _ (by omega), up_ne _ _ (by omega)], nh_0⟩) ⟨rfl, rfl, rfl, trivial⟩
  · intro W lf2 rg2 hH
    show SX _ _ _ _ _ _ _ _ _
    refine s_iload_n h dX1_read_15 rfl <|
    s_aload_n h dX1_read_16 rfl <|
    g_X1_21 h dX1_read_17 (by omega) hH.1.1.1 <|
    s_icmp_ge (tgt := 113) h dX1_read_20 (by decide) (kf := fun qx => absurd (nI_le (Nat.le_refl n) (by omega)) qx) (kt := fun _ => ?_)
    refine s_iload_n h dX1_read_113 rfl <|
    s_bipush h dX1_read_114 bp_m6 <|
    s_icmp_ne (tgt := 124) h dX1_read_116 (by decide) (fun c116 => ?_) (fun c116 => ?_)
    · refine s_aload_n h dX1_read_124 rfl <|
      g_X1_21 h dX1_read_125 (by omega) hH.1.1.1 <|
      s_iret h he rfl dX1_read_128 ⟨Nat.le_refl _, Nat.le_refl _⟩ ?_
      first
        | (have q49 : pIs (sg i) = false := bI_0 c49
           have q83 : ¬ sg i = 47 := c83
           have q := rdR_some (ffO_some hi (show rdP sg i = true from by rw [rdP, pOk, q49, decide_eq_false q83]; rfl) hH.2.2)
           rw [← q]
           exact PR.is ⟨lf2, rg2, _, _, hH.1.1, hH.2.1, fun z => absurd (q.symm.trans z) (nI_m6 (by omega))⟩)
        | (have q49 : pIs (sg i) = false := bI_0 c49
           have q89 : ¬ (pA sg i).1 = -6 := c89
           have q := rdR_some (ffO_some hi (show rdP sg i = true from by rw [rdP, pOk, q49, decide_eq_false q89, Bool.and_false]; rfl) hH.2.2)
           rw [← q]
           exact PR.is ⟨lf2, rg2, _, _, hH.1.1, hH.2.1, fun z => absurd (q.symm.trans z) (nI_m6 (by omega))⟩)
        | (have q := (rdR_none (ffO_none hH.2.2)).trans (if_pos c116)
           rw [← q]
           exact PR.is ⟨lf2, rg2, _, _, hH.1.1, hH.2.1, fun _ => ⟨rfl, rfl, hH.1.2⟩⟩)
        | (have q := (rdR_none (ffO_none hH.2.2)).trans (if_neg c116)
           exact PR.eq (by rw [q]) ⟨lf2, rg2, _, _, hH.1.1, hH.2.1, fun _ => ⟨rfl, rfl, hH.1.2⟩⟩)
    · refine s_bipush h dX1_read_119 bp_m6 <|
      s_goto (tgt := 128) h dX1_read_121 (by decide) <|
      s_iret h he rfl dX1_read_128 ⟨Nat.le_refl _, Nat.le_refl _⟩ ?_
      first
        | (have q49 : pIs (sg i) = false := bI_0 c49
           have q83 : ¬ sg i = 47 := c83
           have q := rdR_some (ffO_some hi (show rdP sg i = true from by rw [rdP, pOk, q49, decide_eq_false q83]; rfl) hH.2.2)
           rw [← q]
           exact PR.is ⟨lf2, rg2, _, _, hH.1.1, hH.2.1, fun z => absurd (q.symm.trans z) (nI_m6 (by omega))⟩)
        | (have q49 : pIs (sg i) = false := bI_0 c49
           have q89 : ¬ (pA sg i).1 = -6 := c89
           have q := rdR_some (ffO_some hi (show rdP sg i = true from by rw [rdP, pOk, q49, decide_eq_false q89, Bool.and_false]; rfl) hH.2.2)
           rw [← q]
           exact PR.is ⟨lf2, rg2, _, _, hH.1.1, hH.2.1, fun z => absurd (q.symm.trans z) (nI_m6 (by omega))⟩)
        | (have q := (rdR_none (ffO_none hH.2.2)).trans (if_pos c116)
           rw [← q]
           exact PR.is ⟨lf2, rg2, _, _, hH.1.1, hH.2.1, fun _ => ⟨rfl, rfl, hH.1.2⟩⟩)
        | (have q := (rdR_none (ffO_none hH.2.2)).trans (if_neg c116)
           exact PR.eq (by rw [q]) ⟨lf2, rg2, _, _, hH.1.1, hH.2.1, fun _ => ⟨rfl, rfl, hH.1.2⟩⟩)
  · intro i hi ih W lf2 rg2 hH
    show SX _ _ _ _ _ _ _ _ _
    refine s_iload_n h dX1_read_15 rfl <|
    s_aload_n h dX1_read_16 rfl <|
    g_X1_21 h dX1_read_17 (by omega) hH.1.1.1 <|
    s_icmp_ge (tgt := 113) h dX1_read_20 (by decide) (kt := fun qx => absurd qx (nI_ge hi (by omega))) (kf := fun _ => ?_)
    refine s_iload_n h dX1_read_23 rfl <|
    s_aload_n h dX1_read_24 rfl <|
    g_X1_9 h dX1_read_25 (by omega) hH.1.1.1 <|
    s_alenI h dX1_read_28 (by omega) hH.1.1.2.1 (show Int32.ofNat 60 = 60 from rfl) <|
    s_icmp_ge (tgt := 113) h dX1_read_29 (by decide) (kt := fun qx => absurd qx (nI_ge (show i < 60 from by omega) (by decide))) (kf := fun _ => ?_)
    refine s_aload_n h dX1_read_32 rfl <|
    g_X1_9 h dX1_read_33 (by omega) hH.1.1.1 <|
    s_iload_n h dX1_read_36 rfl <|
    s_iald h dX1_read_37 (by omega) hH.1.1.2.1 (ix_n (show i < 60 from by omega) (by decide)) rfl <|
    s_bipush h dX1_read_38 bp_97 <|
    s_isub h dX1_read_40 <|
    s_istore_n h dX1_read_41 rfl <|
    s_iload_n h dX1_read_42 rfl <|
    s_iconst h dX1_read_43 ic_0 <|
    s_bipush h dX1_read_44 bp_9 <|
    k_X1_25 h (c_X7_within) rfl rfl dX1_read_46 <|
    PE.go <|
    s_if_eq (tgt := 75) h dX1_read_49 (by decide) (fun c49 => ?_) (fun c49 => ?_)
    · refine s_aload_n h dX1_read_75 rfl <|
      g_X1_9 h dX1_read_76 (by omega) hH.1.1.1 <|
      s_iload_n h dX1_read_79 rfl <|
      s_iald h dX1_read_80 (by omega) hH.1.1.2.1 (ix_n (show i < 60 from by omega) (by decide)) rfl <|
      s_bipush h dX1_read_81 bp_47 <|
      s_icmp_ne (tgt := 105) h dX1_read_83 (by decide) (fun c83 => ?_) (fun c83 => ?_)
      · refine s_iload_n h dX1_read_105 rfl <|
        s_iret h he rfl dX1_read_106 ⟨Nat.le_refl _, Nat.le_refl _⟩ ?_
        first
          | (have q49 : pIs (sg i) = false := bI_0 c49
             have q83 : ¬ sg i = 47 := c83
             have q := rdR_some (ffO_some hi (show rdP sg i = true from by rw [rdP, pOk, q49, decide_eq_false q83]; rfl) hH.2.2)
             rw [← q]
             exact PR.is ⟨lf2, rg2, _, _, hH.1.1, hH.2.1, fun z => absurd (q.symm.trans z) (nI_m6 (by omega))⟩)
          | (have q49 : pIs (sg i) = false := bI_0 c49
             have q89 : ¬ (pA sg i).1 = -6 := c89
             have q := rdR_some (ffO_some hi (show rdP sg i = true from by rw [rdP, pOk, q49, decide_eq_false q89, Bool.and_false]; rfl) hH.2.2)
             rw [← q]
             exact PR.is ⟨lf2, rg2, _, _, hH.1.1, hH.2.1, fun z => absurd (q.symm.trans z) (nI_m6 (by omega))⟩)
          | (have q := (rdR_none (ffO_none hH.2.2)).trans (if_pos c116)
             rw [← q]
             exact PR.is ⟨lf2, rg2, _, _, hH.1.1, hH.2.1, fun _ => ⟨rfl, rfl, hH.1.2⟩⟩)
          | (have q := (rdR_none (ffO_none hH.2.2)).trans (if_neg c116)
             exact PR.eq (by rw [q]) ⟨lf2, rg2, _, _, hH.1.1, hH.2.1, fun _ => ⟨rfl, rfl, hH.1.2⟩⟩)
      · refine s_iload_n h dX1_read_86 rfl <|
        s_bipush h dX1_read_87 bp_m6 <|
        s_icmp_ne (tgt := 105) h dX1_read_89 (by decide) (fun c89 => ?_) (fun c89 => ?_)
        · refine s_iload_n h dX1_read_105 rfl <|
          s_iret h he rfl dX1_read_106 ⟨Nat.le_refl _, Nat.le_refl _⟩ ?_
          first
            | (have q49 : pIs (sg i) = false := bI_0 c49
               have q83 : ¬ sg i = 47 := c83
               have q := rdR_some (ffO_some hi (show rdP sg i = true from by rw [rdP, pOk, q49, decide_eq_false q83]; rfl) hH.2.2)
               rw [← q]
               exact PR.is ⟨lf2, rg2, _, _, hH.1.1, hH.2.1, fun z => absurd (q.symm.trans z) (nI_m6 (by omega))⟩)
            | (have q49 : pIs (sg i) = false := bI_0 c49
               have q89 : ¬ (pA sg i).1 = -6 := c89
               have q := rdR_some (ffO_some hi (show rdP sg i = true from by rw [rdP, pOk, q49, decide_eq_false q89, Bool.and_false]; rfl) hH.2.2)
               rw [← q]
               exact PR.is ⟨lf2, rg2, _, _, hH.1.1, hH.2.1, fun z => absurd (q.symm.trans z) (nI_m6 (by omega))⟩)
            | (have q := (rdR_none (ffO_none hH.2.2)).trans (if_pos c116)
               rw [← q]
               exact PR.is ⟨lf2, rg2, _, _, hH.1.1, hH.2.1, fun _ => ⟨rfl, rfl, hH.1.2⟩⟩)
            | (have q := (rdR_none (ffO_none hH.2.2)).trans (if_neg c116)
               exact PR.eq (by rw [q]) ⟨lf2, rg2, _, _, hH.1.1, hH.2.1, fun _ => ⟨rfl, rfl, hH.1.2⟩⟩)
        · refine s_aload_n h dX1_read_92 rfl <|
          s_dup h dX1_read_93 rfl <|
          g_X1_32 h dX1_read_94 (by omega) hH.1.1.1 <|
          s_iconst h dX1_read_97 ic_1 <|
          s_iadd h dX1_read_98 <|
          s_topi (nI ((pA sg i).2.2.1 + 1)) (nI_1 _) <|
          p_X1_32 h dX1_read_99 (by omega) hH.1.1.1 <|
          s_goto (tgt := 107) h dX1_read_102 (by decide) <|
          s_iincR h dX1_read_107 rfl rfl ic_1 (nI_1 i) <|
          s_goto (tgt := 15) h dX1_read_110 (by decide) <|
          ?_
          first
            | (have q49 : pIs (sg i) = true := bI_1 c49
               have q55 : (pA sg i).1 = -6 := c55
               have e1 := pA_let q49 q55
               exact SX.loc (lv2 := [(0, .ref (adr k)), (1, .int (sg i - 97)), (2, .int (nI (i + 1)))]) ((congrArg (fun z : PSt => SX Γ 0 0 15 [(0, .ref (adr k)), (1, .int z.1), (2, .int (nI (i + 1)))] [] N adr W) e1) ▸ ih W lf2 rg2 ⟨⟨by rw [e1]; exact hH.1.1, pEq_let q49 q55 hH.1.2⟩, hH.2.1, nh_s hH.2.2 (rdP_f (by rw [pOk, q49]; rfl))⟩) ⟨rfl, rfl, rfl, trivial⟩)
            | (have q49 : pIs (sg i) = true := bI_1 c49
               have q55 : ¬ (pA sg i).1 = -6 := c55
               have e1 := pA_pair q49 q55
               exact SX.loc (lv2 := [(0, .ref (adr k)), (1, .int (-6)), (2, .int (nI (i + 1)))]) ((congrArg (fun z : PSt => SX Γ 0 0 15 [(0, .ref (adr k)), (1, .int z.1), (2, .int (nI (i + 1)))] [] N adr V) e1) ▸ ih V _ _ ⟨⟨by rw [e1]; exact hV.1, pEq_pair q49 q55 hH.1.2⟩, fun j hj => (hV.2 j hj).trans (hH.2.1 j hj), nh_s hH.2.2 (rdP_f (by rw [pOk, q49]; rfl))⟩) ⟨rfl, rfl, rfl, trivial⟩)
            | (have q49 : pIs (sg i) = false := bI_0 c49
               have q89 : (pA sg i).1 = -6 := c89
               have q83 : sg i = 47 := c83
               have e1 := pA_turn q49
               exact SX.loc (lv2 := [(0, .ref (adr k)), (1, .int (pA sg i).1), (2, .int (nI (i + 1)))]) ((congrArg (fun z : PSt => SX Γ 0 0 15 [(0, .ref (adr k)), (1, .int z.1), (2, .int (nI (i + 1)))] [] N adr (va_up W k (.inr (1, [.ref (adr (k + 1)), .int (nI n), .ref (adr (k + 2)), .ref (adr (k + 3)), .int (nI (pA sg i).2.1), .int (nI ((pA sg i).2.2.1 + 1))])))) e1) ▸ ih _ lf2 rg2 ⟨⟨by rw [e1]; exact ⟨up_eq _ _ _, (up_ne _ _ (by omega)).trans hH.1.1.2.1, (up_ne _ _ (by omega)).trans hH.1.1.2.2.1, (up_ne _ _ (by omega)).trans hH.1.1.2.2.2⟩, pEq_turn q49 hH.1.2⟩, fun j hj => (up_ne _ _ (by omega)).trans (hH.2.1 j hj), nh_s hH.2.2 (rdP_f (by rw [pOk, q49, decide_eq_true q83, decide_eq_true q89]; rfl))⟩) ⟨rfl, rfl, rfl, trivial⟩)
    · refine s_iload_n h dX1_read_52 rfl <|
      s_bipush h dX1_read_53 bp_m6 <|
      s_icmp_ne (tgt := 63) h dX1_read_55 (by decide) (fun c55 => ?_) (fun c55 => ?_)
      · have hq30 : (pA sg i).2.1 < 30 := by
          have hbd := pA_bound sg i
          rw [if_neg (show ¬ (pA sg i).1 = -6 from c55)] at hbd
          omega
        refine s_aload_n h dX1_read_63 rfl <|
        s_iload_n h dX1_read_64 rfl <|
        s_iload_n h dX1_read_65 rfl <|
        k_X1_35 h (c_X1_addPair hkN hH.1.1 hq30) (by omega) hH.1.1.1 rfl rfl dX1_read_66 (PR.go0 fun V hV => ?_)
        refine s_bipush h dX1_read_69 bp_m6 <|
        s_istore_n h dX1_read_71 rfl <|
        s_goto (tgt := 107) h dX1_read_72 (by decide) <|
        s_iincR h dX1_read_107 rfl rfl ic_1 (nI_1 i) <|
        s_goto (tgt := 15) h dX1_read_110 (by decide) <|
        ?_
        first
          | (have q49 : pIs (sg i) = true := bI_1 c49
             have q55 : (pA sg i).1 = -6 := c55
             have e1 := pA_let q49 q55
             exact SX.loc (lv2 := [(0, .ref (adr k)), (1, .int (sg i - 97)), (2, .int (nI (i + 1)))]) ((congrArg (fun z : PSt => SX Γ 0 0 15 [(0, .ref (adr k)), (1, .int z.1), (2, .int (nI (i + 1)))] [] N adr W) e1) ▸ ih W lf2 rg2 ⟨⟨by rw [e1]; exact hH.1.1, pEq_let q49 q55 hH.1.2⟩, hH.2.1, nh_s hH.2.2 (rdP_f (by rw [pOk, q49]; rfl))⟩) ⟨rfl, rfl, rfl, trivial⟩)
          | (have q49 : pIs (sg i) = true := bI_1 c49
             have q55 : ¬ (pA sg i).1 = -6 := c55
             have e1 := pA_pair q49 q55
             exact SX.loc (lv2 := [(0, .ref (adr k)), (1, .int (-6)), (2, .int (nI (i + 1)))]) ((congrArg (fun z : PSt => SX Γ 0 0 15 [(0, .ref (adr k)), (1, .int z.1), (2, .int (nI (i + 1)))] [] N adr V) e1) ▸ ih V _ _ ⟨⟨by rw [e1]; exact hV.1, pEq_pair q49 q55 hH.1.2⟩, fun j hj => (hV.2 j hj).trans (hH.2.1 j hj), nh_s hH.2.2 (rdP_f (by rw [pOk, q49]; rfl))⟩) ⟨rfl, rfl, rfl, trivial⟩)
          | (have q49 : pIs (sg i) = false := bI_0 c49
             have q89 : (pA sg i).1 = -6 := c89
             have q83 : sg i = 47 := c83
             have e1 := pA_turn q49
             exact SX.loc (lv2 := [(0, .ref (adr k)), (1, .int (pA sg i).1), (2, .int (nI (i + 1)))]) ((congrArg (fun z : PSt => SX Γ 0 0 15 [(0, .ref (adr k)), (1, .int z.1), (2, .int (nI (i + 1)))] [] N adr (va_up W k (.inr (1, [.ref (adr (k + 1)), .int (nI n), .ref (adr (k + 2)), .ref (adr (k + 3)), .int (nI (pA sg i).2.1), .int (nI ((pA sg i).2.2.1 + 1))])))) e1) ▸ ih _ lf2 rg2 ⟨⟨by rw [e1]; exact ⟨up_eq _ _ _, (up_ne _ _ (by omega)).trans hH.1.1.2.1, (up_ne _ _ (by omega)).trans hH.1.1.2.2.1, (up_ne _ _ (by omega)).trans hH.1.1.2.2.2⟩, pEq_turn q49 hH.1.2⟩, fun j hj => (up_ne _ _ (by omega)).trans (hH.2.1 j hj), nh_s hH.2.2 (rdP_f (by rw [pOk, q49, decide_eq_true q83, decide_eq_true q89]; rfl))⟩) ⟨rfl, rfl, rfl, trivial⟩)
      · refine s_iload_n h dX1_read_58 rfl <|
        s_istore_n h dX1_read_59 rfl <|
        s_goto (tgt := 107) h dX1_read_60 (by decide) <|
        s_iincR h dX1_read_107 rfl rfl ic_1 (nI_1 i) <|
        s_goto (tgt := 15) h dX1_read_110 (by decide) <|
        ?_
        first
          | (have q49 : pIs (sg i) = true := bI_1 c49
             have q55 : (pA sg i).1 = -6 := c55
             have e1 := pA_let q49 q55
             exact SX.loc (lv2 := [(0, .ref (adr k)), (1, .int (sg i - 97)), (2, .int (nI (i + 1)))]) ((congrArg (fun z : PSt => SX Γ 0 0 15 [(0, .ref (adr k)), (1, .int z.1), (2, .int (nI (i + 1)))] [] N adr W) e1) ▸ ih W lf2 rg2 ⟨⟨by rw [e1]; exact hH.1.1, pEq_let q49 q55 hH.1.2⟩, hH.2.1, nh_s hH.2.2 (rdP_f (by rw [pOk, q49]; rfl))⟩) ⟨rfl, rfl, rfl, trivial⟩)
          | (have q49 : pIs (sg i) = true := bI_1 c49
             have q55 : ¬ (pA sg i).1 = -6 := c55
             have e1 := pA_pair q49 q55
             exact SX.loc (lv2 := [(0, .ref (adr k)), (1, .int (-6)), (2, .int (nI (i + 1)))]) ((congrArg (fun z : PSt => SX Γ 0 0 15 [(0, .ref (adr k)), (1, .int z.1), (2, .int (nI (i + 1)))] [] N adr V) e1) ▸ ih V _ _ ⟨⟨by rw [e1]; exact hV.1, pEq_pair q49 q55 hH.1.2⟩, fun j hj => (hV.2 j hj).trans (hH.2.1 j hj), nh_s hH.2.2 (rdP_f (by rw [pOk, q49]; rfl))⟩) ⟨rfl, rfl, rfl, trivial⟩)
          | (have q49 : pIs (sg i) = false := bI_0 c49
             have q89 : (pA sg i).1 = -6 := c89
             have q83 : sg i = 47 := c83
             have e1 := pA_turn q49
             exact SX.loc (lv2 := [(0, .ref (adr k)), (1, .int (pA sg i).1), (2, .int (nI (i + 1)))]) ((congrArg (fun z : PSt => SX Γ 0 0 15 [(0, .ref (adr k)), (1, .int z.1), (2, .int (nI (i + 1)))] [] N adr (va_up W k (.inr (1, [.ref (adr (k + 1)), .int (nI n), .ref (adr (k + 2)), .ref (adr (k + 3)), .int (nI (pA sg i).2.1), .int (nI ((pA sg i).2.2.1 + 1))])))) e1) ▸ ih _ lf2 rg2 ⟨⟨by rw [e1]; exact ⟨up_eq _ _ _, (up_ne _ _ (by omega)).trans hH.1.1.2.1, (up_ne _ _ (by omega)).trans hH.1.1.2.2.1, (up_ne _ _ (by omega)).trans hH.1.1.2.2.2⟩, pEq_turn q49 hH.1.2⟩, fun j hj => (up_ne _ _ (by omega)).trans (hH.2.1 j hj), nh_s hH.2.2 (rdP_f (by rw [pOk, q49, decide_eq_true q83, decide_eq_true q89]; rfl))⟩) ⟨rfl, rfl, rfl, trivial⟩)
