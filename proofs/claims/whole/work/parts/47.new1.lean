/-! ===== making ===== -/
abbrev rc (n c s : Nat) : Room := { frames := n, cells := c, slots := s, locals := 36 * n }
theorem ra_prim {U : State} {a b : ClassId} {x : String} (h : U.vm.findClass x = some a) (h2 : U.vm.findClass x = some b) : a = b := Option.some.inj (h.symm.trans h2)
theorem s_newI {l : Launch} {D : va_G} {R : Room} {own : String} {cc : ByteArray} {nL : Nat} {Γ : GT} {ce sl pc : Nat} {lv : List (Nat × Value)} {st : List Value} {N : Nat} {adr : Nat → Nat} {G : Nat → va_E} {n : Nat} {x : Int32} (h : cx l D R own cc nL Γ) (d : decode cc pc = .ok (.newarray .int, 2)) (hx0 : x = nI n) (hn : n ≤ 2000) (hcells : ce + 1 ≤ R.cells) (hslots : sl + n ≤ R.slots) (k_ : ∀ adr2 : Nat → Nat, (∀ j, j < N → adr2 j = adr j) → SX Γ (ce + 1) (sl + n) (pc + 2) lv (.ref (adr2 N) :: st) (N + 1) adr2 (va_up G N (aI D n (fun _ => 0)))) : SX Γ ce sl pc lv (.int x :: st) N adr G := by
  obtain ⟨p, l', e, R', s, m, args, below, meth, c, D', A, Q, nL'⟩ := Γ
  obtain ⟨rfl, rfl, rfl, rfl, hx, hb, hml, hown, hts, hnw, hK, hA, hlk⟩ := h
  intro H locs ls hP hD hS hl
  subst hx0
  refine va_newa (atype := .int) (ty := .int) (a0 := (n, .inl (fun _ => 0))) (N' := n) hx hb (hts _ tw135) rfl hK hP hD hS hA (fun cA => rfl) (nI_pos (by omega)) (nI_clamp (by omega)) (show n * 4 ≤ 536870912 by omega) hcells hslots d (fun q cA H1 hK1 hP1 hD1 hS1 => ?_)
  have e : cA = D'.1 100 := ra_prim (hK1.2 6 _ rfl).2 (hK.2 0 _ rfl).2
  subst e
  rw [wl_push] at hP1 hD1
  have z := k_ (va_up adr N q) (fun j hj => up_ne _ _ (by omega)) H1 locs ls hP1 hD1 hS1 hl
  rw [up_eq] at z
  exact z
theorem s_newJ {l : Launch} {D : va_G} {R : Room} {own : String} {cc : ByteArray} {nL : Nat} {Γ : GT} {ce sl pc : Nat} {lv : List (Nat × Value)} {st : List Value} {N : Nat} {adr : Nat → Nat} {G : Nat → va_E} {n : Nat} {x : Int32} (h : cx l D R own cc nL Γ) (d : decode cc pc = .ok (.newarray .long, 2)) (hx0 : x = nI n) (hn : n ≤ 2000) (hcells : ce + 1 ≤ R.cells) (hslots : sl + n ≤ R.slots) (k_ : ∀ adr2 : Nat → Nat, (∀ j, j < N → adr2 j = adr j) → SX Γ (ce + 1) (sl + n) (pc + 2) lv (.ref (adr2 N) :: st) (N + 1) adr2 (va_up G N (aJ D n (fun _ => 0)))) : SX Γ ce sl pc lv (.int x :: st) N adr G := by
  obtain ⟨p, l', e, R', s, m, args, below, meth, c, D', A, Q, nL'⟩ := Γ
  obtain ⟨rfl, rfl, rfl, rfl, hx, hb, hml, hown, hts, hnw, hK, hA, hlk⟩ := h
  intro H locs ls hP hD hS hl
  subst hx0
  refine va_newa (atype := .long) (ty := .long) (a0 := (n, .inr (.inl (fun _ => 0)))) (N' := n) hx hb (hts _ tw200) rfl hK hP hD hS hA (fun cA => rfl) (nI_pos (by omega)) (nI_clamp (by omega)) (show n * 8 ≤ 536870912 by omega) hcells hslots d (fun q cA H1 hK1 hP1 hD1 hS1 => ?_)
  have e : cA = D'.1 101 := ra_prim (hK1.2 6 _ rfl).2 (hK.2 1 _ rfl).2
  subst e
  rw [wl_push] at hP1 hD1
  have z := k_ (va_up adr N q) (fun j hj => up_ne _ _ (by omega)) H1 locs ls hP1 hD1 hS1 hl
  rw [up_eq] at z
  exact z
theorem s_newZ {l : Launch} {D : va_G} {R : Room} {own : String} {cc : ByteArray} {nL : Nat} {Γ : GT} {ce sl pc : Nat} {lv : List (Nat × Value)} {st : List Value} {N : Nat} {adr : Nat → Nat} {G : Nat → va_E} {n : Nat} {x : Int32} (h : cx l D R own cc nL Γ) (d : decode cc pc = .ok (.newarray .boolean, 2)) (hx0 : x = nI n) (hn : n ≤ 2000) (hcells : ce + 1 ≤ R.cells) (hslots : sl + n ≤ R.slots) (k_ : ∀ adr2 : Nat → Nat, (∀ j, j < N → adr2 j = adr j) → SX Γ (ce + 1) (sl + n) (pc + 2) lv (.ref (adr2 N) :: st) (N + 1) adr2 (va_up G N (aZ D n (fun _ => 0)))) : SX Γ ce sl pc lv (.int x :: st) N adr G := by
  obtain ⟨p, l', e, R', s, m, args, below, meth, c, D', A, Q, nL'⟩ := Γ
  obtain ⟨rfl, rfl, rfl, rfl, hx, hb, hml, hown, hts, hnw, hK, hA, hlk⟩ := h
  intro H locs ls hP hD hS hl
  subst hx0
  refine va_newa (atype := .boolean) (ty := .boolean) (a0 := (n, .inl (fun _ => 0))) (N' := n) hx hb (hts _ tw176) rfl hK hP hD hS hA (fun cA => rfl) (nI_pos (by omega)) (nI_clamp (by omega)) (show n * 1 ≤ 536870912 by omega) hcells hslots d (fun q cA H1 hK1 hP1 hD1 hS1 => ?_)
  have e : cA = D'.1 102 := ra_prim (hK1.2 6 _ rfl).2 (hK.2 2 _ rfl).2
  subst e
  rw [wl_push] at hP1 hD1
  have z := k_ (va_up adr N q) (fun j hj => up_ne _ _ (by omega)) H1 locs ls hP1 hD1 hS1 hl
  rw [up_eq] at z
  exact z
theorem s_anewP {l : Launch} {D : va_G} {R : Room} {own : String} {cc : ByteArray} {nL : Nat} {Γ : GT} {ce sl pc : Nat} {lv : List (Nat × Value)} {st : List Value} {N : Nat} {adr : Nat → Nat} {G : Nat → va_E} {n index : Nat} {x : Int32} (h : cx l D R own cc nL Γ) (hcl : Cond.classLink own index RX2 ∈ TT) (d : decode cc pc = .ok (.anewarray index, 3)) (hx0 : x = nI n) (hn : n ≤ 2000) (hcells : ce + 1 ≤ R.cells) (hslots : sl + n ≤ R.slots) (k_ : ∀ adr2 : Nat → Nat, (∀ j, j < N → adr2 j = adr j) → SX Γ (ce + 1) (sl + n) (pc + 3) lv (.ref (adr2 N) :: st) (N + 1) adr2 (va_up G N (aP D n (fun _ => none)))) : SX Γ ce sl pc lv (.int x :: st) N adr G := by
  obtain ⟨p, l', e, R', s, m, args, below, meth, c, D', A, Q, nL'⟩ := Γ
  obtain ⟨rfl, rfl, rfl, rfl, hx, hb, hml, hown, hts, hnw, hK, hA, hlk⟩ := h
  intro H locs ls hP hD hS hl
  subst hx0
  refine va_newq (C := RX2) (N' := n) hx hb hown (hts _ hcl) (hnw _ tw94) hK hP hD hS hA (nI_pos (by omega)) (nI_clamp (by omega)) (show n * 4 ≤ 536870912 by omega) hcells hslots d (fun q cA H1 hK1 hP1 hD1 hS1 => ?_)
  obtain ⟨_, _, _, _, _, f1⟩ := (hK1.2 6 _ rfl).2
  obtain ⟨_, _, _, _, _, f2⟩ := (hK.2 3 _ rfl).2
  have e : cA = D'.1 103 := ra_prim f1 f2
  subst e
  rw [wl_push] at hP1 hD1
  have z := k_ (va_up adr N q) (fun j hj => up_ne _ _ (by omega)) H1 locs ls hP1 hD1 hS1 hl
  rw [up_eq] at z
  exact z
theorem s_anewS {l : Launch} {D : va_G} {R : Room} {own : String} {cc : ByteArray} {nL : Nat} {Γ : GT} {ce sl pc : Nat} {lv : List (Nat × Value)} {st : List Value} {N : Nat} {adr : Nat → Nat} {G : Nat → va_E} {n index : Nat} {x : Int32} (h : cx l D R own cc nL Γ) (hcl : Cond.classLink own index RX3 ∈ TT) (d : decode cc pc = .ok (.anewarray index, 3)) (hx0 : x = nI n) (hn : n ≤ 2000) (hcells : ce + 1 ≤ R.cells) (hslots : sl + n ≤ R.slots) (k_ : ∀ adr2 : Nat → Nat, (∀ j, j < N → adr2 j = adr j) → SX Γ (ce + 1) (sl + n) (pc + 3) lv (.ref (adr2 N) :: st) (N + 1) adr2 (va_up G N (aS D n (fun _ => none)))) : SX Γ ce sl pc lv (.int x :: st) N adr G := by
  obtain ⟨p, l', e, R', s, m, args, below, meth, c, D', A, Q, nL'⟩ := Γ
  obtain ⟨rfl, rfl, rfl, rfl, hx, hb, hml, hown, hts, hnw, hK, hA, hlk⟩ := h
  intro H locs ls hP hD hS hl
  subst hx0
  refine va_newq (C := RX3) (N' := n) hx hb hown (hts _ hcl) (hnw _ tw147) hK hP hD hS hA (nI_pos (by omega)) (nI_clamp (by omega)) (show n * 4 ≤ 536870912 by omega) hcells hslots d (fun q cA H1 hK1 hP1 hD1 hS1 => ?_)
  obtain ⟨_, _, _, _, _, f1⟩ := (hK1.2 6 _ rfl).2
  obtain ⟨_, _, _, _, _, f2⟩ := (hK.2 4 _ rfl).2
  have e : cA = D'.1 104 := ra_prim f1 f2
  subst e
  rw [wl_push] at hP1 hD1
  have z := k_ (va_up adr N q) (fun j hj => up_ne _ _ (by omega)) H1 locs ls hP1 hD1 hS1 hl
  rw [up_eq] at z
  exact z
theorem s_anewT {l : Launch} {D : va_G} {R : Room} {own : String} {cc : ByteArray} {nL : Nat} {Γ : GT} {ce sl pc : Nat} {lv : List (Nat × Value)} {st : List Value} {N : Nat} {adr : Nat → Nat} {G : Nat → va_E} {n index : Nat} {x : Int32} (h : cx l D R own cc nL Γ) (hcl : Cond.classLink own index RX6 ∈ TT) (d : decode cc pc = .ok (.anewarray index, 3)) (hx0 : x = nI n) (hn : n ≤ 2000) (hcells : ce + 1 ≤ R.cells) (hslots : sl + n ≤ R.slots) (k_ : ∀ adr2 : Nat → Nat, (∀ j, j < N → adr2 j = adr j) → SX Γ (ce + 1) (sl + n) (pc + 3) lv (.ref (adr2 N) :: st) (N + 1) adr2 (va_up G N (aT D n (fun _ => none)))) : SX Γ ce sl pc lv (.int x :: st) N adr G := by
  obtain ⟨p, l', e, R', s, m, args, below, meth, c, D', A, Q, nL'⟩ := Γ
  obtain ⟨rfl, rfl, rfl, rfl, hx, hb, hml, hown, hts, hnw, hK, hA, hlk⟩ := h
  intro H locs ls hP hD hS hl
  subst hx0
  refine va_newq (C := RX6) (N' := n) hx hb hown (hts _ hcl) (hnw _ tw92) hK hP hD hS hA (nI_pos (by omega)) (nI_clamp (by omega)) (show n * 4 ≤ 536870912 by omega) hcells hslots d (fun q cA H1 hK1 hP1 hD1 hS1 => ?_)
  obtain ⟨_, _, _, _, _, f1⟩ := (hK1.2 6 _ rfl).2
  obtain ⟨_, _, _, _, _, f2⟩ := (hK.2 5 _ rfl).2
  have e : cA = D'.1 105 := ra_prim f1 f2
  subst e
  rw [wl_push] at hP1 hD1
  have z := k_ (va_up adr N q) (fun j hj => up_ne _ _ (by omega)) H1 locs ls hP1 hD1 hS1 hl
  rw [up_eq] at z
  exact z
theorem rc_fit {n c s nR cR sR mL : Nat} (h : Nat.ble (n + 1) nR = true) (hm : Nat.ble mL 17 = true) : (rc n c s).frames + 1 ≤ (rc nR cR sR).frames ∧ 8 + (mL + 11) + (rc n c s).locals ≤ (rc nR cR sR).locals := by
  have h1 := Nat.le_of_ble_eq_true h
  have h2 := Nat.le_of_ble_eq_true hm
  show n + 1 ≤ nR ∧ 8 + (mL + 11) + 36 * n ≤ 36 * nR
  omega
theorem rcl_fit {n c s mL : Nat} (h : Nat.ble (n + 1) 10 = true) (hm : Nat.ble mL 17 = true) : (rc n c s).frames + 1 ≤ room_1.frames ∧ 8 + (mL + 11) + (rc n c s).locals ≤ room_1.locals := by
  have h1 := Nat.le_of_ble_eq_true h
  have h2 := Nat.le_of_ble_eq_true hm
  show n + 1 ≤ 10 ∧ 8 + (mL + 11) + 36 * n ≤ 372
  omega
/-- what a constructor makes: c cells behind the others; the cells below k stay -/
def PN (k c N : Nat) (adr : Nat → Nat) (G : Nat → va_E) (rel : (Nat → Nat) → (Nat → va_E) → Prop) : PT := fun v N' adr' G' => v = none ∧ N' = N + c ∧ (∀ j, j < N → adr' j = adr j) ∧ (∀ j, j < k → G' j = G j) ∧ rel adr' G'
theorem PN.go {Γ : GT} {ce sl pc k c N : Nat} {lv : List (Nat × Value)} {st : List Value} {adr : Nat → Nat} {G : Nat → va_E} {rel : (Nat → Nat) → (Nat → va_E) → Prop} (k_ : ∀ adr2 G2, (∀ j, j < N → adr2 j = adr j) → (∀ j, j < k → G2 j = G j) → rel adr2 G2 → SX Γ ce sl pc lv st (N + c) adr2 G2) : ∀ v N' adr' G', PN k c N adr G rel v N' adr' G' → SX Γ ce sl pc lv (v.toList ++ st) N' adr' G' := by
  rintro v N' adr' G' ⟨rfl, rfl, h1, h2, h3⟩
  exact k_ adr' G' h1 h2 h3
theorem s_new {l : Launch} {D : va_G} {R : Room} {own : String} {cc : ByteArray} {nL : Nat} {Γ : GT} {ce sl pc : Nat} {lv : List (Nat × Value)} {st : List Value} {N : Nat} {adr : Nat → Nat} {G : Nat → va_E} {C : String} {T : u_T} {Nf ci index : Nat} {fs : List Value} {ty0 : Nat → FieldType} (h : cx l D R own cc nL Γ) (hin : ∀ w ∈ u_ws C T Nf, w ∈ TT) (hty : ∀ k, k < Nf → parseFieldDescriptor (T k).2.2.1 = some (ty0 k)) (hc : vwCl[ci]? = some (C, T, Nf)) (hcl : Cond.classLink own index C ∈ TT) (hinst : Cond.instantiable C Nf ∈ TT) (hini : Cond.initialized C ∈ TT) (hfs : ∀ j, j < Nf → defaultValue (ty0 j) = vp_V fs j) (d : decode cc pc = .ok (.new index, 3)) (hcells : ce + 1 ≤ R.cells) (hslots : sl + Nf ≤ R.slots) (k_ : ∀ adr2 : Nat → Nat, (∀ j, j < N → adr2 j = adr j) → SX Γ (ce + 1) (sl + Nf) (pc + 3) lv (.ref (adr2 N) :: st) (N + 1) adr2 (va_up G N (.inr (ci, fs)))) : SX Γ ce sl pc lv st N adr G := by
  obtain ⟨p, l', e, R', s, m, args, below, meth, c, D', A, Q, nL'⟩ := Γ
  obtain ⟨rfl, rfl, rfl, rfl, hx, hb, hml, hown, hts, hnw, hK, hA, hlk⟩ := h
  intro H locs ls hP hD hS hl
  refine va_new (ci := ci) (fs := fs) (C := C) (T := T) (N := Nf) hx hb hts hin ty0 hty hown (hts _ hcl) (hts _ hinst) (hts _ hini) hK hP hD hS hA hc hfs hcells hslots d (fun q H1 hP1 hD1 hS1 => ?_)
  rw [wl_push] at hP1 hD1
  have z := k_ (va_up adr N q) (fun j hj => up_ne _ _ (by omega)) H1 locs ls hP1 hD1 hS1 hl
  rw [up_eq] at z
  exact z
theorem s_oinit {l : Launch} {D : va_G} {R : Room} {own : String} {cc : ByteArray} {nL : Nat} {Γ : GT} {ce sl pc : Nat} {lv : List (Nat × Value)} {N : Nat} {adr : Nat → Nat} {G : Nat → va_E} {index a : Nat} (h : cx l D R own cc nL Γ) (hl0 : Cond.methodLink own index Lib.objectInit ∈ TT) (d : decode cc pc = .ok (.invokespecial index, 3)) (hR : 1 ≤ R.frames ∧ 12 ≤ R.locals) (k_ : SX Γ ce sl (pc + 3) lv [] N adr G) : SX Γ ce sl pc lv [.ref a] N adr G := by
  obtain ⟨p, l', e, R', s, m, args, below, meth, c, D', A, Q, nL'⟩ := Γ
  obtain ⟨rfl, rfl, rfl, rfl, hx, hb, hml, hown, hts, hnw, hK, hA, hlk⟩ := h
  intro H locs ls hP hD hS hl
  refine W.objInit hx hb hown (hts _ hl0) (hts _ tw83) (hts _ tw84) rfl (by rw [hml]; exact hl.1) rfl d hR.1 (show 2 * 0 + 0 + 12 ≤ R'.locals from hR.2) ?_
  exact W.eq (g2 := F0 m (pc + 3) ls []) rfl (k_ H locs ls hP hD hS hl)
theorem i_L_9 {l : Launch} {D : va_G} {cc : ByteArray} {nL : Nat} {Γ : GT} {ce sl pc : Nat} {lv : List (Nat × Value)} {st : List Value} {N : Nat} {adr : Nat → Nat} {G : Nat → va_E} {n c s : Nat} {b : Nat} {P : PT} (h : cx l D (room_1) RL cc nL Γ) (C0 : CT l D yX7_init cX7_init 2 none (rc n c s) [.ref b] N adr G P) (hn : Nat.ble (n + 1) 10 = true) (hf : ce + c ≤ 600000 ∧ sl + s ≤ 7302250) (hcat : Nat.ble (st.map fun v => v.category).sum 8 = true) (d : decode cc pc = .ok (.invokespecial 9, 3)) (k_ : ∀ v N2 adr2 G2, P v N2 adr2 G2 → SX Γ (ce + c) (sl + s) (pc + 3) lv (v.toList ++ st) N2 adr2 G2) : SX Γ ce sl pc lv (.ref b :: st) N adr G :=
  s_callI (n := 0) (av := []) h C0 tw79 tw80 tw81 tw65 rfl (by decide +kernel) rfl (rcl_fit hn rfl) hf (Nat.le_of_ble_eq_true hcat) d k_
theorem i_X7_9 {l : Launch} {D : va_G} {cc : ByteArray} {nL : Nat} {Γ : GT} {ce sl pc : Nat} {lv : List (Nat × Value)} {st : List Value} {N : Nat} {adr : Nat → Nat} {G : Nat → va_E} {n c s nR cR sR : Nat} {b : Nat} {P : PT} (h : cx l D (rc nR cR sR) RX7 cc nL Γ) (C0 : CT l D yX3_init cX3_init 2 none (rc n c s) [.ref b] N adr G P) (hn : Nat.ble (n + 1) nR = true) (hf : ce + c ≤ cR ∧ sl + s ≤ sR) (hcat : Nat.ble (st.map fun v => v.category).sum 8 = true) (d : decode cc pc = .ok (.invokespecial 9, 3)) (k_ : ∀ v N2 adr2 G2, P v N2 adr2 G2 → SX Γ (ce + c) (sl + s) (pc + 3) lv (v.toList ++ st) N2 adr2 G2) : SX Γ ce sl pc lv (.ref b :: st) N adr G :=
  s_callIN (n := 0) (av := []) h C0 tw87 tw88 tw89 tw66 rfl (by decide +kernel) rfl (rc_fit hn rfl) hf (Nat.le_of_ble_eq_true hcat) d k_
theorem i_X3_27 {l : Launch} {D : va_G} {cc : ByteArray} {nL : Nat} {Γ : GT} {ce sl pc : Nat} {lv : List (Nat × Value)} {st : List Value} {N : Nat} {adr : Nat → Nat} {G : Nat → va_E} {n c s nR cR sR : Nat} {b : Nat} {P : PT} (h : cx l D (rc nR cR sR) RX3 cc nL Γ) (C0 : CT l D yX6_init cX6_init 1 none (rc n c s) [.ref b] N adr G P) (hn : Nat.ble (n + 1) nR = true) (hf : ce + c ≤ cR ∧ sl + s ≤ sR) (hcat : Nat.ble (st.map fun v => v.category).sum 8 = true) (d : decode cc pc = .ok (.invokespecial 27, 3)) (k_ : ∀ v N2 adr2 G2, P v N2 adr2 G2 → SX Γ (ce + c) (sl + s) (pc + 3) lv (v.toList ++ st) N2 adr2 G2) : SX Γ ce sl pc lv (.ref b :: st) N adr G :=
  s_callIN (n := 0) (av := []) h C0 tw96 tw97 tw98 tw67 rfl (by decide +kernel) rfl (rc_fit hn rfl) hf (Nat.le_of_ble_eq_true hcat) d k_
theorem i_X3_28 {l : Launch} {D : va_G} {cc : ByteArray} {nL : Nat} {Γ : GT} {ce sl pc : Nat} {lv : List (Nat × Value)} {st : List Value} {N : Nat} {adr : Nat → Nat} {G : Nat → va_E} {n c s nR cR sR : Nat} {b : Nat} {P : PT} (h : cx l D (rc nR cR sR) RX3 cc nL Γ) (C0 : CT l D yX2_init cX2_init 1 none (rc n c s) [.ref b] N adr G P) (hn : Nat.ble (n + 1) nR = true) (hf : ce + c ≤ cR ∧ sl + s ≤ sR) (hcat : Nat.ble (st.map fun v => v.category).sum 8 = true) (d : decode cc pc = .ok (.invokespecial 28, 3)) (k_ : ∀ v N2 adr2 G2, P v N2 adr2 G2 → SX Γ (ce + c) (sl + s) (pc + 3) lv (v.toList ++ st) N2 adr2 G2) : SX Γ ce sl pc lv (.ref b :: st) N adr G :=
  s_callIN (n := 0) (av := []) h C0 tw122 tw123 tw124 tw68 rfl (by decide +kernel) rfl (rc_fit hn rfl) hf (Nat.le_of_ble_eq_true hcat) d k_
theorem i_X7_26 {l : Launch} {D : va_G} {cc : ByteArray} {nL : Nat} {Γ : GT} {ce sl pc : Nat} {lv : List (Nat × Value)} {st : List Value} {N : Nat} {adr : Nat → Nat} {G : Nat → va_E} {n c s nR cR sR : Nat} {b : Nat} {P : PT} (h : cx l D (rc nR cR sR) RX7 cc nL Γ) (C0 : CT l D yX1_init cX1_init 1 none (rc n c s) [.ref b] N adr G P) (hn : Nat.ble (n + 1) nR = true) (hf : ce + c ≤ cR ∧ sl + s ≤ sR) (hcat : Nat.ble (st.map fun v => v.category).sum 8 = true) (d : decode cc pc = .ok (.invokespecial 26, 3)) (k_ : ∀ v N2 adr2 G2, P v N2 adr2 G2 → SX Γ (ce + c) (sl + s) (pc + 3) lv (v.toList ++ st) N2 adr2 G2) : SX Γ ce sl pc lv (.ref b :: st) N adr G :=
  s_callIN (n := 0) (av := []) h C0 tw150 tw151 tw152 tw69 rfl (by decide +kernel) rfl (rc_fit hn rfl) hf (Nat.le_of_ble_eq_true hcat) d k_
theorem i_X7_33 {l : Launch} {D : va_G} {cc : ByteArray} {nL : Nat} {Γ : GT} {ce sl pc : Nat} {lv : List (Nat × Value)} {st : List Value} {N : Nat} {adr : Nat → Nat} {G : Nat → va_E} {n c s nR cR sR : Nat} {b : Nat} {P : PT} (h : cx l D (rc nR cR sR) RX7 cc nL Γ) (C0 : CT l D yX0_init cX0_init 1 none (rc n c s) [.ref b] N adr G P) (hn : Nat.ble (n + 1) nR = true) (hf : ce + c ≤ cR ∧ sl + s ≤ sR) (hcat : Nat.ble (st.map fun v => v.category).sum 8 = true) (d : decode cc pc = .ok (.invokespecial 33, 3)) (k_ : ∀ v N2 adr2 G2, P v N2 adr2 G2 → SX Γ (ce + c) (sl + s) (pc + 3) lv (v.toList ++ st) N2 adr2 G2) : SX Γ ce sl pc lv (.ref b :: st) N adr G :=
  s_callIN (n := 0) (av := []) h C0 tw179 tw180 tw181 tw70 rfl (by decide +kernel) rfl (rc_fit hn rfl) hf (Nat.le_of_ble_eq_true hcat) d k_
theorem i_X7_40 {l : Launch} {D : va_G} {cc : ByteArray} {nL : Nat} {Γ : GT} {ce sl pc : Nat} {lv : List (Nat × Value)} {st : List Value} {N : Nat} {adr : Nat → Nat} {G : Nat → va_E} {n c s nR cR sR : Nat} {b : Nat} {P : PT} (h : cx l D (rc nR cR sR) RX7 cc nL Γ) (C0 : CT l D yX5_init cX5_init 1 none (rc n c s) [.ref b] N adr G P) (hn : Nat.ble (n + 1) nR = true) (hf : ce + c ≤ cR ∧ sl + s ≤ sR) (hcat : Nat.ble (st.map fun v => v.category).sum 8 = true) (d : decode cc pc = .ok (.invokespecial 40, 3)) (k_ : ∀ v N2 adr2 G2, P v N2 adr2 G2 → SX Γ (ce + c) (sl + s) (pc + 3) lv (v.toList ++ st) N2 adr2 G2) : SX Γ ce sl pc lv (.ref b :: st) N adr G :=
  s_callIN (n := 0) (av := []) h C0 tw192 tw193 tw194 tw71 rfl (by decide +kernel) rfl (rc_fit hn rfl) hf (Nat.le_of_ble_eq_true hcat) d k_
theorem i_X7_47 {l : Launch} {D : va_G} {cc : ByteArray} {nL : Nat} {Γ : GT} {ce sl pc : Nat} {lv : List (Nat × Value)} {st : List Value} {N : Nat} {adr : Nat → Nat} {G : Nat → va_E} {n c s nR cR sR : Nat} {b : Nat} {P : PT} (h : cx l D (rc nR cR sR) RX7 cc nL Γ) (C0 : CT l D yX2_init cX2_init 1 none (rc n c s) [.ref b] N adr G P) (hn : Nat.ble (n + 1) nR = true) (hf : ce + c ≤ cR ∧ sl + s ≤ sR) (hcat : Nat.ble (st.map fun v => v.category).sum 8 = true) (d : decode cc pc = .ok (.invokespecial 47, 3)) (k_ : ∀ v N2 adr2 G2, P v N2 adr2 G2 → SX Γ (ce + c) (sl + s) (pc + 3) lv (v.toList ++ st) N2 adr2 G2) : SX Γ ce sl pc lv (.ref b :: st) N adr G :=
  s_callIN (n := 0) (av := []) h C0 tw202 tw123 tw124 tw68 rfl (by decide +kernel) rfl (rc_fit hn rfl) hf (Nat.le_of_ble_eq_true hcat) d k_
theorem i_L_12 {l : Launch} {D : va_G} {cc : ByteArray} {nL : Nat} {Γ : GT} {ce sl pc : Nat} {lv : List (Nat × Value)} {st : List Value} {N : Nat} {adr : Nat → Nat} {G : Nat → va_E} {n c s : Nat} {b : Nat} {P : PT} (h : cx l D (room_1) RL cc nL Γ) (C0 : CT l D yX8_init cX8_init 1 none (rc n c s) [.ref b] N adr G P) (hn : Nat.ble (n + 1) 10 = true) (hf : ce + c ≤ 600000 ∧ sl + s ≤ 7302250) (hcat : Nat.ble (st.map fun v => v.category).sum 8 = true) (d : decode cc pc = .ok (.invokespecial 12, 3)) (k_ : ∀ v N2 adr2 G2, P v N2 adr2 G2 → SX Γ (ce + c) (sl + s) (pc + 3) lv (v.toList ++ st) N2 adr2 G2) : SX Γ ce sl pc lv (.ref b :: st) N adr G :=
  s_callI (n := 0) (av := []) h C0 tw616 tw617 tw618 tw72 rfl (by decide +kernel) rfl (rcl_fit hn rfl) hf (Nat.le_of_ble_eq_true hcat) d k_
theorem up_at {α : Type} (f : Nat → α) {k j : Nat} (v : α) (h : j = k) : va_up f k v j = v := by rw [h, up_eq]
theorem SX.gen {Γ : GT} {ce sl pc : Nat} {lv : List (Nat × Value)} {st : List Value} {N : Nat} {adr : Nat → Nat} {G : Nat → va_E} (k : ∀ G2, G2 = G → SX Γ ce sl pc lv st N adr G2) : SX Γ ce sl pc lv st N adr G := k G rfl
theorem c_X6_init {l : Launch} {D : va_G} {N : Nat} {adr : Nat → Nat} {G : Nat → va_E} {b : Nat} :
    CT l D yX6_init cX6_init 1 none (rc 1 0 0) [.ref b] N adr G (PE none N adr G) := by
  refine CT.of (by decide +kernel) (Nat.le_of_ble_eq_true rfl) (fun Γ h he => ?_)
  have h : cx l D (rc 1 0 0) RX6 cX6_init 1 Γ := h
  show SX Γ 0 0 0 [(0, .ref b)] [] N adr G
  refine s_aload_n h dX6_init_0 rfl <|
    s_oinit h tw99 dX6_init_1 ⟨(by decide), (by decide)⟩ <|
    s_vret h he dX6_init_4 ⟨Nat.le_refl _, Nat.le_refl _⟩ ?_
  exact PE.is
theorem c_X2_init {l : Launch} {D : va_G} {N : Nat} {adr : Nat → Nat} {G : Nat → va_E} {k : Nat} (hk : N = k + 1) (hg : G k = .inr (2, [.int 0, .null])) :
    CT l D yX2_init cX2_init 1 none (rc 1 1 6) [.ref (adr k)] N adr G (PN k 1 N adr G (fun adr2 G2 => isPic D adr2 G2 k 0 (fun _ => 0))) := by
  subst hk
  refine CT.of (by decide +kernel) (Nat.le_of_ble_eq_true rfl) (fun Γ h he => ?_)
  have h : cx l D (rc 1 1 6) RX2 cX2_init 1 Γ := h
  have he : ex "<init>" none (PN k 1 (k + 1) adr G (fun adr2 G2 => isPic D adr2 G2 k 0 (fun _ => 0))) 1 6 Γ := he
  show SX Γ 0 0 0 [(0, .ref (adr k))] [] (k + 1) adr G
  refine s_aload_n h dX2_init_0 rfl <|
    s_oinit h tw125 dX2_init_1 ⟨(by decide), (by decide)⟩ <|
    ?_
  refine s_aload_n h dX2_init_4 rfl <|
    s_bipush h dX2_init_5 bp_6 <|
    s_newI (n := 6) h dX2_init_7 rfl (by decide) (by decide) (by decide) (fun adr1 ha1 => ?_)
  rw [← ha1 k (by omega)]
  refine pF_X2_9 h he dX2_init_9 (k := k) (by omega) (by rw [up_ne _ _ (by omega)]; exact hg) <|
    SX.gen (fun G1 hG1 => ?_)
  have hg1 : G1 k = .inr (2, [.int 0, .ref (adr1 (k + 1))]) := by rw [hG1, up_eq]
  have hc1 : G1 (k + 1) = aI D 6 (fun _ => 0) := by rw [hG1, up_ne _ _ (by omega), up_at _ _ (by omega)]
  have hb1 : ∀ j, j < k → G1 j = G j := fun j hj => by rw [hG1, up_ne _ _ (by omega), up_ne _ _ (by omega)]
  have hz1 : ∀ j, j < k + 1 → adr1 j = adr j := ha1
  refine s_vret h he dX2_init_12 ⟨(by decide), (by decide)⟩ ?_
  exact ⟨rfl, rfl, hz1, hb1, hg1, _, hc1, fun _ _ => rfl⟩
theorem c_X5_init {l : Launch} {D : va_G} {N : Nat} {adr : Nat → Nat} {G : Nat → va_E} {k : Nat} (hk : N = k + 1) (hg : G k = .inr (4, [.null])) :
    CT l D yX5_init cX5_init 1 none (rc 1 1 9) [.ref (adr k)] N adr G (PN k 1 N adr G (fun adr2 G2 => G2 k = .inr (4, [.ref (adr2 (k + 1))]) ∧ G2 (k + 1) = aJ D 9 (fun _ => 0))) := by
  subst hk
  refine CT.of (by decide +kernel) (Nat.le_of_ble_eq_true rfl) (fun Γ h he => ?_)
  have h : cx l D (rc 1 1 9) RX5 cX5_init 1 Γ := h
  have he : ex "<init>" none (PN k 1 (k + 1) adr G (fun adr2 G2 => G2 k = .inr (4, [.ref (adr2 (k + 1))]) ∧ G2 (k + 1) = aJ D 9 (fun _ => 0))) 1 9 Γ := he
  show SX Γ 0 0 0 [(0, .ref (adr k))] [] (k + 1) adr G
  refine s_aload_n h dX5_init_0 rfl <|
    s_oinit h tw195 dX5_init_1 ⟨(by decide), (by decide)⟩ <|
    ?_
  refine s_aload_n h dX5_init_4 rfl <|
    s_bipush h dX5_init_5 bp_9 <|
    s_newJ (n := 9) h dX5_init_7 rfl (by decide) (by decide) (by decide) (fun adr1 ha1 => ?_)
  rw [← ha1 k (by omega)]
  refine pF_X5_9 h he dX5_init_9 (k := k) (by omega) (by rw [up_ne _ _ (by omega)]; exact hg) <|
    SX.gen (fun G1 hG1 => ?_)
  have hg1 : G1 k = .inr (4, [.ref (adr1 (k + 1))]) := by rw [hG1, up_eq]
  have hc1 : G1 (k + 1) = aJ D 9 (fun _ => 0) := by rw [hG1, up_ne _ _ (by omega), up_at _ _ (by omega)]
  have hb1 : ∀ j, j < k → G1 j = G j := fun j hj => by rw [hG1, up_ne _ _ (by omega), up_ne _ _ (by omega)]
  have hz1 : ∀ j, j < k + 1 → adr1 j = adr j := ha1
  refine s_vret h he dX5_init_12 ⟨(by decide), (by decide)⟩ ?_
  exact ⟨rfl, rfl, hz1, hb1, hg1, hc1⟩
theorem c_X0_init {l : Launch} {D : va_G} {N : Nat} {adr : Nat → Nat} {G : Nat → va_E} {k : Nat} (hk : N = k + 1) (hg : G k = .inr (0, [.null, .null])) :
    CT l D yX0_init cX0_init 1 none (rc 1 2 1034) [.ref (adr k)] N adr G (PN k 2 N adr G (fun adr2 G2 => isMt D adr2 G2 k (fun _ => 0) (fun _ => 0))) := by
  subst hk
  refine CT.of (by decide +kernel) (Nat.le_of_ble_eq_true rfl) (fun Γ h he => ?_)
  have h : cx l D (rc 1 2 1034) RX0 cX0_init 1 Γ := h
  have he : ex "<init>" none (PN k 2 (k + 1) adr G (fun adr2 G2 => isMt D adr2 G2 k (fun _ => 0) (fun _ => 0))) 2 1034 Γ := he
  show SX Γ 0 0 0 [(0, .ref (adr k))] [] (k + 1) adr G
  refine s_aload_n h dX0_init_0 rfl <|
    s_oinit h tw182 dX0_init_1 ⟨(by decide), (by decide)⟩ <|
    ?_
  refine s_aload_n h dX0_init_4 rfl <|
    s_bipush h dX0_init_5 bp_10 <|
    s_newI (n := 10) h dX0_init_7 rfl (by decide) (by decide) (by decide) (fun adr1 ha1 => ?_)
  rw [← ha1 k (by omega)]
  refine pF_X0_9 h he dX0_init_9 (k := k) (by omega) (by rw [up_ne _ _ (by omega)]; exact hg) <|
    SX.gen (fun G1 hG1 => ?_)
  have hg1 : G1 k = .inr (0, [.ref (adr1 (k + 1)), .null]) := by rw [hG1, up_eq]
  have hc1 : G1 (k + 1) = aI D 10 (fun _ => 0) := by rw [hG1, up_ne _ _ (by omega), up_at _ _ (by omega)]
  have hb1 : ∀ j, j < k → G1 j = G j := fun j hj => by rw [hG1, up_ne _ _ (by omega), up_ne _ _ (by omega)]
  have hz1 : ∀ j, j < k + 1 → adr1 j = adr j := ha1
  refine s_aload_n h dX0_init_12 rfl <|
    s_sipush h dX0_init_13 sp_1024 <|
    s_newI (n := 1024) h dX0_init_16 rfl (by decide) (by decide) (by decide) (fun adr2 ha2 => ?_)
  rw [← ha2 k (by omega)]
  refine pF_X0_15 h he dX0_init_18 (k := k) (by omega) (by rw [up_ne _ _ (by omega)]; exact hg1) <|
    SX.gen (fun G2 hG2 => ?_)
  have hg2 : G2 k = .inr (0, [.ref (adr1 (k + 1)), .ref (adr2 (k + 2))]) := by rw [hG2, up_eq]
  have hc2 : G2 (k + 2) = aI D 1024 (fun _ => 0) := by rw [hG2, up_ne _ _ (by omega), up_at _ _ (by omega)]
  have hc1 : G2 (k + 1) = aI D 10 (fun _ => 0) := by rw [hG2, up_ne _ _ (by omega), up_ne _ _ (by omega)]; exact hc1
  have hb2 : ∀ j, j < k → G2 j = G j := fun j hj => by rw [hG2, up_ne _ _ (by omega), up_ne _ _ (by omega)]; exact hb1 j hj
  have hz2 : ∀ j, j < k + 1 → adr2 j = adr j := fun j hj => (ha2 j (by omega)).trans (hz1 j hj)
  refine s_vret h he dX0_init_21 ⟨(by decide), (by decide)⟩ ?_
  exact ⟨rfl, rfl, hz2, hb2, by rw [hg2, ha2 (k + 1) (by omega)], hc1, hc2⟩
theorem c_X1_init {l : Launch} {D : va_G} {N : Nat} {adr : Nat → Nat} {G : Nat → va_E} {k : Nat} (hk : N = k + 1) (hg : G k = .inr (1, [.null, .int 0, .null, .null, .int 0, .int 0])) :
    CT l D yX1_init cX1_init 1 none (rc 1 3 120) [.ref (adr k)] N adr G (PN k 3 N adr G (fun adr2 G2 => isPad D adr2 G2 k (fun _ => 0) 0 0 0 (fun _ => 0) (fun _ => 0))) := by
  subst hk
  refine CT.of (by decide +kernel) (Nat.le_of_ble_eq_true rfl) (fun Γ h he => ?_)
  have h : cx l D (rc 1 3 120) RX1 cX1_init 1 Γ := h
  have he : ex "<init>" none (PN k 3 (k + 1) adr G (fun adr2 G2 => isPad D adr2 G2 k (fun _ => 0) 0 0 0 (fun _ => 0) (fun _ => 0))) 3 120 Γ := he
  show SX Γ 0 0 0 [(0, .ref (adr k))] [] (k + 1) adr G
  refine s_aload_n h dX1_init_0 rfl <|
    s_oinit h tw153 dX1_init_1 ⟨(by decide), (by decide)⟩ <|
    ?_
  refine s_aload_n h dX1_init_4 rfl <|
    s_bipush h dX1_init_5 bp_60 <|
    s_newI (n := 60) h dX1_init_7 rfl (by decide) (by decide) (by decide) (fun adr1 ha1 => ?_)
  rw [← ha1 k (by omega)]
  refine pF_X1_9 h he dX1_init_9 (k := k) (by omega) (by rw [up_ne _ _ (by omega)]; exact hg) <|
    SX.gen (fun G1 hG1 => ?_)
  have hg1 : G1 k = .inr (1, [.ref (adr1 (k + 1)), .int 0, .null, .null, .int 0, .int 0]) := by rw [hG1, up_eq]
  have hc1 : G1 (k + 1) = aI D 60 (fun _ => 0) := by rw [hG1, up_ne _ _ (by omega), up_at _ _ (by omega)]
  have hb1 : ∀ j, j < k → G1 j = G j := fun j hj => by rw [hG1, up_ne _ _ (by omega), up_ne _ _ (by omega)]
  have hz1 : ∀ j, j < k + 1 → adr1 j = adr j := ha1
  refine s_aload_n h dX1_init_12 rfl <|
    s_bipush h dX1_init_13 bp_30 <|
    s_newI (n := 30) h dX1_init_15 rfl (by decide) (by decide) (by decide) (fun adr2 ha2 => ?_)
  rw [← ha2 k (by omega)]
  refine pF_X1_15 h he dX1_init_17 (k := k) (by omega) (by rw [up_ne _ _ (by omega)]; exact hg1) <|
    SX.gen (fun G2 hG2 => ?_)
  have hg2 : G2 k = .inr (1, [.ref (adr1 (k + 1)), .int 0, .ref (adr2 (k + 2)), .null, .int 0, .int 0]) := by rw [hG2, up_eq]
  have hc2 : G2 (k + 2) = aI D 30 (fun _ => 0) := by rw [hG2, up_ne _ _ (by omega), up_at _ _ (by omega)]
  have hc1 : G2 (k + 1) = aI D 60 (fun _ => 0) := by rw [hG2, up_ne _ _ (by omega), up_ne _ _ (by omega)]; exact hc1
  have hb2 : ∀ j, j < k → G2 j = G j := fun j hj => by rw [hG2, up_ne _ _ (by omega), up_ne _ _ (by omega)]; exact hb1 j hj
  have hz2 : ∀ j, j < k + 1 → adr2 j = adr j := fun j hj => (ha2 j (by omega)).trans (hz1 j hj)
  refine s_aload_n h dX1_init_20 rfl <|
    s_bipush h dX1_init_21 bp_30 <|
    s_newI (n := 30) h dX1_init_23 rfl (by decide) (by decide) (by decide) (fun adr3 ha3 => ?_)
  rw [← ha3 k (by omega)]
  refine pF_X1_18 h he dX1_init_25 (k := k) (by omega) (by rw [up_ne _ _ (by omega)]; exact hg2) <|
    SX.gen (fun G3 hG3 => ?_)
  have hg3 : G3 k = .inr (1, [.ref (adr1 (k + 1)), .int 0, .ref (adr2 (k + 2)), .ref (adr3 (k + 3)), .int 0, .int 0]) := by rw [hG3, up_eq]
  have hc3 : G3 (k + 3) = aI D 30 (fun _ => 0) := by rw [hG3, up_ne _ _ (by omega), up_at _ _ (by omega)]
  have hc1 : G3 (k + 1) = aI D 60 (fun _ => 0) := by rw [hG3, up_ne _ _ (by omega), up_ne _ _ (by omega)]; exact hc1
  have hc2 : G3 (k + 2) = aI D 30 (fun _ => 0) := by rw [hG3, up_ne _ _ (by omega), up_ne _ _ (by omega)]; exact hc2
  have hb3 : ∀ j, j < k → G3 j = G j := fun j hj => by rw [hG3, up_ne _ _ (by omega), up_ne _ _ (by omega)]; exact hb2 j hj
  have hz3 : ∀ j, j < k + 1 → adr3 j = adr j := fun j hj => (ha3 j (by omega)).trans (hz2 j hj)
  refine s_vret h he dX1_init_28 ⟨(by decide), (by decide)⟩ ?_
  exact ⟨rfl, rfl, hz3, hb3, by rw [hg3, ha3 (k + 1) (by omega), ha2 (k + 1) (by omega), ha3 (k + 2) (by omega)], hc1, hc2, hc3⟩
