/-! ===== the reference: cell 103, its rows 104 to 114 ===== -/
abbrev mO (adr : Nat → Nat) (f : Nat → Int32) : List Value := [.int (f 0), .ref (adr 104), .ref (adr 105), .ref (adr 106), .int (f 4), .int (f 5), .ref (adr 107), .ref (adr 108), .int (f 8), .ref (adr 109), .ref (adr 110), .int (f 11), .int (f 12), .int (f 13), .int (f 14), .int (f 15), .ref (adr 111), .int (f 17), .int (f 18), .ref (adr 112), .ref (adr 113), .ref (adr 114), .int (f 22), .int (f 23)]
def isM (D : va_G) (adr : Nat → Nat) (G : Nat → va_E) (f : Nat → Int32) (a : Nat → Nat → Int32) : Prop :=
  G 103 = .inr (7, mO adr f) ∧ G 104 = aI D 6 (a 104) ∧ G 105 = aI D 6 (a 105) ∧ G 106 = aI D 6 (a 106) ∧ G 107 = aI D 60 (a 107) ∧ G 108 = aI D 60 (a 108) ∧ G 109 = aI D 30 (a 109) ∧ G 110 = aI D 30 (a 110) ∧ G 111 = aI D 1024 (a 111) ∧ G 112 = aI D 62 (a 112) ∧ G 113 = aI D 200 (a 113) ∧ G 114 = aZ D 2 (a 114)
/-- and the cells below 103 are those of G0 -/
def isMF (D : va_G) (adr : Nat → Nat) (G0 G : Nat → va_E) (f : Nat → Int32) (a : Nat → Nat → Int32) : Prop := isM D adr G f a ∧ ∀ j, j < 103 → G j = G0 j
def uA (a : Nat → Nat → Int32) (k : Nat) (g : Nat → Int32) : Nat → Nat → Int32 := fun x => if x = k then g else a x
theorem uA_eq (a : Nat → Nat → Int32) (k : Nat) (g : Nat → Int32) : uA a k g k = g := by simp [uA]
theorem uA_ne (a : Nat → Nat → Int32) {k j : Nat} (g : Nat → Int32) (h : j ≠ k) : uA a k g j = a j := by simp [uA, h]
theorem isMF.o {D : va_G} {adr : Nat → Nat} {G0 G : Nat → va_E} {f : Nat → Int32} {a : Nat → Nat → Int32} (h : isMF D adr G0 G f a) : G 103 = .inr (7, mO adr f) := h.1.1
theorem isMF.a104 {D : va_G} {adr : Nat → Nat} {G0 G : Nat → va_E} {f : Nat → Int32} {a : Nat → Nat → Int32} (h : isMF D adr G0 G f a) : G 104 = aI D 6 (a 104) := h.1.2.1
theorem isMF.a105 {D : va_G} {adr : Nat → Nat} {G0 G : Nat → va_E} {f : Nat → Int32} {a : Nat → Nat → Int32} (h : isMF D adr G0 G f a) : G 105 = aI D 6 (a 105) := h.1.2.2.1
theorem isMF.a106 {D : va_G} {adr : Nat → Nat} {G0 G : Nat → va_E} {f : Nat → Int32} {a : Nat → Nat → Int32} (h : isMF D adr G0 G f a) : G 106 = aI D 6 (a 106) := h.1.2.2.2.1
theorem isMF.a107 {D : va_G} {adr : Nat → Nat} {G0 G : Nat → va_E} {f : Nat → Int32} {a : Nat → Nat → Int32} (h : isMF D adr G0 G f a) : G 107 = aI D 60 (a 107) := h.1.2.2.2.2.1
theorem isMF.a108 {D : va_G} {adr : Nat → Nat} {G0 G : Nat → va_E} {f : Nat → Int32} {a : Nat → Nat → Int32} (h : isMF D adr G0 G f a) : G 108 = aI D 60 (a 108) := h.1.2.2.2.2.2.1
theorem isMF.a109 {D : va_G} {adr : Nat → Nat} {G0 G : Nat → va_E} {f : Nat → Int32} {a : Nat → Nat → Int32} (h : isMF D adr G0 G f a) : G 109 = aI D 30 (a 109) := h.1.2.2.2.2.2.2.1
theorem isMF.a110 {D : va_G} {adr : Nat → Nat} {G0 G : Nat → va_E} {f : Nat → Int32} {a : Nat → Nat → Int32} (h : isMF D adr G0 G f a) : G 110 = aI D 30 (a 110) := h.1.2.2.2.2.2.2.2.1
theorem isMF.a111 {D : va_G} {adr : Nat → Nat} {G0 G : Nat → va_E} {f : Nat → Int32} {a : Nat → Nat → Int32} (h : isMF D adr G0 G f a) : G 111 = aI D 1024 (a 111) := h.1.2.2.2.2.2.2.2.2.1
theorem isMF.a112 {D : va_G} {adr : Nat → Nat} {G0 G : Nat → va_E} {f : Nat → Int32} {a : Nat → Nat → Int32} (h : isMF D adr G0 G f a) : G 112 = aI D 62 (a 112) := h.1.2.2.2.2.2.2.2.2.2.1
theorem isMF.a113 {D : va_G} {adr : Nat → Nat} {G0 G : Nat → va_E} {f : Nat → Int32} {a : Nat → Nat → Int32} (h : isMF D adr G0 G f a) : G 113 = aI D 200 (a 113) := h.1.2.2.2.2.2.2.2.2.2.2.1
theorem isMF.a114 {D : va_G} {adr : Nat → Nat} {G0 G : Nat → va_E} {f : Nat → Int32} {a : Nat → Nat → Int32} (h : isMF D adr G0 G f a) : G 114 = aZ D 2 (a 114) := h.1.2.2.2.2.2.2.2.2.2.2.2
theorem isMF.setO {D : va_G} {adr : Nat → Nat} {G0 G : Nat → va_E} {f : Nat → Int32} {a : Nat → Nat → Int32} (h : isMF D adr G0 G f a) (f2 : Nat → Int32) : isMF D adr G0 (va_up G 103 (.inr (7, mO adr f2))) f2 a := ⟨⟨up_eq _ _ _, (up_ne _ _ (by omega)).trans h.a104, (up_ne _ _ (by omega)).trans h.a105, (up_ne _ _ (by omega)).trans h.a106, (up_ne _ _ (by omega)).trans h.a107, (up_ne _ _ (by omega)).trans h.a108, (up_ne _ _ (by omega)).trans h.a109, (up_ne _ _ (by omega)).trans h.a110, (up_ne _ _ (by omega)).trans h.a111, (up_ne _ _ (by omega)).trans h.a112, (up_ne _ _ (by omega)).trans h.a113, (up_ne _ _ (by omega)).trans h.a114⟩, fun j hj => (up_ne _ _ (by omega)).trans (h.2 j hj)⟩
theorem isMF.set104 {D : va_G} {adr : Nat → Nat} {G0 G : Nat → va_E} {f : Nat → Int32} {a : Nat → Nat → Int32} (h : isMF D adr G0 G f a) (g : Nat → Int32) : isMF D adr G0 (va_up G 104 (aI D 6 g)) f (uA a 104 g) := ⟨⟨(up_ne _ _ (by omega)).trans h.o, by rw [up_eq, uA_eq], ((up_ne _ _ (by omega)).trans h.a105).trans (by rw [uA_ne _ _ (by omega)]), ((up_ne _ _ (by omega)).trans h.a106).trans (by rw [uA_ne _ _ (by omega)]), ((up_ne _ _ (by omega)).trans h.a107).trans (by rw [uA_ne _ _ (by omega)]), ((up_ne _ _ (by omega)).trans h.a108).trans (by rw [uA_ne _ _ (by omega)]), ((up_ne _ _ (by omega)).trans h.a109).trans (by rw [uA_ne _ _ (by omega)]), ((up_ne _ _ (by omega)).trans h.a110).trans (by rw [uA_ne _ _ (by omega)]), ((up_ne _ _ (by omega)).trans h.a111).trans (by rw [uA_ne _ _ (by omega)]), ((up_ne _ _ (by omega)).trans h.a112).trans (by rw [uA_ne _ _ (by omega)]), ((up_ne _ _ (by omega)).trans h.a113).trans (by rw [uA_ne _ _ (by omega)]), ((up_ne _ _ (by omega)).trans h.a114).trans (by rw [uA_ne _ _ (by omega)])⟩, fun j hj => (up_ne _ _ (by omega)).trans (h.2 j hj)⟩
theorem isMF.set105 {D : va_G} {adr : Nat → Nat} {G0 G : Nat → va_E} {f : Nat → Int32} {a : Nat → Nat → Int32} (h : isMF D adr G0 G f a) (g : Nat → Int32) : isMF D adr G0 (va_up G 105 (aI D 6 g)) f (uA a 105 g) := ⟨⟨(up_ne _ _ (by omega)).trans h.o, ((up_ne _ _ (by omega)).trans h.a104).trans (by rw [uA_ne _ _ (by omega)]), by rw [up_eq, uA_eq], ((up_ne _ _ (by omega)).trans h.a106).trans (by rw [uA_ne _ _ (by omega)]), ((up_ne _ _ (by omega)).trans h.a107).trans (by rw [uA_ne _ _ (by omega)]), ((up_ne _ _ (by omega)).trans h.a108).trans (by rw [uA_ne _ _ (by omega)]), ((up_ne _ _ (by omega)).trans h.a109).trans (by rw [uA_ne _ _ (by omega)]), ((up_ne _ _ (by omega)).trans h.a110).trans (by rw [uA_ne _ _ (by omega)]), ((up_ne _ _ (by omega)).trans h.a111).trans (by rw [uA_ne _ _ (by omega)]), ((up_ne _ _ (by omega)).trans h.a112).trans (by rw [uA_ne _ _ (by omega)]), ((up_ne _ _ (by omega)).trans h.a113).trans (by rw [uA_ne _ _ (by omega)]), ((up_ne _ _ (by omega)).trans h.a114).trans (by rw [uA_ne _ _ (by omega)])⟩, fun j hj => (up_ne _ _ (by omega)).trans (h.2 j hj)⟩
theorem isMF.set106 {D : va_G} {adr : Nat → Nat} {G0 G : Nat → va_E} {f : Nat → Int32} {a : Nat → Nat → Int32} (h : isMF D adr G0 G f a) (g : Nat → Int32) : isMF D adr G0 (va_up G 106 (aI D 6 g)) f (uA a 106 g) := ⟨⟨(up_ne _ _ (by omega)).trans h.o, ((up_ne _ _ (by omega)).trans h.a104).trans (by rw [uA_ne _ _ (by omega)]), ((up_ne _ _ (by omega)).trans h.a105).trans (by rw [uA_ne _ _ (by omega)]), by rw [up_eq, uA_eq], ((up_ne _ _ (by omega)).trans h.a107).trans (by rw [uA_ne _ _ (by omega)]), ((up_ne _ _ (by omega)).trans h.a108).trans (by rw [uA_ne _ _ (by omega)]), ((up_ne _ _ (by omega)).trans h.a109).trans (by rw [uA_ne _ _ (by omega)]), ((up_ne _ _ (by omega)).trans h.a110).trans (by rw [uA_ne _ _ (by omega)]), ((up_ne _ _ (by omega)).trans h.a111).trans (by rw [uA_ne _ _ (by omega)]), ((up_ne _ _ (by omega)).trans h.a112).trans (by rw [uA_ne _ _ (by omega)]), ((up_ne _ _ (by omega)).trans h.a113).trans (by rw [uA_ne _ _ (by omega)]), ((up_ne _ _ (by omega)).trans h.a114).trans (by rw [uA_ne _ _ (by omega)])⟩, fun j hj => (up_ne _ _ (by omega)).trans (h.2 j hj)⟩
theorem isMF.set107 {D : va_G} {adr : Nat → Nat} {G0 G : Nat → va_E} {f : Nat → Int32} {a : Nat → Nat → Int32} (h : isMF D adr G0 G f a) (g : Nat → Int32) : isMF D adr G0 (va_up G 107 (aI D 60 g)) f (uA a 107 g) := ⟨⟨(up_ne _ _ (by omega)).trans h.o, ((up_ne _ _ (by omega)).trans h.a104).trans (by rw [uA_ne _ _ (by omega)]), ((up_ne _ _ (by omega)).trans h.a105).trans (by rw [uA_ne _ _ (by omega)]), ((up_ne _ _ (by omega)).trans h.a106).trans (by rw [uA_ne _ _ (by omega)]), by rw [up_eq, uA_eq], ((up_ne _ _ (by omega)).trans h.a108).trans (by rw [uA_ne _ _ (by omega)]), ((up_ne _ _ (by omega)).trans h.a109).trans (by rw [uA_ne _ _ (by omega)]), ((up_ne _ _ (by omega)).trans h.a110).trans (by rw [uA_ne _ _ (by omega)]), ((up_ne _ _ (by omega)).trans h.a111).trans (by rw [uA_ne _ _ (by omega)]), ((up_ne _ _ (by omega)).trans h.a112).trans (by rw [uA_ne _ _ (by omega)]), ((up_ne _ _ (by omega)).trans h.a113).trans (by rw [uA_ne _ _ (by omega)]), ((up_ne _ _ (by omega)).trans h.a114).trans (by rw [uA_ne _ _ (by omega)])⟩, fun j hj => (up_ne _ _ (by omega)).trans (h.2 j hj)⟩
theorem isMF.set108 {D : va_G} {adr : Nat → Nat} {G0 G : Nat → va_E} {f : Nat → Int32} {a : Nat → Nat → Int32} (h : isMF D adr G0 G f a) (g : Nat → Int32) : isMF D adr G0 (va_up G 108 (aI D 60 g)) f (uA a 108 g) := ⟨⟨(up_ne _ _ (by omega)).trans h.o, ((up_ne _ _ (by omega)).trans h.a104).trans (by rw [uA_ne _ _ (by omega)]), ((up_ne _ _ (by omega)).trans h.a105).trans (by rw [uA_ne _ _ (by omega)]), ((up_ne _ _ (by omega)).trans h.a106).trans (by rw [uA_ne _ _ (by omega)]), ((up_ne _ _ (by omega)).trans h.a107).trans (by rw [uA_ne _ _ (by omega)]), by rw [up_eq, uA_eq], ((up_ne _ _ (by omega)).trans h.a109).trans (by rw [uA_ne _ _ (by omega)]), ((up_ne _ _ (by omega)).trans h.a110).trans (by rw [uA_ne _ _ (by omega)]), ((up_ne _ _ (by omega)).trans h.a111).trans (by rw [uA_ne _ _ (by omega)]), ((up_ne _ _ (by omega)).trans h.a112).trans (by rw [uA_ne _ _ (by omega)]), ((up_ne _ _ (by omega)).trans h.a113).trans (by rw [uA_ne _ _ (by omega)]), ((up_ne _ _ (by omega)).trans h.a114).trans (by rw [uA_ne _ _ (by omega)])⟩, fun j hj => (up_ne _ _ (by omega)).trans (h.2 j hj)⟩
theorem isMF.set109 {D : va_G} {adr : Nat → Nat} {G0 G : Nat → va_E} {f : Nat → Int32} {a : Nat → Nat → Int32} (h : isMF D adr G0 G f a) (g : Nat → Int32) : isMF D adr G0 (va_up G 109 (aI D 30 g)) f (uA a 109 g) := ⟨⟨(up_ne _ _ (by omega)).trans h.o, ((up_ne _ _ (by omega)).trans h.a104).trans (by rw [uA_ne _ _ (by omega)]), ((up_ne _ _ (by omega)).trans h.a105).trans (by rw [uA_ne _ _ (by omega)]), ((up_ne _ _ (by omega)).trans h.a106).trans (by rw [uA_ne _ _ (by omega)]), ((up_ne _ _ (by omega)).trans h.a107).trans (by rw [uA_ne _ _ (by omega)]), ((up_ne _ _ (by omega)).trans h.a108).trans (by rw [uA_ne _ _ (by omega)]), by rw [up_eq, uA_eq], ((up_ne _ _ (by omega)).trans h.a110).trans (by rw [uA_ne _ _ (by omega)]), ((up_ne _ _ (by omega)).trans h.a111).trans (by rw [uA_ne _ _ (by omega)]), ((up_ne _ _ (by omega)).trans h.a112).trans (by rw [uA_ne _ _ (by omega)]), ((up_ne _ _ (by omega)).trans h.a113).trans (by rw [uA_ne _ _ (by omega)]), ((up_ne _ _ (by omega)).trans h.a114).trans (by rw [uA_ne _ _ (by omega)])⟩, fun j hj => (up_ne _ _ (by omega)).trans (h.2 j hj)⟩
theorem isMF.set110 {D : va_G} {adr : Nat → Nat} {G0 G : Nat → va_E} {f : Nat → Int32} {a : Nat → Nat → Int32} (h : isMF D adr G0 G f a) (g : Nat → Int32) : isMF D adr G0 (va_up G 110 (aI D 30 g)) f (uA a 110 g) := ⟨⟨(up_ne _ _ (by omega)).trans h.o, ((up_ne _ _ (by omega)).trans h.a104).trans (by rw [uA_ne _ _ (by omega)]), ((up_ne _ _ (by omega)).trans h.a105).trans (by rw [uA_ne _ _ (by omega)]), ((up_ne _ _ (by omega)).trans h.a106).trans (by rw [uA_ne _ _ (by omega)]), ((up_ne _ _ (by omega)).trans h.a107).trans (by rw [uA_ne _ _ (by omega)]), ((up_ne _ _ (by omega)).trans h.a108).trans (by rw [uA_ne _ _ (by omega)]), ((up_ne _ _ (by omega)).trans h.a109).trans (by rw [uA_ne _ _ (by omega)]), by rw [up_eq, uA_eq], ((up_ne _ _ (by omega)).trans h.a111).trans (by rw [uA_ne _ _ (by omega)]), ((up_ne _ _ (by omega)).trans h.a112).trans (by rw [uA_ne _ _ (by omega)]), ((up_ne _ _ (by omega)).trans h.a113).trans (by rw [uA_ne _ _ (by omega)]), ((up_ne _ _ (by omega)).trans h.a114).trans (by rw [uA_ne _ _ (by omega)])⟩, fun j hj => (up_ne _ _ (by omega)).trans (h.2 j hj)⟩
theorem isMF.set111 {D : va_G} {adr : Nat → Nat} {G0 G : Nat → va_E} {f : Nat → Int32} {a : Nat → Nat → Int32} (h : isMF D adr G0 G f a) (g : Nat → Int32) : isMF D adr G0 (va_up G 111 (aI D 1024 g)) f (uA a 111 g) := ⟨⟨(up_ne _ _ (by omega)).trans h.o, ((up_ne _ _ (by omega)).trans h.a104).trans (by rw [uA_ne _ _ (by omega)]), ((up_ne _ _ (by omega)).trans h.a105).trans (by rw [uA_ne _ _ (by omega)]), ((up_ne _ _ (by omega)).trans h.a106).trans (by rw [uA_ne _ _ (by omega)]), ((up_ne _ _ (by omega)).trans h.a107).trans (by rw [uA_ne _ _ (by omega)]), ((up_ne _ _ (by omega)).trans h.a108).trans (by rw [uA_ne _ _ (by omega)]), ((up_ne _ _ (by omega)).trans h.a109).trans (by rw [uA_ne _ _ (by omega)]), ((up_ne _ _ (by omega)).trans h.a110).trans (by rw [uA_ne _ _ (by omega)]), by rw [up_eq, uA_eq], ((up_ne _ _ (by omega)).trans h.a112).trans (by rw [uA_ne _ _ (by omega)]), ((up_ne _ _ (by omega)).trans h.a113).trans (by rw [uA_ne _ _ (by omega)]), ((up_ne _ _ (by omega)).trans h.a114).trans (by rw [uA_ne _ _ (by omega)])⟩, fun j hj => (up_ne _ _ (by omega)).trans (h.2 j hj)⟩
theorem isMF.set112 {D : va_G} {adr : Nat → Nat} {G0 G : Nat → va_E} {f : Nat → Int32} {a : Nat → Nat → Int32} (h : isMF D adr G0 G f a) (g : Nat → Int32) : isMF D adr G0 (va_up G 112 (aI D 62 g)) f (uA a 112 g) := ⟨⟨(up_ne _ _ (by omega)).trans h.o, ((up_ne _ _ (by omega)).trans h.a104).trans (by rw [uA_ne _ _ (by omega)]), ((up_ne _ _ (by omega)).trans h.a105).trans (by rw [uA_ne _ _ (by omega)]), ((up_ne _ _ (by omega)).trans h.a106).trans (by rw [uA_ne _ _ (by omega)]), ((up_ne _ _ (by omega)).trans h.a107).trans (by rw [uA_ne _ _ (by omega)]), ((up_ne _ _ (by omega)).trans h.a108).trans (by rw [uA_ne _ _ (by omega)]), ((up_ne _ _ (by omega)).trans h.a109).trans (by rw [uA_ne _ _ (by omega)]), ((up_ne _ _ (by omega)).trans h.a110).trans (by rw [uA_ne _ _ (by omega)]), ((up_ne _ _ (by omega)).trans h.a111).trans (by rw [uA_ne _ _ (by omega)]), by rw [up_eq, uA_eq], ((up_ne _ _ (by omega)).trans h.a113).trans (by rw [uA_ne _ _ (by omega)]), ((up_ne _ _ (by omega)).trans h.a114).trans (by rw [uA_ne _ _ (by omega)])⟩, fun j hj => (up_ne _ _ (by omega)).trans (h.2 j hj)⟩
theorem isMF.set113 {D : va_G} {adr : Nat → Nat} {G0 G : Nat → va_E} {f : Nat → Int32} {a : Nat → Nat → Int32} (h : isMF D adr G0 G f a) (g : Nat → Int32) : isMF D adr G0 (va_up G 113 (aI D 200 g)) f (uA a 113 g) := ⟨⟨(up_ne _ _ (by omega)).trans h.o, ((up_ne _ _ (by omega)).trans h.a104).trans (by rw [uA_ne _ _ (by omega)]), ((up_ne _ _ (by omega)).trans h.a105).trans (by rw [uA_ne _ _ (by omega)]), ((up_ne _ _ (by omega)).trans h.a106).trans (by rw [uA_ne _ _ (by omega)]), ((up_ne _ _ (by omega)).trans h.a107).trans (by rw [uA_ne _ _ (by omega)]), ((up_ne _ _ (by omega)).trans h.a108).trans (by rw [uA_ne _ _ (by omega)]), ((up_ne _ _ (by omega)).trans h.a109).trans (by rw [uA_ne _ _ (by omega)]), ((up_ne _ _ (by omega)).trans h.a110).trans (by rw [uA_ne _ _ (by omega)]), ((up_ne _ _ (by omega)).trans h.a111).trans (by rw [uA_ne _ _ (by omega)]), ((up_ne _ _ (by omega)).trans h.a112).trans (by rw [uA_ne _ _ (by omega)]), by rw [up_eq, uA_eq], ((up_ne _ _ (by omega)).trans h.a114).trans (by rw [uA_ne _ _ (by omega)])⟩, fun j hj => (up_ne _ _ (by omega)).trans (h.2 j hj)⟩
theorem isMF.set114 {D : va_G} {adr : Nat → Nat} {G0 G : Nat → va_E} {f : Nat → Int32} {a : Nat → Nat → Int32} (h : isMF D adr G0 G f a) (g : Nat → Int32) : isMF D adr G0 (va_up G 114 (aZ D 2 g)) f (uA a 114 g) := ⟨⟨(up_ne _ _ (by omega)).trans h.o, ((up_ne _ _ (by omega)).trans h.a104).trans (by rw [uA_ne _ _ (by omega)]), ((up_ne _ _ (by omega)).trans h.a105).trans (by rw [uA_ne _ _ (by omega)]), ((up_ne _ _ (by omega)).trans h.a106).trans (by rw [uA_ne _ _ (by omega)]), ((up_ne _ _ (by omega)).trans h.a107).trans (by rw [uA_ne _ _ (by omega)]), ((up_ne _ _ (by omega)).trans h.a108).trans (by rw [uA_ne _ _ (by omega)]), ((up_ne _ _ (by omega)).trans h.a109).trans (by rw [uA_ne _ _ (by omega)]), ((up_ne _ _ (by omega)).trans h.a110).trans (by rw [uA_ne _ _ (by omega)]), ((up_ne _ _ (by omega)).trans h.a111).trans (by rw [uA_ne _ _ (by omega)]), ((up_ne _ _ (by omega)).trans h.a112).trans (by rw [uA_ne _ _ (by omega)]), ((up_ne _ _ (by omega)).trans h.a113).trans (by rw [uA_ne _ _ (by omega)]), by rw [up_eq, uA_eq]⟩, fun j hj => (up_ne _ _ (by omega)).trans (h.2 j hj)⟩
theorem gm_56 {l : Launch} {D : va_G} {R : Room} {cc : ByteArray} {nL : Nat} {Γ : GT} {ce sl pc : Nat} {lv : List (Nat × Value)} {st : List Value} {N : Nat} {adr : Nat → Nat} {G : Nat → va_E} {G0 : Nat → va_E} {f : Nat → Int32} {a : Nat → Nat → Int32} (h : cx l D R RX8 cc nL Γ) (d : decode cc pc = .ok (.getfield 56, 3)) (hN : 115 ≤ N) (hM : isMF D adr G0 G f a) (k_ : SX Γ ce sl (pc + 3) lv (.int (f 0) :: st) N adr G) : SX Γ ce sl pc lv (.ref (adr 103) :: st) N adr G :=
  g_X8_56 h d (by omega) hM.o k_
theorem pm_56 {l : Launch} {D : va_G} {R : Room} {cc : ByteArray} {nL : Nat} {Γ : GT} {ce sl pc : Nat} {lv : List (Nat × Value)} {st : List Value} {N : Nat} {adr : Nat → Nat} {G : Nat → va_E} {G0 : Nat → va_E} {f : Nat → Int32} {a : Nat → Nat → Int32} {x : Int32} (h : cx l D R RX8 cc nL Γ) (d : decode cc pc = .ok (.putfield 56, 3)) (hN : 115 ≤ N) (hM : isMF D adr G0 G f a) (k_ : ∀ W, isMF D adr G0 W (upd f 0 x) a → SX Γ ce sl (pc + 3) lv st N adr W) : SX Γ ce sl pc lv (.int x :: .ref (adr 103) :: st) N adr G :=
  p_X8_56 h d (by omega) hM.o (k_ _ (hM.setO (upd f 0 x)))
theorem gm_7 {l : Launch} {D : va_G} {R : Room} {cc : ByteArray} {nL : Nat} {Γ : GT} {ce sl pc : Nat} {lv : List (Nat × Value)} {st : List Value} {N : Nat} {adr : Nat → Nat} {G : Nat → va_E} {G0 : Nat → va_E} {f : Nat → Int32} {a : Nat → Nat → Int32} (h : cx l D R RX8 cc nL Γ) (d : decode cc pc = .ok (.getfield 7, 3)) (hN : 115 ≤ N) (hM : isMF D adr G0 G f a) (k_ : SX Γ ce sl (pc + 3) lv (.ref (adr 104) :: st) N adr G) : SX Γ ce sl pc lv (.ref (adr 103) :: st) N adr G :=
  g_X8_7 h d (by omega) hM.o k_
theorem gm_13 {l : Launch} {D : va_G} {R : Room} {cc : ByteArray} {nL : Nat} {Γ : GT} {ce sl pc : Nat} {lv : List (Nat × Value)} {st : List Value} {N : Nat} {adr : Nat → Nat} {G : Nat → va_E} {G0 : Nat → va_E} {f : Nat → Int32} {a : Nat → Nat → Int32} (h : cx l D R RX8 cc nL Γ) (d : decode cc pc = .ok (.getfield 13, 3)) (hN : 115 ≤ N) (hM : isMF D adr G0 G f a) (k_ : SX Γ ce sl (pc + 3) lv (.ref (adr 105) :: st) N adr G) : SX Γ ce sl pc lv (.ref (adr 103) :: st) N adr G :=
  g_X8_13 h d (by omega) hM.o k_
theorem gm_16 {l : Launch} {D : va_G} {R : Room} {cc : ByteArray} {nL : Nat} {Γ : GT} {ce sl pc : Nat} {lv : List (Nat × Value)} {st : List Value} {N : Nat} {adr : Nat → Nat} {G : Nat → va_E} {G0 : Nat → va_E} {f : Nat → Int32} {a : Nat → Nat → Int32} (h : cx l D R RX8 cc nL Γ) (d : decode cc pc = .ok (.getfield 16, 3)) (hN : 115 ≤ N) (hM : isMF D adr G0 G f a) (k_ : SX Γ ce sl (pc + 3) lv (.ref (adr 106) :: st) N adr G) : SX Γ ce sl pc lv (.ref (adr 103) :: st) N adr G :=
  g_X8_16 h d (by omega) hM.o k_
theorem gm_44 {l : Launch} {D : va_G} {R : Room} {cc : ByteArray} {nL : Nat} {Γ : GT} {ce sl pc : Nat} {lv : List (Nat × Value)} {st : List Value} {N : Nat} {adr : Nat → Nat} {G : Nat → va_E} {G0 : Nat → va_E} {f : Nat → Int32} {a : Nat → Nat → Int32} (h : cx l D R RX8 cc nL Γ) (d : decode cc pc = .ok (.getfield 44, 3)) (hN : 115 ≤ N) (hM : isMF D adr G0 G f a) (k_ : SX Γ ce sl (pc + 3) lv (.int (f 4) :: st) N adr G) : SX Γ ce sl pc lv (.ref (adr 103) :: st) N adr G :=
  g_X8_44 h d (by omega) hM.o k_
theorem pm_44 {l : Launch} {D : va_G} {R : Room} {cc : ByteArray} {nL : Nat} {Γ : GT} {ce sl pc : Nat} {lv : List (Nat × Value)} {st : List Value} {N : Nat} {adr : Nat → Nat} {G : Nat → va_E} {G0 : Nat → va_E} {f : Nat → Int32} {a : Nat → Nat → Int32} {x : Int32} (h : cx l D R RX8 cc nL Γ) (d : decode cc pc = .ok (.putfield 44, 3)) (hN : 115 ≤ N) (hM : isMF D adr G0 G f a) (k_ : ∀ W, isMF D adr G0 W (upd f 4 x) a → SX Γ ce sl (pc + 3) lv st N adr W) : SX Γ ce sl pc lv (.int x :: .ref (adr 103) :: st) N adr G :=
  p_X8_44 h d (by omega) hM.o (k_ _ (hM.setO (upd f 4 x)))
theorem gm_61 {l : Launch} {D : va_G} {R : Room} {cc : ByteArray} {nL : Nat} {Γ : GT} {ce sl pc : Nat} {lv : List (Nat × Value)} {st : List Value} {N : Nat} {adr : Nat → Nat} {G : Nat → va_E} {G0 : Nat → va_E} {f : Nat → Int32} {a : Nat → Nat → Int32} (h : cx l D R RX8 cc nL Γ) (d : decode cc pc = .ok (.getfield 61, 3)) (hN : 115 ≤ N) (hM : isMF D adr G0 G f a) (k_ : SX Γ ce sl (pc + 3) lv (.int (f 5) :: st) N adr G) : SX Γ ce sl pc lv (.ref (adr 103) :: st) N adr G :=
  g_X8_61 h d (by omega) hM.o k_
theorem pm_61 {l : Launch} {D : va_G} {R : Room} {cc : ByteArray} {nL : Nat} {Γ : GT} {ce sl pc : Nat} {lv : List (Nat × Value)} {st : List Value} {N : Nat} {adr : Nat → Nat} {G : Nat → va_E} {G0 : Nat → va_E} {f : Nat → Int32} {a : Nat → Nat → Int32} {x : Int32} (h : cx l D R RX8 cc nL Γ) (d : decode cc pc = .ok (.putfield 61, 3)) (hN : 115 ≤ N) (hM : isMF D adr G0 G f a) (k_ : ∀ W, isMF D adr G0 W (upd f 5 x) a → SX Γ ce sl (pc + 3) lv st N adr W) : SX Γ ce sl pc lv (.int x :: .ref (adr 103) :: st) N adr G :=
  p_X8_61 h d (by omega) hM.o (k_ _ (hM.setO (upd f 5 x)))
theorem gm_19 {l : Launch} {D : va_G} {R : Room} {cc : ByteArray} {nL : Nat} {Γ : GT} {ce sl pc : Nat} {lv : List (Nat × Value)} {st : List Value} {N : Nat} {adr : Nat → Nat} {G : Nat → va_E} {G0 : Nat → va_E} {f : Nat → Int32} {a : Nat → Nat → Int32} (h : cx l D R RX8 cc nL Γ) (d : decode cc pc = .ok (.getfield 19, 3)) (hN : 115 ≤ N) (hM : isMF D adr G0 G f a) (k_ : SX Γ ce sl (pc + 3) lv (.ref (adr 107) :: st) N adr G) : SX Γ ce sl pc lv (.ref (adr 103) :: st) N adr G :=
  g_X8_19 h d (by omega) hM.o k_
theorem gm_22 {l : Launch} {D : va_G} {R : Room} {cc : ByteArray} {nL : Nat} {Γ : GT} {ce sl pc : Nat} {lv : List (Nat × Value)} {st : List Value} {N : Nat} {adr : Nat → Nat} {G : Nat → va_E} {G0 : Nat → va_E} {f : Nat → Int32} {a : Nat → Nat → Int32} (h : cx l D R RX8 cc nL Γ) (d : decode cc pc = .ok (.getfield 22, 3)) (hN : 115 ≤ N) (hM : isMF D adr G0 G f a) (k_ : SX Γ ce sl (pc + 3) lv (.ref (adr 108) :: st) N adr G) : SX Γ ce sl pc lv (.ref (adr 103) :: st) N adr G :=
  g_X8_22 h d (by omega) hM.o k_
theorem gm_94 {l : Launch} {D : va_G} {R : Room} {cc : ByteArray} {nL : Nat} {Γ : GT} {ce sl pc : Nat} {lv : List (Nat × Value)} {st : List Value} {N : Nat} {adr : Nat → Nat} {G : Nat → va_E} {G0 : Nat → va_E} {f : Nat → Int32} {a : Nat → Nat → Int32} (h : cx l D R RX8 cc nL Γ) (d : decode cc pc = .ok (.getfield 94, 3)) (hN : 115 ≤ N) (hM : isMF D adr G0 G f a) (k_ : SX Γ ce sl (pc + 3) lv (.int (f 8) :: st) N adr G) : SX Γ ce sl pc lv (.ref (adr 103) :: st) N adr G :=
  g_X8_94 h d (by omega) hM.o k_
theorem pm_94 {l : Launch} {D : va_G} {R : Room} {cc : ByteArray} {nL : Nat} {Γ : GT} {ce sl pc : Nat} {lv : List (Nat × Value)} {st : List Value} {N : Nat} {adr : Nat → Nat} {G : Nat → va_E} {G0 : Nat → va_E} {f : Nat → Int32} {a : Nat → Nat → Int32} {x : Int32} (h : cx l D R RX8 cc nL Γ) (d : decode cc pc = .ok (.putfield 94, 3)) (hN : 115 ≤ N) (hM : isMF D adr G0 G f a) (k_ : ∀ W, isMF D adr G0 W (upd f 8 x) a → SX Γ ce sl (pc + 3) lv st N adr W) : SX Γ ce sl pc lv (.int x :: .ref (adr 103) :: st) N adr G :=
  p_X8_94 h d (by omega) hM.o (k_ _ (hM.setO (upd f 8 x)))
theorem gm_25 {l : Launch} {D : va_G} {R : Room} {cc : ByteArray} {nL : Nat} {Γ : GT} {ce sl pc : Nat} {lv : List (Nat × Value)} {st : List Value} {N : Nat} {adr : Nat → Nat} {G : Nat → va_E} {G0 : Nat → va_E} {f : Nat → Int32} {a : Nat → Nat → Int32} (h : cx l D R RX8 cc nL Γ) (d : decode cc pc = .ok (.getfield 25, 3)) (hN : 115 ≤ N) (hM : isMF D adr G0 G f a) (k_ : SX Γ ce sl (pc + 3) lv (.ref (adr 109) :: st) N adr G) : SX Γ ce sl pc lv (.ref (adr 103) :: st) N adr G :=
  g_X8_25 h d (by omega) hM.o k_
theorem gm_28 {l : Launch} {D : va_G} {R : Room} {cc : ByteArray} {nL : Nat} {Γ : GT} {ce sl pc : Nat} {lv : List (Nat × Value)} {st : List Value} {N : Nat} {adr : Nat → Nat} {G : Nat → va_E} {G0 : Nat → va_E} {f : Nat → Int32} {a : Nat → Nat → Int32} (h : cx l D R RX8 cc nL Γ) (d : decode cc pc = .ok (.getfield 28, 3)) (hN : 115 ≤ N) (hM : isMF D adr G0 G f a) (k_ : SX Γ ce sl (pc + 3) lv (.ref (adr 110) :: st) N adr G) : SX Γ ce sl pc lv (.ref (adr 103) :: st) N adr G :=
  g_X8_28 h d (by omega) hM.o k_
theorem gm_97 {l : Launch} {D : va_G} {R : Room} {cc : ByteArray} {nL : Nat} {Γ : GT} {ce sl pc : Nat} {lv : List (Nat × Value)} {st : List Value} {N : Nat} {adr : Nat → Nat} {G : Nat → va_E} {G0 : Nat → va_E} {f : Nat → Int32} {a : Nat → Nat → Int32} (h : cx l D R RX8 cc nL Γ) (d : decode cc pc = .ok (.getfield 97, 3)) (hN : 115 ≤ N) (hM : isMF D adr G0 G f a) (k_ : SX Γ ce sl (pc + 3) lv (.int (f 11) :: st) N adr G) : SX Γ ce sl pc lv (.ref (adr 103) :: st) N adr G :=
  g_X8_97 h d (by omega) hM.o k_
theorem pm_97 {l : Launch} {D : va_G} {R : Room} {cc : ByteArray} {nL : Nat} {Γ : GT} {ce sl pc : Nat} {lv : List (Nat × Value)} {st : List Value} {N : Nat} {adr : Nat → Nat} {G : Nat → va_E} {G0 : Nat → va_E} {f : Nat → Int32} {a : Nat → Nat → Int32} {x : Int32} (h : cx l D R RX8 cc nL Γ) (d : decode cc pc = .ok (.putfield 97, 3)) (hN : 115 ≤ N) (hM : isMF D adr G0 G f a) (k_ : ∀ W, isMF D adr G0 W (upd f 11 x) a → SX Γ ce sl (pc + 3) lv st N adr W) : SX Γ ce sl pc lv (.int x :: .ref (adr 103) :: st) N adr G :=
  p_X8_97 h d (by omega) hM.o (k_ _ (hM.setO (upd f 11 x)))
theorem gm_100 {l : Launch} {D : va_G} {R : Room} {cc : ByteArray} {nL : Nat} {Γ : GT} {ce sl pc : Nat} {lv : List (Nat × Value)} {st : List Value} {N : Nat} {adr : Nat → Nat} {G : Nat → va_E} {G0 : Nat → va_E} {f : Nat → Int32} {a : Nat → Nat → Int32} (h : cx l D R RX8 cc nL Γ) (d : decode cc pc = .ok (.getfield 100, 3)) (hN : 115 ≤ N) (hM : isMF D adr G0 G f a) (k_ : SX Γ ce sl (pc + 3) lv (.int (f 12) :: st) N adr G) : SX Γ ce sl pc lv (.ref (adr 103) :: st) N adr G :=
  g_X8_100 h d (by omega) hM.o k_
theorem pm_100 {l : Launch} {D : va_G} {R : Room} {cc : ByteArray} {nL : Nat} {Γ : GT} {ce sl pc : Nat} {lv : List (Nat × Value)} {st : List Value} {N : Nat} {adr : Nat → Nat} {G : Nat → va_E} {G0 : Nat → va_E} {f : Nat → Int32} {a : Nat → Nat → Int32} {x : Int32} (h : cx l D R RX8 cc nL Γ) (d : decode cc pc = .ok (.putfield 100, 3)) (hN : 115 ≤ N) (hM : isMF D adr G0 G f a) (k_ : ∀ W, isMF D adr G0 W (upd f 12 x) a → SX Γ ce sl (pc + 3) lv st N adr W) : SX Γ ce sl pc lv (.int x :: .ref (adr 103) :: st) N adr G :=
  p_X8_100 h d (by omega) hM.o (k_ _ (hM.setO (upd f 12 x)))
theorem gm_103 {l : Launch} {D : va_G} {R : Room} {cc : ByteArray} {nL : Nat} {Γ : GT} {ce sl pc : Nat} {lv : List (Nat × Value)} {st : List Value} {N : Nat} {adr : Nat → Nat} {G : Nat → va_E} {G0 : Nat → va_E} {f : Nat → Int32} {a : Nat → Nat → Int32} (h : cx l D R RX8 cc nL Γ) (d : decode cc pc = .ok (.getfield 103, 3)) (hN : 115 ≤ N) (hM : isMF D adr G0 G f a) (k_ : SX Γ ce sl (pc + 3) lv (.int (f 13) :: st) N adr G) : SX Γ ce sl pc lv (.ref (adr 103) :: st) N adr G :=
  g_X8_103 h d (by omega) hM.o k_
theorem pm_103 {l : Launch} {D : va_G} {R : Room} {cc : ByteArray} {nL : Nat} {Γ : GT} {ce sl pc : Nat} {lv : List (Nat × Value)} {st : List Value} {N : Nat} {adr : Nat → Nat} {G : Nat → va_E} {G0 : Nat → va_E} {f : Nat → Int32} {a : Nat → Nat → Int32} {x : Int32} (h : cx l D R RX8 cc nL Γ) (d : decode cc pc = .ok (.putfield 103, 3)) (hN : 115 ≤ N) (hM : isMF D adr G0 G f a) (k_ : ∀ W, isMF D adr G0 W (upd f 13 x) a → SX Γ ce sl (pc + 3) lv st N adr W) : SX Γ ce sl pc lv (.int x :: .ref (adr 103) :: st) N adr G :=
  p_X8_103 h d (by omega) hM.o (k_ _ (hM.setO (upd f 13 x)))
theorem gm_125 {l : Launch} {D : va_G} {R : Room} {cc : ByteArray} {nL : Nat} {Γ : GT} {ce sl pc : Nat} {lv : List (Nat × Value)} {st : List Value} {N : Nat} {adr : Nat → Nat} {G : Nat → va_E} {G0 : Nat → va_E} {f : Nat → Int32} {a : Nat → Nat → Int32} (h : cx l D R RX8 cc nL Γ) (d : decode cc pc = .ok (.getfield 125, 3)) (hN : 115 ≤ N) (hM : isMF D adr G0 G f a) (k_ : SX Γ ce sl (pc + 3) lv (.int (f 14) :: st) N adr G) : SX Γ ce sl pc lv (.ref (adr 103) :: st) N adr G :=
  g_X8_125 h d (by omega) hM.o k_
theorem pm_125 {l : Launch} {D : va_G} {R : Room} {cc : ByteArray} {nL : Nat} {Γ : GT} {ce sl pc : Nat} {lv : List (Nat × Value)} {st : List Value} {N : Nat} {adr : Nat → Nat} {G : Nat → va_E} {G0 : Nat → va_E} {f : Nat → Int32} {a : Nat → Nat → Int32} {x : Int32} (h : cx l D R RX8 cc nL Γ) (d : decode cc pc = .ok (.putfield 125, 3)) (hN : 115 ≤ N) (hM : isMF D adr G0 G f a) (k_ : ∀ W, isMF D adr G0 W (upd f 14 x) a → SX Γ ce sl (pc + 3) lv st N adr W) : SX Γ ce sl pc lv (.int x :: .ref (adr 103) :: st) N adr G :=
  p_X8_125 h d (by omega) hM.o (k_ _ (hM.setO (upd f 14 x)))
theorem gm_128 {l : Launch} {D : va_G} {R : Room} {cc : ByteArray} {nL : Nat} {Γ : GT} {ce sl pc : Nat} {lv : List (Nat × Value)} {st : List Value} {N : Nat} {adr : Nat → Nat} {G : Nat → va_E} {G0 : Nat → va_E} {f : Nat → Int32} {a : Nat → Nat → Int32} (h : cx l D R RX8 cc nL Γ) (d : decode cc pc = .ok (.getfield 128, 3)) (hN : 115 ≤ N) (hM : isMF D adr G0 G f a) (k_ : SX Γ ce sl (pc + 3) lv (.int (f 15) :: st) N adr G) : SX Γ ce sl pc lv (.ref (adr 103) :: st) N adr G :=
  g_X8_128 h d (by omega) hM.o k_
theorem pm_128 {l : Launch} {D : va_G} {R : Room} {cc : ByteArray} {nL : Nat} {Γ : GT} {ce sl pc : Nat} {lv : List (Nat × Value)} {st : List Value} {N : Nat} {adr : Nat → Nat} {G : Nat → va_E} {G0 : Nat → va_E} {f : Nat → Int32} {a : Nat → Nat → Int32} {x : Int32} (h : cx l D R RX8 cc nL Γ) (d : decode cc pc = .ok (.putfield 128, 3)) (hN : 115 ≤ N) (hM : isMF D adr G0 G f a) (k_ : ∀ W, isMF D adr G0 W (upd f 15 x) a → SX Γ ce sl (pc + 3) lv st N adr W) : SX Γ ce sl pc lv (.int x :: .ref (adr 103) :: st) N adr G :=
  p_X8_128 h d (by omega) hM.o (k_ _ (hM.setO (upd f 15 x)))
theorem gm_31 {l : Launch} {D : va_G} {R : Room} {cc : ByteArray} {nL : Nat} {Γ : GT} {ce sl pc : Nat} {lv : List (Nat × Value)} {st : List Value} {N : Nat} {adr : Nat → Nat} {G : Nat → va_E} {G0 : Nat → va_E} {f : Nat → Int32} {a : Nat → Nat → Int32} (h : cx l D R RX8 cc nL Γ) (d : decode cc pc = .ok (.getfield 31, 3)) (hN : 115 ≤ N) (hM : isMF D adr G0 G f a) (k_ : SX Γ ce sl (pc + 3) lv (.ref (adr 111) :: st) N adr G) : SX Γ ce sl pc lv (.ref (adr 103) :: st) N adr G :=
  g_X8_31 h d (by omega) hM.o k_
theorem gm_165 {l : Launch} {D : va_G} {R : Room} {cc : ByteArray} {nL : Nat} {Γ : GT} {ce sl pc : Nat} {lv : List (Nat × Value)} {st : List Value} {N : Nat} {adr : Nat → Nat} {G : Nat → va_E} {G0 : Nat → va_E} {f : Nat → Int32} {a : Nat → Nat → Int32} (h : cx l D R RX8 cc nL Γ) (d : decode cc pc = .ok (.getfield 165, 3)) (hN : 115 ≤ N) (hM : isMF D adr G0 G f a) (k_ : SX Γ ce sl (pc + 3) lv (.int (f 17) :: st) N adr G) : SX Γ ce sl pc lv (.ref (adr 103) :: st) N adr G :=
  g_X8_165 h d (by omega) hM.o k_
theorem pm_165 {l : Launch} {D : va_G} {R : Room} {cc : ByteArray} {nL : Nat} {Γ : GT} {ce sl pc : Nat} {lv : List (Nat × Value)} {st : List Value} {N : Nat} {adr : Nat → Nat} {G : Nat → va_E} {G0 : Nat → va_E} {f : Nat → Int32} {a : Nat → Nat → Int32} {x : Int32} (h : cx l D R RX8 cc nL Γ) (d : decode cc pc = .ok (.putfield 165, 3)) (hN : 115 ≤ N) (hM : isMF D adr G0 G f a) (k_ : ∀ W, isMF D adr G0 W (upd f 17 x) a → SX Γ ce sl (pc + 3) lv st N adr W) : SX Γ ce sl pc lv (.int x :: .ref (adr 103) :: st) N adr G :=
  p_X8_165 h d (by omega) hM.o (k_ _ (hM.setO (upd f 17 x)))
theorem gm_168 {l : Launch} {D : va_G} {R : Room} {cc : ByteArray} {nL : Nat} {Γ : GT} {ce sl pc : Nat} {lv : List (Nat × Value)} {st : List Value} {N : Nat} {adr : Nat → Nat} {G : Nat → va_E} {G0 : Nat → va_E} {f : Nat → Int32} {a : Nat → Nat → Int32} (h : cx l D R RX8 cc nL Γ) (d : decode cc pc = .ok (.getfield 168, 3)) (hN : 115 ≤ N) (hM : isMF D adr G0 G f a) (k_ : SX Γ ce sl (pc + 3) lv (.int (f 18) :: st) N adr G) : SX Γ ce sl pc lv (.ref (adr 103) :: st) N adr G :=
  g_X8_168 h d (by omega) hM.o k_
theorem pm_168 {l : Launch} {D : va_G} {R : Room} {cc : ByteArray} {nL : Nat} {Γ : GT} {ce sl pc : Nat} {lv : List (Nat × Value)} {st : List Value} {N : Nat} {adr : Nat → Nat} {G : Nat → va_E} {G0 : Nat → va_E} {f : Nat → Int32} {a : Nat → Nat → Int32} {x : Int32} (h : cx l D R RX8 cc nL Γ) (d : decode cc pc = .ok (.putfield 168, 3)) (hN : 115 ≤ N) (hM : isMF D adr G0 G f a) (k_ : ∀ W, isMF D adr G0 W (upd f 18 x) a → SX Γ ce sl (pc + 3) lv st N adr W) : SX Γ ce sl pc lv (.int x :: .ref (adr 103) :: st) N adr G :=
  p_X8_168 h d (by omega) hM.o (k_ _ (hM.setO (upd f 18 x)))
theorem gm_34 {l : Launch} {D : va_G} {R : Room} {cc : ByteArray} {nL : Nat} {Γ : GT} {ce sl pc : Nat} {lv : List (Nat × Value)} {st : List Value} {N : Nat} {adr : Nat → Nat} {G : Nat → va_E} {G0 : Nat → va_E} {f : Nat → Int32} {a : Nat → Nat → Int32} (h : cx l D R RX8 cc nL Γ) (d : decode cc pc = .ok (.getfield 34, 3)) (hN : 115 ≤ N) (hM : isMF D adr G0 G f a) (k_ : SX Γ ce sl (pc + 3) lv (.ref (adr 112) :: st) N adr G) : SX Γ ce sl pc lv (.ref (adr 103) :: st) N adr G :=
  g_X8_34 h d (by omega) hM.o k_
theorem gm_37 {l : Launch} {D : va_G} {R : Room} {cc : ByteArray} {nL : Nat} {Γ : GT} {ce sl pc : Nat} {lv : List (Nat × Value)} {st : List Value} {N : Nat} {adr : Nat → Nat} {G : Nat → va_E} {G0 : Nat → va_E} {f : Nat → Int32} {a : Nat → Nat → Int32} (h : cx l D R RX8 cc nL Γ) (d : decode cc pc = .ok (.getfield 37, 3)) (hN : 115 ≤ N) (hM : isMF D adr G0 G f a) (k_ : SX Γ ce sl (pc + 3) lv (.ref (adr 113) :: st) N adr G) : SX Γ ce sl pc lv (.ref (adr 103) :: st) N adr G :=
  g_X8_37 h d (by omega) hM.o k_
theorem gm_40 {l : Launch} {D : va_G} {R : Room} {cc : ByteArray} {nL : Nat} {Γ : GT} {ce sl pc : Nat} {lv : List (Nat × Value)} {st : List Value} {N : Nat} {adr : Nat → Nat} {G : Nat → va_E} {G0 : Nat → va_E} {f : Nat → Int32} {a : Nat → Nat → Int32} (h : cx l D R RX8 cc nL Γ) (d : decode cc pc = .ok (.getfield 40, 3)) (hN : 115 ≤ N) (hM : isMF D adr G0 G f a) (k_ : SX Γ ce sl (pc + 3) lv (.ref (adr 114) :: st) N adr G) : SX Γ ce sl pc lv (.ref (adr 103) :: st) N adr G :=
  g_X8_40 h d (by omega) hM.o k_
theorem gm_205 {l : Launch} {D : va_G} {R : Room} {cc : ByteArray} {nL : Nat} {Γ : GT} {ce sl pc : Nat} {lv : List (Nat × Value)} {st : List Value} {N : Nat} {adr : Nat → Nat} {G : Nat → va_E} {G0 : Nat → va_E} {f : Nat → Int32} {a : Nat → Nat → Int32} (h : cx l D R RX8 cc nL Γ) (d : decode cc pc = .ok (.getfield 205, 3)) (hN : 115 ≤ N) (hM : isMF D adr G0 G f a) (k_ : SX Γ ce sl (pc + 3) lv (.int (f 22) :: st) N adr G) : SX Γ ce sl pc lv (.ref (adr 103) :: st) N adr G :=
  g_X8_205 h d (by omega) hM.o k_
theorem pm_205 {l : Launch} {D : va_G} {R : Room} {cc : ByteArray} {nL : Nat} {Γ : GT} {ce sl pc : Nat} {lv : List (Nat × Value)} {st : List Value} {N : Nat} {adr : Nat → Nat} {G : Nat → va_E} {G0 : Nat → va_E} {f : Nat → Int32} {a : Nat → Nat → Int32} {x : Int32} (h : cx l D R RX8 cc nL Γ) (d : decode cc pc = .ok (.putfield 205, 3)) (hN : 115 ≤ N) (hM : isMF D adr G0 G f a) (k_ : ∀ W, isMF D adr G0 W (upd f 22 x) a → SX Γ ce sl (pc + 3) lv st N adr W) : SX Γ ce sl pc lv (.int x :: .ref (adr 103) :: st) N adr G :=
  p_X8_205 h d (by omega) hM.o (k_ _ (hM.setO (upd f 22 x)))
theorem gm_201 {l : Launch} {D : va_G} {R : Room} {cc : ByteArray} {nL : Nat} {Γ : GT} {ce sl pc : Nat} {lv : List (Nat × Value)} {st : List Value} {N : Nat} {adr : Nat → Nat} {G : Nat → va_E} {G0 : Nat → va_E} {f : Nat → Int32} {a : Nat → Nat → Int32} (h : cx l D R RX8 cc nL Γ) (d : decode cc pc = .ok (.getfield 201, 3)) (hN : 115 ≤ N) (hM : isMF D adr G0 G f a) (k_ : SX Γ ce sl (pc + 3) lv (.int (f 23) :: st) N adr G) : SX Γ ce sl pc lv (.ref (adr 103) :: st) N adr G :=
  g_X8_201 h d (by omega) hM.o k_
theorem pm_201 {l : Launch} {D : va_G} {R : Room} {cc : ByteArray} {nL : Nat} {Γ : GT} {ce sl pc : Nat} {lv : List (Nat × Value)} {st : List Value} {N : Nat} {adr : Nat → Nat} {G : Nat → va_E} {G0 : Nat → va_E} {f : Nat → Int32} {a : Nat → Nat → Int32} {x : Int32} (h : cx l D R RX8 cc nL Γ) (d : decode cc pc = .ok (.putfield 201, 3)) (hN : 115 ≤ N) (hM : isMF D adr G0 G f a) (hz : x = 0 ∨ x = 1) (k_ : ∀ W, isMF D adr G0 W (upd f 23 x) a → SX Γ ce sl (pc + 3) lv st N adr W) : SX Γ ce sl pc lv (.int x :: .ref (adr 103) :: st) N adr G :=
  p_X8_201 h d (by omega) hM.o hz (k_ _ (hM.setO (upd f 23 x)))
theorem sm_104 {l : Launch} {D : va_G} {R : Room} {cc : ByteArray} {nL : Nat} {Γ : GT} {ce sl pc : Nat} {lv : List (Nat × Value)} {st : List Value} {N : Nat} {adr : Nat → Nat} {G : Nat → va_E} {G0 : Nat → va_E} {f : Nat → Int32} {a : Nat → Nat → Int32} {i x : Int32} {j : Nat} (h : cx l D R RX8 cc nL Γ) (d : decode cc pc = .ok (.iastore, 1)) (hN : 115 ≤ N) (hM : isMF D adr G0 G f a) (hi : ix i j 6) (k_ : ∀ W, isMF D adr G0 W f (uA a 104 (upd (a 104) j x)) → SX Γ ce sl (pc + 1) lv st N adr W) : SX Γ ce sl pc lv (.int x :: .int i :: .ref (adr 104) :: st) N adr G :=
  s_iast h d (by omega) hM.a104 hi (k_ _ (hM.set104 _))
theorem sm_105 {l : Launch} {D : va_G} {R : Room} {cc : ByteArray} {nL : Nat} {Γ : GT} {ce sl pc : Nat} {lv : List (Nat × Value)} {st : List Value} {N : Nat} {adr : Nat → Nat} {G : Nat → va_E} {G0 : Nat → va_E} {f : Nat → Int32} {a : Nat → Nat → Int32} {i x : Int32} {j : Nat} (h : cx l D R RX8 cc nL Γ) (d : decode cc pc = .ok (.iastore, 1)) (hN : 115 ≤ N) (hM : isMF D adr G0 G f a) (hi : ix i j 6) (k_ : ∀ W, isMF D adr G0 W f (uA a 105 (upd (a 105) j x)) → SX Γ ce sl (pc + 1) lv st N adr W) : SX Γ ce sl pc lv (.int x :: .int i :: .ref (adr 105) :: st) N adr G :=
  s_iast h d (by omega) hM.a105 hi (k_ _ (hM.set105 _))
theorem sm_106 {l : Launch} {D : va_G} {R : Room} {cc : ByteArray} {nL : Nat} {Γ : GT} {ce sl pc : Nat} {lv : List (Nat × Value)} {st : List Value} {N : Nat} {adr : Nat → Nat} {G : Nat → va_E} {G0 : Nat → va_E} {f : Nat → Int32} {a : Nat → Nat → Int32} {i x : Int32} {j : Nat} (h : cx l D R RX8 cc nL Γ) (d : decode cc pc = .ok (.iastore, 1)) (hN : 115 ≤ N) (hM : isMF D adr G0 G f a) (hi : ix i j 6) (k_ : ∀ W, isMF D adr G0 W f (uA a 106 (upd (a 106) j x)) → SX Γ ce sl (pc + 1) lv st N adr W) : SX Γ ce sl pc lv (.int x :: .int i :: .ref (adr 106) :: st) N adr G :=
  s_iast h d (by omega) hM.a106 hi (k_ _ (hM.set106 _))
theorem sm_107 {l : Launch} {D : va_G} {R : Room} {cc : ByteArray} {nL : Nat} {Γ : GT} {ce sl pc : Nat} {lv : List (Nat × Value)} {st : List Value} {N : Nat} {adr : Nat → Nat} {G : Nat → va_E} {G0 : Nat → va_E} {f : Nat → Int32} {a : Nat → Nat → Int32} {i x : Int32} {j : Nat} (h : cx l D R RX8 cc nL Γ) (d : decode cc pc = .ok (.iastore, 1)) (hN : 115 ≤ N) (hM : isMF D adr G0 G f a) (hi : ix i j 60) (k_ : ∀ W, isMF D adr G0 W f (uA a 107 (upd (a 107) j x)) → SX Γ ce sl (pc + 1) lv st N adr W) : SX Γ ce sl pc lv (.int x :: .int i :: .ref (adr 107) :: st) N adr G :=
  s_iast h d (by omega) hM.a107 hi (k_ _ (hM.set107 _))
theorem sm_108 {l : Launch} {D : va_G} {R : Room} {cc : ByteArray} {nL : Nat} {Γ : GT} {ce sl pc : Nat} {lv : List (Nat × Value)} {st : List Value} {N : Nat} {adr : Nat → Nat} {G : Nat → va_E} {G0 : Nat → va_E} {f : Nat → Int32} {a : Nat → Nat → Int32} {i x : Int32} {j : Nat} (h : cx l D R RX8 cc nL Γ) (d : decode cc pc = .ok (.iastore, 1)) (hN : 115 ≤ N) (hM : isMF D adr G0 G f a) (hi : ix i j 60) (k_ : ∀ W, isMF D adr G0 W f (uA a 108 (upd (a 108) j x)) → SX Γ ce sl (pc + 1) lv st N adr W) : SX Γ ce sl pc lv (.int x :: .int i :: .ref (adr 108) :: st) N adr G :=
  s_iast h d (by omega) hM.a108 hi (k_ _ (hM.set108 _))
theorem sm_109 {l : Launch} {D : va_G} {R : Room} {cc : ByteArray} {nL : Nat} {Γ : GT} {ce sl pc : Nat} {lv : List (Nat × Value)} {st : List Value} {N : Nat} {adr : Nat → Nat} {G : Nat → va_E} {G0 : Nat → va_E} {f : Nat → Int32} {a : Nat → Nat → Int32} {i x : Int32} {j : Nat} (h : cx l D R RX8 cc nL Γ) (d : decode cc pc = .ok (.iastore, 1)) (hN : 115 ≤ N) (hM : isMF D adr G0 G f a) (hi : ix i j 30) (k_ : ∀ W, isMF D adr G0 W f (uA a 109 (upd (a 109) j x)) → SX Γ ce sl (pc + 1) lv st N adr W) : SX Γ ce sl pc lv (.int x :: .int i :: .ref (adr 109) :: st) N adr G :=
  s_iast h d (by omega) hM.a109 hi (k_ _ (hM.set109 _))
theorem sm_110 {l : Launch} {D : va_G} {R : Room} {cc : ByteArray} {nL : Nat} {Γ : GT} {ce sl pc : Nat} {lv : List (Nat × Value)} {st : List Value} {N : Nat} {adr : Nat → Nat} {G : Nat → va_E} {G0 : Nat → va_E} {f : Nat → Int32} {a : Nat → Nat → Int32} {i x : Int32} {j : Nat} (h : cx l D R RX8 cc nL Γ) (d : decode cc pc = .ok (.iastore, 1)) (hN : 115 ≤ N) (hM : isMF D adr G0 G f a) (hi : ix i j 30) (k_ : ∀ W, isMF D adr G0 W f (uA a 110 (upd (a 110) j x)) → SX Γ ce sl (pc + 1) lv st N adr W) : SX Γ ce sl pc lv (.int x :: .int i :: .ref (adr 110) :: st) N adr G :=
  s_iast h d (by omega) hM.a110 hi (k_ _ (hM.set110 _))
theorem sm_111 {l : Launch} {D : va_G} {R : Room} {cc : ByteArray} {nL : Nat} {Γ : GT} {ce sl pc : Nat} {lv : List (Nat × Value)} {st : List Value} {N : Nat} {adr : Nat → Nat} {G : Nat → va_E} {G0 : Nat → va_E} {f : Nat → Int32} {a : Nat → Nat → Int32} {i x : Int32} {j : Nat} (h : cx l D R RX8 cc nL Γ) (d : decode cc pc = .ok (.iastore, 1)) (hN : 115 ≤ N) (hM : isMF D adr G0 G f a) (hi : ix i j 1024) (k_ : ∀ W, isMF D adr G0 W f (uA a 111 (upd (a 111) j x)) → SX Γ ce sl (pc + 1) lv st N adr W) : SX Γ ce sl pc lv (.int x :: .int i :: .ref (adr 111) :: st) N adr G :=
  s_iast h d (by omega) hM.a111 hi (k_ _ (hM.set111 _))
theorem sm_112 {l : Launch} {D : va_G} {R : Room} {cc : ByteArray} {nL : Nat} {Γ : GT} {ce sl pc : Nat} {lv : List (Nat × Value)} {st : List Value} {N : Nat} {adr : Nat → Nat} {G : Nat → va_E} {G0 : Nat → va_E} {f : Nat → Int32} {a : Nat → Nat → Int32} {i x : Int32} {j : Nat} (h : cx l D R RX8 cc nL Γ) (d : decode cc pc = .ok (.iastore, 1)) (hN : 115 ≤ N) (hM : isMF D adr G0 G f a) (hi : ix i j 62) (k_ : ∀ W, isMF D adr G0 W f (uA a 112 (upd (a 112) j x)) → SX Γ ce sl (pc + 1) lv st N adr W) : SX Γ ce sl pc lv (.int x :: .int i :: .ref (adr 112) :: st) N adr G :=
  s_iast h d (by omega) hM.a112 hi (k_ _ (hM.set112 _))
theorem sm_113 {l : Launch} {D : va_G} {R : Room} {cc : ByteArray} {nL : Nat} {Γ : GT} {ce sl pc : Nat} {lv : List (Nat × Value)} {st : List Value} {N : Nat} {adr : Nat → Nat} {G : Nat → va_E} {G0 : Nat → va_E} {f : Nat → Int32} {a : Nat → Nat → Int32} {i x : Int32} {j : Nat} (h : cx l D R RX8 cc nL Γ) (d : decode cc pc = .ok (.iastore, 1)) (hN : 115 ≤ N) (hM : isMF D adr G0 G f a) (hi : ix i j 200) (k_ : ∀ W, isMF D adr G0 W f (uA a 113 (upd (a 113) j x)) → SX Γ ce sl (pc + 1) lv st N adr W) : SX Γ ce sl pc lv (.int x :: .int i :: .ref (adr 113) :: st) N adr G :=
  s_iast h d (by omega) hM.a113 hi (k_ _ (hM.set113 _))
theorem sm_114 {l : Launch} {D : va_G} {R : Room} {cc : ByteArray} {nL : Nat} {Γ : GT} {ce sl pc : Nat} {lv : List (Nat × Value)} {st : List Value} {N : Nat} {adr : Nat → Nat} {G : Nat → va_E} {G0 : Nat → va_E} {f : Nat → Int32} {a : Nat → Nat → Int32} {i : Int32} {j : Nat} (h : cx l D R RX8 cc nL Γ) (d : decode cc pc = .ok (.bastore, 1)) (hN : 115 ≤ N) (hM : isMF D adr G0 G f a) (hi : ix i j 2) (k_ : ∀ W, isMF D adr G0 W f (uA a 114 (upd (a 114) j 1)) → SX Γ ce sl (pc + 1) lv st N adr W) : SX Γ ce sl pc lv (.int 1 :: .int i :: .ref (adr 114) :: st) N adr G :=
  s_zast h d (by omega) hM.a114 hi rfl (k_ _ (hM.set114 _))
theorem i64_nlt {x y : Int64} : ¬ x < y ↔ y ≤ x := by
  rw [Int64.lt_iff_toInt_lt, Int64.le_iff_toInt_le]; omega
theorem lgc_lt {x y : Int64} : lg_cmp x y < 0 ↔ x < y := by
  unfold lg_cmp
  by_cases h1 : y < x
  · have : ¬ x < y := by rw [Int64.lt_iff_toInt_lt] at h1 ⊢; omega
    simp [h1, this]
  · by_cases h2 : x = y
    · subst h2
      have : ¬ x < x := by rw [Int64.lt_iff_toInt_lt]; omega
      simp [this]
    · have : x < y := by
        rw [Int64.lt_iff_toInt_lt] at h1 ⊢
        have : x.toInt ≠ y.toInt := fun q => h2 (Int64.toInt_inj.mp q)
        omega
      simp [h1, h2, this]
theorem lgc_gt {x y : Int64} : 0 < lg_cmp x y ↔ y < x := by
  unfold lg_cmp
  by_cases h1 : y < x
  · simp [h1]
  · by_cases h2 : x = y
    · subst h2
      simp [h1]
    · simp [h1, h2]
theorem l_le {x y : Int32} : x.toInt64 ≤ y.toInt64 ↔ x ≤ y := by
  rw [Int64.le_iff_toInt_le, Int32.le_iff_toInt_le, Int32.toInt_toInt64, Int32.toInt_toInt64]
theorem c_X8_inw {l : Launch} {D : va_G} {N : Nat} {adr : Nat → Nat} {G : Nat → va_E} {x a b : Int32} {a64 b64 : Int64} (ha : a.toInt64 = a64) (hb : b.toInt64 = b64) :
    CT l D yX8_in cX8_in 6 (some FieldType.boolean) (rl 0) [.long x.toInt64, .long a64, .long b64] N adr G (PE (some (.int (bI (wb x a b)))) N adr G) := by
  refine CT.of (by decide +kernel) (Nat.le_of_ble_eq_true rfl) (fun Γ h he => ?_)
  have h : cx l D (rl 0) RX8 cX8_in 6 Γ := h
  show SX Γ 0 0 0 [(0, .long x.toInt64), (2, .long a64), (4, .long b64)] [] N adr G
  refine s_lload_n h dX8_in_0 rfl <|
    s_lload_n h dX8_in_1 rfl <|
    s_lcmp h dX8_in_2 <|
    s_if_lt (tgt := 17) h dX8_in_3 (by decide) (fun c3 => ?_) (fun c3 => ?_)
  · refine s_iconst h dX8_in_17 ic_0 <|
      s_iret h he rfl dX8_in_18 ⟨Nat.le_refl _, Nat.le_refl _⟩ ?_
    first
      | (have q3 : ¬ x.toInt64 < a64 := fun z => c3 (lgc_lt.mpr z)
         have q10 : ¬ b64 < x.toInt64 := fun z => c10 (lgc_gt.mpr z)
         exact PE.eq (by rw [show wb x a b = true from wb_t.mpr ⟨l_le.mp (by rw [ha]; exact i64_nlt.mp q3), l_le.mp (by rw [hb]; exact i64_nlt.mp q10)⟩]; rfl) rfl)
      | (have q3 : ¬ x.toInt64 < a64 := fun z => c3 (lgc_lt.mpr z)
         have q10 : b64 < x.toInt64 := lgc_gt.mp c10
         exact PE.eq (by rw [show wb x a b = false from wb_f.mpr (fun z => i64_nlt.mpr (by rw [← hb]; exact l_le.mpr z.2) q10)]; rfl) rfl)
      | (have q3 : x.toInt64 < a64 := lgc_lt.mp c3
         exact PE.eq (by rw [show wb x a b = false from wb_f.mpr (fun z => i64_nlt.mpr (by rw [← ha]; exact l_le.mpr z.1) q3)]; rfl) rfl)
  · refine s_lload_n h dX8_in_6 rfl <|
      s_lload h dX8_in_7 rfl <|
      s_lcmp h dX8_in_9 <|
      s_if_gt (tgt := 17) h dX8_in_10 (by decide) (fun c10 => ?_) (fun c10 => ?_)
    · refine s_iconst h dX8_in_17 ic_0 <|
        s_iret h he rfl dX8_in_18 ⟨Nat.le_refl _, Nat.le_refl _⟩ ?_
      first
        | (have q3 : ¬ x.toInt64 < a64 := fun z => c3 (lgc_lt.mpr z)
           have q10 : ¬ b64 < x.toInt64 := fun z => c10 (lgc_gt.mpr z)
           exact PE.eq (by rw [show wb x a b = true from wb_t.mpr ⟨l_le.mp (by rw [ha]; exact i64_nlt.mp q3), l_le.mp (by rw [hb]; exact i64_nlt.mp q10)⟩]; rfl) rfl)
        | (have q3 : ¬ x.toInt64 < a64 := fun z => c3 (lgc_lt.mpr z)
           have q10 : b64 < x.toInt64 := lgc_gt.mp c10
           exact PE.eq (by rw [show wb x a b = false from wb_f.mpr (fun z => i64_nlt.mpr (by rw [← hb]; exact l_le.mpr z.2) q10)]; rfl) rfl)
        | (have q3 : x.toInt64 < a64 := lgc_lt.mp c3
           exact PE.eq (by rw [show wb x a b = false from wb_f.mpr (fun z => i64_nlt.mpr (by rw [← ha]; exact l_le.mpr z.1) q3)]; rfl) rfl)
    · refine s_iconst h dX8_in_13 ic_1 <|
        s_goto (tgt := 18) h dX8_in_14 (by decide) <|
        s_iret h he rfl dX8_in_18 ⟨Nat.le_refl _, Nat.le_refl _⟩ ?_
      first
        | (have q3 : ¬ x.toInt64 < a64 := fun z => c3 (lgc_lt.mpr z)
           have q10 : ¬ b64 < x.toInt64 := fun z => c10 (lgc_gt.mpr z)
           exact PE.eq (by rw [show wb x a b = true from wb_t.mpr ⟨l_le.mp (by rw [ha]; exact i64_nlt.mp q3), l_le.mp (by rw [hb]; exact i64_nlt.mp q10)⟩]; rfl) rfl)
        | (have q3 : ¬ x.toInt64 < a64 := fun z => c3 (lgc_lt.mpr z)
           have q10 : b64 < x.toInt64 := lgc_gt.mp c10
           exact PE.eq (by rw [show wb x a b = false from wb_f.mpr (fun z => i64_nlt.mpr (by rw [← hb]; exact l_le.mpr z.2) q10)]; rfl) rfl)
        | (have q3 : x.toInt64 < a64 := lgc_lt.mp c3
           exact PE.eq (by rw [show wb x a b = false from wb_f.mpr (fun z => i64_nlt.mpr (by rw [← ha]; exact l_le.mpr z.1) q3)]; rfl) rfl)
theorem c_X8_isHundred {l : Launch} {D : va_G} {N : Nat} {adr : Nat → Nat} {G : Nat → va_E} {x : Int32} :
    CT l D yX8_isHundred cX8_isHundred 1 (some FieldType.boolean) (rl 1) [.int x] N adr G (PE (some (.int (bI (wb x 0 99)))) N adr G) := by
  refine CT.of (by decide +kernel) (Nat.le_of_ble_eq_true rfl) (fun Γ h he => ?_)
  have h : cx l D (rl 1) RX8 cX8_isHundred 1 Γ := h
  show SX Γ 0 0 0 [(0, .int x)] [] N adr G
  refine s_iload_n h dX8_isHundred_0 rfl <|
    s_i2l h dX8_isHundred_1 <|
    s_lconst h dX8_isHundred_2 lc_0 <|
    s_ldc2 h dX8_isHundred_3 tw704 <|
    k_X8_50 h (c_X8_inw (a := 0) (b := 99) (by decide) (by decide)) rfl rfl dX8_isHundred_6 <|
    PE.go <|
    s_iret h he (bI_nar _) dX8_isHundred_9 ⟨Nat.le_refl _, Nat.le_refl _⟩ ?_
  exact PE.is
def rN : Nat → Nat → Nat
  | 0, x => x
  | k + 1, x => rN k (x &&& (x - 1))
def oN : Nat → Nat → Nat
  | 0, _ => 0
  | k + 1, x => if x = 0 then 0 else 1 + oN k (x &&& (x - 1))
theorem rN_all : ∀ x, x < 1024 → rN 10 x = 0 := by decide +kernel
theorem oN_all : ∀ x, x < 1024 → bC (nI x) = nI (oN 10 x) := by decide +kernel
theorem nI_and (a b : Nat) : nI a &&& nI b = nI (a &&& b) := by
  apply Int32.toBitVec_inj.mp
  show BitVec.ofNat 32 a &&& BitVec.ofNat 32 b = BitVec.ofNat 32 (a &&& b)
  rw [BitVec.ofNat_and]
theorem nI_sub1 {x : Nat} (h : 0 < x) : nI x - 1 = nI (x - 1) := by
  obtain ⟨y, rfl⟩ : ∃ y, x = y + 1 := ⟨x - 1, by omega⟩
  rw [nI_pred]; rfl
theorem oN_0 : ∀ k, oN k 0 = 0
  | 0 => rfl
  | _ + 1 => rfl
theorem ones_loop {l : Launch} {D : va_G} {N : Nat} {adr : Nat → Nat} {G : Nat → va_E} {Γ : GT} {x0 : Int32} {r : Nat} (h : cx l D (rl 0) RX8 cX8_ones 3 Γ) (he : ex yX8_ones.name (some .int) (PE (some (.int (nI r))) N adr G) (rl 0).cells (rl 0).slots Γ) :
    ∀ (k x c : Nat), x < 2 ^ 31 → rN k x = 0 → c + oN k x = r → SX Γ 0 0 4 [(0, .int x0), (1, .int (nI (c))), (2, .int (nI (x)))] [] N adr G := by
  intro k
  induction k with
  | zero =>
    intro x c hx hr hc
    have h0 : x = 0 := hr
    subst h0
    have e : c = r := hc
    refine s_iload_n h dX8_ones_4 rfl <|
      s_if_eq (tgt := 20) h dX8_ones_5 (by decide) (kf := fun qx => absurd (rfl) qx) (kt := fun _ => ?_)
    refine s_iload_n h dX8_ones_20 rfl <|
      s_iret h he rfl dX8_ones_21 ⟨Nat.le_refl _, Nat.le_refl _⟩ ?_
    exact PE.eq (by rw [e]) rfl
  | succ k ih =>
    intro x c hx hr hc
    by_cases h0 : x = 0
    · subst h0
      have e : c = r := hc
      refine s_iload_n h dX8_ones_4 rfl <|
        s_if_eq (tgt := 20) h dX8_ones_5 (by decide) (kf := fun qx => absurd (rfl) qx) (kt := fun _ => ?_)
      refine s_iload_n h dX8_ones_20 rfl <|
        s_iret h he rfl dX8_ones_21 ⟨Nat.le_refl _, Nat.le_refl _⟩ ?_
      exact PE.eq (by rw [e]) rfl
    · have hc2 : c + 1 + oN k (x &&& (x - 1)) = r := by
        have : oN (k + 1) x = 1 + oN k (x &&& (x - 1)) := if_neg h0
        omega
      refine s_iload_n h dX8_ones_4 rfl <|
        s_if_eq (tgt := 20) h dX8_ones_5 (by decide) (kt := fun qx => absurd qx (nI_ne0 (by omega) hx)) (kf := fun _ => ?_)
      refine s_iincR h dX8_ones_8 rfl rfl ic_1 (nI_1 c) <|
        s_iload_n h dX8_ones_11 rfl <|
        s_iload_n h dX8_ones_12 rfl <|
        s_iconst h dX8_ones_13 ic_1 <|
        s_isub h dX8_ones_14 <|
        s_iand h dX8_ones_15 <|
        s_topi (nI (x &&& (x - 1))) (by rw [nI_sub1 (by omega), nI_and]) <|
        s_istore_n h dX8_ones_16 rfl <|
        s_goto (tgt := 4) h dX8_ones_17 (by decide) <|
        ?_
      exact SX.loc (ih (x &&& (x - 1)) (c + 1) (Nat.lt_of_le_of_lt Nat.and_le_left hx) hr hc2) ⟨rfl, rfl, rfl, trivial⟩
theorem c_X8_ones {l : Launch} {D : va_G} {N : Nat} {adr : Nat → Nat} {G : Nat → va_E} {x : Nat} (hx : x < 1024) :
    CT l D yX8_ones cX8_ones 3 (some FieldType.int) (rl 0) [.int (nI x)] N adr G (PE (some (.int (bC (nI x)))) N adr G) := by
  refine CT.of (by decide +kernel) (Nat.le_of_ble_eq_true rfl) (fun Γ h he => ?_)
  have h : cx l D (rl 0) RX8 cX8_ones 3 Γ := h
  show SX Γ 0 0 0 [(0, .int (nI x))] [] N adr G
  refine s_iconst h dX8_ones_0 ic_0 <|
    s_istore_n h dX8_ones_1 rfl <|
    s_iload_n h dX8_ones_2 rfl <|
    s_istore_n h dX8_ones_3 rfl <|
    ?_
  exact SX.loc (ones_loop (x0 := nI x) (r := oN 10 x) h (by rw [← oN_all x hx]; exact he) 10 x 0 (by omega) (rN_all x hx) (Nat.zero_add _)) ⟨rfl, rfl, rfl, trivial⟩
/-- the reference's things and pictures, told as a scene -/
def mS (f : Nat → Int32) (a : Nat → Nat → Int32) : Nat → Nat → Int32 := fun x y => if x = 0 then f 4 else if x = 1 then bI (hb (f 0) (nI y)) else if x = 2 then a 104 y else if x = 3 then a 105 y else if x = 4 then a 106 y else if x = 5 then bI (hb (f 5) (nI y)) else a 107 (6 * (x - 6) + y)
theorem mS_col (f : Nat → Int32) (a : Nat → Nat → Int32) (p y : Nat) : mS f a (6 + p) y = a 107 (6 * p + y) := by
  unfold mS
  rw [if_neg (by omega), if_neg (by omega), if_neg (by omega), if_neg (by omega), if_neg (by omega), if_neg (by omega), show 6 + p - 6 = p from by omega]
theorem bI_n0 (b : Bool) : (!decide (bI b = 0)) = b := by cases b <;> decide
theorem tE_m (f : Nat → Int32) (a : Nat → Nat → Int32) (t : Int32) : tE (mS f a) t = (wb t 0 5 && hb (f 0) t) := by
  cases h : wb t 0 5 with
  | false => unfold tE; rw [h]; rfl
  | true =>
    have e := ix_eq (wb_ix (n := 5) (by decide) rfl h)
    unfold tE
    rw [h, Bool.true_and, Bool.true_and]
    show (!decide (bI (hb (f 0) (nI t.toNatClampNeg)) = 0)) = _
    rw [bI_n0, ← e]
theorem pE_m (f : Nat → Int32) (a : Nat → Nat → Int32) (t : Int32) : pE (mS f a) t = (wb t 0 9 && hb (f 5) t) := by
  cases h : wb t 0 9 with
  | false => unfold pE; rw [h]; rfl
  | true =>
    have e := ix_eq (wb_ix (n := 9) (by decide) rfl h)
    unfold pE
    rw [h, Bool.true_and, Bool.true_and]
    show (!decide (bI (hb (f 5) (nI t.toNatClampNeg)) = 0)) = _
    rw [bI_n0, ← e]
theorem c_X8_isThing {l : Launch} {D : va_G} {N : Nat} {adr : Nat → Nat} {G : Nat → va_E} {G0 : Nat → va_E} {f : Nat → Int32} {a : Nat → Nat → Int32} (hN : 115 ≤ N) (hM : isMF D adr G0 G f a) {t : Int32} :
    CT l D yX8_isThing cX8_isThing 2 (some FieldType.boolean) (rl 1) [.ref (adr 103), .int t] N adr G (PE (some (.int (bI (tE (mS f a) t)))) N adr G) := by
  refine CT.of (by decide +kernel) (Nat.le_of_ble_eq_true rfl) (fun Γ h he => ?_)
  have h : cx l D (rl 1) RX8 cX8_isThing 2 Γ := h
  show SX Γ 0 0 0 [(0, .ref (adr 103)), (1, .int t)] [] N adr G
  refine s_iload_n h dX8_isThing_0 rfl <|
    s_i2l h dX8_isThing_1 <|
    s_lconst h dX8_isThing_2 lc_0 <|
    s_ldc2 h dX8_isThing_3 tw697 <|
    k_X8_50 h (c_X8_inw (a := 0) (b := 5) (by decide) (by decide)) rfl rfl dX8_isThing_6 <|
    PE.go <|
    s_if_eq (tgt := 28) h dX8_isThing_9 (by decide) (fun c9 => ?_) (fun c9 => ?_)
  · refine s_iconst h dX8_isThing_28 ic_0 <|
      s_iret h he rfl dX8_isThing_29 ⟨Nat.le_refl _, Nat.le_refl _⟩ ?_
    rw [tE_m]
    first
      | (have q9 := bI_1 c9
         have q21 : f 0 >>> (t &&& 31) &&& 1 = 1 := c21
         exact PE.eq (by rw [q9, show hb (f 0) t = true from decide_eq_true q21]; rfl) rfl)
      | (have q9 := bI_1 c9
         have q21 : ¬ (f 0 >>> (t &&& 31) &&& 1 = 1) := c21
         exact PE.eq (by rw [q9, show hb (f 0) t = false from decide_eq_false q21]; rfl) rfl)
      | (have q9 := bI_0 c9
         exact PE.eq (by rw [q9]; rfl) rfl)
  · refine s_aload_n h dX8_isThing_12 rfl <|
      gm_56 h dX8_isThing_13 hN hM <|
      s_iload_n h dX8_isThing_16 rfl <|
      s_ishr h dX8_isThing_17 <|
      s_iconst h dX8_isThing_18 ic_1 <|
      s_iand h dX8_isThing_19 <|
      s_iconst h dX8_isThing_20 ic_1 <|
      s_icmp_ne (tgt := 28) h dX8_isThing_21 (by decide) (fun c21 => ?_) (fun c21 => ?_)
    · refine s_iconst h dX8_isThing_28 ic_0 <|
        s_iret h he rfl dX8_isThing_29 ⟨Nat.le_refl _, Nat.le_refl _⟩ ?_
      rw [tE_m]
      first
        | (have q9 := bI_1 c9
           have q21 : f 0 >>> (t &&& 31) &&& 1 = 1 := c21
           exact PE.eq (by rw [q9, show hb (f 0) t = true from decide_eq_true q21]; rfl) rfl)
        | (have q9 := bI_1 c9
           have q21 : ¬ (f 0 >>> (t &&& 31) &&& 1 = 1) := c21
           exact PE.eq (by rw [q9, show hb (f 0) t = false from decide_eq_false q21]; rfl) rfl)
        | (have q9 := bI_0 c9
           exact PE.eq (by rw [q9]; rfl) rfl)
    · refine s_iconst h dX8_isThing_24 ic_1 <|
        s_goto (tgt := 29) h dX8_isThing_25 (by decide) <|
        s_iret h he rfl dX8_isThing_29 ⟨Nat.le_refl _, Nat.le_refl _⟩ ?_
      rw [tE_m]
      first
        | (have q9 := bI_1 c9
           have q21 : f 0 >>> (t &&& 31) &&& 1 = 1 := c21
           exact PE.eq (by rw [q9, show hb (f 0) t = true from decide_eq_true q21]; rfl) rfl)
        | (have q9 := bI_1 c9
           have q21 : ¬ (f 0 >>> (t &&& 31) &&& 1 = 1) := c21
           exact PE.eq (by rw [q9, show hb (f 0) t = false from decide_eq_false q21]; rfl) rfl)
        | (have q9 := bI_0 c9
           exact PE.eq (by rw [q9]; rfl) rfl)
theorem c_X8_isPicture {l : Launch} {D : va_G} {N : Nat} {adr : Nat → Nat} {G : Nat → va_E} {G0 : Nat → va_E} {f : Nat → Int32} {a : Nat → Nat → Int32} (hN : 115 ≤ N) (hM : isMF D adr G0 G f a) {t : Int32} :
    CT l D yX8_isPicture cX8_isPicture 2 (some FieldType.boolean) (rl 1) [.ref (adr 103), .int t] N adr G (PE (some (.int (bI (pE (mS f a) t)))) N adr G) := by
  refine CT.of (by decide +kernel) (Nat.le_of_ble_eq_true rfl) (fun Γ h he => ?_)
  have h : cx l D (rl 1) RX8 cX8_isPicture 2 Γ := h
  show SX Γ 0 0 0 [(0, .ref (adr 103)), (1, .int t)] [] N adr G
  refine s_iload_n h dX8_isPicture_0 rfl <|
    s_i2l h dX8_isPicture_1 <|
    s_lconst h dX8_isPicture_2 lc_0 <|
    s_ldc2 h dX8_isPicture_3 tw706 <|
    k_X8_50 h (c_X8_inw (a := 0) (b := 9) (by decide) (by decide)) rfl rfl dX8_isPicture_6 <|
    PE.go <|
    s_if_eq (tgt := 28) h dX8_isPicture_9 (by decide) (fun c9 => ?_) (fun c9 => ?_)
  · refine s_iconst h dX8_isPicture_28 ic_0 <|
      s_iret h he rfl dX8_isPicture_29 ⟨Nat.le_refl _, Nat.le_refl _⟩ ?_
    rw [pE_m]
    first
      | (have q9 := bI_1 c9
         have q21 : f 5 >>> (t &&& 31) &&& 1 = 1 := c21
         exact PE.eq (by rw [q9, show hb (f 5) t = true from decide_eq_true q21]; rfl) rfl)
      | (have q9 := bI_1 c9
         have q21 : ¬ (f 5 >>> (t &&& 31) &&& 1 = 1) := c21
         exact PE.eq (by rw [q9, show hb (f 5) t = false from decide_eq_false q21]; rfl) rfl)
      | (have q9 := bI_0 c9
         exact PE.eq (by rw [q9]; rfl) rfl)
  · refine s_aload_n h dX8_isPicture_12 rfl <|
      gm_61 h dX8_isPicture_13 hN hM <|
      s_iload_n h dX8_isPicture_16 rfl <|
      s_ishr h dX8_isPicture_17 <|
      s_iconst h dX8_isPicture_18 ic_1 <|
      s_iand h dX8_isPicture_19 <|
      s_iconst h dX8_isPicture_20 ic_1 <|
      s_icmp_ne (tgt := 28) h dX8_isPicture_21 (by decide) (fun c21 => ?_) (fun c21 => ?_)
    · refine s_iconst h dX8_isPicture_28 ic_0 <|
        s_iret h he rfl dX8_isPicture_29 ⟨Nat.le_refl _, Nat.le_refl _⟩ ?_
      rw [pE_m]
      first
        | (have q9 := bI_1 c9
           have q21 : f 5 >>> (t &&& 31) &&& 1 = 1 := c21
           exact PE.eq (by rw [q9, show hb (f 5) t = true from decide_eq_true q21]; rfl) rfl)
        | (have q9 := bI_1 c9
           have q21 : ¬ (f 5 >>> (t &&& 31) &&& 1 = 1) := c21
           exact PE.eq (by rw [q9, show hb (f 5) t = false from decide_eq_false q21]; rfl) rfl)
        | (have q9 := bI_0 c9
           exact PE.eq (by rw [q9]; rfl) rfl)
    · refine s_iconst h dX8_isPicture_24 ic_1 <|
        s_goto (tgt := 29) h dX8_isPicture_25 (by decide) <|
        s_iret h he rfl dX8_isPicture_29 ⟨Nat.le_refl _, Nat.le_refl _⟩ ?_
      rw [pE_m]
      first
        | (have q9 := bI_1 c9
           have q21 : f 5 >>> (t &&& 31) &&& 1 = 1 := c21
           exact PE.eq (by rw [q9, show hb (f 5) t = true from decide_eq_true q21]; rfl) rfl)
        | (have q9 := bI_1 c9
           have q21 : ¬ (f 5 >>> (t &&& 31) &&& 1 = 1) := c21
           exact PE.eq (by rw [q9, show hb (f 5) t = false from decide_eq_false q21]; rfl) rfl)
        | (have q9 := bI_0 c9
           exact PE.eq (by rw [q9]; rfl) rfl)
theorem c_X8_areTwo {l : Launch} {D : va_G} {N : Nat} {adr : Nat → Nat} {G : Nat → va_E} {G0 : Nat → va_E} {f : Nat → Int32} {a : Nat → Nat → Int32} (hN : 115 ≤ N) (hM : isMF D adr G0 G f a) {x y : Int32} :
    CT l D yX8_areTwo cX8_areTwo 3 (some FieldType.boolean) (rl 2) [.ref (adr 103), .int x, .int y] N adr G (PE (some (.int (bI (okP (mS f a) x y)))) N adr G) := by
  refine CT.of (by decide +kernel) (Nat.le_of_ble_eq_true rfl) (fun Γ h he => ?_)
  have h : cx l D (rl 2) RX8 cX8_areTwo 3 Γ := h
  show SX Γ 0 0 0 [(0, .ref (adr 103)), (1, .int x), (2, .int y)] [] N adr G
  refine s_aload_n h dX8_areTwo_0 rfl <|
    s_iload_n h dX8_areTwo_1 rfl <|
    k_X8_64 h (c_X8_isPicture hN hM) (by omega) hM.o rfl rfl dX8_areTwo_2 <|
    PE.go <|
    s_if_eq (tgt := 25) h dX8_areTwo_5 (by decide) (fun c5 => ?_) (fun c5 => ?_)
  · refine s_iconst h dX8_areTwo_25 ic_0 <|
      s_iret h he rfl dX8_areTwo_26 ⟨Nat.le_refl _, Nat.le_refl _⟩ ?_
    first
      | (have q5 := bI_0 c5; exact PE.eq (by rw [okP, q5]; rfl) rfl)
      | (have q5 := bI_1 c5; have q13 := bI_0 c13; exact PE.eq (by rw [okP, q5, q13]; rfl) rfl)
      | (have q5 := bI_1 c5; have q13 := bI_1 c13; have q18 : x = y := c18; exact PE.eq (by rw [okP, q5, q13, decide_eq_true q18]; rfl) rfl)
      | (have q5 := bI_1 c5; have q13 := bI_1 c13; have q18 : ¬ x = y := c18; exact PE.eq (by rw [okP, q5, q13, decide_eq_false q18]; rfl) rfl)
  · refine s_aload_n h dX8_areTwo_8 rfl <|
      s_iload_n h dX8_areTwo_9 rfl <|
      k_X8_64 h (c_X8_isPicture hN hM) (by omega) hM.o rfl rfl dX8_areTwo_10 <|
      PE.go <|
      s_if_eq (tgt := 25) h dX8_areTwo_13 (by decide) (fun c13 => ?_) (fun c13 => ?_)
    · refine s_iconst h dX8_areTwo_25 ic_0 <|
        s_iret h he rfl dX8_areTwo_26 ⟨Nat.le_refl _, Nat.le_refl _⟩ ?_
      first
        | (have q5 := bI_0 c5; exact PE.eq (by rw [okP, q5]; rfl) rfl)
        | (have q5 := bI_1 c5; have q13 := bI_0 c13; exact PE.eq (by rw [okP, q5, q13]; rfl) rfl)
        | (have q5 := bI_1 c5; have q13 := bI_1 c13; have q18 : x = y := c18; exact PE.eq (by rw [okP, q5, q13, decide_eq_true q18]; rfl) rfl)
        | (have q5 := bI_1 c5; have q13 := bI_1 c13; have q18 : ¬ x = y := c18; exact PE.eq (by rw [okP, q5, q13, decide_eq_false q18]; rfl) rfl)
    · refine s_iload_n h dX8_areTwo_16 rfl <|
        s_iload_n h dX8_areTwo_17 rfl <|
        s_icmp_eq (tgt := 25) h dX8_areTwo_18 (by decide) (fun c18 => ?_) (fun c18 => ?_)
      · refine s_iconst h dX8_areTwo_25 ic_0 <|
          s_iret h he rfl dX8_areTwo_26 ⟨Nat.le_refl _, Nat.le_refl _⟩ ?_
        first
          | (have q5 := bI_0 c5; exact PE.eq (by rw [okP, q5]; rfl) rfl)
          | (have q5 := bI_1 c5; have q13 := bI_0 c13; exact PE.eq (by rw [okP, q5, q13]; rfl) rfl)
          | (have q5 := bI_1 c5; have q13 := bI_1 c13; have q18 : x = y := c18; exact PE.eq (by rw [okP, q5, q13, decide_eq_true q18]; rfl) rfl)
          | (have q5 := bI_1 c5; have q13 := bI_1 c13; have q18 : ¬ x = y := c18; exact PE.eq (by rw [okP, q5, q13, decide_eq_false q18]; rfl) rfl)
      · refine s_iconst h dX8_areTwo_21 ic_1 <|
          s_goto (tgt := 26) h dX8_areTwo_22 (by decide) <|
          s_iret h he rfl dX8_areTwo_26 ⟨Nat.le_refl _, Nat.le_refl _⟩ ?_
        first
          | (have q5 := bI_0 c5; exact PE.eq (by rw [okP, q5]; rfl) rfl)
          | (have q5 := bI_1 c5; have q13 := bI_0 c13; exact PE.eq (by rw [okP, q5, q13]; rfl) rfl)
          | (have q5 := bI_1 c5; have q13 := bI_1 c13; have q18 : x = y := c18; exact PE.eq (by rw [okP, q5, q13, decide_eq_true q18]; rfl) rfl)
          | (have q5 := bI_1 c5; have q13 := bI_1 c13; have q18 : ¬ x = y := c18; exact PE.eq (by rw [okP, q5, q13, decide_eq_false q18]; rfl) rfl)
theorem c_X8_columnOf {l : Launch} {D : va_G} {N : Nat} {adr : Nat → Nat} {G : Nat → va_E} {G0 : Nat → va_E} {f : Nat → Int32} {a : Nat → Nat → Int32} (hN : 115 ≤ N) (hM : isMF D adr G0 G f a) (hwf : wfT (mS f a)) {i : Nat} (hi : i < 6) {c m : Int32} :
    CT l D yX8_columnOf cX8_columnOf 5 (some FieldType.int) (rl 2) [.ref (adr 103), .int (nI i), .int c, .int m] N adr G (PE (some (.int (sCol (mS f a) c m i))) N adr G) := by
  refine CT.of (by decide +kernel) (Nat.le_of_ble_eq_true rfl) (fun Γ h he => ?_)
  have h : cx l D (rl 2) RX8 cX8_columnOf 5 Γ := h
  show SX Γ 0 0 0 [(0, .ref (adr 103)), (1, .int (nI i)), (2, .int c), (3, .int m)] [] N adr G
  by_cases hz : mS f a 1 i = 0
  · have he1 : tE (mS f a) (nI i) = false := by rw [tE_n hi, decide_eq_true hz]; rfl
    refine s_aload_n h dX8_columnOf_0 rfl <|
      s_iload_n h dX8_columnOf_1 rfl <|
      k_X8_79 h (c_X8_isThing hN hM) (by omega) hM.o rfl rfl dX8_columnOf_2 <|
      PE.go <|
      s_if_ne (tgt := 11) h dX8_columnOf_5 (by decide) (kt := fun qx => absurd (by rw [he1]; rfl) qx) (kf := fun _ => ?_)
    refine s_bipush h dX8_columnOf_8 bp_m6 <|
      s_iret h he rfl dX8_columnOf_10 ⟨Nat.le_refl _, Nat.le_refl _⟩ ?_
    exact PE.eq (by rw [sCol, if_pos hz]) rfl
  · have he1 : tE (mS f a) (nI i) = true := by rw [tE_n hi, decide_eq_false hz]; rfl
    have hdp : 1 ≤ mS f a 4 i := ((hwf i hi).2).resolve_left hz
    refine s_aload_n h dX8_columnOf_0 rfl <|
      s_iload_n h dX8_columnOf_1 rfl <|
      k_X8_79 h (c_X8_isThing hN hM) (by omega) hM.o rfl rfl dX8_columnOf_2 <|
      PE.go <|
      s_if_ne (tgt := 11) h dX8_columnOf_5 (by decide) (kf := fun qx => absurd qx (by rw [he1]; decide)) (kt := fun _ => ?_)
    refine s_bipush h dX8_columnOf_11 bp_30 <|
      s_aload_n h dX8_columnOf_13 rfl <|
      gm_44 h dX8_columnOf_14 hN hM <|
      s_aload_n h dX8_columnOf_17 rfl <|
      gm_7 h dX8_columnOf_18 hN hM <|
      s_iload_n h dX8_columnOf_21 rfl <|
      s_iald h dX8_columnOf_22 (by omega) hM.a104 (ix_n hi (by decide)) rfl <|
      s_aload_n h dX8_columnOf_23 rfl <|
      gm_13 h dX8_columnOf_24 hN hM <|
      s_iload_n h dX8_columnOf_27 rfl <|
      s_iald h dX8_columnOf_28 (by omega) hM.a105 (ix_n hi (by decide)) rfl <|
      s_iload_n h dX8_columnOf_29 rfl <|
      s_imul h dX8_columnOf_30 <|
      s_iadd h dX8_columnOf_31 <|
      s_iload_n h dX8_columnOf_32 rfl <|
      s_isub h dX8_columnOf_33 <|
      s_imul h dX8_columnOf_34 <|
      s_aload_n h dX8_columnOf_35 rfl <|
      gm_16 h dX8_columnOf_36 hN hM <|
      s_iload_n h dX8_columnOf_39 rfl <|
      s_iald h dX8_columnOf_40 (by omega) hM.a106 (ix_n hi (by decide)) rfl <|
      s_idiv h dX8_columnOf_41 (fun q => by have hd : 1 ≤ a 106 i := hdp; rw [q] at hd; exact absurd hd (by decide)) <|
      s_iadd h dX8_columnOf_42 <|
      s_istore h dX8_columnOf_43 rfl <|
      s_iload h dX8_columnOf_45 rfl <|
      s_i2l h dX8_columnOf_47 <|
      s_lconst h dX8_columnOf_48 lc_0 <|
      s_ldc2 h dX8_columnOf_49 tw732 <|
      k_X8_50 h (c_X8_inw (a := 0) (b := 60) (by decide) (by decide)) rfl rfl dX8_columnOf_52 <|
      PE.go <|
      s_if_eq (tgt := 63) h dX8_columnOf_55 (by decide) (fun c55 => ?_) (fun c55 => ?_)
    · refine s_bipush h dX8_columnOf_63 bp_m6 <|
        s_iret h he rfl dX8_columnOf_65 ⟨Nat.le_refl _, Nat.le_refl _⟩ ?_
      first
        | (have q55 := bI_1 c55; exact PE.eq (by rw [sCol, if_neg hz, colF]; exact congrArg (fun z => some (Value.int z)) (if_pos q55).symm) rfl)
        | (have q55 := bI_0 c55; exact PE.eq (by rw [sCol, if_neg hz, colF]; exact congrArg (fun z => some (Value.int z)) (if_neg (fun z => Bool.false_ne_true (q55.symm.trans z))).symm) rfl)
    · refine s_iload h dX8_columnOf_58 rfl <|
        s_goto (tgt := 65) h dX8_columnOf_60 (by decide) <|
        s_iret h he rfl dX8_columnOf_65 ⟨Nat.le_refl _, Nat.le_refl _⟩ ?_
      first
        | (have q55 := bI_1 c55; exact PE.eq (by rw [sCol, if_neg hz, colF]; exact congrArg (fun z => some (Value.int z)) (if_pos q55).symm) rfl)
        | (have q55 := bI_0 c55; exact PE.eq (by rw [sCol, if_neg hz, colF]; exact congrArg (fun z => some (Value.int z)) (if_neg (fun z => Bool.false_ne_true (q55.symm.trans z))).symm) rfl)
