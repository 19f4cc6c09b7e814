/-! ===== the calculus: a world of numbered cells; SX: the machine at a place of a method, whatever the heap that holds the world ===== -/
def wl (N : Nat) (adr : Nat → Nat) (G : Nat → va_E) : va_W := (List.range N).map (fun k => (adr k, G k))
theorem wl_at {N : Nat} {adr : Nat → Nat} {G : Nat → va_E} {k : Nat} (h : k < N) : (wl N adr G)[k]? = some (adr k, G k) := by
  simp [wl, h]
theorem wl_get {N : Nat} {adr : Nat → Nat} {G : Nat → va_E} {k : Nat} {e : va_E} (h : k < N) (hg : G k = e) : (wl N adr G)[k]? = some (adr k, e) := by
  rw [wl_at h, hg]
theorem wl_set {N : Nat} {adr : Nat → Nat} {G : Nat → va_E} {k : Nat} {e : va_E} : (wl N adr G).set k (adr k, e) = wl N adr (va_up G k e) := by
  apply List.ext_getElem?
  intro i
  by_cases hi : i < N
  · by_cases hk : k = i
    · subst hk
      simp [wl, va_up, hi]
    · have h2 : ¬ i = k := fun q => hk q.symm
      simp [wl, va_up, hi, List.getElem?_set, hk, h2]
  · simp [wl, hi, List.getElem?_set]
theorem wl_push {N : Nat} {adr : Nat → Nat} {G : Nat → va_E} {q : Nat} {e : va_E} : wl N adr G ++ [(q, e)] = wl (N + 1) (va_up adr N q) (va_up G N e) := by
  simp only [wl, List.range_succ, List.map_append, List.map_cons, List.map_nil]
  congr 1
  · apply List.map_congr_left
    intro i hi
    have h : i ≠ N := Nat.ne_of_lt (List.mem_range.mp hi)
    simp [va_up, h]
  · simp [va_up]
abbrev tyW (D : va_G) : List (ClassId × FieldType) := [(D.1 100, .int), (D.1 101, .long), (D.1 102, .boolean), (D.1 103, .object RX2), (D.1 104, .object RX3), (D.1 105, .object RX6)]
abbrev GT : Type := Program × Launch × Env × Room × State × MethodId × Array Value × List Frame × Method × Code × va_G × (Nat → Prop) × (State → Prop) × Nat
abbrev PT : Type := Option Value → Nat → (Nat → Nat) → (Nat → va_E) → Prop
def SX (Γ : GT) (ce sl pc : Nat) (lv : List (Nat × Value)) (st : List Value) (N : Nat) (adr : Nat → Nat) (G : Nat → va_E) : Prop := match Γ with
  | (p, l, e, R, s, m, args, below, meth, c, D, A, Q, nL) => ∀ (H : Heap) (locs : List Loc) (ls : Array Slot), va_P D vwCl (wl N adr G) H → va_D A (wl N adr G) → va_S A s.heap H locs → lv_has ls nL lv → W p l e R s m args below meth c H locs ce sl Q (F0 m pc ls st)
def cx (l0 : Launch) (D0 : va_G) (R0 : Room) (own : String) (cc : ByteArray) (n0 : Nat) (Γ : GT) : Prop := match Γ with
  | (p, l, _, R, s, m, args, _, meth, c, D, A, _, nL) => l = l0 ∧ D = D0 ∧ R = R0 ∧ nL = n0 ∧ p.tables.exec = Jvm.exec ∧ c.code = cc ∧ c.maxLocals = nL ∧ s.vm.findClass own = some m.cls ∧ (∀ w ∈ TT, w.before args s = true) ∧ (∀ w ∈ NW, va_Nw w s) ∧ va_K D vwCl (tyW D) s ∧ (∀ q, s.heap.size ≤ q → A q) ∧ meth.locks = false
def QP (P : PT) (D : va_G) (A : Nat → Prop) : Array Value → State → Outcome → State → Prop := fun _ st oc t => (∃ (v : Option Value) (N : Nat) (adr : Nat → Nat) (G : Nat → va_E), oc = .returned v ∧ P v N adr G ∧ va_P D vwCl (wl N adr G) t.heap ∧ va_D A (wl N adr G)) ∧ va_F A st t
def ex (nm : String) (ret : Option FieldType) (P : PT) (mc ms : Nat) (Γ : GT) : Prop := match Γ with
  | (_, _, _, _, s, _, args, below, meth, _, D, A, Q, _) => meth.name = nm ∧ meth.sig.returnType = ret ∧ Q = MQ below (QP P D A) args s mc ms A
def kk (D : va_G) (U : State) : Prop := va_K D vwCl (tyW D) U ∧ ∀ w ∈ NW, va_Nw w U
def CT (l : Launch) (D : va_G) (y : MethodName) (bs : ByteArray) (nL : Nat) (ret : Option FieldType) (rm : Room) (av : List Value) (N : Nat) (adr : Nat → Nat) (G : Nat → va_E) (P : PT) : Prop :=
  ∀ sz : Nat, Met l y (.code y bs nL ret :: TT) rm (va_Pc av (fun U => U.heap.size = sz ∧ va_P D vwCl (wl N adr G) U.heap ∧ kk D U ∧ va_D (fun _ => True) (wl N adr G))) (QP P D (va_A (wl N adr G) sz)) rm.cells rm.slots (va_A (wl N adr G) sz)
theorem nw_warm {w : Cond} (hi : isNW w = true) {s U : State} (hW : s.WarmedH U.vm) (h : va_Nw w s) : va_Nw w U := by
  unfold isNW at hi
  split at hi
  · exact va_Nw.warmF hW h
  · exact va_Nw.warmM hW h
  · exact va_AO.moved hW.alike h
  · cases hi
theorem nw_is {w : Cond} (h : w ∈ NW) : isNW w = true := (List.mem_filter.mp h).2
theorem kk_warm {D : va_G} {s U : State} (hW : s.WarmedH U.vm) (h : va_K D vwCl (tyW D) s) (hn : ∀ w ∈ NW, va_Nw w s) : kk D U := ⟨va_K.moved hW.alike h, fun w hw => nw_warm (nw_is hw) hW (hn w hw)⟩
theorem tt_good {y : MethodName} {bs : ByteArray} {nL : Nat} {ret : Option FieldType} (hc : Cond.code y bs nL ret ∈ TT) : GoodIn TT (.code y bs nL ret :: TT) := by
  intro w hw
  have h : w ∈ TT := (List.mem_cons.mp hw).elim (fun e => by rw [e]; exact hc) id
  exact ⟨h, good_of_word (List.mem_filter.mp h).2⟩
/-- a contract out of a walk -/
theorem CT.of {l : Launch} {D : va_G} {y : MethodName} {bs : ByteArray} {nL : Nat} {ret : Option FieldType} {rm : Room} {av : List Value} {N : Nat} {adr : Nat → Nat} {G : Nat → va_E} {P : PT} (hy : plainName y.cls = true) (hlen : (lg_sl av).length ≤ nL)
    (body : ∀ Γ : GT, cx l D rm y.cls bs nL Γ → ex y.name ret P rm.cells rm.slots Γ → SX Γ 0 0 0 (lv_args 0 av) [] N adr G) : CT l D y bs nL ret rm av N adr G P := by
  intro sz
  refine Met.ofW (cc := bs) (maxL := nL) (ret := ret) hy rfl ?_
  intro p e s m args below meth c s₁ B hml hv
  obtain ⟨rfl, hsz, hP, hK, hD0⟩ := hv
  have hts := atoms_spec (ws := Cond.code y bs nL ret :: TT) B.pre
  have hown : s.vm.findClass y.cls = some m.cls := findClass_of_methodNamed B.named
  have hnm : meth.name = y.name := (name_of_methodNamed B.named B.method).1
  subst hsz
  have hD := hD0.self (sz := s.heap.size)
  have hb := body (p, l, e, rm, s, m, av.toArray, below, meth, c, D, va_A (wl N adr G) s.heap.size, MQ below (QP P D (va_A (wl N adr G) s.heap.size)) av.toArray s rm.cells rm.slots (va_A (wl N adr G) s.heap.size), nL)
    ⟨rfl, rfl, rfl, rfl, B.exec, B.bytes, hml, hown, fun w hw => hts w (List.mem_cons_of_mem _ hw), hK.2, hK.1, fun q h => Or.inr h, B.notSynchronized⟩ ⟨hnm, B.returns, rfl⟩
  have hl := lv_entry av (n := nL) hlen
  rw [lg_entry_eq]
  exact hb s.heap [] _ hP hD va_S.rf hl
/-- locals, by their numbers -/
def lgt : List (Nat × Value) → Nat → Option Value
  | [], _ => none
  | q :: r, i => match Nat.beq q.1 i with
    | true => some q.2
    | false => lgt r i
theorem lgt_mem : ∀ {lv : List (Nat × Value)} {i : Nat} {v : Value}, lgt lv i = some v → (i, v) ∈ lv
  | [], i, v, h => by cases h
  | q :: r, i, v, h => by
    unfold lgt at h
    split at h
    · rename_i hq
      have h1 : q.1 = i := Nat.eq_of_beq_eq_true hq
      have h2 : q.2 = v := Option.some.inj h
      rw [← h1, ← h2]
      exact List.mem_cons_self
    · exact List.mem_cons_of_mem _ (lgt_mem h)
theorem lgt_at {lv : List (Nat × Value)} {ls : Array Slot} {nL i : Nat} {v : Value} (h : lv_has ls nL lv) (hi : lgt lv i = some v) : ls[i]? = some (.val v) := h.2.2 (i, v) (lgt_mem hi)
def lset (lv : List (Nat × Value)) (i : Nat) (v : Value) : List (Nat × Value) := (i, v) :: lv.filter (fun q => !(q.1 == i) && !(q.1 + 1 == i && q.2.category == 2))
def lsetL (lv : List (Nat × Value)) (i : Nat) (v : Value) : List (Nat × Value) := (i, v) :: lv.filter (fun q => !(q.1 == i) && (!(q.1 == i + 1) && !(q.1 + 1 == i && q.2.category == 2)))
def lall (lv : List (Nat × Value)) : List (Nat × Value) → Prop
  | [] => True
  | q :: r => lgt lv q.1 = some q.2 ∧ lall lv r
theorem lall_mem {lv : List (Nat × Value)} : ∀ {lv2 : List (Nat × Value)}, lall lv lv2 → ∀ q ∈ lv2, q ∈ lv
  | [], _, q, hq => by cases hq
  | a :: r, h, q, hq => by
    rcases List.mem_cons.mp hq with rfl | hq
    · exact lgt_mem h.1
    · exact lall_mem h.2 q hq
/-- the same place with fewer locals, or in another order -/
theorem SX.loc {Γ : GT} {ce sl pc : Nat} {lv lv2 : List (Nat × Value)} {st : List Value} {N : Nat} {adr : Nat → Nat} {G : Nat → va_E} (k : SX Γ ce sl pc lv2 st N adr G) (h : lall lv lv2) : SX Γ ce sl pc lv st N adr G := by
  obtain ⟨p, l, e, R, s, m, args, below, meth, c, D, A, Q, nL⟩ := Γ
  intro H locs ls hP hD hS hl
  exact k H locs ls hP hD hS ⟨hl.1, hl.2.1, fun q hq => hl.2.2 q (lall_mem h q hq)⟩
/-- the same place with the world told by an equal one -/
theorem SX.wide {Γ : GT} {ce sl ce2 sl2 pc : Nat} {lv : List (Nat × Value)} {st : List Value} {N : Nat} {adr : Nat → Nat} {G : Nat → va_E} (h1 : ce ≤ ce2) (h2 : sl ≤ sl2) (k : SX Γ ce2 sl2 pc lv st N adr G) : SX Γ ce sl pc lv st N adr G := by
  obtain ⟨p, l, e, R, s, m, args, below, meth, c, D, A, Q, nL⟩ := Γ
  intro H locs ls hP hD hS hl
  exact W.widen h1 h2 (k H locs ls hP hD hS hl)

theorem s_iconst {l : Launch} {D : va_G} {R : Room} {own : String} {cc : ByteArray} {nL : Nat} {Γ : GT} {ce sl pc : Nat} {lv : List (Nat × Value)} {st : List Value} {N : Nat} {adr : Nat → Nat} {G : Nat → va_E} {n : Int} {v : Int32} (h : cx l D R own cc nL Γ) (d : decode cc pc = .ok (.iconst n, 1)) (hv : Int32.ofInt n = v) (k : SX Γ ce sl (pc + 1) lv (.int v :: st) N adr G) : SX Γ ce sl pc lv st N adr G := by
  obtain ⟨p, l', e, R', s, m, args, below, meth, c, D', A, Q, nL'⟩ := Γ
  obtain ⟨rfl, rfl, rfl, rfl, hx, hb, hml, hown, hts, hnw, hK, hA, hlk⟩ := h
  intro H locs ls hP hD hS hl
  exact lv_iconst hx hb d hv (k H locs ls hP hD hS hl)
theorem s_bipush {l : Launch} {D : va_G} {R : Room} {own : String} {cc : ByteArray} {nL : Nat} {Γ : GT} {ce sl pc : Nat} {lv : List (Nat × Value)} {st : List Value} {N : Nat} {adr : Nat → Nat} {G : Nat → va_E} {n : Int} {v : Int32} (h : cx l D R own cc nL Γ) (d : decode cc pc = .ok (.bipush n, 2)) (hv : (Int8.ofInt n).toInt32 = v) (k : SX Γ ce sl (pc + 2) lv (.int v :: st) N adr G) : SX Γ ce sl pc lv st N adr G := by
  obtain ⟨p, l', e, R', s, m, args, below, meth, c, D', A, Q, nL'⟩ := Γ
  obtain ⟨rfl, rfl, rfl, rfl, hx, hb, hml, hown, hts, hnw, hK, hA, hlk⟩ := h
  intro H locs ls hP hD hS hl
  exact lv_bipush hx hb d hv (k H locs ls hP hD hS hl)
theorem s_sipush {l : Launch} {D : va_G} {R : Room} {own : String} {cc : ByteArray} {nL : Nat} {Γ : GT} {ce sl pc : Nat} {lv : List (Nat × Value)} {st : List Value} {N : Nat} {adr : Nat → Nat} {G : Nat → va_E} {n : Int} {v : Int32} (h : cx l D R own cc nL Γ) (d : decode cc pc = .ok (.sipush n, 3)) (hv : (Int16.ofInt n).toInt32 = v) (k : SX Γ ce sl (pc + 3) lv (.int v :: st) N adr G) : SX Γ ce sl pc lv st N adr G := by
  obtain ⟨p, l', e, R', s, m, args, below, meth, c, D', A, Q, nL'⟩ := Γ
  obtain ⟨rfl, rfl, rfl, rfl, hx, hb, hml, hown, hts, hnw, hK, hA, hlk⟩ := h
  intro H locs ls hP hD hS hl
  exact lv_sipush hx hb d hv (k H locs ls hP hD hS hl)
theorem s_lconst {l : Launch} {D : va_G} {R : Room} {own : String} {cc : ByteArray} {nL : Nat} {Γ : GT} {ce sl pc : Nat} {lv : List (Nat × Value)} {st : List Value} {N : Nat} {adr : Nat → Nat} {G : Nat → va_E} {n : Fin 2} {v : Int64} (h : cx l D R own cc nL Γ) (d : decode cc pc = .ok (.lconst n, 1)) (hv : Int64.ofNat (n : Nat) = v) (k : SX Γ ce sl (pc + 1) lv (.long v :: st) N adr G) : SX Γ ce sl pc lv st N adr G := by
  obtain ⟨p, l', e, R', s, m, args, below, meth, c, D', A, Q, nL'⟩ := Γ
  obtain ⟨rfl, rfl, rfl, rfl, hx, hb, hml, hown, hts, hnw, hK, hA, hlk⟩ := h
  intro H locs ls hP hD hS hl
  exact lv_lconst hx hb d hv (k H locs ls hP hD hS hl)
theorem s_null {l : Launch} {D : va_G} {R : Room} {own : String} {cc : ByteArray} {nL : Nat} {Γ : GT} {ce sl pc : Nat} {lv : List (Nat × Value)} {st : List Value} {N : Nat} {adr : Nat → Nat} {G : Nat → va_E}  (h : cx l D R own cc nL Γ) (d : decode cc pc = .ok (.aconst_null, 1)) (k : SX Γ ce sl (pc + 1) lv (.null :: st) N adr G) : SX Γ ce sl pc lv st N adr G := by
  obtain ⟨p, l', e, R', s, m, args, below, meth, c, D', A, Q, nL'⟩ := Γ
  obtain ⟨rfl, rfl, rfl, rfl, hx, hb, hml, hown, hts, hnw, hK, hA, hlk⟩ := h
  intro H locs ls hP hD hS hl
  exact lv_null hx hb d (k H locs ls hP hD hS hl)
theorem s_ldc {l : Launch} {D : va_G} {R : Room} {own : String} {cc : ByteArray} {nL : Nat} {Γ : GT} {ce sl pc : Nat} {lv : List (Nat × Value)} {st : List Value} {N : Nat} {adr : Nat → Nat} {G : Nat → va_E} {index : Nat} {v : Int32} (h : cx l D R own cc nL Γ) (d : decode cc pc = .ok (.ldc index, 2)) (hw : Cond.constant own index v ∈ TT) (k : SX Γ ce sl (pc + 2) lv (.int v :: st) N adr G) : SX Γ ce sl pc lv st N adr G := by
  obtain ⟨p, l', e, R', s, m, args, below, meth, c, D', A, Q, nL'⟩ := Γ
  obtain ⟨rfl, rfl, rfl, rfl, hx, hb, hml, hown, hts, hnw, hK, hA, hlk⟩ := h
  intro H locs ls hP hD hS hl
  exact lv_ldc hx hb hown (hts _ hw) d (k H locs ls hP hD hS hl)
theorem s_ldc_w {l : Launch} {D : va_G} {R : Room} {own : String} {cc : ByteArray} {nL : Nat} {Γ : GT} {ce sl pc : Nat} {lv : List (Nat × Value)} {st : List Value} {N : Nat} {adr : Nat → Nat} {G : Nat → va_E} {index : Nat} {v : Int32} (h : cx l D R own cc nL Γ) (d : decode cc pc = .ok (.ldc_w index, 3)) (hw : Cond.constant own index v ∈ TT) (k : SX Γ ce sl (pc + 3) lv (.int v :: st) N adr G) : SX Γ ce sl pc lv st N adr G := by
  obtain ⟨p, l', e, R', s, m, args, below, meth, c, D', A, Q, nL'⟩ := Γ
  obtain ⟨rfl, rfl, rfl, rfl, hx, hb, hml, hown, hts, hnw, hK, hA, hlk⟩ := h
  intro H locs ls hP hD hS hl
  exact lv_ldcw hx hb hown (hts _ hw) d (k H locs ls hP hD hS hl)
theorem s_ldc2 {l : Launch} {D : va_G} {R : Room} {own : String} {cc : ByteArray} {nL : Nat} {Γ : GT} {ce sl pc : Nat} {lv : List (Nat × Value)} {st : List Value} {N : Nat} {adr : Nat → Nat} {G : Nat → va_E} {index : Nat} {v : Int64} (h : cx l D R own cc nL Γ) (d : decode cc pc = .ok (.ldc2_w index, 3)) (hw : Cond.constantLong own index v ∈ TT) (k : SX Γ ce sl (pc + 3) lv (.long v :: st) N adr G) : SX Γ ce sl pc lv st N adr G := by
  obtain ⟨p, l', e, R', s, m, args, below, meth, c, D', A, Q, nL'⟩ := Γ
  obtain ⟨rfl, rfl, rfl, rfl, hx, hb, hml, hown, hts, hnw, hK, hA, hlk⟩ := h
  intro H locs ls hP hD hS hl
  exact lv_ldc2 hx hb hown (hts _ hw) d (k H locs ls hP hD hS hl)
theorem s_iload_n {l : Launch} {D : va_G} {R : Room} {own : String} {cc : ByteArray} {nL : Nat} {Γ : GT} {ce sl pc : Nat} {lv : List (Nat × Value)} {st : List Value} {N : Nat} {adr : Nat → Nat} {G : Nat → va_E} {i : Fin 4} {x : Int32} (h : cx l D R own cc nL Γ) (d : decode cc pc = .ok (.iload_n i, 1)) (hi : lgt lv (i : Nat) = some (.int x)) (k : SX Γ ce sl (pc + 1) lv (.int x :: st) N adr G) : SX Γ ce sl pc lv st N adr G := by
  obtain ⟨p, l', e, R', s, m, args, below, meth, c, D', A, Q, nL'⟩ := Γ
  obtain ⟨rfl, rfl, rfl, rfl, hx, hb, hml, hown, hts, hnw, hK, hA, hlk⟩ := h
  intro H locs ls hP hD hS hl
  exact lv_iload_n hx hb d rfl (lgt_at hl hi) (k H locs ls hP hD hS hl)
theorem s_iload {l : Launch} {D : va_G} {R : Room} {own : String} {cc : ByteArray} {nL : Nat} {Γ : GT} {ce sl pc : Nat} {lv : List (Nat × Value)} {st : List Value} {N : Nat} {adr : Nat → Nat} {G : Nat → va_E} {i : Nat} {x : Int32} (h : cx l D R own cc nL Γ) (d : decode cc pc = .ok (.iload i, 2)) (hi : lgt lv i = some (.int x)) (k : SX Γ ce sl (pc + 2) lv (.int x :: st) N adr G) : SX Γ ce sl pc lv st N adr G := by
  obtain ⟨p, l', e, R', s, m, args, below, meth, c, D', A, Q, nL'⟩ := Γ
  obtain ⟨rfl, rfl, rfl, rfl, hx, hb, hml, hown, hts, hnw, hK, hA, hlk⟩ := h
  intro H locs ls hP hD hS hl
  exact lv_iload hx hb d (lgt_at hl hi) (k H locs ls hP hD hS hl)
theorem s_lload_n {l : Launch} {D : va_G} {R : Room} {own : String} {cc : ByteArray} {nL : Nat} {Γ : GT} {ce sl pc : Nat} {lv : List (Nat × Value)} {st : List Value} {N : Nat} {adr : Nat → Nat} {G : Nat → va_E} {i : Fin 4} {x : Int64} (h : cx l D R own cc nL Γ) (d : decode cc pc = .ok (.lload_n i, 1)) (hi : lgt lv (i : Nat) = some (.long x)) (k : SX Γ ce sl (pc + 1) lv (.long x :: st) N adr G) : SX Γ ce sl pc lv st N adr G := by
  obtain ⟨p, l', e, R', s, m, args, below, meth, c, D', A, Q, nL'⟩ := Γ
  obtain ⟨rfl, rfl, rfl, rfl, hx, hb, hml, hown, hts, hnw, hK, hA, hlk⟩ := h
  intro H locs ls hP hD hS hl
  exact lv_lload_n hx hb d rfl (lgt_at hl hi) (k H locs ls hP hD hS hl)
theorem s_lload {l : Launch} {D : va_G} {R : Room} {own : String} {cc : ByteArray} {nL : Nat} {Γ : GT} {ce sl pc : Nat} {lv : List (Nat × Value)} {st : List Value} {N : Nat} {adr : Nat → Nat} {G : Nat → va_E} {i : Nat} {x : Int64} (h : cx l D R own cc nL Γ) (d : decode cc pc = .ok (.lload i, 2)) (hi : lgt lv i = some (.long x)) (k : SX Γ ce sl (pc + 2) lv (.long x :: st) N adr G) : SX Γ ce sl pc lv st N adr G := by
  obtain ⟨p, l', e, R', s, m, args, below, meth, c, D', A, Q, nL'⟩ := Γ
  obtain ⟨rfl, rfl, rfl, rfl, hx, hb, hml, hown, hts, hnw, hK, hA, hlk⟩ := h
  intro H locs ls hP hD hS hl
  exact lv_lload hx hb d (lgt_at hl hi) (k H locs ls hP hD hS hl)
theorem s_aload_n {l : Launch} {D : va_G} {R : Room} {own : String} {cc : ByteArray} {nL : Nat} {Γ : GT} {ce sl pc : Nat} {lv : List (Nat × Value)} {st : List Value} {N : Nat} {adr : Nat → Nat} {G : Nat → va_E} {i : Fin 4} {x : Nat} (h : cx l D R own cc nL Γ) (d : decode cc pc = .ok (.aload_n i, 1)) (hi : lgt lv (i : Nat) = some (.ref x)) (k : SX Γ ce sl (pc + 1) lv (.ref x :: st) N adr G) : SX Γ ce sl pc lv st N adr G := by
  obtain ⟨p, l', e, R', s, m, args, below, meth, c, D', A, Q, nL'⟩ := Γ
  obtain ⟨rfl, rfl, rfl, rfl, hx, hb, hml, hown, hts, hnw, hK, hA, hlk⟩ := h
  intro H locs ls hP hD hS hl
  exact lv_aload_n hx hb d rfl (lgt_at hl hi) (k H locs ls hP hD hS hl)
theorem s_aload {l : Launch} {D : va_G} {R : Room} {own : String} {cc : ByteArray} {nL : Nat} {Γ : GT} {ce sl pc : Nat} {lv : List (Nat × Value)} {st : List Value} {N : Nat} {adr : Nat → Nat} {G : Nat → va_E} {i : Nat} {x : Nat} (h : cx l D R own cc nL Γ) (d : decode cc pc = .ok (.aload i, 2)) (hi : lgt lv i = some (.ref x)) (k : SX Γ ce sl (pc + 2) lv (.ref x :: st) N adr G) : SX Γ ce sl pc lv st N adr G := by
  obtain ⟨p, l', e, R', s, m, args, below, meth, c, D', A, Q, nL'⟩ := Γ
  obtain ⟨rfl, rfl, rfl, rfl, hx, hb, hml, hown, hts, hnw, hK, hA, hlk⟩ := h
  intro H locs ls hP hD hS hl
  exact lv_aload hx hb d (lgt_at hl hi) (k H locs ls hP hD hS hl)
theorem s_aload_nN {l : Launch} {D : va_G} {R : Room} {own : String} {cc : ByteArray} {nL : Nat} {Γ : GT} {ce sl pc : Nat} {lv : List (Nat × Value)} {st : List Value} {N : Nat} {adr : Nat → Nat} {G : Nat → va_E} {i : Fin 4} (h : cx l D R own cc nL Γ) (d : decode cc pc = .ok (.aload_n i, 1)) (hi : lgt lv (i : Nat) = some .null) (k : SX Γ ce sl (pc + 1) lv (.null :: st) N adr G) : SX Γ ce sl pc lv st N adr G := by
  obtain ⟨p, l', e, R', s, m, args, below, meth, c, D', A, Q, nL'⟩ := Γ
  obtain ⟨rfl, rfl, rfl, rfl, hx, hb, hml, hown, hts, hnw, hK, hA, hlk⟩ := h
  intro H locs ls hP hD hS hl
  exact lv_aload_nN hx hb d rfl (lgt_at hl hi) (k H locs ls hP hD hS hl)
theorem s_aloadN {l : Launch} {D : va_G} {R : Room} {own : String} {cc : ByteArray} {nL : Nat} {Γ : GT} {ce sl pc : Nat} {lv : List (Nat × Value)} {st : List Value} {N : Nat} {adr : Nat → Nat} {G : Nat → va_E} {i : Nat} (h : cx l D R own cc nL Γ) (d : decode cc pc = .ok (.aload i, 2)) (hi : lgt lv i = some .null) (k : SX Γ ce sl (pc + 2) lv (.null :: st) N adr G) : SX Γ ce sl pc lv st N adr G := by
  obtain ⟨p, l', e, R', s, m, args, below, meth, c, D', A, Q, nL'⟩ := Γ
  obtain ⟨rfl, rfl, rfl, rfl, hx, hb, hml, hown, hts, hnw, hK, hA, hlk⟩ := h
  intro H locs ls hP hD hS hl
  exact lv_aloadN hx hb d (lgt_at hl hi) (k H locs ls hP hD hS hl)
theorem s_istore_n {l : Launch} {D : va_G} {R : Room} {own : String} {cc : ByteArray} {nL : Nat} {Γ : GT} {ce sl pc : Nat} {lv : List (Nat × Value)} {st : List Value} {N : Nat} {adr : Nat → Nat} {G : Nat → va_E} {i : Fin 4} {x : Int32} (h : cx l D R own cc nL Γ) (d : decode cc pc = .ok (.istore_n i, 1)) (hn : Nat.blt (i : Nat) nL = true) (k : SX Γ ce sl (pc + 1) (lset lv (i : Nat) (.int x)) st N adr G) : SX Γ ce sl pc lv (.int x :: st) N adr G := by
  obtain ⟨p, l', e, R', s, m, args, below, meth, c, D', A, Q, nL'⟩ := Γ
  obtain ⟨rfl, rfl, rfl, rfl, hx, hb, hml, hown, hts, hnw, hK, hA, hlk⟩ := h
  intro H locs ls hP hD hS hl
  exact lv_istore_n hx hb d rfl hl (Nat.blt_eq.mp hn) rfl (fun ls2 hl2 => k H locs ls2 hP hD hS hl2)
theorem s_istore {l : Launch} {D : va_G} {R : Room} {own : String} {cc : ByteArray} {nL : Nat} {Γ : GT} {ce sl pc : Nat} {lv : List (Nat × Value)} {st : List Value} {N : Nat} {adr : Nat → Nat} {G : Nat → va_E} {i : Nat} {x : Int32} (h : cx l D R own cc nL Γ) (d : decode cc pc = .ok (.istore i, 2)) (hn : Nat.blt i nL = true) (k : SX Γ ce sl (pc + 2) (lset lv i (.int x)) st N adr G) : SX Γ ce sl pc lv (.int x :: st) N adr G := by
  obtain ⟨p, l', e, R', s, m, args, below, meth, c, D', A, Q, nL'⟩ := Γ
  obtain ⟨rfl, rfl, rfl, rfl, hx, hb, hml, hown, hts, hnw, hK, hA, hlk⟩ := h
  intro H locs ls hP hD hS hl
  exact lv_istore hx hb d hl (Nat.blt_eq.mp hn) rfl (fun ls2 hl2 => k H locs ls2 hP hD hS hl2)
theorem s_lstore_n {l : Launch} {D : va_G} {R : Room} {own : String} {cc : ByteArray} {nL : Nat} {Γ : GT} {ce sl pc : Nat} {lv : List (Nat × Value)} {st : List Value} {N : Nat} {adr : Nat → Nat} {G : Nat → va_E} {i : Fin 4} {x : Int64} (h : cx l D R own cc nL Γ) (d : decode cc pc = .ok (.lstore_n i, 1)) (hn : Nat.blt ((i : Nat) + 1) nL = true) (k : SX Γ ce sl (pc + 1) (lsetL lv (i : Nat) (.long x)) st N adr G) : SX Γ ce sl pc lv (.long x :: st) N adr G := by
  obtain ⟨p, l', e, R', s, m, args, below, meth, c, D', A, Q, nL'⟩ := Γ
  obtain ⟨rfl, rfl, rfl, rfl, hx, hb, hml, hown, hts, hnw, hK, hA, hlk⟩ := h
  intro H locs ls hP hD hS hl
  exact lv_lstore_n hx hb d rfl hl (Nat.blt_eq.mp hn) rfl (fun ls2 hl2 => k H locs ls2 hP hD hS hl2)
theorem s_lstore {l : Launch} {D : va_G} {R : Room} {own : String} {cc : ByteArray} {nL : Nat} {Γ : GT} {ce sl pc : Nat} {lv : List (Nat × Value)} {st : List Value} {N : Nat} {adr : Nat → Nat} {G : Nat → va_E} {i : Nat} {x : Int64} (h : cx l D R own cc nL Γ) (d : decode cc pc = .ok (.lstore i, 2)) (hn : Nat.blt (i + 1) nL = true) (k : SX Γ ce sl (pc + 2) (lsetL lv i (.long x)) st N adr G) : SX Γ ce sl pc lv (.long x :: st) N adr G := by
  obtain ⟨p, l', e, R', s, m, args, below, meth, c, D', A, Q, nL'⟩ := Γ
  obtain ⟨rfl, rfl, rfl, rfl, hx, hb, hml, hown, hts, hnw, hK, hA, hlk⟩ := h
  intro H locs ls hP hD hS hl
  exact lv_lstore hx hb d hl (Nat.blt_eq.mp hn) rfl (fun ls2 hl2 => k H locs ls2 hP hD hS hl2)
theorem s_astore_n {l : Launch} {D : va_G} {R : Room} {own : String} {cc : ByteArray} {nL : Nat} {Γ : GT} {ce sl pc : Nat} {lv : List (Nat × Value)} {st : List Value} {N : Nat} {adr : Nat → Nat} {G : Nat → va_E} {i : Fin 4} {x : Nat} (h : cx l D R own cc nL Γ) (d : decode cc pc = .ok (.astore_n i, 1)) (hn : Nat.blt (i : Nat) nL = true) (k : SX Γ ce sl (pc + 1) (lset lv (i : Nat) (.ref x)) st N adr G) : SX Γ ce sl pc lv (.ref x :: st) N adr G := by
  obtain ⟨p, l', e, R', s, m, args, below, meth, c, D', A, Q, nL'⟩ := Γ
  obtain ⟨rfl, rfl, rfl, rfl, hx, hb, hml, hown, hts, hnw, hK, hA, hlk⟩ := h
  intro H locs ls hP hD hS hl
  exact lv_astore_n hx hb d rfl hl (Nat.blt_eq.mp hn) rfl (fun ls2 hl2 => k H locs ls2 hP hD hS hl2)
theorem s_astore {l : Launch} {D : va_G} {R : Room} {own : String} {cc : ByteArray} {nL : Nat} {Γ : GT} {ce sl pc : Nat} {lv : List (Nat × Value)} {st : List Value} {N : Nat} {adr : Nat → Nat} {G : Nat → va_E} {i : Nat} {x : Nat} (h : cx l D R own cc nL Γ) (d : decode cc pc = .ok (.astore i, 2)) (hn : Nat.blt i nL = true) (k : SX Γ ce sl (pc + 2) (lset lv i (.ref x)) st N adr G) : SX Γ ce sl pc lv (.ref x :: st) N adr G := by
  obtain ⟨p, l', e, R', s, m, args, below, meth, c, D', A, Q, nL'⟩ := Γ
  obtain ⟨rfl, rfl, rfl, rfl, hx, hb, hml, hown, hts, hnw, hK, hA, hlk⟩ := h
  intro H locs ls hP hD hS hl
  exact lv_astore hx hb d hl (Nat.blt_eq.mp hn) rfl (fun ls2 hl2 => k H locs ls2 hP hD hS hl2)
theorem s_iinc {l : Launch} {D : va_G} {R : Room} {own : String} {cc : ByteArray} {nL : Nat} {Γ : GT} {ce sl pc : Nat} {lv : List (Nat × Value)} {st : List Value} {N : Nat} {adr : Nat → Nat} {G : Nat → va_E} {i : Nat} {n : Int} {x v : Int32} (h : cx l D R own cc nL Γ) (d : decode cc pc = .ok (.iinc i n, 3)) (hn : Nat.blt i nL = true) (hi : lgt lv i = some (.int x)) (hv : Int32.ofInt n = v) (k : SX Γ ce sl (pc + 3) (lset lv i (.int (x + v))) st N adr G) : SX Γ ce sl pc lv st N adr G := by
  obtain ⟨p, l', e, R', s, m, args, below, meth, c, D', A, Q, nL'⟩ := Γ
  obtain ⟨rfl, rfl, rfl, rfl, hx, hb, hml, hown, hts, hnw, hK, hA, hlk⟩ := h
  intro H locs ls hP hD hS hl
  subst hv
  obtain ⟨j, hj⟩ := List.mem_iff_getElem?.mp (lgt_mem hi)
  exact lv_iinc hx hb d hl (k := j) hj rfl (Nat.blt_eq.mp hn) rfl (fun ls2 hl2 => k H locs ls2 hP hD hS hl2)
theorem s_iadd {l : Launch} {D : va_G} {R : Room} {own : String} {cc : ByteArray} {nL : Nat} {Γ : GT} {ce sl pc : Nat} {lv : List (Nat × Value)} {st : List Value} {N : Nat} {adr : Nat → Nat} {G : Nat → va_E} {x y : Int32} (h : cx l D R own cc nL Γ) (d : decode cc pc = .ok (.iadd, 1)) (k : SX Γ ce sl (pc + 1) lv (.int (x + y) :: st) N adr G) : SX Γ ce sl pc lv (.int y :: .int x :: st) N adr G := by
  obtain ⟨p, l', e, R', s, m, args, below, meth, c, D', A, Q, nL'⟩ := Γ
  obtain ⟨rfl, rfl, rfl, rfl, hx, hb, hml, hown, hts, hnw, hK, hA, hlk⟩ := h
  intro H locs ls hP hD hS hl
  exact lv_iadd hx hb d (k H locs ls hP hD hS hl)
theorem s_isub {l : Launch} {D : va_G} {R : Room} {own : String} {cc : ByteArray} {nL : Nat} {Γ : GT} {ce sl pc : Nat} {lv : List (Nat × Value)} {st : List Value} {N : Nat} {adr : Nat → Nat} {G : Nat → va_E} {x y : Int32} (h : cx l D R own cc nL Γ) (d : decode cc pc = .ok (.isub, 1)) (k : SX Γ ce sl (pc + 1) lv (.int (x - y) :: st) N adr G) : SX Γ ce sl pc lv (.int y :: .int x :: st) N adr G := by
  obtain ⟨p, l', e, R', s, m, args, below, meth, c, D', A, Q, nL'⟩ := Γ
  obtain ⟨rfl, rfl, rfl, rfl, hx, hb, hml, hown, hts, hnw, hK, hA, hlk⟩ := h
  intro H locs ls hP hD hS hl
  exact lv_isub hx hb d (k H locs ls hP hD hS hl)
theorem s_imul {l : Launch} {D : va_G} {R : Room} {own : String} {cc : ByteArray} {nL : Nat} {Γ : GT} {ce sl pc : Nat} {lv : List (Nat × Value)} {st : List Value} {N : Nat} {adr : Nat → Nat} {G : Nat → va_E} {x y : Int32} (h : cx l D R own cc nL Γ) (d : decode cc pc = .ok (.imul, 1)) (k : SX Γ ce sl (pc + 1) lv (.int (x * y) :: st) N adr G) : SX Γ ce sl pc lv (.int y :: .int x :: st) N adr G := by
  obtain ⟨p, l', e, R', s, m, args, below, meth, c, D', A, Q, nL'⟩ := Γ
  obtain ⟨rfl, rfl, rfl, rfl, hx, hb, hml, hown, hts, hnw, hK, hA, hlk⟩ := h
  intro H locs ls hP hD hS hl
  exact lv_imul hx hb d (k H locs ls hP hD hS hl)
theorem s_iand {l : Launch} {D : va_G} {R : Room} {own : String} {cc : ByteArray} {nL : Nat} {Γ : GT} {ce sl pc : Nat} {lv : List (Nat × Value)} {st : List Value} {N : Nat} {adr : Nat → Nat} {G : Nat → va_E} {x y : Int32} (h : cx l D R own cc nL Γ) (d : decode cc pc = .ok (.iand, 1)) (k : SX Γ ce sl (pc + 1) lv (.int (x &&& y) :: st) N adr G) : SX Γ ce sl pc lv (.int y :: .int x :: st) N adr G := by
  obtain ⟨p, l', e, R', s, m, args, below, meth, c, D', A, Q, nL'⟩ := Γ
  obtain ⟨rfl, rfl, rfl, rfl, hx, hb, hml, hown, hts, hnw, hK, hA, hlk⟩ := h
  intro H locs ls hP hD hS hl
  exact lv_iand hx hb d (k H locs ls hP hD hS hl)
theorem s_ior {l : Launch} {D : va_G} {R : Room} {own : String} {cc : ByteArray} {nL : Nat} {Γ : GT} {ce sl pc : Nat} {lv : List (Nat × Value)} {st : List Value} {N : Nat} {adr : Nat → Nat} {G : Nat → va_E} {x y : Int32} (h : cx l D R own cc nL Γ) (d : decode cc pc = .ok (.ior, 1)) (k : SX Γ ce sl (pc + 1) lv (.int (x ||| y) :: st) N adr G) : SX Γ ce sl pc lv (.int y :: .int x :: st) N adr G := by
  obtain ⟨p, l', e, R', s, m, args, below, meth, c, D', A, Q, nL'⟩ := Γ
  obtain ⟨rfl, rfl, rfl, rfl, hx, hb, hml, hown, hts, hnw, hK, hA, hlk⟩ := h
  intro H locs ls hP hD hS hl
  exact lv_ior hx hb d (k H locs ls hP hD hS hl)
theorem s_ixor {l : Launch} {D : va_G} {R : Room} {own : String} {cc : ByteArray} {nL : Nat} {Γ : GT} {ce sl pc : Nat} {lv : List (Nat × Value)} {st : List Value} {N : Nat} {adr : Nat → Nat} {G : Nat → va_E} {x y : Int32} (h : cx l D R own cc nL Γ) (d : decode cc pc = .ok (.ixor, 1)) (k : SX Γ ce sl (pc + 1) lv (.int (x ^^^ y) :: st) N adr G) : SX Γ ce sl pc lv (.int y :: .int x :: st) N adr G := by
  obtain ⟨p, l', e, R', s, m, args, below, meth, c, D', A, Q, nL'⟩ := Γ
  obtain ⟨rfl, rfl, rfl, rfl, hx, hb, hml, hown, hts, hnw, hK, hA, hlk⟩ := h
  intro H locs ls hP hD hS hl
  exact lv_ixor hx hb d (k H locs ls hP hD hS hl)
theorem s_idiv {l : Launch} {D : va_G} {R : Room} {own : String} {cc : ByteArray} {nL : Nat} {Γ : GT} {ce sl pc : Nat} {lv : List (Nat × Value)} {st : List Value} {N : Nat} {adr : Nat → Nat} {G : Nat → va_E} {x y : Int32} (h : cx l D R own cc nL Γ) (d : decode cc pc = .ok (.idiv, 1)) (hne : ¬ y = 0) (k : SX Γ ce sl (pc + 1) lv (.int (x / y) :: st) N adr G) : SX Γ ce sl pc lv (.int y :: .int x :: st) N adr G := by
  obtain ⟨p, l', e, R', s, m, args, below, meth, c, D', A, Q, nL'⟩ := Γ
  obtain ⟨rfl, rfl, rfl, rfl, hx, hb, hml, hown, hts, hnw, hK, hA, hlk⟩ := h
  intro H locs ls hP hD hS hl
  exact lv_idiv hx hb d hne (k H locs ls hP hD hS hl)
theorem s_irem {l : Launch} {D : va_G} {R : Room} {own : String} {cc : ByteArray} {nL : Nat} {Γ : GT} {ce sl pc : Nat} {lv : List (Nat × Value)} {st : List Value} {N : Nat} {adr : Nat → Nat} {G : Nat → va_E} {x y : Int32} (h : cx l D R own cc nL Γ) (d : decode cc pc = .ok (.irem, 1)) (hne : ¬ y = 0) (k : SX Γ ce sl (pc + 1) lv (.int (x - x / y * y) :: st) N adr G) : SX Γ ce sl pc lv (.int y :: .int x :: st) N adr G := by
  obtain ⟨p, l', e, R', s, m, args, below, meth, c, D', A, Q, nL'⟩ := Γ
  obtain ⟨rfl, rfl, rfl, rfl, hx, hb, hml, hown, hts, hnw, hK, hA, hlk⟩ := h
  intro H locs ls hP hD hS hl
  exact lv_irem hx hb d hne (k H locs ls hP hD hS hl)
theorem s_ineg {l : Launch} {D : va_G} {R : Room} {own : String} {cc : ByteArray} {nL : Nat} {Γ : GT} {ce sl pc : Nat} {lv : List (Nat × Value)} {st : List Value} {N : Nat} {adr : Nat → Nat} {G : Nat → va_E} {x : Int32} (h : cx l D R own cc nL Γ) (d : decode cc pc = .ok (.ineg, 1)) (k : SX Γ ce sl (pc + 1) lv (.int (-x) :: st) N adr G) : SX Γ ce sl pc lv (.int x :: st) N adr G := by
  obtain ⟨p, l', e, R', s, m, args, below, meth, c, D', A, Q, nL'⟩ := Γ
  obtain ⟨rfl, rfl, rfl, rfl, hx, hb, hml, hown, hts, hnw, hK, hA, hlk⟩ := h
  intro H locs ls hP hD hS hl
  exact lv_ineg hx hb d (k H locs ls hP hD hS hl)
theorem s_ishl {l : Launch} {D : va_G} {R : Room} {own : String} {cc : ByteArray} {nL : Nat} {Γ : GT} {ce sl pc : Nat} {lv : List (Nat × Value)} {st : List Value} {N : Nat} {adr : Nat → Nat} {G : Nat → va_E} {x y : Int32} (h : cx l D R own cc nL Γ) (d : decode cc pc = .ok (.ishl, 1)) (k : SX Γ ce sl (pc + 1) lv (.int (x <<< (y &&& 31)) :: st) N adr G) : SX Γ ce sl pc lv (.int y :: .int x :: st) N adr G := by
  obtain ⟨p, l', e, R', s, m, args, below, meth, c, D', A, Q, nL'⟩ := Γ
  obtain ⟨rfl, rfl, rfl, rfl, hx, hb, hml, hown, hts, hnw, hK, hA, hlk⟩ := h
  intro H locs ls hP hD hS hl
  exact lv_ishl hx hb d (k H locs ls hP hD hS hl)
theorem s_ishr {l : Launch} {D : va_G} {R : Room} {own : String} {cc : ByteArray} {nL : Nat} {Γ : GT} {ce sl pc : Nat} {lv : List (Nat × Value)} {st : List Value} {N : Nat} {adr : Nat → Nat} {G : Nat → va_E} {x y : Int32} (h : cx l D R own cc nL Γ) (d : decode cc pc = .ok (.ishr, 1)) (k : SX Γ ce sl (pc + 1) lv (.int (x >>> (y &&& 31)) :: st) N adr G) : SX Γ ce sl pc lv (.int y :: .int x :: st) N adr G := by
  obtain ⟨p, l', e, R', s, m, args, below, meth, c, D', A, Q, nL'⟩ := Γ
  obtain ⟨rfl, rfl, rfl, rfl, hx, hb, hml, hown, hts, hnw, hK, hA, hlk⟩ := h
  intro H locs ls hP hD hS hl
  exact lv_ishr hx hb d (k H locs ls hP hD hS hl)
theorem s_iushr {l : Launch} {D : va_G} {R : Room} {own : String} {cc : ByteArray} {nL : Nat} {Γ : GT} {ce sl pc : Nat} {lv : List (Nat × Value)} {st : List Value} {N : Nat} {adr : Nat → Nat} {G : Nat → va_E} {x y : Int32} (h : cx l D R own cc nL Γ) (d : decode cc pc = .ok (.iushr, 1)) (k : SX Γ ce sl (pc + 1) lv (.int ((x.toUInt32 >>> (y.toUInt32 &&& Int32.toUInt32 31)).toInt32) :: st) N adr G) : SX Γ ce sl pc lv (.int y :: .int x :: st) N adr G := by
  obtain ⟨p, l', e, R', s, m, args, below, meth, c, D', A, Q, nL'⟩ := Γ
  obtain ⟨rfl, rfl, rfl, rfl, hx, hb, hml, hown, hts, hnw, hK, hA, hlk⟩ := h
  intro H locs ls hP hD hS hl
  exact lv_iushr hx hb d rfl (k H locs ls hP hD hS hl)
theorem s_ladd {l : Launch} {D : va_G} {R : Room} {own : String} {cc : ByteArray} {nL : Nat} {Γ : GT} {ce sl pc : Nat} {lv : List (Nat × Value)} {st : List Value} {N : Nat} {adr : Nat → Nat} {G : Nat → va_E} {x y : Int64} (h : cx l D R own cc nL Γ) (d : decode cc pc = .ok (.ladd, 1)) (k : SX Γ ce sl (pc + 1) lv (.long (x + y) :: st) N adr G) : SX Γ ce sl pc lv (.long y :: .long x :: st) N adr G := by
  obtain ⟨p, l', e, R', s, m, args, below, meth, c, D', A, Q, nL'⟩ := Γ
  obtain ⟨rfl, rfl, rfl, rfl, hx, hb, hml, hown, hts, hnw, hK, hA, hlk⟩ := h
  intro H locs ls hP hD hS hl
  exact lv_ladd hx hb d (k H locs ls hP hD hS hl)
theorem s_lsub {l : Launch} {D : va_G} {R : Room} {own : String} {cc : ByteArray} {nL : Nat} {Γ : GT} {ce sl pc : Nat} {lv : List (Nat × Value)} {st : List Value} {N : Nat} {adr : Nat → Nat} {G : Nat → va_E} {x y : Int64} (h : cx l D R own cc nL Γ) (d : decode cc pc = .ok (.lsub, 1)) (k : SX Γ ce sl (pc + 1) lv (.long (x - y) :: st) N adr G) : SX Γ ce sl pc lv (.long y :: .long x :: st) N adr G := by
  obtain ⟨p, l', e, R', s, m, args, below, meth, c, D', A, Q, nL'⟩ := Γ
  obtain ⟨rfl, rfl, rfl, rfl, hx, hb, hml, hown, hts, hnw, hK, hA, hlk⟩ := h
  intro H locs ls hP hD hS hl
  exact lv_lsub hx hb d (k H locs ls hP hD hS hl)
theorem s_lmul {l : Launch} {D : va_G} {R : Room} {own : String} {cc : ByteArray} {nL : Nat} {Γ : GT} {ce sl pc : Nat} {lv : List (Nat × Value)} {st : List Value} {N : Nat} {adr : Nat → Nat} {G : Nat → va_E} {x y : Int64} (h : cx l D R own cc nL Γ) (d : decode cc pc = .ok (.lmul, 1)) (k : SX Γ ce sl (pc + 1) lv (.long (x * y) :: st) N adr G) : SX Γ ce sl pc lv (.long y :: .long x :: st) N adr G := by
  obtain ⟨p, l', e, R', s, m, args, below, meth, c, D', A, Q, nL'⟩ := Γ
  obtain ⟨rfl, rfl, rfl, rfl, hx, hb, hml, hown, hts, hnw, hK, hA, hlk⟩ := h
  intro H locs ls hP hD hS hl
  exact lv_lmul hx hb d (k H locs ls hP hD hS hl)
theorem s_land {l : Launch} {D : va_G} {R : Room} {own : String} {cc : ByteArray} {nL : Nat} {Γ : GT} {ce sl pc : Nat} {lv : List (Nat × Value)} {st : List Value} {N : Nat} {adr : Nat → Nat} {G : Nat → va_E} {x y : Int64} (h : cx l D R own cc nL Γ) (d : decode cc pc = .ok (.land, 1)) (k : SX Γ ce sl (pc + 1) lv (.long (x &&& y) :: st) N adr G) : SX Γ ce sl pc lv (.long y :: .long x :: st) N adr G := by
  obtain ⟨p, l', e, R', s, m, args, below, meth, c, D', A, Q, nL'⟩ := Γ
  obtain ⟨rfl, rfl, rfl, rfl, hx, hb, hml, hown, hts, hnw, hK, hA, hlk⟩ := h
  intro H locs ls hP hD hS hl
  exact lv_land hx hb d (k H locs ls hP hD hS hl)
theorem s_lor {l : Launch} {D : va_G} {R : Room} {own : String} {cc : ByteArray} {nL : Nat} {Γ : GT} {ce sl pc : Nat} {lv : List (Nat × Value)} {st : List Value} {N : Nat} {adr : Nat → Nat} {G : Nat → va_E} {x y : Int64} (h : cx l D R own cc nL Γ) (d : decode cc pc = .ok (.lor, 1)) (k : SX Γ ce sl (pc + 1) lv (.long (x ||| y) :: st) N adr G) : SX Γ ce sl pc lv (.long y :: .long x :: st) N adr G := by
  obtain ⟨p, l', e, R', s, m, args, below, meth, c, D', A, Q, nL'⟩ := Γ
  obtain ⟨rfl, rfl, rfl, rfl, hx, hb, hml, hown, hts, hnw, hK, hA, hlk⟩ := h
  intro H locs ls hP hD hS hl
  exact lv_lor hx hb d (k H locs ls hP hD hS hl)
theorem s_ldiv {l : Launch} {D : va_G} {R : Room} {own : String} {cc : ByteArray} {nL : Nat} {Γ : GT} {ce sl pc : Nat} {lv : List (Nat × Value)} {st : List Value} {N : Nat} {adr : Nat → Nat} {G : Nat → va_E} {x y : Int64} (h : cx l D R own cc nL Γ) (d : decode cc pc = .ok (.ldiv, 1)) (hne : ¬ y = 0) (k : SX Γ ce sl (pc + 1) lv (.long (x / y) :: st) N adr G) : SX Γ ce sl pc lv (.long y :: .long x :: st) N adr G := by
  obtain ⟨p, l', e, R', s, m, args, below, meth, c, D', A, Q, nL'⟩ := Γ
  obtain ⟨rfl, rfl, rfl, rfl, hx, hb, hml, hown, hts, hnw, hK, hA, hlk⟩ := h
  intro H locs ls hP hD hS hl
  exact lv_ldiv hx hb d hne (k H locs ls hP hD hS hl)
theorem s_lrem {l : Launch} {D : va_G} {R : Room} {own : String} {cc : ByteArray} {nL : Nat} {Γ : GT} {ce sl pc : Nat} {lv : List (Nat × Value)} {st : List Value} {N : Nat} {adr : Nat → Nat} {G : Nat → va_E} {x y : Int64} (h : cx l D R own cc nL Γ) (d : decode cc pc = .ok (.lrem, 1)) (hne : ¬ y = 0) (k : SX Γ ce sl (pc + 1) lv (.long (x - x / y * y) :: st) N adr G) : SX Γ ce sl pc lv (.long y :: .long x :: st) N adr G := by
  obtain ⟨p, l', e, R', s, m, args, below, meth, c, D', A, Q, nL'⟩ := Γ
  obtain ⟨rfl, rfl, rfl, rfl, hx, hb, hml, hown, hts, hnw, hK, hA, hlk⟩ := h
  intro H locs ls hP hD hS hl
  exact lv_lrem hx hb d hne (k H locs ls hP hD hS hl)
theorem s_lshl {l : Launch} {D : va_G} {R : Room} {own : String} {cc : ByteArray} {nL : Nat} {Γ : GT} {ce sl pc : Nat} {lv : List (Nat × Value)} {st : List Value} {N : Nat} {adr : Nat → Nat} {G : Nat → va_E} {x : Int64} {y : Int32} (h : cx l D R own cc nL Γ) (d : decode cc pc = .ok (.lshl, 1)) (k : SX Γ ce sl (pc + 1) lv (.long (x <<< (y.toInt64 &&& 63)) :: st) N adr G) : SX Γ ce sl pc lv (.int y :: .long x :: st) N adr G := by
  obtain ⟨p, l', e, R', s, m, args, below, meth, c, D', A, Q, nL'⟩ := Γ
  obtain ⟨rfl, rfl, rfl, rfl, hx, hb, hml, hown, hts, hnw, hK, hA, hlk⟩ := h
  intro H locs ls hP hD hS hl
  exact lv_lshl hx hb d rfl (k H locs ls hP hD hS hl)
theorem s_lshr {l : Launch} {D : va_G} {R : Room} {own : String} {cc : ByteArray} {nL : Nat} {Γ : GT} {ce sl pc : Nat} {lv : List (Nat × Value)} {st : List Value} {N : Nat} {adr : Nat → Nat} {G : Nat → va_E} {x : Int64} {y : Int32} (h : cx l D R own cc nL Γ) (d : decode cc pc = .ok (.lshr, 1)) (k : SX Γ ce sl (pc + 1) lv (.long (x >>> (y.toInt64 &&& 63)) :: st) N adr G) : SX Γ ce sl pc lv (.int y :: .long x :: st) N adr G := by
  obtain ⟨p, l', e, R', s, m, args, below, meth, c, D', A, Q, nL'⟩ := Γ
  obtain ⟨rfl, rfl, rfl, rfl, hx, hb, hml, hown, hts, hnw, hK, hA, hlk⟩ := h
  intro H locs ls hP hD hS hl
  exact lv_lshr hx hb d rfl (k H locs ls hP hD hS hl)
theorem s_lushr {l : Launch} {D : va_G} {R : Room} {own : String} {cc : ByteArray} {nL : Nat} {Γ : GT} {ce sl pc : Nat} {lv : List (Nat × Value)} {st : List Value} {N : Nat} {adr : Nat → Nat} {G : Nat → va_E} {x : Int64} {y : Int32} (h : cx l D R own cc nL Γ) (d : decode cc pc = .ok (.lushr, 1)) (k : SX Γ ce sl (pc + 1) lv (.long ((x.toUInt64 >>> (y.toInt64.toUInt64 &&& Int64.toUInt64 63)).toInt64) :: st) N adr G) : SX Γ ce sl pc lv (.int y :: .long x :: st) N adr G := by
  obtain ⟨p, l', e, R', s, m, args, below, meth, c, D', A, Q, nL'⟩ := Γ
  obtain ⟨rfl, rfl, rfl, rfl, hx, hb, hml, hown, hts, hnw, hK, hA, hlk⟩ := h
  intro H locs ls hP hD hS hl
  exact lv_lushr hx hb d rfl (k H locs ls hP hD hS hl)
theorem s_i2l {l : Launch} {D : va_G} {R : Room} {own : String} {cc : ByteArray} {nL : Nat} {Γ : GT} {ce sl pc : Nat} {lv : List (Nat × Value)} {st : List Value} {N : Nat} {adr : Nat → Nat} {G : Nat → va_E} {x : Int32} (h : cx l D R own cc nL Γ) (d : decode cc pc = .ok (.i2l, 1)) (k : SX Γ ce sl (pc + 1) lv (.long x.toInt64 :: st) N adr G) : SX Γ ce sl pc lv (.int x :: st) N adr G := by
  obtain ⟨p, l', e, R', s, m, args, below, meth, c, D', A, Q, nL'⟩ := Γ
  obtain ⟨rfl, rfl, rfl, rfl, hx, hb, hml, hown, hts, hnw, hK, hA, hlk⟩ := h
  intro H locs ls hP hD hS hl
  exact lv_i2l hx hb d rfl (k H locs ls hP hD hS hl)
theorem s_l2i {l : Launch} {D : va_G} {R : Room} {own : String} {cc : ByteArray} {nL : Nat} {Γ : GT} {ce sl pc : Nat} {lv : List (Nat × Value)} {st : List Value} {N : Nat} {adr : Nat → Nat} {G : Nat → va_E} {x : Int64} (h : cx l D R own cc nL Γ) (d : decode cc pc = .ok (.l2i, 1)) (k : SX Γ ce sl (pc + 1) lv (.int x.toInt32 :: st) N adr G) : SX Γ ce sl pc lv (.long x :: st) N adr G := by
  obtain ⟨p, l', e, R', s, m, args, below, meth, c, D', A, Q, nL'⟩ := Γ
  obtain ⟨rfl, rfl, rfl, rfl, hx, hb, hml, hown, hts, hnw, hK, hA, hlk⟩ := h
  intro H locs ls hP hD hS hl
  exact lv_l2i hx hb d rfl (k H locs ls hP hD hS hl)
theorem s_dup {l : Launch} {D : va_G} {R : Room} {own : String} {cc : ByteArray} {nL : Nat} {Γ : GT} {ce sl pc : Nat} {lv : List (Nat × Value)} {st : List Value} {N : Nat} {adr : Nat → Nat} {G : Nat → va_E} {v : Value} (h : cx l D R own cc nL Γ) (d : decode cc pc = .ok (.dup, 1)) (hc : v.category = 1) (k : SX Γ ce sl (pc + 1) lv (v :: v :: st) N adr G) : SX Γ ce sl pc lv (v :: st) N adr G := by
  obtain ⟨p, l', e, R', s, m, args, below, meth, c, D', A, Q, nL'⟩ := Γ
  obtain ⟨rfl, rfl, rfl, rfl, hx, hb, hml, hown, hts, hnw, hK, hA, hlk⟩ := h
  intro H locs ls hP hD hS hl
  exact lv_dup hx hb d hc (k H locs ls hP hD hS hl)
theorem s_dup2 {l : Launch} {D : va_G} {R : Room} {own : String} {cc : ByteArray} {nL : Nat} {Γ : GT} {ce sl pc : Nat} {lv : List (Nat × Value)} {st : List Value} {N : Nat} {adr : Nat → Nat} {G : Nat → va_E} {v u : Value} (h : cx l D R own cc nL Γ) (d : decode cc pc = .ok (.dup2, 1)) (hc : v.category = 1) (hc2 : u.category = 1) (k : SX Γ ce sl (pc + 1) lv (v :: u :: v :: u :: st) N adr G) : SX Γ ce sl pc lv (v :: u :: st) N adr G := by
  obtain ⟨p, l', e, R', s, m, args, below, meth, c, D', A, Q, nL'⟩ := Γ
  obtain ⟨rfl, rfl, rfl, rfl, hx, hb, hml, hown, hts, hnw, hK, hA, hlk⟩ := h
  intro H locs ls hP hD hS hl
  exact lv_dup2_11 hx hb d hc hc2 (k H locs ls hP hD hS hl)
theorem s_topi {Γ : GT} {ce sl pc : Nat} {lv : List (Nat × Value)} {st : List Value} {N : Nat} {adr : Nat → Nat} {G : Nat → va_E} {x : Int32} (y : Int32) (e : x = y) (k : SX Γ ce sl pc lv (.int y :: st) N adr G) : SX Γ ce sl pc lv (.int x :: st) N adr G := e ▸ k
theorem s_topl {Γ : GT} {ce sl pc : Nat} {lv : List (Nat × Value)} {st : List Value} {N : Nat} {adr : Nat → Nat} {G : Nat → va_E} {x : Int64} (y : Int64) (e : x = y) (k : SX Γ ce sl pc lv (.long y :: st) N adr G) : SX Γ ce sl pc lv (.long x :: st) N adr G := e ▸ k
theorem s_if_eq {l : Launch} {D : va_G} {R : Room} {own : String} {cc : ByteArray} {nL : Nat} {Γ : GT} {ce sl pc : Nat} {lv : List (Nat × Value)} {st : List Value} {N : Nat} {adr : Nat → Nat} {G : Nat → va_E} {x : Int32} {off : Int} {tgt : Nat} (h : cx l D R own cc nL Γ) (d : decode cc pc = .ok (.ifCond .eq off, 3)) (ht : (pc : Int) + off = (tgt : Int)) (kt : x = 0 → SX Γ ce sl tgt lv st N adr G) (kf : ¬ x = 0 → SX Γ ce sl (pc + 3) lv st N adr G) : SX Γ ce sl pc lv (.int x :: st) N adr G := by
  obtain ⟨p, l', e, R', s, m, args, below, meth, c, D', A, Q, nL'⟩ := Γ
  obtain ⟨rfl, rfl, rfl, rfl, hx, hb, hml, hown, hts, hnw, hK, hA, hlk⟩ := h
  intro H locs ls hP hD hS hl
  exact lv_if_eq hx hb d ht (fun q => kt q H locs ls hP hD hS hl) (fun q => kf q H locs ls hP hD hS hl)
theorem s_icmp_eq {l : Launch} {D : va_G} {R : Room} {own : String} {cc : ByteArray} {nL : Nat} {Γ : GT} {ce sl pc : Nat} {lv : List (Nat × Value)} {st : List Value} {N : Nat} {adr : Nat → Nat} {G : Nat → va_E} {x y : Int32} {off : Int} {tgt : Nat} (h : cx l D R own cc nL Γ) (d : decode cc pc = .ok (.if_icmp .eq off, 3)) (ht : (pc : Int) + off = (tgt : Int)) (kt : x = y → SX Γ ce sl tgt lv st N adr G) (kf : ¬ x = y → SX Γ ce sl (pc + 3) lv st N adr G) : SX Γ ce sl pc lv (.int y :: .int x :: st) N adr G := by
  obtain ⟨p, l', e, R', s, m, args, below, meth, c, D', A, Q, nL'⟩ := Γ
  obtain ⟨rfl, rfl, rfl, rfl, hx, hb, hml, hown, hts, hnw, hK, hA, hlk⟩ := h
  intro H locs ls hP hD hS hl
  exact lv_icmp_eq hx hb d ht (fun q => kt q H locs ls hP hD hS hl) (fun q => kf q H locs ls hP hD hS hl)
theorem s_if_ne {l : Launch} {D : va_G} {R : Room} {own : String} {cc : ByteArray} {nL : Nat} {Γ : GT} {ce sl pc : Nat} {lv : List (Nat × Value)} {st : List Value} {N : Nat} {adr : Nat → Nat} {G : Nat → va_E} {x : Int32} {off : Int} {tgt : Nat} (h : cx l D R own cc nL Γ) (d : decode cc pc = .ok (.ifCond .ne off, 3)) (ht : (pc : Int) + off = (tgt : Int)) (kt : ¬ x = 0 → SX Γ ce sl tgt lv st N adr G) (kf : x = 0 → SX Γ ce sl (pc + 3) lv st N adr G) : SX Γ ce sl pc lv (.int x :: st) N adr G := by
  obtain ⟨p, l', e, R', s, m, args, below, meth, c, D', A, Q, nL'⟩ := Γ
  obtain ⟨rfl, rfl, rfl, rfl, hx, hb, hml, hown, hts, hnw, hK, hA, hlk⟩ := h
  intro H locs ls hP hD hS hl
  exact lv_if_ne hx hb d ht (fun q => kt q H locs ls hP hD hS hl) (fun q => kf q H locs ls hP hD hS hl)
theorem s_icmp_ne {l : Launch} {D : va_G} {R : Room} {own : String} {cc : ByteArray} {nL : Nat} {Γ : GT} {ce sl pc : Nat} {lv : List (Nat × Value)} {st : List Value} {N : Nat} {adr : Nat → Nat} {G : Nat → va_E} {x y : Int32} {off : Int} {tgt : Nat} (h : cx l D R own cc nL Γ) (d : decode cc pc = .ok (.if_icmp .ne off, 3)) (ht : (pc : Int) + off = (tgt : Int)) (kt : ¬ x = y → SX Γ ce sl tgt lv st N adr G) (kf : x = y → SX Γ ce sl (pc + 3) lv st N adr G) : SX Γ ce sl pc lv (.int y :: .int x :: st) N adr G := by
  obtain ⟨p, l', e, R', s, m, args, below, meth, c, D', A, Q, nL'⟩ := Γ
  obtain ⟨rfl, rfl, rfl, rfl, hx, hb, hml, hown, hts, hnw, hK, hA, hlk⟩ := h
  intro H locs ls hP hD hS hl
  exact lv_icmp_ne hx hb d ht (fun q => kt q H locs ls hP hD hS hl) (fun q => kf q H locs ls hP hD hS hl)
theorem s_if_lt {l : Launch} {D : va_G} {R : Room} {own : String} {cc : ByteArray} {nL : Nat} {Γ : GT} {ce sl pc : Nat} {lv : List (Nat × Value)} {st : List Value} {N : Nat} {adr : Nat → Nat} {G : Nat → va_E} {x : Int32} {off : Int} {tgt : Nat} (h : cx l D R own cc nL Γ) (d : decode cc pc = .ok (.ifCond .lt off, 3)) (ht : (pc : Int) + off = (tgt : Int)) (kt : x < 0 → SX Γ ce sl tgt lv st N adr G) (kf : ¬ x < 0 → SX Γ ce sl (pc + 3) lv st N adr G) : SX Γ ce sl pc lv (.int x :: st) N adr G := by
  obtain ⟨p, l', e, R', s, m, args, below, meth, c, D', A, Q, nL'⟩ := Γ
  obtain ⟨rfl, rfl, rfl, rfl, hx, hb, hml, hown, hts, hnw, hK, hA, hlk⟩ := h
  intro H locs ls hP hD hS hl
  exact lv_if_lt hx hb d ht (fun q => kt q H locs ls hP hD hS hl) (fun q => kf q H locs ls hP hD hS hl)
theorem s_icmp_lt {l : Launch} {D : va_G} {R : Room} {own : String} {cc : ByteArray} {nL : Nat} {Γ : GT} {ce sl pc : Nat} {lv : List (Nat × Value)} {st : List Value} {N : Nat} {adr : Nat → Nat} {G : Nat → va_E} {x y : Int32} {off : Int} {tgt : Nat} (h : cx l D R own cc nL Γ) (d : decode cc pc = .ok (.if_icmp .lt off, 3)) (ht : (pc : Int) + off = (tgt : Int)) (kt : x < y → SX Γ ce sl tgt lv st N adr G) (kf : ¬ x < y → SX Γ ce sl (pc + 3) lv st N adr G) : SX Γ ce sl pc lv (.int y :: .int x :: st) N adr G := by
  obtain ⟨p, l', e, R', s, m, args, below, meth, c, D', A, Q, nL'⟩ := Γ
  obtain ⟨rfl, rfl, rfl, rfl, hx, hb, hml, hown, hts, hnw, hK, hA, hlk⟩ := h
  intro H locs ls hP hD hS hl
  exact lv_icmp_lt hx hb d ht (fun q => kt q H locs ls hP hD hS hl) (fun q => kf q H locs ls hP hD hS hl)
theorem s_if_ge {l : Launch} {D : va_G} {R : Room} {own : String} {cc : ByteArray} {nL : Nat} {Γ : GT} {ce sl pc : Nat} {lv : List (Nat × Value)} {st : List Value} {N : Nat} {adr : Nat → Nat} {G : Nat → va_E} {x : Int32} {off : Int} {tgt : Nat} (h : cx l D R own cc nL Γ) (d : decode cc pc = .ok (.ifCond .ge off, 3)) (ht : (pc : Int) + off = (tgt : Int)) (kt : 0 ≤ x → SX Γ ce sl tgt lv st N adr G) (kf : ¬ 0 ≤ x → SX Γ ce sl (pc + 3) lv st N adr G) : SX Γ ce sl pc lv (.int x :: st) N adr G := by
  obtain ⟨p, l', e, R', s, m, args, below, meth, c, D', A, Q, nL'⟩ := Γ
  obtain ⟨rfl, rfl, rfl, rfl, hx, hb, hml, hown, hts, hnw, hK, hA, hlk⟩ := h
  intro H locs ls hP hD hS hl
  exact lv_if_ge hx hb d ht (fun q => kt q H locs ls hP hD hS hl) (fun q => kf q H locs ls hP hD hS hl)
theorem s_icmp_ge {l : Launch} {D : va_G} {R : Room} {own : String} {cc : ByteArray} {nL : Nat} {Γ : GT} {ce sl pc : Nat} {lv : List (Nat × Value)} {st : List Value} {N : Nat} {adr : Nat → Nat} {G : Nat → va_E} {x y : Int32} {off : Int} {tgt : Nat} (h : cx l D R own cc nL Γ) (d : decode cc pc = .ok (.if_icmp .ge off, 3)) (ht : (pc : Int) + off = (tgt : Int)) (kt : y ≤ x → SX Γ ce sl tgt lv st N adr G) (kf : ¬ y ≤ x → SX Γ ce sl (pc + 3) lv st N adr G) : SX Γ ce sl pc lv (.int y :: .int x :: st) N adr G := by
  obtain ⟨p, l', e, R', s, m, args, below, meth, c, D', A, Q, nL'⟩ := Γ
  obtain ⟨rfl, rfl, rfl, rfl, hx, hb, hml, hown, hts, hnw, hK, hA, hlk⟩ := h
  intro H locs ls hP hD hS hl
  exact lv_icmp_ge hx hb d ht (fun q => kt q H locs ls hP hD hS hl) (fun q => kf q H locs ls hP hD hS hl)
theorem s_if_gt {l : Launch} {D : va_G} {R : Room} {own : String} {cc : ByteArray} {nL : Nat} {Γ : GT} {ce sl pc : Nat} {lv : List (Nat × Value)} {st : List Value} {N : Nat} {adr : Nat → Nat} {G : Nat → va_E} {x : Int32} {off : Int} {tgt : Nat} (h : cx l D R own cc nL Γ) (d : decode cc pc = .ok (.ifCond .gt off, 3)) (ht : (pc : Int) + off = (tgt : Int)) (kt : 0 < x → SX Γ ce sl tgt lv st N adr G) (kf : ¬ 0 < x → SX Γ ce sl (pc + 3) lv st N adr G) : SX Γ ce sl pc lv (.int x :: st) N adr G := by
  obtain ⟨p, l', e, R', s, m, args, below, meth, c, D', A, Q, nL'⟩ := Γ
  obtain ⟨rfl, rfl, rfl, rfl, hx, hb, hml, hown, hts, hnw, hK, hA, hlk⟩ := h
  intro H locs ls hP hD hS hl
  exact lv_if_gt hx hb d ht (fun q => kt q H locs ls hP hD hS hl) (fun q => kf q H locs ls hP hD hS hl)
theorem s_icmp_gt {l : Launch} {D : va_G} {R : Room} {own : String} {cc : ByteArray} {nL : Nat} {Γ : GT} {ce sl pc : Nat} {lv : List (Nat × Value)} {st : List Value} {N : Nat} {adr : Nat → Nat} {G : Nat → va_E} {x y : Int32} {off : Int} {tgt : Nat} (h : cx l D R own cc nL Γ) (d : decode cc pc = .ok (.if_icmp .gt off, 3)) (ht : (pc : Int) + off = (tgt : Int)) (kt : y < x → SX Γ ce sl tgt lv st N adr G) (kf : ¬ y < x → SX Γ ce sl (pc + 3) lv st N adr G) : SX Γ ce sl pc lv (.int y :: .int x :: st) N adr G := by
  obtain ⟨p, l', e, R', s, m, args, below, meth, c, D', A, Q, nL'⟩ := Γ
  obtain ⟨rfl, rfl, rfl, rfl, hx, hb, hml, hown, hts, hnw, hK, hA, hlk⟩ := h
  intro H locs ls hP hD hS hl
  exact lv_icmp_gt hx hb d ht (fun q => kt q H locs ls hP hD hS hl) (fun q => kf q H locs ls hP hD hS hl)
theorem s_if_le {l : Launch} {D : va_G} {R : Room} {own : String} {cc : ByteArray} {nL : Nat} {Γ : GT} {ce sl pc : Nat} {lv : List (Nat × Value)} {st : List Value} {N : Nat} {adr : Nat → Nat} {G : Nat → va_E} {x : Int32} {off : Int} {tgt : Nat} (h : cx l D R own cc nL Γ) (d : decode cc pc = .ok (.ifCond .le off, 3)) (ht : (pc : Int) + off = (tgt : Int)) (kt : x ≤ 0 → SX Γ ce sl tgt lv st N adr G) (kf : ¬ x ≤ 0 → SX Γ ce sl (pc + 3) lv st N adr G) : SX Γ ce sl pc lv (.int x :: st) N adr G := by
  obtain ⟨p, l', e, R', s, m, args, below, meth, c, D', A, Q, nL'⟩ := Γ
  obtain ⟨rfl, rfl, rfl, rfl, hx, hb, hml, hown, hts, hnw, hK, hA, hlk⟩ := h
  intro H locs ls hP hD hS hl
  exact lv_if_le hx hb d ht (fun q => kt q H locs ls hP hD hS hl) (fun q => kf q H locs ls hP hD hS hl)
theorem s_icmp_le {l : Launch} {D : va_G} {R : Room} {own : String} {cc : ByteArray} {nL : Nat} {Γ : GT} {ce sl pc : Nat} {lv : List (Nat × Value)} {st : List Value} {N : Nat} {adr : Nat → Nat} {G : Nat → va_E} {x y : Int32} {off : Int} {tgt : Nat} (h : cx l D R own cc nL Γ) (d : decode cc pc = .ok (.if_icmp .le off, 3)) (ht : (pc : Int) + off = (tgt : Int)) (kt : x ≤ y → SX Γ ce sl tgt lv st N adr G) (kf : ¬ x ≤ y → SX Γ ce sl (pc + 3) lv st N adr G) : SX Γ ce sl pc lv (.int y :: .int x :: st) N adr G := by
  obtain ⟨p, l', e, R', s, m, args, below, meth, c, D', A, Q, nL'⟩ := Γ
  obtain ⟨rfl, rfl, rfl, rfl, hx, hb, hml, hown, hts, hnw, hK, hA, hlk⟩ := h
  intro H locs ls hP hD hS hl
  exact lv_icmp_le hx hb d ht (fun q => kt q H locs ls hP hD hS hl) (fun q => kf q H locs ls hP hD hS hl)
theorem s_goto {l : Launch} {D : va_G} {R : Room} {own : String} {cc : ByteArray} {nL : Nat} {Γ : GT} {ce sl pc : Nat} {lv : List (Nat × Value)} {st : List Value} {N : Nat} {adr : Nat → Nat} {G : Nat → va_E} {off : Int} {tgt : Nat} (h : cx l D R own cc nL Γ) (d : decode cc pc = .ok (.goto off, 3)) (ht : (pc : Int) + off = (tgt : Int)) (k : SX Γ ce sl tgt lv st N adr G) : SX Γ ce sl pc lv st N adr G := by
  obtain ⟨p, l', e, R', s, m, args, below, meth, c, D', A, Q, nL'⟩ := Γ
  obtain ⟨rfl, rfl, rfl, rfl, hx, hb, hml, hown, hts, hnw, hK, hA, hlk⟩ := h
  intro H locs ls hP hD hS hl
  exact lv_goto hx hb d ht (k H locs ls hP hD hS hl)
theorem s_ifnull {l : Launch} {D : va_G} {R : Room} {own : String} {cc : ByteArray} {nL : Nat} {Γ : GT} {ce sl pc : Nat} {lv : List (Nat × Value)} {st : List Value} {N : Nat} {adr : Nat → Nat} {G : Nat → va_E} {x : Nat} {off : Int} (h : cx l D R own cc nL Γ) (d : decode cc pc = .ok (.ifnull off, 3)) (k : SX Γ ce sl (pc + 3) lv st N adr G) : SX Γ ce sl pc lv (.ref x :: st) N adr G := by
  obtain ⟨p, l', e, R', s, m, args, below, meth, c, D', A, Q, nL'⟩ := Γ
  obtain ⟨rfl, rfl, rfl, rfl, hx, hb, hml, hown, hts, hnw, hK, hA, hlk⟩ := h
  intro H locs ls hP hD hS hl
  exact lv_ifnull hx hb d (k H locs ls hP hD hS hl)
theorem s_ifnullN {l : Launch} {D : va_G} {R : Room} {own : String} {cc : ByteArray} {nL : Nat} {Γ : GT} {ce sl pc : Nat} {lv : List (Nat × Value)} {st : List Value} {N : Nat} {adr : Nat → Nat} {G : Nat → va_E} {off : Int} {tgt : Nat} (h : cx l D R own cc nL Γ) (d : decode cc pc = .ok (.ifnull off, 3)) (ht : (pc : Int) + off = (tgt : Int)) (k : SX Γ ce sl tgt lv st N adr G) : SX Γ ce sl pc lv (.null :: st) N adr G := by
  obtain ⟨p, l', e, R', s, m, args, below, meth, c, D', A, Q, nL'⟩ := Γ
  obtain ⟨rfl, rfl, rfl, rfl, hx, hb, hml, hown, hts, hnw, hK, hA, hlk⟩ := h
  intro H locs ls hP hD hS hl
  exact lv_ifnullN hx hb d ht (k H locs ls hP hD hS hl)
theorem s_ifnonnull {l : Launch} {D : va_G} {R : Room} {own : String} {cc : ByteArray} {nL : Nat} {Γ : GT} {ce sl pc : Nat} {lv : List (Nat × Value)} {st : List Value} {N : Nat} {adr : Nat → Nat} {G : Nat → va_E} {x : Nat} {off : Int} {tgt : Nat} (h : cx l D R own cc nL Γ) (d : decode cc pc = .ok (.ifnonnull off, 3)) (ht : (pc : Int) + off = (tgt : Int)) (k : SX Γ ce sl tgt lv st N adr G) : SX Γ ce sl pc lv (.ref x :: st) N adr G := by
  obtain ⟨p, l', e, R', s, m, args, below, meth, c, D', A, Q, nL'⟩ := Γ
  obtain ⟨rfl, rfl, rfl, rfl, hx, hb, hml, hown, hts, hnw, hK, hA, hlk⟩ := h
  intro H locs ls hP hD hS hl
  exact lv_ifnonnull hx hb d ht (k H locs ls hP hD hS hl)
theorem s_ifnonnullN {l : Launch} {D : va_G} {R : Room} {own : String} {cc : ByteArray} {nL : Nat} {Γ : GT} {ce sl pc : Nat} {lv : List (Nat × Value)} {st : List Value} {N : Nat} {adr : Nat → Nat} {G : Nat → va_E} {off : Int} (h : cx l D R own cc nL Γ) (d : decode cc pc = .ok (.ifnonnull off, 3)) (k : SX Γ ce sl (pc + 3) lv st N adr G) : SX Γ ce sl pc lv (.null :: st) N adr G := by
  obtain ⟨p, l', e, R', s, m, args, below, meth, c, D', A, Q, nL'⟩ := Γ
  obtain ⟨rfl, rfl, rfl, rfl, hx, hb, hml, hown, hts, hnw, hK, hA, hlk⟩ := h
  intro H locs ls hP hD hS hl
  exact lv_ifnonnullN hx hb d (k H locs ls hP hD hS hl)
theorem s_tableOut {l : Launch} {D : va_G} {R : Room} {own : String} {cc : ByteArray} {nL : Nat} {Γ : GT} {ce sl pc : Nat} {lv : List (Nat × Value)} {st : List Value} {N : Nat} {adr : Nat → Nat} {G : Nat → va_E} {x : Int32} {dflt lo hi : Int} {offs : Array Int} {len tgt : Nat} (h : cx l D R own cc nL Γ) (d : decode cc pc = .ok (.tableswitch dflt lo hi offs, len)) (hx1 : x.toInt < lo ∨ hi < x.toInt) (ht : (pc : Int) + dflt = (tgt : Int)) (k : SX Γ ce sl tgt lv st N adr G) : SX Γ ce sl pc lv (.int x :: st) N adr G := by
  obtain ⟨p, l', e, R', s, m, args, below, meth, c, D', A, Q, nL'⟩ := Γ
  obtain ⟨rfl, rfl, rfl, rfl, hx, hb, hml, hown, hts, hnw, hK, hA, hlk⟩ := h
  intro H locs ls hP hD hS hl
  exact lv_tableOut hx hb d hx1 ht (k H locs ls hP hD hS hl)
theorem s_tableIn {l : Launch} {D : va_G} {R : Room} {own : String} {cc : ByteArray} {nL : Nat} {Γ : GT} {ce sl pc : Nat} {lv : List (Nat × Value)} {st : List Value} {N : Nat} {adr : Nat → Nat} {G : Nat → va_E} {x : Int32} {dflt lo hi : Int} {offs : Array Int} {len tgt : Nat} {off : Int} (h : cx l D R own cc nL Γ) (d : decode cc pc = .ok (.tableswitch dflt lo hi offs, len)) (h1 : ¬ x.toInt < lo) (h2 : ¬ hi < x.toInt) (ho : offs[(x.toInt - lo).toNat]? = some off) (ht : (pc : Int) + off = (tgt : Int)) (k : SX Γ ce sl tgt lv st N adr G) : SX Γ ce sl pc lv (.int x :: st) N adr G := by
  obtain ⟨p, l', e, R', s, m, args, below, meth, c, D', A, Q, nL'⟩ := Γ
  obtain ⟨rfl, rfl, rfl, rfl, hx, hb, hml, hown, hts, hnw, hK, hA, hlk⟩ := h
  intro H locs ls hP hD hS hl
  exact lv_tableIn hx hb d h1 h2 ho ht (k H locs ls hP hD hS hl)
theorem s_lcmp {l : Launch} {D : va_G} {R : Room} {own : String} {cc : ByteArray} {nL : Nat} {Γ : GT} {ce sl pc : Nat} {lv : List (Nat × Value)} {st : List Value} {N : Nat} {adr : Nat → Nat} {G : Nat → va_E} {x y : Int64} (h : cx l D R own cc nL Γ) (d : decode cc pc = .ok (.lcmp, 1)) (k : SX Γ ce sl (pc + 1) lv (.int (lg_cmp x y) :: st) N adr G) : SX Γ ce sl pc lv (.long y :: .long x :: st) N adr G := by
  obtain ⟨p, l', e, R', s, m, args, below, meth, c, D', A, Q, nL'⟩ := Γ
  obtain ⟨rfl, rfl, rfl, rfl, hx, hb, hml, hown, hts, hnw, hK, hA, hlk⟩ := h
  intro H locs ls hP hD hS hl
  exact W.lcmp hx hb d (k H locs ls hP hD hS hl)
abbrev aI (D : va_G) (n : Nat) (f : Nat → Int32) : va_E := .inl (D.1 100, n, .inl f)
abbrev aJ (D : va_G) (n : Nat) (f : Nat → Int64) : va_E := .inl (D.1 101, n, .inr (.inl f))
abbrev aZ (D : va_G) (n : Nat) (f : Nat → Int32) : va_E := .inl (D.1 102, n, .inl f)
abbrev aP (D : va_G) (n : Nat) (f : Nat → Option Nat) : va_E := .inl (D.1 103, n, .inr (.inr (.inr (.inr f))))
abbrev aS (D : va_G) (n : Nat) (f : Nat → Option Nat) : va_E := .inl (D.1 104, n, .inr (.inr (.inr (.inr f))))
abbrev aT (D : va_G) (n : Nat) (f : Nat → Option Nat) : va_E := .inl (D.1 105, n, .inr (.inr (.inr (.inr f))))
/-- the int i is the place j of a row of n -/
def ix (i : Int32) (j n : Nat) : Prop := ¬ i < 0 ∧ i.toNatClampNeg = j ∧ j < n
theorem ix_in {i : Int32} {j n : Nat} (h : ix i j n) : vp_in i n := by
  intro q
  rcases q with q | q
  · exact h.1 q
  · exact absurd h.2.2 (by rw [← h.2.1]; omega)
theorem s_iald {l : Launch} {D : va_G} {R : Room} {own : String} {cc : ByteArray} {nL : Nat} {Γ : GT} {ce sl pc : Nat} {lv : List (Nat × Value)} {st : List Value} {N : Nat} {adr : Nat → Nat} {G : Nat → va_E} {k n j : Nat} {f : Nat → Int32} {i : Int32} {v : Int32} (h : cx l D R own cc nL Γ) (d : decode cc pc = .ok (.iaload, 1)) (hk : k < N) (hg : G k = aI D n f) (hi : ix i j n) (hv : f j = v) (k_ : SX Γ ce sl (pc + 1) lv (.int v :: st) N adr G) : SX Γ ce sl pc lv (.int i :: .ref (adr k) :: st) N adr G := by
  obtain ⟨p, l', e, R', s, m, args, below, meth, c, D', A, Q, nL'⟩ := Γ
  obtain ⟨rfl, rfl, rfl, rfl, hx, hb, hml, hown, hts, hnw, hK, hA, hlk⟩ := h
  intro H locs ls hP hD hS hl
  have hj := hi.2.1
  subst hj
  subst hv
  exact va_iald hx hb hK hP k 0 (wl_get hk hg) rfl (ix_in hi) d (k_ H locs ls hP hD hS hl)
theorem s_lald {l : Launch} {D : va_G} {R : Room} {own : String} {cc : ByteArray} {nL : Nat} {Γ : GT} {ce sl pc : Nat} {lv : List (Nat × Value)} {st : List Value} {N : Nat} {adr : Nat → Nat} {G : Nat → va_E} {k n j : Nat} {f : Nat → Int64} {i : Int32} {v : Int64} (h : cx l D R own cc nL Γ) (d : decode cc pc = .ok (.laload, 1)) (hk : k < N) (hg : G k = aJ D n f) (hi : ix i j n) (hv : f j = v) (k_ : SX Γ ce sl (pc + 1) lv (.long v :: st) N adr G) : SX Γ ce sl pc lv (.int i :: .ref (adr k) :: st) N adr G := by
  obtain ⟨p, l', e, R', s, m, args, below, meth, c, D', A, Q, nL'⟩ := Γ
  obtain ⟨rfl, rfl, rfl, rfl, hx, hb, hml, hown, hts, hnw, hK, hA, hlk⟩ := h
  intro H locs ls hP hD hS hl
  have hj := hi.2.1
  subst hj
  subst hv
  exact va_lald hx hb hK hP k 1 (wl_get hk hg) rfl (ix_in hi) d (k_ H locs ls hP hD hS hl)
theorem s_zald {l : Launch} {D : va_G} {R : Room} {own : String} {cc : ByteArray} {nL : Nat} {Γ : GT} {ce sl pc : Nat} {lv : List (Nat × Value)} {st : List Value} {N : Nat} {adr : Nat → Nat} {G : Nat → va_E} {k n j : Nat} {f : Nat → Int32} {i : Int32} {v : Int32} (h : cx l D R own cc nL Γ) (d : decode cc pc = .ok (.baload, 1)) (hk : k < N) (hg : G k = aZ D n f) (hi : ix i j n) (hv : f j = v) (k_ : SX Γ ce sl (pc + 1) lv (.int v :: st) N adr G) : SX Γ ce sl pc lv (.int i :: .ref (adr k) :: st) N adr G := by
  obtain ⟨p, l', e, R', s, m, args, below, meth, c, D', A, Q, nL'⟩ := Γ
  obtain ⟨rfl, rfl, rfl, rfl, hx, hb, hml, hown, hts, hnw, hK, hA, hlk⟩ := h
  intro H locs ls hP hD hS hl
  have hj := hi.2.1
  subst hj
  subst hv
  exact va_zald hx hb hK hP k 2 (wl_get hk hg) rfl (ix_in hi) d (k_ H locs ls hP hD hS hl)
theorem s_aaldP {l : Launch} {D : va_G} {R : Room} {own : String} {cc : ByteArray} {nL : Nat} {Γ : GT} {ce sl pc : Nat} {lv : List (Nat × Value)} {st : List Value} {N : Nat} {adr : Nat → Nat} {G : Nat → va_E} {k n j : Nat} {f : Nat → Option Nat} {i : Int32} {v : Option Nat} (h : cx l D R own cc nL Γ) (d : decode cc pc = .ok (.aaload, 1)) (hk : k < N) (hg : G k = aP D n f) (hi : ix i j n) (hv : f j = v) (k_ : SX Γ ce sl (pc + 1) lv (va_rf v :: st) N adr G) : SX Γ ce sl pc lv (.int i :: .ref (adr k) :: st) N adr G := by
  obtain ⟨p, l', e, R', s, m, args, below, meth, c, D', A, Q, nL'⟩ := Γ
  obtain ⟨rfl, rfl, rfl, rfl, hx, hb, hml, hown, hts, hnw, hK, hA, hlk⟩ := h
  intro H locs ls hP hD hS hl
  have hj := hi.2.1
  subst hj
  subst hv
  exact va_aldq hx hb hK hP k 3 (wl_get hk hg) rfl (ix_in hi) d (k_ H locs ls hP hD hS hl)
theorem s_aaldS {l : Launch} {D : va_G} {R : Room} {own : String} {cc : ByteArray} {nL : Nat} {Γ : GT} {ce sl pc : Nat} {lv : List (Nat × Value)} {st : List Value} {N : Nat} {adr : Nat → Nat} {G : Nat → va_E} {k n j : Nat} {f : Nat → Option Nat} {i : Int32} {v : Option Nat} (h : cx l D R own cc nL Γ) (d : decode cc pc = .ok (.aaload, 1)) (hk : k < N) (hg : G k = aS D n f) (hi : ix i j n) (hv : f j = v) (k_ : SX Γ ce sl (pc + 1) lv (va_rf v :: st) N adr G) : SX Γ ce sl pc lv (.int i :: .ref (adr k) :: st) N adr G := by
  obtain ⟨p, l', e, R', s, m, args, below, meth, c, D', A, Q, nL'⟩ := Γ
  obtain ⟨rfl, rfl, rfl, rfl, hx, hb, hml, hown, hts, hnw, hK, hA, hlk⟩ := h
  intro H locs ls hP hD hS hl
  have hj := hi.2.1
  subst hj
  subst hv
  exact va_aldq hx hb hK hP k 4 (wl_get hk hg) rfl (ix_in hi) d (k_ H locs ls hP hD hS hl)
theorem s_aaldT {l : Launch} {D : va_G} {R : Room} {own : String} {cc : ByteArray} {nL : Nat} {Γ : GT} {ce sl pc : Nat} {lv : List (Nat × Value)} {st : List Value} {N : Nat} {adr : Nat → Nat} {G : Nat → va_E} {k n j : Nat} {f : Nat → Option Nat} {i : Int32} {v : Option Nat} (h : cx l D R own cc nL Γ) (d : decode cc pc = .ok (.aaload, 1)) (hk : k < N) (hg : G k = aT D n f) (hi : ix i j n) (hv : f j = v) (k_ : SX Γ ce sl (pc + 1) lv (va_rf v :: st) N adr G) : SX Γ ce sl pc lv (.int i :: .ref (adr k) :: st) N adr G := by
  obtain ⟨p, l', e, R', s, m, args, below, meth, c, D', A, Q, nL'⟩ := Γ
  obtain ⟨rfl, rfl, rfl, rfl, hx, hb, hml, hown, hts, hnw, hK, hA, hlk⟩ := h
  intro H locs ls hP hD hS hl
  have hj := hi.2.1
  subst hj
  subst hv
  exact va_aldq hx hb hK hP k 5 (wl_get hk hg) rfl (ix_in hi) d (k_ H locs ls hP hD hS hl)
theorem s_iast {l : Launch} {D : va_G} {R : Room} {own : String} {cc : ByteArray} {nL : Nat} {Γ : GT} {ce sl pc : Nat} {lv : List (Nat × Value)} {st : List Value} {N : Nat} {adr : Nat → Nat} {G : Nat → va_E} {k n j : Nat} {f : Nat → Int32} {i : Int32} {x : Int32} (h : cx l D R own cc nL Γ) (d : decode cc pc = .ok (.iastore, 1)) (hk : k < N) (hg : G k = aI D n f) (hi : ix i j n) (k_ : SX Γ ce sl (pc + 1) lv st N adr (va_up G k (aI D n (upd f j x)))) : SX Γ ce sl pc lv (.int x :: .int i :: .ref (adr k) :: st) N adr G := by
  obtain ⟨p, l', e, R', s, m, args, below, meth, c, D', A, Q, nL'⟩ := Γ
  obtain ⟨rfl, rfl, rfl, rfl, hx, hb, hml, hown, hts, hnw, hK, hA, hlk⟩ := h
  intro H locs ls hP hD hS hl
  have hj := hi.2.1
  subst hj
  refine va_iast hx hb hK hP hD hS k 0 (wl_get hk hg) rfl (ix_in hi) d (fun H1 locs1 hP1 hD1 hS1 => ?_)
  rw [wl_set] at hP1 hD1
  exact k_ H1 locs1 ls hP1 hD1 hS1 hl
theorem s_last {l : Launch} {D : va_G} {R : Room} {own : String} {cc : ByteArray} {nL : Nat} {Γ : GT} {ce sl pc : Nat} {lv : List (Nat × Value)} {st : List Value} {N : Nat} {adr : Nat → Nat} {G : Nat → va_E} {k n j : Nat} {f : Nat → Int64} {i : Int32} {x : Int64} (h : cx l D R own cc nL Γ) (d : decode cc pc = .ok (.lastore, 1)) (hk : k < N) (hg : G k = aJ D n f) (hi : ix i j n) (k_ : SX Γ ce sl (pc + 1) lv st N adr (va_up G k (aJ D n (vp_updL f j x)))) : SX Γ ce sl pc lv (.long x :: .int i :: .ref (adr k) :: st) N adr G := by
  obtain ⟨p, l', e, R', s, m, args, below, meth, c, D', A, Q, nL'⟩ := Γ
  obtain ⟨rfl, rfl, rfl, rfl, hx, hb, hml, hown, hts, hnw, hK, hA, hlk⟩ := h
  intro H locs ls hP hD hS hl
  have hj := hi.2.1
  subst hj
  refine va_last hx hb hK hP hD hS k 1 (wl_get hk hg) rfl (ix_in hi) d (fun H1 locs1 hP1 hD1 hS1 => ?_)
  rw [wl_set] at hP1 hD1
  exact k_ H1 locs1 ls hP1 hD1 hS1 hl
theorem s_zast {l : Launch} {D : va_G} {R : Room} {own : String} {cc : ByteArray} {nL : Nat} {Γ : GT} {ce sl pc : Nat} {lv : List (Nat × Value)} {st : List Value} {N : Nat} {adr : Nat → Nat} {G : Nat → va_E} {k n j : Nat} {f : Nat → Int32} {i : Int32} {x : Int32} (h : cx l D R own cc nL Γ) (d : decode cc pc = .ok (.bastore, 1)) (hk : k < N) (hg : G k = aZ D n f) (hi : ix i j n) (hx01 : vp_nar .boolean x = x) (k_ : SX Γ ce sl (pc + 1) lv st N adr (va_up G k (aZ D n (upd f j x)))) : SX Γ ce sl pc lv (.int x :: .int i :: .ref (adr k) :: st) N adr G := by
  obtain ⟨p, l', e, R', s, m, args, below, meth, c, D', A, Q, nL'⟩ := Γ
  obtain ⟨rfl, rfl, rfl, rfl, hx, hb, hml, hown, hts, hnw, hK, hA, hlk⟩ := h
  intro H locs ls hP hD hS hl
  have hj := hi.2.1
  subst hj
  refine va_zast hx hb hK hP hD hS k 2 (wl_get hk hg) rfl (ix_in hi) d (fun H1 locs1 hP1 hD1 hS1 => ?_)
  rw [hx01, wl_set] at hP1 hD1
  exact k_ H1 locs1 ls hP1 hD1 hS1 hl
theorem s_aastP {l : Launch} {D : va_G} {R : Room} {own : String} {cc : ByteArray} {nL : Nat} {Γ : GT} {ce sl pc : Nat} {lv : List (Nat × Value)} {st : List Value} {N : Nat} {adr : Nat → Nat} {G : Nat → va_E} {k k2 n j : Nat} {f : Nat → Option Nat} {i : Int32} {vs : List Value} (h : cx l D R own cc nL Γ) (d : decode cc pc = .ok (.aastore, 1)) (hk : k < N) (hg : G k = aP D n f) (hk2 : k2 < N) (hg2 : G k2 = .inr (2, vs)) (hi : ix i j n) (k_ : SX Γ ce sl (pc + 1) lv st N adr (va_up G k (aP D n (va_up f j (some (adr k2)))))) : SX Γ ce sl pc lv (.ref (adr k2) :: .int i :: .ref (adr k) :: st) N adr G := by
  obtain ⟨p, l', e, R', s, m, args, below, meth, c, D', A, Q, nL'⟩ := Γ
  obtain ⟨rfl, rfl, rfl, rfl, hx, hb, hml, hown, hts, hnw, hK, hA, hlk⟩ := h
  intro H locs ls hP hD hS hl
  have hj := hi.2.1
  subst hj
  refine va_astq hx hb hK hP hD hS k 3 k2 2 (r := (RX2, TX2, 2)) (wl_get hk hg) rfl (wl_get hk2 hg2) rfl (ix_in hi) d (fun H1 locs1 hP1 hD1 hS1 => ?_)
  rw [wl_set] at hP1 hD1
  exact k_ H1 locs1 ls hP1 hD1 hS1 hl
theorem s_aastS {l : Launch} {D : va_G} {R : Room} {own : String} {cc : ByteArray} {nL : Nat} {Γ : GT} {ce sl pc : Nat} {lv : List (Nat × Value)} {st : List Value} {N : Nat} {adr : Nat → Nat} {G : Nat → va_E} {k k2 n j : Nat} {f : Nat → Option Nat} {i : Int32} {vs : List Value} (h : cx l D R own cc nL Γ) (d : decode cc pc = .ok (.aastore, 1)) (hk : k < N) (hg : G k = aS D n f) (hk2 : k2 < N) (hg2 : G k2 = .inr (3, vs)) (hi : ix i j n) (k_ : SX Γ ce sl (pc + 1) lv st N adr (va_up G k (aS D n (va_up f j (some (adr k2)))))) : SX Γ ce sl pc lv (.ref (adr k2) :: .int i :: .ref (adr k) :: st) N adr G := by
  obtain ⟨p, l', e, R', s, m, args, below, meth, c, D', A, Q, nL'⟩ := Γ
  obtain ⟨rfl, rfl, rfl, rfl, hx, hb, hml, hown, hts, hnw, hK, hA, hlk⟩ := h
  intro H locs ls hP hD hS hl
  have hj := hi.2.1
  subst hj
  refine va_astq hx hb hK hP hD hS k 4 k2 3 (r := (RX3, TX3, 3)) (wl_get hk hg) rfl (wl_get hk2 hg2) rfl (ix_in hi) d (fun H1 locs1 hP1 hD1 hS1 => ?_)
  rw [wl_set] at hP1 hD1
  exact k_ H1 locs1 ls hP1 hD1 hS1 hl
theorem s_aastT {l : Launch} {D : va_G} {R : Room} {own : String} {cc : ByteArray} {nL : Nat} {Γ : GT} {ce sl pc : Nat} {lv : List (Nat × Value)} {st : List Value} {N : Nat} {adr : Nat → Nat} {G : Nat → va_E} {k k2 n j : Nat} {f : Nat → Option Nat} {i : Int32} {vs : List Value} (h : cx l D R own cc nL Γ) (d : decode cc pc = .ok (.aastore, 1)) (hk : k < N) (hg : G k = aT D n f) (hk2 : k2 < N) (hg2 : G k2 = .inr (5, vs)) (hi : ix i j n) (k_ : SX Γ ce sl (pc + 1) lv st N adr (va_up G k (aT D n (va_up f j (some (adr k2)))))) : SX Γ ce sl pc lv (.ref (adr k2) :: .int i :: .ref (adr k) :: st) N adr G := by
  obtain ⟨p, l', e, R', s, m, args, below, meth, c, D', A, Q, nL'⟩ := Γ
  obtain ⟨rfl, rfl, rfl, rfl, hx, hb, hml, hown, hts, hnw, hK, hA, hlk⟩ := h
  intro H locs ls hP hD hS hl
  have hj := hi.2.1
  subst hj
  refine va_astq hx hb hK hP hD hS k 5 k2 5 (r := (RX6, TX6, 4)) (wl_get hk hg) rfl (wl_get hk2 hg2) rfl (ix_in hi) d (fun H1 locs1 hP1 hD1 hS1 => ?_)
  rw [wl_set] at hP1 hD1
  exact k_ H1 locs1 ls hP1 hD1 hS1 hl
theorem s_alenI {l : Launch} {D : va_G} {R : Room} {own : String} {cc : ByteArray} {nL : Nat} {Γ : GT} {ce sl pc : Nat} {lv : List (Nat × Value)} {st : List Value} {N : Nat} {adr : Nat → Nat} {G : Nat → va_E} {k n : Nat} {f : Nat → Int32} {v : Int32} (h : cx l D R own cc nL Γ) (d : decode cc pc = .ok (.arraylength, 1)) (hk : k < N) (hg : G k = aI D n f) (hv : Int32.ofNat n = v) (k_ : SX Γ ce sl (pc + 1) lv (.int v :: st) N adr G) : SX Γ ce sl pc lv (.ref (adr k) :: st) N adr G := by
  obtain ⟨p, l', e, R', s, m, args, below, meth, c, D', A, Q, nL'⟩ := Γ
  obtain ⟨rfl, rfl, rfl, rfl, hx, hb, hml, hown, hts, hnw, hK, hA, hlk⟩ := h
  intro H locs ls hP hD hS hl
  exact va_alen hx hb hK hP k 0 (wl_get hk hg) rfl hv d (k_ H locs ls hP hD hS hl)
theorem s_alenJ {l : Launch} {D : va_G} {R : Room} {own : String} {cc : ByteArray} {nL : Nat} {Γ : GT} {ce sl pc : Nat} {lv : List (Nat × Value)} {st : List Value} {N : Nat} {adr : Nat → Nat} {G : Nat → va_E} {k n : Nat} {f : Nat → Int64} {v : Int32} (h : cx l D R own cc nL Γ) (d : decode cc pc = .ok (.arraylength, 1)) (hk : k < N) (hg : G k = aJ D n f) (hv : Int32.ofNat n = v) (k_ : SX Γ ce sl (pc + 1) lv (.int v :: st) N adr G) : SX Γ ce sl pc lv (.ref (adr k) :: st) N adr G := by
  obtain ⟨p, l', e, R', s, m, args, below, meth, c, D', A, Q, nL'⟩ := Γ
  obtain ⟨rfl, rfl, rfl, rfl, hx, hb, hml, hown, hts, hnw, hK, hA, hlk⟩ := h
  intro H locs ls hP hD hS hl
  exact va_alen hx hb hK hP k 1 (wl_get hk hg) rfl hv d (k_ H locs ls hP hD hS hl)
theorem s_alenZ {l : Launch} {D : va_G} {R : Room} {own : String} {cc : ByteArray} {nL : Nat} {Γ : GT} {ce sl pc : Nat} {lv : List (Nat × Value)} {st : List Value} {N : Nat} {adr : Nat → Nat} {G : Nat → va_E} {k n : Nat} {f : Nat → Int32} {v : Int32} (h : cx l D R own cc nL Γ) (d : decode cc pc = .ok (.arraylength, 1)) (hk : k < N) (hg : G k = aZ D n f) (hv : Int32.ofNat n = v) (k_ : SX Γ ce sl (pc + 1) lv (.int v :: st) N adr G) : SX Γ ce sl pc lv (.ref (adr k) :: st) N adr G := by
  obtain ⟨p, l', e, R', s, m, args, below, meth, c, D', A, Q, nL'⟩ := Γ
  obtain ⟨rfl, rfl, rfl, rfl, hx, hb, hml, hown, hts, hnw, hK, hA, hlk⟩ := h
  intro H locs ls hP hD hS hl
  exact va_alen hx hb hK hP k 2 (wl_get hk hg) rfl hv d (k_ H locs ls hP hD hS hl)
theorem s_alenP {l : Launch} {D : va_G} {R : Room} {own : String} {cc : ByteArray} {nL : Nat} {Γ : GT} {ce sl pc : Nat} {lv : List (Nat × Value)} {st : List Value} {N : Nat} {adr : Nat → Nat} {G : Nat → va_E} {k n : Nat} {f : Nat → Option Nat} {v : Int32} (h : cx l D R own cc nL Γ) (d : decode cc pc = .ok (.arraylength, 1)) (hk : k < N) (hg : G k = aP D n f) (hv : Int32.ofNat n = v) (k_ : SX Γ ce sl (pc + 1) lv (.int v :: st) N adr G) : SX Γ ce sl pc lv (.ref (adr k) :: st) N adr G := by
  obtain ⟨p, l', e, R', s, m, args, below, meth, c, D', A, Q, nL'⟩ := Γ
  obtain ⟨rfl, rfl, rfl, rfl, hx, hb, hml, hown, hts, hnw, hK, hA, hlk⟩ := h
  intro H locs ls hP hD hS hl
  exact va_alen hx hb hK hP k 3 (wl_get hk hg) rfl hv d (k_ H locs ls hP hD hS hl)
theorem s_alenS {l : Launch} {D : va_G} {R : Room} {own : String} {cc : ByteArray} {nL : Nat} {Γ : GT} {ce sl pc : Nat} {lv : List (Nat × Value)} {st : List Value} {N : Nat} {adr : Nat → Nat} {G : Nat → va_E} {k n : Nat} {f : Nat → Option Nat} {v : Int32} (h : cx l D R own cc nL Γ) (d : decode cc pc = .ok (.arraylength, 1)) (hk : k < N) (hg : G k = aS D n f) (hv : Int32.ofNat n = v) (k_ : SX Γ ce sl (pc + 1) lv (.int v :: st) N adr G) : SX Γ ce sl pc lv (.ref (adr k) :: st) N adr G := by
  obtain ⟨p, l', e, R', s, m, args, below, meth, c, D', A, Q, nL'⟩ := Γ
  obtain ⟨rfl, rfl, rfl, rfl, hx, hb, hml, hown, hts, hnw, hK, hA, hlk⟩ := h
  intro H locs ls hP hD hS hl
  exact va_alen hx hb hK hP k 4 (wl_get hk hg) rfl hv d (k_ H locs ls hP hD hS hl)
theorem s_alenT {l : Launch} {D : va_G} {R : Room} {own : String} {cc : ByteArray} {nL : Nat} {Γ : GT} {ce sl pc : Nat} {lv : List (Nat × Value)} {st : List Value} {N : Nat} {adr : Nat → Nat} {G : Nat → va_E} {k n : Nat} {f : Nat → Option Nat} {v : Int32} (h : cx l D R own cc nL Γ) (d : decode cc pc = .ok (.arraylength, 1)) (hk : k < N) (hg : G k = aT D n f) (hv : Int32.ofNat n = v) (k_ : SX Γ ce sl (pc + 1) lv (.int v :: st) N adr G) : SX Γ ce sl pc lv (.ref (adr k) :: st) N adr G := by
  obtain ⟨p, l', e, R', s, m, args, below, meth, c, D', A, Q, nL'⟩ := Γ
  obtain ⟨rfl, rfl, rfl, rfl, hx, hb, hml, hown, hts, hnw, hK, hA, hlk⟩ := h
  intro H locs ls hP hD hS hl
  exact va_alen hx hb hK hP k 5 (wl_get hk hg) rfl hv d (k_ H locs ls hP hD hS hl)
theorem s_get {l : Launch} {D : va_G} {R : Room} {own : String} {cc : ByteArray} {nL : Nat} {Γ : GT} {ce sl pc : Nat} {lv : List (Nat × Value)} {st : List Value} {N : Nat} {adr : Nat → Nat} {G : Nat → va_E} {ref C : String} {T : u_T} {Nf ci index k j : Nat} {fs : List Value} {v : Value} (h : cx l D R own cc nL Γ) (hin : ∀ w ∈ u_ws C T Nf, w ∈ TT) (hc : vwCl[ci]? = some (C, T, Nf)) (hj : j < Nf) (hlink : Cond.fieldLink own index ref (T j).2.1 (T j).2.2.1 ∈ TT) (href : (T j).1 = ref) (hk : k < N) (hg : G k = .inr (ci, fs)) (hv : fs[j]? = some v) (d : decode cc pc = .ok (.getfield index, 3)) (k_ : SX Γ ce sl (pc + 3) lv (v :: st) N adr G) : SX Γ ce sl pc lv (.ref (adr k) :: st) N adr G := by
  obtain ⟨p, l', e, R', s, m, args, below, meth, c, D', A, Q, nL'⟩ := Γ
  obtain ⟨rfl, rfl, rfl, rfl, hx, hb, hml, hown, hts, hnw, hK, hA, hlk⟩ := h
  intro H locs ls hP hD hS hl
  subst href
  exact va_get hx hb hts hin hown hK hP k (wl_get hk hg) hc j hj (hts _ hlink) (fun _ h9 => h9) hv d (k_ H locs ls hP hD hS hl)
theorem s_getN {l : Launch} {D : va_G} {R : Room} {own : String} {cc : ByteArray} {nL : Nat} {Γ : GT} {ce sl pc : Nat} {lv : List (Nat × Value)} {st : List Value} {N : Nat} {adr : Nat → Nat} {G : Nat → va_E} {ref host C : String} {T : u_T} {Nf ci index k j : Nat} {fs : List Value} {v : Value} (h : cx l D R own cc nL Γ) (hin : ∀ w ∈ u_ws C T Nf, w ∈ TT) (hc : vwCl[ci]? = some (C, T, Nf)) (hj : j < Nf) (hlink : Cond.fieldLinkNest own index ref (T j).2.1 (T j).2.2.1 host ∈ NW) (href : (T j).1 = ref) (hk : k < N) (hg : G k = .inr (ci, fs)) (hv : fs[j]? = some v) (d : decode cc pc = .ok (.getfield index, 3)) (k_ : SX Γ ce sl (pc + 3) lv (v :: st) N adr G) : SX Γ ce sl pc lv (.ref (adr k) :: st) N adr G := by
  obtain ⟨p, l', e, R', s, m, args, below, meth, c, D', A, Q, nL'⟩ := Γ
  obtain ⟨rfl, rfl, rfl, rfl, hx, hb, hml, hown, hts, hnw, hK, hA, hlk⟩ := h
  intro H locs ls hP hD hS hl
  subst href
  exact va_getN hx hb hts hin hown hK hP k (wl_get hk hg) hc j hj (va_Nw.use rfl (hnw _ hlink)) (fun _ h9 => h9) hv d (k_ H locs ls hP hD hS hl)
theorem s_put {l : Launch} {D : va_G} {R : Room} {own : String} {cc : ByteArray} {nL : Nat} {Γ : GT} {ce sl pc : Nat} {lv : List (Nat × Value)} {st : List Value} {N : Nat} {adr : Nat → Nat} {G : Nat → va_E} {ref C : String} {T : u_T} {Nf ci index k j : Nat} {fs : List Value} {v : Value} {ty0 : Nat → FieldType} {ty : FieldType} (h : cx l D R own cc nL Γ) (hin : ∀ w ∈ u_ws C T Nf, w ∈ TT) (hty : ∀ k, k < Nf → parseFieldDescriptor (T k).2.2.1 = some (ty0 k)) (hnm : ∀ a, a < Nf → ∀ b, b < Nf → a ≠ b → (T a).2.1 ≠ (T b).2.1) (hc : vwCl[ci]? = some (C, T, Nf)) (hj : j < Nf) (hlink : Cond.fieldLink own index ref (T j).2.1 (T j).2.2.1 ∈ TT) (href : (T j).1 = ref) (hfin : (T j).2.2.2 = false) (hd : parseFieldDescriptor (T j).2.2.1 = some ty) (hn : narrow ty v = v) (hfit : fits ty v = true) (hl9 : j < fs.length) (hk : k < N) (hg : G k = .inr (ci, fs)) (d : decode cc pc = .ok (.putfield index, 3)) (k_ : SX Γ ce sl (pc + 3) lv st N adr (va_up G k (.inr (ci, fs.set j v)))) : SX Γ ce sl pc lv (v :: .ref (adr k) :: st) N adr G := by
  obtain ⟨p, l', e, R', s, m, args, below, meth, c, D', A, Q, nL'⟩ := Γ
  obtain ⟨rfl, rfl, rfl, rfl, hx, hb, hml, hown, hts, hnw, hK, hA, hlk⟩ := h
  intro H locs ls hP hD hS hl
  subst href
  refine va_put hx hb hts hin ty0 hty hnm hown hK hP hD hS k (wl_get hk hg) hc j hj (hts _ hlink) (fun _ h9 => h9) hfin hd hn hfit hl9 d (fun H1 locs1 hP1 hD1 hS1 => ?_)
  rw [wl_set] at hP1 hD1
  exact k_ H1 locs1 ls hP1 hD1 hS1 hl
theorem s_putN {l : Launch} {D : va_G} {R : Room} {own : String} {cc : ByteArray} {nL : Nat} {Γ : GT} {ce sl pc : Nat} {lv : List (Nat × Value)} {st : List Value} {N : Nat} {adr : Nat → Nat} {G : Nat → va_E} {ref host C : String} {T : u_T} {Nf ci index k j : Nat} {fs : List Value} {v : Value} {ty0 : Nat → FieldType} {ty : FieldType} (h : cx l D R own cc nL Γ) (hin : ∀ w ∈ u_ws C T Nf, w ∈ TT) (hty : ∀ k, k < Nf → parseFieldDescriptor (T k).2.2.1 = some (ty0 k)) (hnm : ∀ a, a < Nf → ∀ b, b < Nf → a ≠ b → (T a).2.1 ≠ (T b).2.1) (hc : vwCl[ci]? = some (C, T, Nf)) (hj : j < Nf) (hlink : Cond.fieldLinkNest own index ref (T j).2.1 (T j).2.2.1 host ∈ NW) (href : (T j).1 = ref) (hfin : (T j).2.2.2 = false) (hd : parseFieldDescriptor (T j).2.2.1 = some ty) (hn : narrow ty v = v) (hfit : fits ty v = true) (hl9 : j < fs.length) (hk : k < N) (hg : G k = .inr (ci, fs)) (d : decode cc pc = .ok (.putfield index, 3)) (k_ : SX Γ ce sl (pc + 3) lv st N adr (va_up G k (.inr (ci, fs.set j v)))) : SX Γ ce sl pc lv (v :: .ref (adr k) :: st) N adr G := by
  obtain ⟨p, l', e, R', s, m, args, below, meth, c, D', A, Q, nL'⟩ := Γ
  obtain ⟨rfl, rfl, rfl, rfl, hx, hb, hml, hown, hts, hnw, hK, hA, hlk⟩ := h
  intro H locs ls hP hD hS hl
  subst href
  refine va_putN hx hb hts hin ty0 hty hnm hown hK hP hD hS k (wl_get hk hg) hc j hj (va_Nw.use rfl (hnw _ hlink)) (fun _ h9 => h9) hfin hd hn hfit hl9 d (fun H1 locs1 hP1 hD1 hS1 => ?_)
  rw [wl_set] at hP1 hD1
  exact k_ H1 locs1 ls hP1 hD1 hS1 hl
theorem s_putF {l : Launch} {D : va_G} {R : Room} {own : String} {cc : ByteArray} {nL : Nat} {Γ : GT} {ce sl pc : Nat} {lv : List (Nat × Value)} {st : List Value} {N : Nat} {adr : Nat → Nat} {G : Nat → va_E} {ref C : String} {T : u_T} {Nf ci index k j mc ms : Nat} {fs : List Value} {v : Value} {ty0 : Nat → FieldType} {ty : FieldType} {ret : Option FieldType} {P : PT} (h : cx l D R own cc nL Γ) (he : ex "<init>" ret P mc ms Γ) (hin : ∀ w ∈ u_ws C T Nf, w ∈ TT) (hty : ∀ k, k < Nf → parseFieldDescriptor (T k).2.2.1 = some (ty0 k)) (hnm : ∀ a, a < Nf → ∀ b, b < Nf → a ≠ b → (T a).2.1 ≠ (T b).2.1) (hc : vwCl[ci]? = some (C, T, Nf)) (hj : j < Nf) (hlink : Cond.fieldLink own index ref (T j).2.1 (T j).2.2.1 ∈ TT) (href : (T j).1 = ref) (hown2 : ref = own) (hfin : (T j).2.2.2 = true) (hd : parseFieldDescriptor (T j).2.2.1 = some ty) (hn : narrow ty v = v) (hfit : fits ty v = true) (hl9 : j < fs.length) (hk : k < N) (hg : G k = .inr (ci, fs)) (d : decode cc pc = .ok (.putfield index, 3)) (k_ : SX Γ ce sl (pc + 3) lv st N adr (va_up G k (.inr (ci, fs.set j v)))) : SX Γ ce sl pc lv (v :: .ref (adr k) :: st) N adr G := by
  obtain ⟨p, l', e, R', s, m, args, below, meth, c, D', A, Q, nL'⟩ := Γ
  obtain ⟨rfl, rfl, rfl, rfl, hx, hb, hml, hown, hts, hnw, hK, hA, hlk⟩ := h
  intro H locs ls hP hD hS hl
  subst href
  refine va_putF hx hb hts hin ty0 hty hnm hown hK hP hD hS k (wl_get hk hg) hc j hj (hts _ hlink) (fun _ h9 => h9) hfin he.1 hown2 hd hn hfit hl9 d (fun H1 locs1 hP1 hD1 hS1 => ?_)
  rw [wl_set] at hP1 hD1
  exact k_ H1 locs1 ls hP1 hD1 hS1 hl
theorem nw_same {w : Cond} (hi : isNW w = true) {u U : State} (hv : u.vm = U.vm) (h : va_Nw w u) : va_Nw w U := by
  unfold isNW at hi
  split at hi
  · exact va_Nw.same rfl hv h
  · exact va_Nw.same rfl hv h
  · exact va_AO.moved (by rw [hv]; exact Vm.Alike.refl _) h
  · cases hi
theorem blind {D : va_G} {av : List Value} {sz N : Nat} {adr : Nat → Nat} {G : Nat → va_E} : FrameBlind (va_Pc av (fun U => U.heap.size = sz ∧ va_P D vwCl (wl N adr G) U.heap ∧ kk D U ∧ va_D (fun _ => True) (wl N adr G))) := by
  intro a U g mk q
  obtain ⟨q0, q1, qP, qK, qD⟩ := q
  exact ⟨q0, q1, qP, ⟨va_K.moved (u := U) (U := U.calling g mk a) (Vm.Alike.refl U.vm) qK.1, fun w hw => nw_same (nw_is hw) (u := U) (U := U.calling g mk a) rfl (qK.2 w hw)⟩, qD⟩
theorem call_core {p : Program} {l : Launch} {e : Env} {R : Room} {s : State} {m : MethodId} {args : Array Value} {below : List Frame} {meth : Method} {c : Code} {D : va_G} {A : Nat → Prop} {Q : State → Prop} {H : Heap} {locs : List Loc} {ls : Array Slot} {ce sl mc ms pc nL : Nat} {st0 rest : List Value} {P : PT} {N : Nat} {adr : Nat → Nat} {G : Nat → va_E} {lv : List (Nat × Value)} {a : Array Value}
    (hr : va_Run p l e R s m args below meth c H locs ce sl mc ms (F0 m pc ls st0) rest (QP P D (va_A (wl N adr G) H.size) a) (va_A (wl N adr G) H.size)) (hD : va_D A (wl N adr G)) (hS : va_S A s.heap H locs) (hA : ∀ q, s.heap.size ≤ q → A q) (hl : lv_has ls nL lv)
    (k_ : ∀ v N' adr' G', P v N' adr' G' → SX (p, l, e, R, s, m, args, below, meth, c, D, A, Q, nL) (ce + mc) (sl + ms) (pc + 3) lv (v.toList ++ rest) N' adr' G') : W p l e R s m args below meth c H locs ce sl Q (F0 m pc ls st0) := by
  have hF : ∀ q, va_A (wl N adr G) H.size q → A q := by
    intro q h
    rcases h with ⟨k, e, h⟩ | h
    · exact hD.2 k (q, e) h
    · exact hA q (Nat.le_trans hS.1 h)
  intro T hT X
  obtain ⟨v, st₀, t, T', L, h0, X', hL, e1, e2, ⟨⟨v', N', adr', G', hv, hp, hP1, hD1⟩, hz, hk⟩, st⟩ := hr T hT X
  cases hv
  rw [h0] at hz hk
  have hS' : va_S A s.heap T'.heap (locs ++ L) := ⟨Nat.le_trans hS.1 (by rw [e1]; exact hz), fun q h1 h2 => by rw [e1, hk q (Nat.lt_of_lt_of_le h1 hS.1) (fun z => h2 (hF q z))]; exact hS.2.1 q h1 h2, fun q hq => by
      rcases List.mem_append.mp hq with h | h
      · exact hS.2.2 q h
      · exact hF _ (hL q h)⟩
  obtain ⟨t2, a1, b1⟩ := k_ v N' adr' G' hp T'.heap (locs ++ L) ls (by rw [e1]; exact hP1) (hD1.weaken (fun _ q _ h => hF q.1 h)) hS' hl T' rfl X'
  exact ⟨t2, st t2 a1, b1⟩
theorem s_callV {l : Launch} {D : va_G} {R : Room} {own : String} {cc : ByteArray} {nL : Nat} {Γ : GT} {ce sl pc : Nat} {lv : List (Nat × Value)} {st : List Value} {N : Nat} {adr : Nat → Nat} {G : Nat → va_E} {y : MethodName} {bs : ByteArray} {mL index n k ci : Nat} {ret : Option FieldType} {rm : Room} {P : PT} {av : List Value} {r : vw_C} {fs : List Value} (h : cx l D R own cc nL Γ) (C0 : CT l D y bs mL ret rm (.ref (adr k) :: av) N adr G P)
    (hw1 : Cond.methodLink own index y ∈ TT) (hw2 : Cond.instanceMethod y ∈ TT) (hw3 : Cond.selects y.cls y y ∈ TT) (hw4 : Cond.code y bs mL ret ∈ TT) (hw5 : Cond.initialized y.cls ∈ TT) (hd : y.cls ≠ "java/lang/invoke/MethodHandle" ∧ y.cls ≠ "java/lang/invoke/VarHandle" ∧ (parseMethodDescriptor y.desc).map (fun d => d.parameters.length) = some n) (hn : av.length = n)
    (hk : k < N) (hg : G k = .inr (ci, fs)) (hc : vwCl[ci]? = some r) (hcls : r.1 = y.cls) (hR : rm.frames + 1 ≤ R.frames ∧ 8 + (mL + 11) + rm.locals ≤ R.locals) (hf : ce + rm.cells ≤ R.cells ∧ sl + rm.slots ≤ R.slots) (hcat : (st.map fun v => v.category).sum ≤ 8) (d : decode cc pc = .ok (.invokevirtual index, 3))
    (k_ : ∀ v N' adr' G', P v N' adr' G' → SX Γ (ce + rm.cells) (sl + rm.slots) (pc + 3) lv (v.toList ++ st) N' adr' G') : SX Γ ce sl pc lv (av.reverse ++ .ref (adr k) :: st) N adr G := by
  obtain ⟨p, l', e, R', s, m, args, below, meth, c, D', A, Q, nL'⟩ := Γ
  obtain ⟨rfl, rfl, rfl, rfl, hx, hb, hml, hown, hts, hnw, hK, hA, hlk⟩ := h
  intro H locs ls hP hD hS hl
  refine call_core (mc := rm.cells) (ms := rm.slots) (rest := st) (va_runV (nL := nL') (own := own) (Ts := TT) (ret := ret) (bytes := bs) (maxL := mL) (C := y.cls) ⟨hx, hb, hml, hown, hts⟩ (C0 H.size) ⟨⟨rfl, rfl, hR.1, hR.2, pay_in hts (tt_good hw4), List.mem_cons_self, hts _ hw4, hts _ hw5, ⟨hd.1, hd.2.1⟩, fun sig h9 => ?_, hts _ hw1⟩, hts _ hw2, hts _ hw3⟩ ⟨blind, ?_, fun U hU hW => ⟨rfl, by rw [hU], by rw [hU]; exact hP, kk_warm hW hK hnw, hD.weaken (fun _ _ _ _ => trivial)⟩⟩ rfl hn hl.1 rfl (lv_room hcat) d hf) hD hS hA hl k_
  · have h2 := hd.2.2
    rw [h9] at h2
    exact (Option.some.inj h2).symm
  · obtain ⟨cell, g1, g2, g3⟩ := va_recv hK hP hc (wl_get hk hg)
    exact ⟨cell, g1, g2, by rw [← hcls]; exact g3⟩
theorem s_callVN {l : Launch} {D : va_G} {R : Room} {own : String} {cc : ByteArray} {nL : Nat} {Γ : GT} {ce sl pc : Nat} {lv : List (Nat × Value)} {st : List Value} {N : Nat} {adr : Nat → Nat} {G : Nat → va_E} {y : MethodName} {bs : ByteArray} {mL index n k ci : Nat} {host : String} {ret : Option FieldType} {rm : Room} {P : PT} {av : List Value} {r : vw_C} {fs : List Value} (h : cx l D R own cc nL Γ) (C0 : CT l D y bs mL ret rm (.ref (adr k) :: av) N adr G P)
    (hw1 : Cond.methodLinkNest own index y host ∈ NW) (hw2 : Cond.instanceMethod y ∈ TT) (hw3 : Cond.selects y.cls y y ∈ TT) (hw4 : Cond.code y bs mL ret ∈ TT) (hw5 : Cond.initialized y.cls ∈ TT) (hd : y.cls ≠ "java/lang/invoke/MethodHandle" ∧ y.cls ≠ "java/lang/invoke/VarHandle" ∧ (parseMethodDescriptor y.desc).map (fun d => d.parameters.length) = some n) (hn : av.length = n)
    (hk : k < N) (hg : G k = .inr (ci, fs)) (hc : vwCl[ci]? = some r) (hcls : r.1 = y.cls) (hR : rm.frames + 1 ≤ R.frames ∧ 8 + (mL + 11) + rm.locals ≤ R.locals) (hf : ce + rm.cells ≤ R.cells ∧ sl + rm.slots ≤ R.slots) (hcat : (st.map fun v => v.category).sum ≤ 8) (d : decode cc pc = .ok (.invokevirtual index, 3))
    (k_ : ∀ v N' adr' G', P v N' adr' G' → SX Γ (ce + rm.cells) (sl + rm.slots) (pc + 3) lv (v.toList ++ st) N' adr' G') : SX Γ ce sl pc lv (av.reverse ++ .ref (adr k) :: st) N adr G := by
  obtain ⟨p, l', e, R', s, m, args, below, meth, c, D', A, Q, nL'⟩ := Γ
  obtain ⟨rfl, rfl, rfl, rfl, hx, hb, hml, hown, hts, hnw, hK, hA, hlk⟩ := h
  intro H locs ls hP hD hS hl
  refine call_core (mc := rm.cells) (ms := rm.slots) (rest := st) (va_runVN (nL := nL') (own := own) (Ts := TT) (ret := ret) (bytes := bs) (maxL := mL) (C := y.cls) ⟨hx, hb, hml, hown, hts⟩ (C0 H.size) ⟨⟨⟨rfl, rfl, hR.1, hR.2, pay_in hts (tt_good hw4), List.mem_cons_self⟩, hts _ hw4, hts _ hw5, ⟨hd.1, hd.2.1⟩, fun sig h9 => ?_, va_Nw.use rfl (hnw _ hw1)⟩, hts _ hw2, hts _ hw3⟩ ⟨blind, ?_, fun U hU hW => ⟨rfl, by rw [hU], by rw [hU]; exact hP, kk_warm hW hK hnw, hD.weaken (fun _ _ _ _ => trivial)⟩⟩ rfl hn hl.1 rfl (lv_room hcat) d hf) hD hS hA hl k_
  · have h2 := hd.2.2
    rw [h9] at h2
    exact (Option.some.inj h2).symm
  · obtain ⟨cell, g1, g2, g3⟩ := va_recv hK hP hc (wl_get hk hg)
    exact ⟨cell, g1, g2, by rw [← hcls]; exact g3⟩
theorem s_callS {l : Launch} {D : va_G} {R : Room} {own : String} {cc : ByteArray} {nL : Nat} {Γ : GT} {ce sl pc : Nat} {lv : List (Nat × Value)} {st : List Value} {N : Nat} {adr : Nat → Nat} {G : Nat → va_E} {y : MethodName} {bs : ByteArray} {mL index n : Nat} {ret : Option FieldType} {rm : Room} {P : PT} {av : List Value} (h : cx l D R own cc nL Γ) (C0 : CT l D y bs mL ret rm av N adr G P)
    (hw1 : Cond.methodLink own index y ∈ TT) (hw2 : Cond.static y ∈ TT) (hw4 : Cond.code y bs mL ret ∈ TT) (hw5 : Cond.initialized y.cls ∈ TT) (hd : y.cls ≠ "java/lang/invoke/MethodHandle" ∧ y.cls ≠ "java/lang/invoke/VarHandle" ∧ (parseMethodDescriptor y.desc).map (fun d => d.parameters.length) = some n) (hn : av.length = n)
    (hR : rm.frames + 1 ≤ R.frames ∧ 8 + (mL + 11) + rm.locals ≤ R.locals) (hf : ce + rm.cells ≤ R.cells ∧ sl + rm.slots ≤ R.slots) (hcat : (st.map fun v => v.category).sum ≤ 8) (d : decode cc pc = .ok (.invokestatic index, 3))
    (k_ : ∀ v N' adr' G', P v N' adr' G' → SX Γ (ce + rm.cells) (sl + rm.slots) (pc + 3) lv (v.toList ++ st) N' adr' G') : SX Γ ce sl pc lv (av.reverse ++ st) N adr G := by
  obtain ⟨p, l', e, R', s, m, args, below, meth, c, D', A, Q, nL'⟩ := Γ
  obtain ⟨rfl, rfl, rfl, rfl, hx, hb, hml, hown, hts, hnw, hK, hA, hlk⟩ := h
  intro H locs ls hP hD hS hl
  refine call_core (mc := rm.cells) (ms := rm.slots) (rest := st) (va_runS (nL := nL') (own := own) (Ts := TT) (ret := ret) (bytes := bs) (maxL := mL) ⟨hx, hb, hml, hown, hts⟩ (C0 H.size) ⟨⟨rfl, rfl, hR.1, hR.2, pay_in hts (tt_good hw4), List.mem_cons_self, hts _ hw4, hts _ hw5, ⟨hd.1, hd.2.1⟩, fun sig h9 => ?_, hts _ hw1⟩, hts _ hw2⟩ ⟨blind, fun U hU hW => ⟨rfl, by rw [hU], by rw [hU]; exact hP, kk_warm hW hK hnw, hD.weaken (fun _ _ _ _ => trivial)⟩⟩ rfl hn hl.1 rfl (lv_room hcat) d hf) hD hS hA hl k_
  have h2 := hd.2.2
  rw [h9] at h2
  exact (Option.some.inj h2).symm
theorem s_callSN {l : Launch} {D : va_G} {R : Room} {own : String} {cc : ByteArray} {nL : Nat} {Γ : GT} {ce sl pc : Nat} {lv : List (Nat × Value)} {st : List Value} {N : Nat} {adr : Nat → Nat} {G : Nat → va_E} {y : MethodName} {bs : ByteArray} {mL index n : Nat} {host : String} {ret : Option FieldType} {rm : Room} {P : PT} {av : List Value} (h : cx l D R own cc nL Γ) (C0 : CT l D y bs mL ret rm av N adr G P)
    (hw1 : Cond.methodLinkNest own index y host ∈ NW) (hw2 : Cond.static y ∈ TT) (hw4 : Cond.code y bs mL ret ∈ TT) (hw5 : Cond.initialized y.cls ∈ TT) (hd : y.cls ≠ "java/lang/invoke/MethodHandle" ∧ y.cls ≠ "java/lang/invoke/VarHandle" ∧ (parseMethodDescriptor y.desc).map (fun d => d.parameters.length) = some n) (hn : av.length = n)
    (hR : rm.frames + 1 ≤ R.frames ∧ 8 + (mL + 11) + rm.locals ≤ R.locals) (hf : ce + rm.cells ≤ R.cells ∧ sl + rm.slots ≤ R.slots) (hcat : (st.map fun v => v.category).sum ≤ 8) (d : decode cc pc = .ok (.invokestatic index, 3))
    (k_ : ∀ v N' adr' G', P v N' adr' G' → SX Γ (ce + rm.cells) (sl + rm.slots) (pc + 3) lv (v.toList ++ st) N' adr' G') : SX Γ ce sl pc lv (av.reverse ++ st) N adr G := by
  obtain ⟨p, l', e, R', s, m, args, below, meth, c, D', A, Q, nL'⟩ := Γ
  obtain ⟨rfl, rfl, rfl, rfl, hx, hb, hml, hown, hts, hnw, hK, hA, hlk⟩ := h
  intro H locs ls hP hD hS hl
  refine call_core (mc := rm.cells) (ms := rm.slots) (rest := st) (va_runSN (nL := nL') (own := own) (Ts := TT) (ret := ret) (bytes := bs) (maxL := mL) ⟨hx, hb, hml, hown, hts⟩ (C0 H.size) ⟨⟨⟨rfl, rfl, hR.1, hR.2, pay_in hts (tt_good hw4), List.mem_cons_self⟩, hts _ hw4, hts _ hw5, ⟨hd.1, hd.2.1⟩, fun sig h9 => ?_, va_Nw.use rfl (hnw _ hw1)⟩, hts _ hw2, trivial⟩ ⟨blind, fun U hU hW => ⟨rfl, by rw [hU], by rw [hU]; exact hP, kk_warm hW hK hnw, hD.weaken (fun _ _ _ _ => trivial)⟩⟩ rfl hn hl.1 rfl (lv_room hcat) d hf) hD hS hA hl k_
  have h2 := hd.2.2
  rw [h9] at h2
  exact (Option.some.inj h2).symm
theorem s_callI {l : Launch} {D : va_G} {R : Room} {own : String} {cc : ByteArray} {nL : Nat} {Γ : GT} {ce sl pc : Nat} {lv : List (Nat × Value)} {st : List Value} {N : Nat} {adr : Nat → Nat} {G : Nat → va_E} {y : MethodName} {bs : ByteArray} {mL index n : Nat} {b : Nat} {rm : Room} {P : PT} {av : List Value} (h : cx l D R own cc nL Γ) (C0 : CT l D y bs mL none rm (.ref b :: av) N adr G P)
    (hw1 : Cond.methodLink own index y ∈ TT) (hw2 : Cond.instanceMethod y ∈ TT) (hw4 : Cond.code y bs mL none ∈ TT) (hw5 : Cond.initialized y.cls ∈ TT) (hy1 : y.name = "<init>") (hd : y.cls ≠ "java/lang/invoke/MethodHandle" ∧ y.cls ≠ "java/lang/invoke/VarHandle" ∧ (parseMethodDescriptor y.desc).map (fun d => d.parameters.length) = some n) (hn : av.length = n)
    (hR : rm.frames + 1 ≤ R.frames ∧ 8 + (mL + 11) + rm.locals ≤ R.locals) (hf : ce + rm.cells ≤ R.cells ∧ sl + rm.slots ≤ R.slots) (hcat : (st.map fun v => v.category).sum ≤ 8) (d : decode cc pc = .ok (.invokespecial index, 3))
    (k_ : ∀ v N' adr' G', P v N' adr' G' → SX Γ (ce + rm.cells) (sl + rm.slots) (pc + 3) lv (v.toList ++ st) N' adr' G') : SX Γ ce sl pc lv (av.reverse ++ .ref b :: st) N adr G := by
  obtain ⟨p, l', e, R', s, m, args, below, meth, c, D', A, Q, nL'⟩ := Γ
  obtain ⟨rfl, rfl, rfl, rfl, hx, hb, hml, hown, hts, hnw, hK, hA, hlk⟩ := h
  intro H locs ls hP hD hS hl
  refine call_core (mc := rm.cells) (ms := rm.slots) (rest := st) (va_runI (nL := nL') (own := own) (Ts := TT) (bytes := bs) (maxL := mL) ⟨hx, hb, hml, hown, hts⟩ (C0 H.size) ⟨⟨rfl, rfl, hR.1, hR.2, pay_in hts (tt_good hw4), List.mem_cons_self, hts _ hw4, hts _ hw5, ⟨hd.1, hd.2.1⟩, fun sig h9 => ?_, hts _ hw1⟩, hy1, hts _ hw2⟩ ⟨blind, fun U hU hW => ⟨rfl, by rw [hU], by rw [hU]; exact hP, kk_warm hW hK hnw, hD.weaken (fun _ _ _ _ => trivial)⟩⟩ rfl hn hl.1 rfl (lv_room hcat) d hf) hD hS hA hl k_
  have h2 := hd.2.2
  rw [h9] at h2
  exact (Option.some.inj h2).symm
theorem s_callIN {l : Launch} {D : va_G} {R : Room} {own : String} {cc : ByteArray} {nL : Nat} {Γ : GT} {ce sl pc : Nat} {lv : List (Nat × Value)} {st : List Value} {N : Nat} {adr : Nat → Nat} {G : Nat → va_E} {y : MethodName} {bs : ByteArray} {mL index n : Nat} {b : Nat} {host : String} {rm : Room} {P : PT} {av : List Value} (h : cx l D R own cc nL Γ) (C0 : CT l D y bs mL none rm (.ref b :: av) N adr G P)
    (hw1 : Cond.methodLinkNest own index y host ∈ NW) (hw2 : Cond.instanceMethod y ∈ TT) (hw4 : Cond.code y bs mL none ∈ TT) (hw5 : Cond.initialized y.cls ∈ TT) (hy1 : y.name = "<init>") (hd : y.cls ≠ "java/lang/invoke/MethodHandle" ∧ y.cls ≠ "java/lang/invoke/VarHandle" ∧ (parseMethodDescriptor y.desc).map (fun d => d.parameters.length) = some n) (hn : av.length = n)
    (hR : rm.frames + 1 ≤ R.frames ∧ 8 + (mL + 11) + rm.locals ≤ R.locals) (hf : ce + rm.cells ≤ R.cells ∧ sl + rm.slots ≤ R.slots) (hcat : (st.map fun v => v.category).sum ≤ 8) (d : decode cc pc = .ok (.invokespecial index, 3))
    (k_ : ∀ v N' adr' G', P v N' adr' G' → SX Γ (ce + rm.cells) (sl + rm.slots) (pc + 3) lv (v.toList ++ st) N' adr' G') : SX Γ ce sl pc lv (av.reverse ++ .ref b :: st) N adr G := by
  obtain ⟨p, l', e, R', s, m, args, below, meth, c, D', A, Q, nL'⟩ := Γ
  obtain ⟨rfl, rfl, rfl, rfl, hx, hb, hml, hown, hts, hnw, hK, hA, hlk⟩ := h
  intro H locs ls hP hD hS hl
  refine call_core (mc := rm.cells) (ms := rm.slots) (rest := st) (va_runIN (nL := nL') (own := own) (Ts := TT) (bytes := bs) (maxL := mL) ⟨hx, hb, hml, hown, hts⟩ (C0 H.size) ⟨⟨⟨rfl, rfl, hR.1, hR.2, pay_in hts (tt_good hw4), List.mem_cons_self⟩, hts _ hw4, hts _ hw5, ⟨hd.1, hd.2.1⟩, fun sig h9 => ?_, va_Nw.use rfl (hnw _ hw1)⟩, hy1, hts _ hw2⟩ ⟨blind, fun U hU hW => ⟨rfl, by rw [hU], by rw [hU]; exact hP, kk_warm hW hK hnw, hD.weaken (fun _ _ _ _ => trivial)⟩⟩ rfl hn hl.1 rfl (lv_room hcat) d hf) hD hS hA hl k_
  have h2 := hd.2.2
  rw [h9] at h2
  exact (Option.some.inj h2).symm
theorem s_iret {l : Launch} {D : va_G} {R : Room} {own : String} {cc : ByteArray} {nL : Nat} {Γ : GT} {ce sl pc : Nat} {lv : List (Nat × Value)} {N : Nat} {adr : Nat → Nat} {G : Nat → va_E} {nm : String} {ty : FieldType} {P : PT} {mc ms : Nat} {v : Int32} (h : cx l D R own cc nL Γ) (he : ex nm (some ty) P mc ms Γ) (hn : narrow ty (.int v) = .int v) (d : decode cc pc = .ok (.ireturn, 1)) (hm : ce ≤ mc ∧ sl ≤ ms) (hp : P (some (.int v)) N adr G) : SX Γ ce sl pc lv [.int v] N adr G := by
  obtain ⟨p, l', e, R', s, m, args, below, meth, c, D', A, Q, nL'⟩ := Γ
  obtain ⟨rfl, rfl, rfl, rfl, hx, hb, hml, hown, hts, hnw, hK, hA, hlk⟩ := h
  intro H locs ls hP hD hS hl
  obtain ⟨-, hr, rfl⟩ := he
  exact W.widen hm.1 hm.2 (W.zret (v := v) hx hb hr hn (fun t ht hW => ⟨⟨_, N, adr, G, rfl, hp, by rw [ht]; exact hP, hD⟩, hS.F ht⟩) hS.2.2 d hlk)
theorem s_lret {l : Launch} {D : va_G} {R : Room} {own : String} {cc : ByteArray} {nL : Nat} {Γ : GT} {ce sl pc : Nat} {lv : List (Nat × Value)} {N : Nat} {adr : Nat → Nat} {G : Nat → va_E} {nm : String} {P : PT} {mc ms : Nat} {v : Int64} (h : cx l D R own cc nL Γ) (he : ex nm (some .long) P mc ms Γ) (d : decode cc pc = .ok (.lreturn, 1)) (hm : ce ≤ mc ∧ sl ≤ ms) (hp : P (some (.long v)) N adr G) : SX Γ ce sl pc lv [.long v] N adr G := by
  obtain ⟨p, l', e, R', s, m, args, below, meth, c, D', A, Q, nL'⟩ := Γ
  obtain ⟨rfl, rfl, rfl, rfl, hx, hb, hml, hown, hts, hnw, hK, hA, hlk⟩ := h
  intro H locs ls hP hD hS hl
  obtain ⟨-, hr, rfl⟩ := he
  exact W.widen hm.1 hm.2 (W.lret (v := v) hx hb hr (fun t ht hW => ⟨⟨_, N, adr, G, rfl, hp, by rw [ht]; exact hP, hD⟩, hS.F ht⟩) hS.2.2 d hlk)
theorem s_aret {l : Launch} {D : va_G} {R : Room} {own : String} {cc : ByteArray} {nL : Nat} {Γ : GT} {ce sl pc : Nat} {lv : List (Nat × Value)} {N : Nat} {adr : Nat → Nat} {G : Nat → va_E} {nm C : String} {P : PT} {mc ms : Nat} {v : Value} (h : cx l D R own cc nL Γ) (he : ex nm (some (.object C)) P mc ms Γ) (hv : v = .null ∨ ∃ a, v = .ref a) (d : decode cc pc = .ok (.areturn, 1)) (hm : ce ≤ mc ∧ sl ≤ ms) (hp : P (some v) N adr G) : SX Γ ce sl pc lv [v] N adr G := by
  obtain ⟨p, l', e, R', s, m, args, below, meth, c, D', A, Q, nL'⟩ := Γ
  obtain ⟨rfl, rfl, rfl, rfl, hx, hb, hml, hown, hts, hnw, hK, hA, hlk⟩ := h
  intro H locs ls hP hD hS hl
  obtain ⟨-, hr, rfl⟩ := he
  exact W.widen hm.1 hm.2 (W.aret (v := v) hx hb hr (Or.inl ⟨C, rfl⟩) hv (fun t ht hW => ⟨⟨_, N, adr, G, rfl, hp, by rw [ht]; exact hP, hD⟩, hS.F ht⟩) hS.2.2 d hlk)
theorem s_vret {l : Launch} {D : va_G} {R : Room} {own : String} {cc : ByteArray} {nL : Nat} {Γ : GT} {ce sl pc : Nat} {lv : List (Nat × Value)} {N : Nat} {adr : Nat → Nat} {G : Nat → va_E} {nm : String} {P : PT} {mc ms : Nat} (h : cx l D R own cc nL Γ) (he : ex nm none P mc ms Γ) (d : decode cc pc = .ok (.return_, 1)) (hm : ce ≤ mc ∧ sl ≤ ms) (hp : P none N adr G) : SX Γ ce sl pc lv [] N adr G := by
  obtain ⟨p, l', e, R', s, m, args, below, meth, c, D', A, Q, nL'⟩ := Γ
  obtain ⟨rfl, rfl, rfl, rfl, hx, hb, hml, hown, hts, hnw, hK, hA, hlk⟩ := h
  intro H locs ls hP hD hS hl
  obtain ⟨-, hr, rfl⟩ := he
  exact W.widen hm.1 hm.2 (W.vret hx hb hr (fun t ht hW => ⟨⟨_, N, adr, G, rfl, hp, by rw [ht]; exact hP, hD⟩, hS.F ht⟩) hS.2.2 d hlk)
/-- what a method answers, and the world behind it, told exactly -/
def PE (r : Option Value) (N : Nat) (adr : Nat → Nat) (G : Nat → va_E) : PT := fun v N' adr' G' => v = r ∧ N' = N ∧ adr' = adr ∧ G' = G
theorem PE.go {Γ : GT} {ce sl pc : Nat} {lv : List (Nat × Value)} {st : List Value} {N : Nat} {adr : Nat → Nat} {G : Nat → va_E} {r : Value} (k : SX Γ ce sl pc lv (r :: st) N adr G) : ∀ v N' adr' G', PE (some r) N adr G v N' adr' G' → SX Γ ce sl pc lv (v.toList ++ st) N' adr' G' := by
  rintro _ _ _ _ ⟨rfl, rfl, rfl, rfl⟩
  exact k
theorem PE.go0 {Γ : GT} {ce sl pc : Nat} {lv : List (Nat × Value)} {st : List Value} {N : Nat} {adr : Nat → Nat} {G : Nat → va_E} (k : SX Γ ce sl pc lv st N adr G) : ∀ v N' adr' G', PE none N adr G v N' adr' G' → SX Γ ce sl pc lv (v.toList ++ st) N' adr' G' := by
  rintro _ _ _ _ ⟨rfl, rfl, rfl, rfl⟩
  exact k
theorem PE.is {r : Option Value} {N : Nat} {adr : Nat → Nat} {G : Nat → va_E} : PE r N adr G r N adr G := ⟨rfl, rfl, rfl, rfl⟩
theorem PE.eq {r q : Option Value} {N : Nat} {adr : Nat → Nat} {G G1 : Nat → va_E} (h : q = r) (hg : G1 = G) : PE r N adr G q N adr G1 := ⟨h, rfl, rfl, hg⟩
