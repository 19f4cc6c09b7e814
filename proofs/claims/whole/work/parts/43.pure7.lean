theorem nW_S {f g : Nat → Int32} (hf : okC6 f) (hg : okC6 g) {b : Int32} {t : Nat} (ht : t < 6) (h : nWp f g b t = true) : pP f g t < 726 ∧ pP f g t % 6 = t ∧ nrS f g b (pP f g t) = true ∧ nrK f g (pP f g t) = true ∧ cN f g (pP f g t) = b := by
  unfold nWp at h
  rw [Bool.and_eq_true] at h
  have hl := pP_lt hf hg ht h.1
  have hm : pP f g t % 6 = t := by unfold pP; omega
  have hk : nrK f g (pP f g t) = true := by rw [nrK_iff hf hg hl, hm, h.1, decide_eq_true rfl]; rfl
  have hc : cN f g (pP f g t) = b := by rw [← cB_cN hf hg ht h.1]; exact of_decide_eq_true h.2
  exact ⟨hl, hm, by unfold nrS; rw [hk, decide_eq_true hc]; rfl, hk, hc⟩
theorem S_nW {f g : Nat → Int32} (hf : okC6 f) (hg : okC6 g) {b : Int32} {k : Nat} (hk : k < 726) (h : nrS f g b k = true) : nWp f g b (k % 6) = true ∧ nrK f g k = true ∧ cN f g k = b := by
  unfold nrS at h
  rw [Bool.and_eq_true] at h
  have hc := of_decide_eq_true h.2
  have h1 := h.1
  rw [nrK_iff hf hg hk, Bool.and_eq_true] at h1
  have e := of_decide_eq_true h1.2
  refine ⟨?_, h.1, hc⟩
  unfold nWp
  rw [h1.1, cB_cN hf hg (Nat.mod_lt _ (by decide)) h1.1, e, decide_eq_true hc]
  rfl
theorem nr_eq {f g : Nat → Int32} (hf : okC6 f) (hg : okC6 g) (b : Int32) : nrM f g b = if b = -1 then bC (shB f 6 &&& shB g 6) else oI (ffO (nWp f g b) 6) := by
  by_cases hb : b = -1
  · rw [if_pos hb, nrM_none (ffO_none (fun k hk => by
      unfold nrS
      rw [cN_n hf hg k (by omega), hb, decide_eq_false, Bool.and_false]
      have := cnP_le (sB f g k) 6
      intro q
      have z := nI_pos (show cnP (sB f g k) 6 < 2 ^ 31 by omega)
      rw [q] at z
      exact z (by decide))), if_pos hb, near_all hf hg]
  · rw [if_neg hb]
    rcases ffO_cases (nrS f g b) 726 with ⟨h1, h2⟩ | ⟨k, h1, h2, h3, h4⟩
    · rw [nrM_none h1, if_neg hb, ffO_none (fun t ht => by
        cases q : nWp f g b t with
        | false => rfl
        | true =>
          obtain ⟨z1, -, z2, -⟩ := nW_S hf hg ht q
          rw [h2 _ z1] at z2; exact absurd z2 (by decide))]
      rfl
    · obtain ⟨y1, y2, y3⟩ := S_nW hf hg h1 h2
      rw [nrM_some h4, ffO_some (n := 6) (i := k % 6) (Nat.mod_lt _ (by decide)) y1 (fun t ht => by
        cases q : nWp f g b t with
        | false => rfl
        | true =>
          exfalso
          obtain ⟨z1, z2, z3, z4, z5⟩ := nW_S hf hg (show t < 6 by have := Nat.mod_lt k (show 0 < 6 by decide); omega) q
          rcases Nat.lt_trichotomy (pP f g t) k with c | c | c
          · exact cN_mono hf hg c (by omega) z4 (z5.trans y3.symm)
          · rw [c] at z2; omega
          · exact cN_mono hf hg c (by omega) y2 (y3.trans z5.symm))]
      rfl
theorem neM_eq {sc : Nat → Nat → Int32} (h : wfC sc) (x y b : Int32) : neM sc x y b = neR sc x y b := by
  cases q : okP sc x y with
  | false => rw [neM_0 q]; unfold neR; rw [q]; rfl
  | true =>
    have hx := (okP_ix q).1.2.2
    have hy := (okP_ix q).2.2.2
    rw [neM_1 q, nr_eq (fun j hj => h _ hx j hj) (fun j hj => h _ hy j hj)]
    unfold neR cA
    rw [q, if_pos rfl]
