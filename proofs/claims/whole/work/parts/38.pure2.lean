-- past
theorem paF_fir (sc : Nat → Nat → Int32) (t : Nat) (c : Int32) : ∀ n, paF sc t c n = firN (paP sc t c) n
  | 0 => rfl
  | n + 1 => by rw [paF_s, firN_s, paF_fir sc t c n]
theorem pdFs (sc : Nat → Nat → Int32) (t : Nat) (c : Int32) (d : Nat) : pdF sc t c (d + 1) = if shM sc t c (99 - d) then ((pdF sc t c d).1 + 1, nI (99 - d)) else pdF sc t c d := rfl
theorem pdF_2 {sc : Nat → Nat → Int32} {t : Nat} {c : Int32} (hz : ¬ sc 1 t = 0) : ∀ d, d ≤ 100 → ((∀ m, 100 - d ≤ m → m < 100 → paP sc t c m = false) ∧ (pdF sc t c d).2 = -6) ∨ ∃ m, m < 100 ∧ paP sc t c m = true ∧ (∀ i, 100 - d ≤ i → i < m → paP sc t c i = false) ∧ (pdF sc t c d).2 = nI m
  | 0, _ => Or.inl ⟨fun m h1 h2 => absurd h1 (by omega), rfl⟩
  | d + 1, h => by
    rw [pdFs, pdF_c sc t c hz]
    cases q : paP sc t c (99 - d) with
    | true => exact Or.inr ⟨99 - d, by omega, q, fun i h1 h2 => absurd h1 (by omega), rfl⟩
    | false =>
      rcases pdF_2 (c := c) hz d (by omega) with ⟨h1, h2⟩ | ⟨m, h1, h2, h3, h4⟩
      · refine Or.inl ⟨fun m a b => ?_, h2⟩
        by_cases e : m = 99 - d
        · rw [e]; exact q
        · exact h1 m (by omega) b
      · refine Or.inr ⟨m, h1, h2, fun i a b => ?_, h4⟩
        by_cases e : i = 99 - d
        · rw [e]; exact q
        · exact h3 i (by omega) b
theorem pdF_1 {sc : Nat → Nat → Int32} {t : Nat} {c : Int32} (hz : ¬ sc 1 t = 0) : ∀ d, d ≤ 100 → (pdF sc t c d).1 + paC sc t c (100 - d) = paC sc t c 100
  | 0, _ => Int32.zero_add _
  | d + 1, h => by
    have ih := pdF_1 (c := c) hz d (by omega)
    rw [show 100 - d = 99 - d + 1 from by omega, paC_s] at ih
    rw [pdFs, pdF_c sc t c hz, show 100 - (d + 1) = 99 - d from by omega]
    cases q : paP sc t c (99 - d) with
    | true =>
      rw [q, if_pos rfl] at ih
      rw [if_pos rfl]
      show (pdF sc t c d).1 + 1 + paC sc t c (99 - d) = _
      rw [Int32.add_assoc, Int32.add_comm 1]
      exact ih
    | false =>
      rw [q] at ih
      exact ih
theorem paM_eq (sc : Nat → Nat → Int32) (t c x : Int32) : paM sc t c x = paR sc t c x := by
  unfold paM paR
  cases h : tE sc t with
  | false => rfl
  | true =>
    have hz := (tE_t h).2
    have h1 := pdF_1 (c := c) hz 100 (Nat.le_refl _)
    have e1 : (pdF sc t.toNatClampNeg c 100).1 = paC sc t.toNatClampNeg c 100 := by
      rw [← h1]; exact (Int32.add_zero _).symm
    have e2 : (pdF sc t.toNatClampNeg c 100).2 = paF sc t.toNatClampNeg c 100 := by
      rw [paF_fir, firN_ffO _ (by decide)]
      rcases pdF_2 (c := c) hz 100 (Nat.le_refl _) with ⟨h1, h2⟩ | ⟨m, h1, h2, h3, h4⟩
      · rw [h2, ffO_none (fun m hm => h1 m (by omega) hm)]; rfl
      · rw [h4, ffO_some h1 h2 (fun i hi => h3 i (by omega) hi)]; rfl
    rw [e1, e2]
-- stood
theorem cntK_n (sc : Nat → Nat → Int32) (col : Nat → Int32) : ∀ n, ∃ c, c ≤ n ∧ cntK sc col n = nI c
  | 0 => ⟨0, Nat.le_refl 0, rfl⟩
  | n + 1 => by
    obtain ⟨c, hc, e⟩ := cntK_n sc col n
    rw [cntK_s]
    split
    · exact ⟨c + 1, by omega, by rw [e, nI_1]⟩
    · exact ⟨c, by omega, e⟩
theorem cntK_in (sc : Nat → Nat → Int32) (col : Nat → Int32) (j : Nat) : ∀ i, i ≤ 100 → cntK sc col (100 * j + i) = cntK sc col (100 * j) + cSI sc col (nI j) i
  | 0, _ => (Int32.add_zero _).symm
  | i + 1, h => by
    rw [show 100 * j + (i + 1) = 100 * j + i + 1 from rfl, cntK_s, hitK_at sc col (-1) j (by omega), cSI_s, cntK_in sc col j i (by omega)]
    split
    · rw [Int32.add_assoc]
    · rfl
theorem cSt_cnt (sc : Nat → Nat → Int32) (col : Nat → Int32) : ∀ j, cSt sc col j = cntK sc col (100 * j)
  | 0 => rfl
  | j + 1 => by
    show cSt sc col j + cSI sc col (nI j) 100 = _
    rw [cSt_cnt sc col j, show 100 * (j + 1) = 100 * j + 100 from by omega, cntK_in sc col j 100 (Nat.le_refl _)]
theorem standP_w {sc : Nat → Nat → Int32} {col : Nat → Int32} {b : Int32} {k : Nat} (hk : k < 10000) (h : standP sc col b k = true) : wb b 0 9999 = true := by
  unfold standP at h
  rw [Bool.and_eq_true] at h
  have h2 := of_decide_eq_true h.2
  obtain ⟨c, hc, e⟩ := cntK_n sc col k
  rw [← h2, e]
  exact ix_wb (n := 9999) (ix_n (by omega) (by decide)) (by decide) rfl
theorem stM_eq (sc : Nat → Nat → Int32) (col : Nat → Int32) (b : Int32) : stM sc col b = if b = -1 then cSt sc col 100 else sAt sc col b := by
  cases hw : wb b 0 9999 with
  | false =>
    have hn : ffO (standP sc col b) 10000 = none := ffO_none (fun k hk => by
      cases q : standP sc col b k with
      | false => rfl
      | true => rw [standP_w hk q] at hw; exact absurd hw (by decide))
    rw [stM_none hn, cSt_cnt, show 100 * 100 = 10000 from rfl]
    unfold sAt
    rw [hw]
    rfl
  | true =>
    have hb : ¬ b = -1 := by intro q; rw [q] at hw; exact absurd hw (by decide)
    rw [if_neg hb]
    unfold sAt
    rw [bool_if hw]
    rcases ffO_cases (standP sc col b) 10000 with ⟨h1, h2⟩ | ⟨j, h1, h2, h3, h4⟩
    · rw [stM_none h1, if_neg hb, h1]; rfl
    · rw [stM_some h4, h4]; rfl
theorem stR_eq (sc : Nat → Nat → Int32) (x b : Int32) : (if pE sc x then stM sc (sc (6 + x.toNatClampNeg)) b else -1) = stR sc x b := by
  unfold stR cA
  rw [stM_eq]
