-- ahead
theorem fmA_0 {sc : Nat → Nat → Int32} {col : Nat → Int32} : ∀ {n : Nat}, (∀ j, j < n → hitK sc col (-1) j = false) → fmA sc col n = -6
  | 0, _ => rfl
  | n + 1, h => by
    rw [fmA_s, h n (by omega)]
    exact fmA_0 (fun j hj => h j (by omega))
theorem fmA_1 {sc : Nat → Nat → Int32} {col : Nat → Int32} {j : Nat} (hj : j < 10000) (h : hitK sc col (-1) j = true) (h2 : ∀ i, i < j → hitK sc col (-1) i = false) : ∀ d, fmA sc col (j + 1 + d) = nI (j / 100)
  | 0 => by
    show fmA sc col (j + 1) = _
    rw [fmA_s, bool_if h, fmA_0 h2, if_pos (by decide)]
  | d + 1 => by
    show fmA sc col (j + 1 + d + 1) = _
    rw [fmA_s, fmA_1 hj h h2 d, if_neg (nI_pos (by omega))]
    split <;> rfl
theorem fmB_v (sc : Nat → Nat → Int32) (col : Nat → Int32) : ∀ n, ((∀ j, j < n → hitK sc col (-1) j = false) ∧ fmB sc col n = -6) ∨ ∃ k, k < n ∧ hitK sc col (-1) k = true ∧ (∀ i, k < i → i < n → hitK sc col (-1) i = false) ∧ fmB sc col n = nI (k / 100)
  | 0 => Or.inl ⟨nh_0, rfl⟩
  | n + 1 => by
    rw [fmB_s]
    cases q : hitK sc col (-1) n with
    | true => exact Or.inr ⟨n, by omega, q, fun i h1 h2 => absurd h1 (by omega), rfl⟩
    | false =>
      rcases fmB_v sc col n with ⟨h1, h2⟩ | ⟨k, h1, h2, h3, h4⟩
      · exact Or.inl ⟨nh_s h1 q, h2⟩
      · refine Or.inr ⟨k, by omega, h2, fun i a b => ?_, h4⟩
        by_cases e : i = n
        · rw [e]; exact q
        · exact h3 i a (by omega)
theorem cSI_n (sc : Nat → Nat → Int32) (col : Nat → Int32) (j : Nat) : ∀ n, n ≤ 100 → ∃ c, c ≤ n ∧ cSI sc col (nI j) n = nI c ∧ (c = 0 ↔ ∀ i, i < n → hitK sc col (-1) (100 * j + i) = false)
  | 0, _ => ⟨0, Nat.le_refl 0, rfl, ⟨fun _ i hi => absurd hi (Nat.not_lt_zero i), fun _ => rfl⟩⟩
  | n + 1, h => by
    obtain ⟨c, hc, e, hz⟩ := cSI_n sc col j n (by omega)
    have hh := hitK_at sc col (-1) j (show n < 100 from by omega)
    rw [cSI_s, ← hh]
    cases q : hitK sc col (-1) (100 * j + n) with
    | true => exact ⟨c + 1, by omega, by rw [if_pos rfl, e, nI_1], ⟨fun z => absurd z (by omega), fun z => by rw [z n (by omega)] at q; exact absurd q (by decide)⟩⟩
    | false => exact ⟨c, by omega, e, ⟨fun z => nh_s (p := fun i => hitK sc col (-1) (100 * j + i)) (hz.mp z) q, fun z => hz.mpr (fun i hi => z i (by omega))⟩⟩
theorem minP_f {sc : Nat → Nat → Int32} {col : Nat → Int32} {j : Nat} : minP sc col j = false ↔ ∀ i, i < 100 → hitK sc col (-1) (100 * j + i) = false := by
  obtain ⟨c, hc, e, hz⟩ := cSI_n sc col j 100 (Nat.le_refl _)
  rw [← hz]
  unfold minP
  rw [e, decide_eq_false_iff_not, i32_nlt, Int32.le_iff_toInt_le, nI_toInt (by omega)]
  have : (0 : Int32).toInt = 0 := rfl
  omega
theorem minP_t {sc : Nat → Nat → Int32} {col : Nat → Int32} {k : Nat} (h : hitK sc col (-1) k = true) : minP sc col (k / 100) = true := by
  cases q : minP sc col (k / 100) with
  | true => rfl
  | false =>
    have := minP_f.mp q (k % 100) (Nat.mod_lt _ (by decide))
    rw [Nat.div_add_mod, h] at this
    exact absurd this (by decide)
theorem lfO_0 {p : Nat → Bool} : ∀ {n : Nat}, (∀ j, j < n → p j = false) → lfO p n = none
  | 0, _ => rfl
  | n + 1, h => by rw [lfO_s, bool_ifn (h n (by omega))]; exact lfO_0 (fun j hj => h j (by omega))
theorem lfO_1 {p : Nat → Bool} {k : Nat} (h : p k = true) : ∀ {n : Nat}, k < n → (∀ i, k < i → i < n → p i = false) → lfO p n = some k
  | 0, hk, _ => absurd hk (Nat.not_lt_zero k)
  | n + 1, hk, h2 => by
    rw [lfO_s]
    by_cases e : n = k
    · rw [e, bool_if h]
    · rw [bool_ifn (h2 n (by omega) (by omega))]
      exact lfO_1 h (by omega) (fun i a b => h2 i a (by omega))
theorem fA_eq (sc : Nat → Nat → Int32) (x : Int32) : fA sc x = fiM sc x := by
  unfold fA fiM cA
  rcases ffO_cases (hitK sc (sc (6 + x.toNatClampNeg)) (-1)) 10000 with ⟨h1, h2⟩ | ⟨k, h1, h2, h3, h4⟩
  · rw [fmA_0 h2, ffO_none (fun j hj => minP_f.mpr (fun i hi => h2 _ (by omega)))]; rfl
  · have z := fmA_1 h1 h2 h3 (9999 - k)
    rw [show k + 1 + (9999 - k) = 10000 from by omega] at z
    rw [z, ffO_some (n := 100) (i := k / 100) (by omega) (minP_t h2) (fun j hj => minP_f.mpr (fun i hi => h3 _ (by omega)))]
    rfl
theorem fB_eq (sc : Nat → Nat → Int32) (x : Int32) : fB sc x = laM sc x := by
  unfold fB laM cA
  rcases fmB_v sc (sc (6 + x.toNatClampNeg)) 10000 with ⟨h2, h1⟩ | ⟨k, h1, h2, h3, h4⟩
  · rw [h1, lfO_0 (fun j hj => minP_f.mpr (fun i hi => h2 _ (by omega)))]; rfl
  · rw [h4, lfO_1 (n := 100) (k := k / 100) (minP_t h2) (by omega) (fun j a b => minP_f.mpr (fun i hi => h3 _ (by omega) (by omega)))]
    rfl
theorem oI_lt {o : Option Nat} (h : ∀ j, o = some j → j < 2 ^ 31) : oI o < 0 ↔ oI o = -6 := by
  cases o with
  | none => exact ⟨fun _ => rfl, fun _ => by decide⟩
  | some j => exact ⟨fun q => absurd q (nI_pos (h j rfl)), fun q => absurd q (nI_m6 (h j rfl))⟩
theorem ffO_lt9 {p : Nat → Bool} {n j : Nat} (h : ffO p n = some j) : j < n := by
  rcases ffO_cases p n with ⟨h1, h2⟩ | ⟨k, h1, h2, h3, h4⟩
  · rw [h1] at h; exact absurd h (by simp)
  · rw [h4] at h; cases h; exact h1
theorem ahM_eq (sc : Nat → Nat → Int32) (x y : Int32) : ahM sc x y = ahR sc x y := by
  unfold ahM ahR
  rw [fA_eq, fA_eq, fB_eq, fB_eq]
  have e1 : fiM sc x < 0 ↔ fiM sc x = -6 := oI_lt (fun j hj => by have := ffO_lt9 hj; omega)
  have e2 : fiM sc y < 0 ↔ fiM sc y = -6 := oI_lt (fun j hj => by have := ffO_lt9 hj; omega)
  by_cases q1 : fiM sc x = -6
  · rw [if_pos (e1.mpr q1), if_pos (show fiM sc x = -6 ∨ fiM sc y = -6 from Or.inl q1)]
  · rw [if_neg (fun z => q1 (e1.mp z))]
    by_cases q2 : fiM sc y = -6
    · rw [if_pos (e2.mpr q2), if_pos (show fiM sc x = -6 ∨ fiM sc y = -6 from Or.inr q2)]
    · rw [if_neg (fun z => q2 (e2.mp z)), if_neg (show ¬ (fiM sc x = -6 ∨ fiM sc y = -6) from fun z => z.elim q1 q2)]
