theorem cB_n (f g : Nat → Int32) (t : Nat) : ∀ n, cB f g t n = nI (cnP (fun j => shb f g j && cbp f g t j) n)
  | 0 => rfl
  | n + 1 => by
    show (if shb f g n && cbp f g t n then cB f g t n + 1 else cB f g t n) = _
    rw [cB_n f g t n, cnP_s]
    split
    · rw [nI_1]
    · rfl
theorem cbp_pP {f g : Nat → Int32} (hf : okC6 f) (hg : okC6 g) {t j : Nat} (ht : t < 6) (hj : j < 6) (h : shb f g t = true) (h2 : shb f g j = true) : cbp f g t j = decide (pP f g j < pP f g t) := by
  have a := sh_d hf hg ht h
  have b := sh_d hf hg hj h2
  unfold cbp
  rw [← Bool.decide_and, ← Bool.decide_or]
  apply decide_eq_decide.mpr
  rw [Int32.lt_iff_toInt_lt, ← Int32.toInt_inj, Int32.lt_iff_toInt_lt, nI_toInt (by omega), nI_toInt (by omega)]
  unfold pP eP
  omega
theorem cB_cN {f g : Nat → Int32} (hf : okC6 f) (hg : okC6 g) {t : Nat} (ht : t < 6) (h : shb f g t = true) : cB f g t 6 = cN f g (pP f g t) := by
  rw [cB_n, cN_n hf hg _ (Nat.le_of_lt (pP_lt hf hg ht h))]
  congr 1
  refine cnP_congr (fun j hj => ?_)
  unfold sB
  cases h2 : shb f g j with
  | false => rfl
  | true => rw [cbp_pP hf hg ht hj h h2]
theorem cnP_6 (p : Nat → Bool) : cnP p 6 = (if p 0 then 1 else 0) + (if p 1 then 1 else 0) + (if p 2 then 1 else 0) + (if p 3 then 1 else 0) + (if p 4 then 1 else 0) + (if p 5 then 1 else 0) := by
  have h : ∀ (b : Bool) (x : Nat), (if b then x + 1 else x) = x + (if b then 1 else 0) := by intro b x; cases b <;> rfl
  rw [cnP_s, cnP_s, cnP_s, cnP_s, cnP_s, cnP_s, h, h, h, h, h, h, show cnP p 0 = 0 from rfl, Nat.zero_add]
theorem shB_6 (f : Nat → Int32) : shB f 6 = d6 (decide (f 0 = -6)) (decide (f 1 = -6)) (decide (f 2 = -6)) (decide (f 3 = -6)) (decide (f 4 = -6)) (decide (f 5 = -6)) := by
  unfold shB d6
  refine fN_congr (fun j x hj => ?_)
  have hj6 : j = 0 ∨ j = 1 ∨ j = 2 ∨ j = 3 ∨ j = 4 ∨ j = 5 := by omega
  rcases hj6 with rfl | rfl | rfl | rfl | rfl | rfl <;> (show (if _ then _ else _) = (if decide _ = true then _ else _); simp only [decide_eq_true_eq])
theorem bC_d6 : ∀ a0 a1 a2 a3 a4 a5 b0 b1 b2 b3 b4 b5 : Bool, bC (d6 a0 a1 a2 a3 a4 a5 &&& d6 b0 b1 b2 b3 b4 b5) = nI ((if !a0 && !b0 then 1 else 0) + (if !a1 && !b1 then 1 else 0) + (if !a2 && !b2 then 1 else 0) + (if !a3 && !b3 then 1 else 0) + (if !a4 && !b4 then 1 else 0) + (if !a5 && !b5 then 1 else 0)) := by decide +kernel
theorem near_all {f g : Nat → Int32} (hf : okC6 f) (hg : okC6 g) : cN f g 726 = bC (shB f 6 &&& shB g 6) := by
  rw [cN_n hf hg 726 (Nat.le_refl _), shB_6, shB_6, bC_d6, cnP_congr (q := shb f g) (fun j hj => ?_), cnP_6]
  · rfl
  · unfold sB
    cases h : shb f g j with
    | false => rfl
    | true => rw [decide_eq_true (pP_lt hf hg hj h)]; rfl
theorem cN_mono {f g : Nat → Int32} (hf : okC6 f) (hg : okC6 g) {i k : Nat} (hik : i < k) (hk : k ≤ 726) (h : nrK f g i = true) : ¬ cN f g i = cN f g k := by
  rw [cN_n hf hg i (by omega), cN_n hf hg k hk]
  intro q
  have l1 := cnP_le (sB f g i) 6
  have l2 := cnP_le (sB f g k) 6
  have e := (nI_eq (by omega) (by omega)).mp q
  rw [nrK_iff hf hg (by omega), Bool.and_eq_true] at h
  have h2 := of_decide_eq_true h.2
  rw [cnP_6, cnP_6] at e
  have mono : ∀ t, t < 6 → (if sB f g i t then 1 else 0) ≤ (if sB f g k t then 1 else 0) := by
    intro t ht
    unfold sB
    cases shb f g t with
    | false => exact Nat.le_refl _
    | true =>
      rw [Bool.true_and, Bool.true_and]
      by_cases z : pP f g t < i
      · rw [if_pos (decide_eq_true z), if_pos (decide_eq_true (show pP f g t < k from by omega))]; exact Nat.le_refl _
      · rw [if_neg (by rw [decide_eq_false z]; decide)]; exact Nat.zero_le _
  have strict : (if sB f g i (i % 6) then 1 else 0) = 0 ∧ (if sB f g k (i % 6) then 1 else 0) = 1 := by
    unfold sB
    rw [h.1, h2, decide_eq_false (Nat.lt_irrefl i), decide_eq_true hik]
    exact ⟨rfl, rfl⟩
  have m0 := mono 0 (by decide)
  have m1 := mono 1 (by decide)
  have m2 := mono 2 (by decide)
  have m3 := mono 3 (by decide)
  have m4 := mono 4 (by decide)
  have m5 := mono 5 (by decide)
  have hr : i % 6 = 0 ∨ i % 6 = 1 ∨ i % 6 = 2 ∨ i % 6 = 3 ∨ i % 6 = 4 ∨ i % 6 = 5 := by omega
  obtain ⟨s1, s2⟩ := strict
  rcases hr with r | r | r | r | r | r <;> rw [r] at s1 s2 <;> omega
