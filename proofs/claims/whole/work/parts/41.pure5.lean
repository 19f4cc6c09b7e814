-- near
def cnP (p : Nat → Bool) (J : Nat) : Nat := fN (fun t x => if p t then x + 1 else x) 0 J
theorem cnP_s (p : Nat → Bool) (J : Nat) : cnP p (J + 1) = if p J then cnP p J + 1 else cnP p J := rfl
theorem cnP_congr {p q : Nat → Bool} : ∀ {J : Nat}, (∀ j, j < J → p j = q j) → cnP p J = cnP q J
  | 0, _ => rfl
  | J + 1, h => by rw [cnP_s, cnP_s, h J (by omega), cnP_congr (fun j hj => h j (by omega))]
theorem cnP_put {p q : Nat → Bool} {r : Nat} (hr : p r = false) (hq : q r = true) : ∀ J, (∀ j, j < J → j ≠ r → q j = p j) → cnP q J = cnP p J + if r < J then 1 else 0
  | 0, _ => rfl
  | J + 1, h => by
    rw [cnP_s, cnP_s, cnP_put hr hq J (fun j hj => h j (by omega))]
    rcases Nat.lt_trichotomy r J with z | z | z
    · rw [h J (by omega) (by omega), if_pos z, if_pos (show r < J + 1 from by omega)]
      split <;> omega
    · subst z
      rw [hr, hq, if_neg (Nat.lt_irrefl r), if_pos (Nat.lt_succ_self r)]
      rfl
    · rw [h J (by omega) (by omega), if_neg (show ¬ r < J from by omega), if_neg (show ¬ r < J + 1 from by omega)]
      rfl
theorem cnP_le (p : Nat → Bool) : ∀ J, cnP p J ≤ J
  | 0 => Nat.le_refl _
  | J + 1 => by
    rw [cnP_s]
    have := cnP_le p J
    split <;> omega
/-- where a thing's shift comes in the order of looking -/
def eP (f g : Nat → Int32) (t : Nat) : Nat := (60 - (f t - g t).toInt).toNat
def pP (f g : Nat → Int32) (t : Nat) : Nat := 6 * eP f g t + t
def okC6 (f : Nat → Int32) : Prop := ∀ j, j < 6 → f j = -6 ∨ 0 ≤ f j ∧ f j ≤ 60
theorem sh_d {f g : Nat → Int32} (hf : okC6 f) (hg : okC6 g) {t : Nat} (ht : t < 6) (h : shb f g t = true) : (f t - g t).toInt ≤ 60 ∧ -60 ≤ (f t - g t).toInt := by
  have h1 : ¬ f t = -6 := by intro q; unfold shb at h; rw [q] at h; simp at h
  have h2 : ¬ g t = -6 := by intro q; unfold shb at h; rw [q] at h; simp at h
  obtain ⟨a1, a2⟩ := (hf t ht).resolve_left h1
  obtain ⟨b1, b2⟩ := (hg t ht).resolve_left h2
  rw [Int32.le_iff_toInt_le] at a1 a2 b1 b2
  have h0 : (0 : Int32).toInt = 0 := rfl
  have h6 : (60 : Int32).toInt = 60 := rfl
  have hs : (f t - g t).toInt = (f t).toInt - (g t).toInt := by
    rw [Int32.toInt_sub]
    exact Int.bmod_eq_of_le (by omega) (by omega)
  omega
theorem v60 {j : Nat} (hj : j < 121) : ((60 : Int32) - nI j).toInt = 60 - (j : Int) := by
  have h6 : (60 : Int32).toInt = 60 := rfl
  rw [Int32.toInt_sub, nI_toInt (by omega), h6]
  exact Int.bmod_eq_of_le (by omega) (by omega)
theorem nrK_iff {f g : Nat → Int32} (hf : okC6 f) (hg : okC6 g) {k : Nat} (hk : k < 726) : nrK f g k = (shb f g (k % 6) && decide (pP f g (k % 6) = k)) := by
  unfold nrK
  cases h : shb f g (k % 6) with
  | false => rfl
  | true =>
    have hd := sh_d hf hg (show k % 6 < 6 from Nat.mod_lt _ (by decide)) h
    rw [Bool.true_and, Bool.true_and]
    apply decide_eq_decide.mpr
    rw [← Int32.toInt_inj, v60 (by omega)]
    unfold pP eP
    omega
theorem pP_lt {f g : Nat → Int32} (hf : okC6 f) (hg : okC6 g) {t : Nat} (ht : t < 6) (h : shb f g t = true) : pP f g t < 726 := by
  have := sh_d hf hg ht h
  unfold pP eP
  omega
def sB (f g : Nat → Int32) (n t : Nat) : Bool := shb f g t && decide (pP f g t < n)
theorem cN_n {f g : Nat → Int32} (hf : okC6 f) (hg : okC6 g) : ∀ n, n ≤ 726 → cN f g n = nI (cnP (sB f g n) 6)
  | 0, _ => by
    rw [cnP_congr (q := fun _ => false) (fun j hj => by unfold sB; simp)]
    rfl
  | n + 1, h => by
    rw [cN_s, cN_n hf hg n (by omega), nrK_iff hf hg (by omega)]
    cases q : (shb f g (n % 6) && decide (pP f g (n % 6) = n)) with
    | true =>
      rw [Bool.and_eq_true] at q
      have e := of_decide_eq_true q.2
      have z := cnP_put (p := sB f g n) (q := sB f g (n + 1)) (r := n % 6) (by unfold sB; rw [e]; simp) (by unfold sB; rw [e, q.1]; simp) 6 (fun j hj6 hj => by
        unfold sB
        congr 1
        apply decide_eq_decide.mpr
        unfold pP at e ⊢
        omega)
      rw [z, if_pos (Nat.mod_lt _ (by decide)), if_pos rfl, nI_1]
    | false =>
      rw [if_neg (by decide)]
      congr 1
      refine cnP_congr (fun j hj => ?_)
      unfold sB
      cases hs : shb f g j with
      | false => rfl
      | true =>
        rw [Bool.true_and, Bool.true_and]
        apply decide_eq_decide.mpr
        have : pP f g j ≠ n := by
          intro e
          have hj6 : n % 6 = j := by unfold pP at e; omega
          rw [hj6, hs, decide_eq_true e] at q
          exact absurd q (by decide)
        omega
