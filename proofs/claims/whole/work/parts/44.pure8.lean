-- eyes
def sN (f : Nat → Int32) (n : Nat) : Int32 := fN (fun i x => x + f i) 0 n
theorem sN_s (f : Nat → Int32) (n : Nat) : sN f (n + 1) = sN f n + f n := rfl
theorem sN_congr {f g : Nat → Int32} : ∀ {n : Nat}, (∀ i, i < n → f i = g i) → sN f n = sN g n
  | 0, _ => rfl
  | n + 1, h => by rw [sN_s, sN_s, h n (by omega), sN_congr (fun i hi => h i (by omega))]
theorem sN_0 : ∀ n, sN (fun _ => 0) n = 0
  | 0 => rfl
  | n + 1 => by rw [sN_s, sN_0 n]; rfl
theorem sN_add (f g : Nat → Int32) : ∀ n, sN (fun i => f i + g i) n = sN f n + sN g n
  | 0 => rfl
  | n + 1 => by
    rw [sN_s, sN_s, sN_s, sN_add f g n, Int32.add_assoc, Int32.add_assoc, ← Int32.add_assoc (sN g n), Int32.add_comm (sN g n) (f n), Int32.add_assoc]
theorem sN_swap (f : Nat → Nat → Int32) (m : Nat) : ∀ n, sN (fun i => sN (fun j => f i j) m) n = sN (fun j => sN (fun i => f i j) n) m
  | 0 => (sN_0 m).symm
  | n + 1 => by
    rw [sN_s, sN_swap f m n, ← sN_add]
    rfl
theorem sN_cat (f : Nat → Int32) (n : Nat) : ∀ k, sN f (n + k) = sN f n + sN (fun i => f (n + i)) k
  | 0 => (Int32.add_zero _).symm
  | k + 1 => by
    show sN f (n + k) + f (n + k) = _
    rw [sN_cat f n k, sN_s, Int32.add_assoc]
theorem sN_mul (f : Nat → Int32) (b : Nat) : ∀ a, sN f (b * a) = sN (fun i => sN (fun j => f (b * i + j)) b) a
  | 0 => rfl
  | a + 1 => by
    rw [Nat.mul_succ, sN_cat, sN_mul f b a, sN_s]
def b1 (p : Bool) : Int32 := if p then 1 else 0
theorem eyM_sN (sc : Nat → Nat → Int32) : ∀ n, eyM sc n = sN (fun k => b1 (eyP sc k)) n
  | 0 => rfl
  | n + 1 => by
    rw [eyM_s, sN_s, eyM_sN sc n]
    unfold b1
    split
    · rfl
    · exact (Int32.add_zero _).symm
def E0 (sc : Nat → Nat → Int32) (p q : Nat) : Bool := decide (kP sc (nI p) (nI q) = 0)
theorem r3I_sN (sc : Nat → Nat → Int32) (s i : Nat) (x : Int32) (hi : i < 10) : ∀ n, n ≤ 10 → r3I sc (nI s) i x n = x + sN (fun c => b1 (E0 sc s c && !decide (nI i = nI c))) n
  | 0, _ => (Int32.add_zero _).symm
  | n + 1, h => by
    rw [r3I_s, r3I_sN sc s i x hi n (by omega), sN_s]
    by_cases q : ¬ nI n = nI i ∧ kP sc (nI s) (nI n) = 0
    · rw [if_pos q, show E0 sc s n = true from decide_eq_true q.2, decide_eq_false (fun z : nI i = nI n => q.1 z.symm), Int32.add_assoc]; rfl
    · rw [if_neg q]
      have : (E0 sc s n && !decide (nI i = nI n)) = false := by
        by_cases q1 : kP sc (nI s) (nI n) = 0
        · have q2 : nI i = nI n := Decidable.byContradiction fun z => q ⟨fun y => z y.symm, q1⟩
          rw [decide_eq_true q2]; exact Bool.and_false _
        · rw [show E0 sc s n = false from decide_eq_false q1]; rfl
      rw [this, show b1 false = 0 from rfl, Int32.add_zero]
theorem r3_sN (sc : Nat → Nat → Int32) (s : Nat) : ∀ n, n ≤ 10 → r3 sc (nI s) n = sN (fun i => sN (fun c => b1 (E0 sc i s && E0 sc s c && !decide (nI i = nI c))) 10) n
  | 0, _ => rfl
  | n + 1, h => by
    rw [r3_s, sN_s, r3_sN sc s n (by omega)]
    by_cases q : kP sc (nI n) (nI s) = 0
    · rw [if_pos q, r3I_sN sc s n _ (by omega) 10 (Nat.le_refl _)]
      have z : sN (fun c => b1 (E0 sc s c && !decide (nI n = nI c))) 10 = sN (fun c => b1 (E0 sc n s && E0 sc s c && !decide (nI n = nI c))) 10 := sN_congr (fun c hc => by rw [show E0 sc n s = true from decide_eq_true q, Bool.true_and])
      rw [z]
    · have z : sN (fun c => b1 (E0 sc n s && E0 sc s c && !decide (nI n = nI c))) 10 = 0 := (sN_congr (g := fun _ => 0) (fun c hc => by rw [show E0 sc n s = false from decide_eq_false q]; rfl)).trans (sN_0 10)
      rw [if_neg q, z, Int32.add_zero]
def eyF (sc : Nat → Nat → Int32) (i m c : Nat) : Int32 := b1 (E0 sc i m && E0 sc m c && !decide (nI i = nI c))
theorem sN_mul9 (f : Nat → Int32) {n b a : Nat} (h : n = b * a) : sN f n = sN (fun i => sN (fun j => f (b * i + j)) b) a := by rw [h, sN_mul]
theorem eyF_k (sc : Nat → Nat → Int32) {i m c : Nat} (hi : i < 10) (hm : m < 10) (hc : c < 10) : b1 (eyP sc (100 * i + (10 * m + c))) = eyF sc i m c := by
  unfold eyP eyF E0
  rw [show (100 * i + (10 * m + c)) / 100 = i from by omega, show (100 * i + (10 * m + c)) / 10 % 10 = m from by omega, show (100 * i + (10 * m + c)) % 10 = c from by omega]
theorem eyM_1 (sc : Nat → Nat → Int32) : eyM sc 1000 = sN (fun i => sN (fun m => sN (fun c => eyF sc i m c) 10) 10) 10 := by
  rw [eyM_sN]
  refine (sN_mul9 (b := 100) (a := 10) (fun k => b1 (eyP sc k)) (by decide)).trans ?_
  refine sN_congr (fun i hi => ?_)
  refine (sN_mul9 (b := 10) (a := 10) (fun j => b1 (eyP sc (100 * i + j))) (by decide)).trans ?_
  refine sN_congr (fun m hm => ?_)
  exact sN_congr (fun c hc => eyF_k sc hi hm hc)
theorem eyM_2 (sc : Nat → Nat → Int32) : eyR sc 10 = sN (fun m => sN (fun i => sN (fun c => eyF sc i m c) 10) 10) 10 := by
  have e : eyR sc 10 = sN (fun s => r3 sc (nI s) 10) 10 := rfl
  rw [e]
  exact sN_congr (fun s hs => r3_sN sc s 10 (Nat.le_refl _))
theorem eyM_eq (sc : Nat → Nat → Int32) : eyM sc 1000 = eyR sc 10 := by
  rw [eyM_1, eyM_2]
  exact sN_swap (fun i m => sN (fun c => eyF sc i m c) 10) 10 10
