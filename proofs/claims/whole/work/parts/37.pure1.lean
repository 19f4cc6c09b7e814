/-! ===== both sides' functions are the same ===== -/
theorem tB_10 : ∀ m, m < 1024 → tB (fun y => bI (hb (nI m) (nI y))) 10 = nI m := by decide +kernel
theorem tB_6 : ∀ m, m < 64 → tB (fun y => bI (hb (nI m) (nI y))) 6 = nI m := by decide +kernel
-- past
theorem pdF_c (sc : Nat → Nat → Int32) (t : Nat) (c : Int32) (hz : ¬ sc 1 t = 0) (m : Nat) : shM sc t c m = paP sc t c m := by
  unfold shM paP sCol; rw [if_neg hz]
theorem nSh_0 (sc : Nat → Nat → Int32) (c m : Int32) : ∀ n, n < 2 ^ 31 → ∃ k, k ≤ n ∧ nSh sc c m n = nI k
  | 0, _ => ⟨0, Nat.le_refl 0, rfl⟩
  | n + 1, h => by
    obtain ⟨k, hk, e⟩ := nSh_0 sc c m n (by omega)
    rw [nSh_s]
    split
    · exact ⟨k, by omega, e⟩
    · exact ⟨k + 1, by omega, by rw [e, nI_1]⟩
theorem bsF_bM (sc : Nat → Nat → Int32) (m : Int32) : ∀ n, bsF sc m (n + 1) = (bM sc m n, nSh sc (bM sc m n) m 6)
  | 0 => by
    obtain ⟨k, hk, e⟩ := nSh_0 sc (nI 0) m 6 (by decide)
    show (if (0 : Int32) < nSh sc (nI 0) m 6 then (nI 0, nSh sc (nI 0) m 6) else ((0 : Int32), (0 : Int32))) = (0, nSh sc 0 m 6)
    split
    · rfl
    · rename_i q
      have : nSh sc (nI 0) m 6 = 0 := by
        rw [e] at q ⊢
        rcases Nat.eq_zero_or_pos k with z | z
        · rw [z]; rfl
        · exfalso; apply q
          rw [Int32.lt_iff_toInt_lt, nI_toInt (by omega)]
          have : (0 : Int32).toInt = 0 := rfl
          omega
      rw [show nSh sc 0 m 6 = 0 from this]
  | n + 1 => by
    have ih := bsF_bM sc m n
    show (if (bsF sc m (n + 1)).2 < nSh sc (nI (n + 1)) m 6 then (nI (n + 1), nSh sc (nI (n + 1)) m 6) else bsF sc m (n + 1)) = _
    rw [ih, bM_s]
    split <;> rfl
theorem beM_eq (sc : Nat → Nat → Int32) (m x : Int32) : beM sc m x = beR sc m x := by
  unfold beM beR
  rw [show (100 : Nat) = 99 + 1 from rfl, bsF_bM]
-- late
theorem oN_k : ∀ k, k < 9 → ∀ m, m < 2 ^ k → oN 10 m < k + 1 := by decide +kernel
def gS (t k j n : Nat) : Nat := fN (fun mk x => if oN 10 mk = j then x + wtN t mk k else x) 0 n
theorem gS_s (t k j n : Nat) : gS t k j (n + 1) = if oN 10 n = j then gS t k j n + wtN t n k else gS t k j n := rfl
theorem gS_all : ∀ k, k < 9 → ∀ t, t < 11 → ∀ j, j < k + 1 → gS t k j (2 ^ k) = Wn t k j := by decide +kernel
def grp (K : Nat → Bool) (A : Nat → Nat) (J : Nat) : Nat := fN (fun j x => if K j then x + A j else x) 0 J
theorem grp_s (K : Nat → Bool) (A : Nat → Nat) (J : Nat) : grp K A (J + 1) = if K J then grp K A J + A J else grp K A J := rfl
theorem grp_put (K : Nat → Bool) (A : Nat → Nat) (o v : Nat) : ∀ J, grp K (fun j => if o = j then A j + v else A j) J = grp K A J + (if o < J then (if K o then v else 0) else 0)
  | 0 => rfl
  | J + 1 => by
    rw [grp_s, grp_s, grp_put K A o v J]
    rcases Nat.lt_trichotomy o J with q | q | q
    · rw [if_neg (show ¬ o = J from by omega), if_pos q, if_pos (show o < J + 1 from by omega)]
      split <;> omega
    · subst q
      rw [if_pos rfl, if_neg (Nat.lt_irrefl o), if_pos (Nat.lt_succ_self o)]
      split <;> omega
    · rw [if_neg (show ¬ o = J from by omega), if_neg (show ¬ o < J from by omega), if_neg (show ¬ o < J + 1 from by omega)]
      rfl
theorem grp_congr {K : Nat → Bool} {A B : Nat → Nat} : ∀ {J : Nat}, (∀ j, j < J → A j = B j) → grp K A J = grp K B J
  | 0, _ => rfl
  | J + 1, h => by rw [grp_s, grp_s, h J (by omega), grp_congr (fun j hj => h j (by omega))]
theorem uM_grp (sc : Nat → Nat → Int32) (c m st kd : Int32) (t : Nat) {k : Nat} (hk : k < 9) : ∀ n, n ≤ 2 ^ k → uM sc c m st kd t k n = grp (fun j => decide (kLt sc c m st j = kd)) (fun j => gS t k j n) (k + 1)
  | 0, _ => by
    have : ∀ J, grp (fun j => decide (kLt sc c m st j = kd)) (fun j => gS t k j 0) J = 0 := by
      intro J
      induction J with
      | zero => rfl
      | succ J ih =>
        rw [grp_s, ih]
        split <;> rfl
    rw [this]; rfl
  | n + 1, hn => by
    have h1 := oN_k k hk n (by omega)
    have hp := pw256 k hk
    have e : kMt sc c m st n = kLt sc c m st (oN 10 n) := by unfold kMt kLt; rw [oN_all n (by omega)]
    rw [uM_s, e, uM_grp sc c m st kd t hk n (by omega)]
    have z := grp_put (fun j => decide (kLt sc c m st j = kd)) (fun j => gS t k j n) (oN 10 n) (wtN t n k) (k + 1)
    rw [show (fun j => gS t k j (n + 1)) = (fun j => if oN 10 n = j then gS t k j n + wtN t n k else gS t k j n) from rfl, z, if_pos h1]
    by_cases q : kLt sc c m st (oN 10 n) = kd
    · rw [if_pos q, if_pos (decide_eq_true q)]
    · rw [if_neg q, if_neg (by rw [decide_eq_false q]; decide)]; rfl
theorem uK_grp (sc : Nat → Nat → Int32) (c m st kd : Int32) (t k : Nat) : ∀ n, uK sc c m st kd t k n = grp (fun j => decide (kLt sc c m st j = kd)) (fun j => Wn t k j) n
  | 0 => rfl
  | n + 1 => by
    rw [uK_s, grp_s, uK_grp sc c m st kd t k n]
    by_cases q : kLt sc c m st n = kd
    · rw [if_pos q, if_pos (decide_eq_true q)]
    · rw [if_neg q, if_neg (by rw [decide_eq_false q]; decide)]
theorem laM2_eq (sc : Nat → Nat → Int32) (c m st k t kd pt : Int32) : laM2 sc c m st k t kd pt = laR sc c m st k t kd pt := by
  cases h : laOk c m st k t kd pt with
  | false => rw [laM2_0 h]; unfold laR; rw [h]; rfl
  | true =>
    have h2 := h
    unfold laOk at h2
    simp only [Bool.and_eq_true] at h2
    have hixk := wb_ix (n := 8) (by decide) rfl h2.2.2.2.2.1
    have hixt := wb_ix (n := 10) (by decide) rfl h2.2.2.2.2.2.1
    have e : uM sc c m st kd t.toNatClampNeg k.toNatClampNeg (2 ^ k.toNatClampNeg) = uK sc c m st kd t.toNatClampNeg k.toNatClampNeg (k.toNatClampNeg + 1) := by
      rw [uM_grp sc c m st kd _ hixk.2.2 _ (Nat.le_refl _), uK_grp]
      exact grp_congr (fun j hj => gS_all _ hixk.2.2 _ hixt.2.2 j hj)
    unfold laM2 laR
    rw [e]
