-- match, second half: the class's row of the most is a Tab; who stands beside whom
theorem nI_inj2 {a b : Nat} (ha : a < 2 ^ 31) (hb : b < 2 ^ 31) (h : nI a = nI b) : a = b := by
  have := congrArg Int32.toNatClampNeg h
  rw [nI_clamp ha, nI_clamp hb] at this
  exact this
theorem moN_g {sc : Nat → Nat → Int32} {fr mo : Nat → Int32} (hf : ∀ j, j < 10 → fr j = frB sc (nI j) 10) (h0 : mo 0 = 0) : ∀ n, n < 1024 → nnT (moN fr mo n) (n + 1) ∧ ∀ s l, 0 < s → s < n + 1 → isLs s l → moN fr mo n s = mR (cK sc) (moN fr mo n) s l (9 - l)
  | 0, _ => ⟨fun x hx => ⟨0, Nat.zero_le _, by rw [show x = 0 from by omega]; exact (moN_0 fr mo 0).trans h0⟩, fun s l a b => absurd b (by omega)⟩
  | n + 1, h => by
    obtain ⟨h1, h2⟩ := moN_g hf h0 n (by omega)
    have hne : ∀ x, x < n + 1 → moN fr mo n x = moN fr mo (n + 1) x := fun x hx => by
      rw [moN_s]; simp only [upd, show ¬ x = n + 1 from by omega, if_false]
    obtain ⟨l, hl⟩ := isLs_ex (m := n + 1) h (by omega)
    have e : mOf fr (moN fr mo n) (nI (n + 1)) 10 = mR (cK sc) (moN fr mo n) (n + 1) l (9 - l) := mOf_mR hf h hl h1
    have eN : moN fr mo (n + 1) (n + 1) = mR (cK sc) (moN fr mo n) (n + 1) l (9 - l) := by
      rw [moN_s, ← e]; simp only [upd, if_true]
    constructor
    · intro x hx
      by_cases z : x = n + 1
      · subst z
        obtain ⟨v, hv, e2, _⟩ := mR_v (cp := cK sc) h hl h1 (9 - l) (Nat.le_refl _)
        exact ⟨v, hv, eN.trans e2⟩
      · rw [← hne x (by omega)]; exact h1 x (by omega)
    · intro s k hs hs2 hk
      by_cases z : s = n + 1
      · subst z
        rw [isLs_un hk hl, eN]
        exact mR_congr hl hne _
      · rw [← hne s (by omega), h2 s k hs (by omega) hk]
        exact mR_congr hk (fun x hx => hne x (by omega)) _
theorem sub_tb {s S j : Nat} (h : s &&& S = s) (hj : Nat.testBit s j = true) : Nat.testBit S j = true := by
  rw [← h, Nat.testBit_and] at hj
  cases q : Nat.testBit S j with
  | true => rfl
  | false => rw [q, Bool.and_false] at hj; exact absurd hj (by decide)
theorem sub_le {s S : Nat} (h : s &&& S = s) : s ≤ S := by
  rw [← h]; exact Nat.and_le_right
theorem clr_hi {s l : Nat} (hs : s < 1024) (hl : ¬ l < 10) : clr s l = s := by
  unfold clr
  rw [if_neg]
  have h2 : 2 ^ 10 ≤ 2 ^ l := Nat.pow_le_pow_right (by decide) (by omega)
  rw [Nat.testBit_lt_two_pow (Nat.lt_of_lt_of_le (show s < 2 ^ 10 from hs) h2)]
  decide
theorem clr_sub {S : Nat} (hS : S < 1024) (s l : Nat) (h : s &&& S = s) : clr s l &&& S = clr s l := by
  have hs : s < 1024 := Nat.lt_of_le_of_lt (sub_le h) hS
  by_cases hl : l < 10
  · apply Nat.eq_of_testBit_eq
    intro j
    rw [Nat.testBit_and]
    by_cases hj : j < 10
    · rw [clr_tb s hs l hl j hj]
      cases q : Nat.testBit s j with
      | false => rfl
      | true => rw [sub_tb h q, Bool.and_true]
    · have h2 : 2 ^ 10 ≤ 2 ^ j := Nat.pow_le_pow_right (by decide) (by omega)
      have z : ∀ x, x < 1024 → Nat.testBit x j = false := fun x hx => Nat.testBit_lt_two_pow (Nat.lt_of_lt_of_le (show x < 2 ^ 10 from hx) h2)
      rw [z S hS, z (clr s l) (Nat.lt_of_le_of_lt (clr_le _ _) hs)]; rfl
  · rw [clr_hi hs hl, h]
theorem cK_cw {sc : Nat → Nat → Int32} {p q : Nat} (hp : p < 10) (hq : q < 10) (h1 : pE sc (nI p) = true) (h2 : pE sc (nI q) = true) (h3 : p ≠ q) : cK sc p q = cw sc p q := by
  have e : kP sc (nI p) (nI q) = kW (sc (6 + p)) (sc (6 + q)) := by
    unfold kP
    rw [h1, h2, decide_eq_false (fun z => h3 (nI_inj2 (by omega) (by omega) z)), nI_clamp (by omega), nI_clamp (by omega)]
    rfl
  unfold cK cw
  rw [e, Bool.decide_or]
theorem mR_cp {cp cq : Nat → Nat → Bool} {T : Nat → Int32} {s l : Nat} (h : ∀ j, j < 10 → Nat.testBit (clr s l) j = true → cp l j = cq l j) : ∀ n, n ≤ 9 - l → mR cp T s l n = mR cq T s l n := by
  intro n
  induction n with
  | zero => intro _; show T (clr s l) = T (clr s l); rfl
  | succ n ih =>
    intro hn
    have e : mRw cp T (clr s l) l (l + 1 + n) = mRw cq T (clr s l) l (l + 1 + n) := by
      unfold mRw
      cases z : Nat.testBit (clr s l) (l + 1 + n) with
      | false => rw [Bool.false_and, Bool.false_and]
      | true => rw [h (l + 1 + n) (by omega) z]
    rw [mR_s, mR_s, ih (by omega), e]
theorem ls_cw {sc : Nat → Nat → Int32} {S s l j : Nat} (hS : S < 1024) (hp : ∀ j, j < 10 → Nat.testBit S j = true → pE sc (nI j) = true) (hs : s &&& S = s) (hl : isLs s l) (hj : j < 10) (z : Nat.testBit (clr s l) j = true) : cK sc l j = cw sc l j := by
  have hs2 : s < 1024 := Nat.lt_of_le_of_lt (sub_le hs) hS
  rw [clr_tb s hs2 l hl.1 j hj] at z
  have z1 : Nat.testBit s j = true := by
    cases q : Nat.testBit s j with
    | true => rfl
    | false => rw [q, Bool.false_and] at z; exact absurd z (by decide)
  have z2 : ¬ j = l := fun q => by
    rw [decide_eq_true q, Bool.not_true, Bool.and_false] at z; exact absurd z (by decide)
  exact cK_cw hl.1 hj (hp l hl.1 (sub_tb hs hl.2.1)) (hp j hj (sub_tb hs z1)) (fun q => z2 q.symm)
theorem Tab_moN {sc : Nat → Nat → Int32} {fr mo : Nat → Int32} {S : Nat} (hf : ∀ j, j < 10 → fr j = frB sc (nI j) 10) (h0 : mo 0 = 0) (hS : S < 1024) (hp : ∀ j, j < 10 → Nat.testBit S j = true → pE sc (nI j) = true) : Tab (cw sc) S (S + 1) (moN fr mo S) := by
  obtain ⟨h1, h2⟩ := moN_g hf h0 S hS
  refine ⟨(moN_0 fr mo S).trans h0, fun s l a b c d => ?_⟩
  rw [h2 s l a b d]
  exact mR_cp (fun j hj z => ls_cw hS hp c d hj z) _ (Nat.le_refl _)
theorem clr_low {s l j : Nat} (hs : s < 1024) (hl : isLs s l) (hj : j ≤ l) : Nat.testBit (clr s l) j = false := by
  rw [clr_tb s hs l hl.1 j (by have := hl.1; omega)]
  by_cases z : j = l
  · rw [decide_eq_true z]; simp
  · rw [hl.2.2 j (by omega)]; rfl
theorem fMt_n {sc : Nat → Nat → Int32} {fr T2 T : Nat → Int32} {S : Nat} (hf : ∀ j, j < 10 → fr j = frB sc (nI j) 10) (hS : S < 1024) (hp : ∀ j, j < 10 → Nat.testBit S j = true → pE sc (nI j) = true) (hT : ∀ s, s < S + 1 → s &&& S = s → T2 s = T s) {s l : Nat} (hs : s &&& S = s) (hl : isLs s l) : fMt fr T2 (nI l) (nI s) = mtR (cw sc) T s l := by
  have hs2 : s < 1024 := Nat.lt_of_le_of_lt (sub_le hs) hS
  have hle := sub_le hs
  have hl10 := hl.1
  have hc : clr s l < 1024 := Nat.lt_of_le_of_lt (clr_le _ _) hs2
  have hm : ∀ j, j < 10 → fMp fr T2 (nI l) (nI s) j = mtP (cw sc) T s l j := by
    intro j hj
    have hc2 : clr (clr s l) j < 1024 := Nat.lt_of_le_of_lt (clr_le _ _) hc
    have hs3 := clr_sub hS _ j (clr_sub hS s l hs)
    unfold fMp mtP
    rw [clr_wo s hs2 l hl10, cPr_n hf hl10 hj hc, clr_wo _ hc j hj, mPr_n hc2, mPr_n hs2, hT s (by omega) hs, hT _ (by have := sub_le hs3; omega) hs3]
    cases z : Nat.testBit (clr s l) j with
    | false => simp only [Bool.false_and]
    | true => rw [ls_cw hS hp hs hl hj z]
  unfold fMt
  have hlow : ∀ j, j ≤ l → mtP (cw sc) T s l j = false := fun j hj => by
    unfold mtP; rw [clr_low hs2 hl hj]; rfl
  rcases ffO_cases (fun i => mtP (cw sc) T s l (l + 1 + i)) (9 - l) with ⟨h1, h2⟩ | ⟨i, h1, h2, h3, h4⟩
  · rw [mtR_none h1, ffO_none]
    · rfl
    · intro j hj
      rw [hm j hj]
      by_cases q : j ≤ l
      · exact hlow j q
      · have := h2 (j - l - 1) (by omega)
        rw [show l + 1 + (j - l - 1) = j from by omega] at this
        exact this
  · rw [mtR_some h4, ffO_some (n := 10) (i := l + 1 + i) (by omega) ((hm _ (by omega)).trans h2)]
    · rfl
    · intro j hj
      rw [hm j (by omega)]
      by_cases q : j ≤ l
      · exact hlow j q
      · have := h3 (j - l - 1) (by omega)
        rw [show l + 1 + (j - l - 1) = j from by omega] at this
        exact this
theorem m6_lt : (-6 : Int32) < 0 := by decide
theorem ptR_pw {sc : Nat → Nat → Int32} {fr T2 T : Nat → Int32} {S : Nat} (hf : ∀ j, j < 10 → fr j = frB sc (nI j) 10) (hS : S < 1024) (hp : ∀ j, j < 10 → Nat.testBit S j = true → pE sc (nI j) = true) (hT : ∀ s, s < S + 1 → s &&& S = s → T2 s = T s) (p : Int32) : ∀ d j s, j + d = 10 → ptL fr T2 (nI S) j = nI s → s &&& S = s → (∀ i, i < j → Nat.testBit s i = false) → (∀ i, i < j → ptH fr T2 p (nI S) i = false) → ∀ k, s ≤ k → ptR fr T2 p (nI S) = pw (cw sc) T p k s := by
  intro d
  induction d with
  | zero =>
    intro j s hj hL hs hb hH k hk
    have hs2 : s < 1024 := Nat.lt_of_le_of_lt (sub_le hs) hS
    have h0 : s = 0 := bits_0 s hs2 (fun i hi => hb i (by omega))
    rw [h0, pw_0]
    unfold ptR
    rw [ffO_none (fun i hi => hH i (by omega))]
  | succ d ih =>
    intro j s hj hL hs hb hH k hk
    have hs2 : s < 1024 := Nat.lt_of_le_of_lt (sub_le hs) hS
    have hj10 : j < 10 := by omega
    cases z : Nat.testBit s j with
    | false =>
      have eH : ptH fr T2 p (nI S) j = false := by
        unfold ptH; rw [hL, hb_n hs2 hj10, z]; rfl
      have eL : ptL fr T2 (nI S) (j + 1) = nI s := by
        rw [ptL_s, hL]; unfold ptS; rw [hb_n hs2 hj10, z]; rfl
      refine ih (j + 1) s (by omega) eL hs (fun i hi => ?_) (fun i hi => ?_) k hk
      · by_cases y : i = j
        · rw [y]; exact z
        · exact hb i (by omega)
      · by_cases y : i = j
        · rw [y]; exact eH
        · exact hH i (by omega)
    | true =>
      have hl : isLs s j := ⟨hj10, z, hb⟩
      have hm := fMt_n hf hS hp hT hs hl
      have h0 : ¬ s = 0 := fun q => by rw [q, Nat.zero_testBit] at z; exact absurd z (by decide)
      obtain ⟨k, rfl⟩ : ∃ k', k = k' + 1 := ⟨k - 1, by omega⟩
      have eH : ptH fr T2 p (nI S) j = (decide (nI j = p) || decide (mtR (cw sc) T s j = p)) := by
        unfold ptH; rw [hL, hb_n hs2 hj10, z, hm]; rfl
      by_cases q : nI j = p ∨ mtR (cw sc) T s j = p
      · rw [pw_hit h0 hl q]
        unfold ptR
        rw [ffO_some (n := 10) hj10 (by rw [eH, ← Bool.decide_or]; exact decide_eq_true q) hH]
        show (if nI j = p then fMt fr T2 (nI j) (ptL fr T2 (nI S) j) else nI j) = _
        rw [hL, hm]
      · have q1 : ¬ nI j = p := fun y => q (Or.inl y)
        have q2 : ¬ mtR (cw sc) T s j = p := fun y => q (Or.inr y)
        rw [pw_go h0 hl q1 q2]
        have eH2 : ptH fr T2 p (nI S) j = false := by rw [eH, decide_eq_false q1, decide_eq_false q2]; rfl
        have hc : clr s j < 1024 := Nat.lt_of_le_of_lt (clr_le _ _) hs2
        have hclt : clr s j < s := clr_lt z
        have fin : ∀ s2, s2 ≤ clr s j → s2 &&& S = s2 → (∀ i, i < j + 1 → Nat.testBit s2 i = false) → ptL fr T2 (nI S) (j + 1) = nI s2 → ptR fr T2 p (nI S) = pw (cw sc) T p k s2 := by
          intro s2 h1 h2 h3 h4
          refine ih (j + 1) s2 (by omega) h4 h2 h3 (fun i hi => ?_) k (by omega)
          by_cases y : i = j
          · rw [y]; exact eH2
          · exact hH i (by omega)
        have eL : ptL fr T2 (nI S) (j + 1) = if mtR (cw sc) T s j = -6 then nI (clr s j) else wo (nI (clr s j)) (mtR (cw sc) T s j) := by
          rw [ptL_s, hL]; unfold ptS; rw [hb_n hs2 hj10, z, if_pos rfl, hm, clr_wo s hs2 j hj10]
        rcases mtR_v (cw sc) T s hj10 with y | ⟨i, hi, y⟩
        · have en : nxt s j (mtR (cw sc) T s j) = clr s j := by unfold nxt; rw [y, if_pos m6_lt]
          rw [en]
          refine fin _ (Nat.le_refl _) (clr_sub hS s j hs) (fun i hi => clr_low hs2 hl (by omega)) ?_
          rw [eL, if_pos y]
        · have hn6 : ¬ nI i = -6 := fun w => by
            have h6 := nI_toInt (n := i) (by omega)
            rw [w] at h6
            have : (-6 : Int32).toInt = -6 := rfl
            omega
          have hn0 : ¬ nI i < 0 := nI_pos (by omega)
          have en : nxt s j (mtR (cw sc) T s j) = clr (clr s j) i := by unfold nxt; rw [y, if_neg hn0, nI_clamp (by omega)]
          rw [en]
          refine fin _ (clr_le _ _) (clr_sub hS _ i (clr_sub hS s j hs)) (fun x hx => ?_) ?_
          · rw [clr_tb _ hc i hi x (by omega), clr_low hs2 hl (by omega)]; rfl
          · rw [eL, y, if_neg hn6, clr_wo _ hc i hi]
theorem maR_eq {f : Nat → Int32} {a : Nat → Nat → Int32} {fr mo T : Nat → Int32} {s p : Int32} (hf5 : f 5 &&& 1023 = f 5) (hf : ∀ j, j < 10 → fr j = frB (mS f a) (nI j) 10) (h0 : mo 0 = 0) (hT : mmOk f s p = true → Tab (cw (mS f a)) s.toNatClampNeg (s.toNatClampNeg + 1) T) : maR (mS f a) fr mo s p = mmR f (mS f a) T s p := by
  have e5 : tB (mS f a 5) 10 = f 5 := tB_mS5 hf5
  have hok : maOk (mS f a) s p = mmOk f s p := by
    unfold maOk mmOk
    rw [e5]
    by_cases q : s &&& (f 5 ^^^ -1) = 0
    · obtain ⟨S, hS, e⟩ := set_of (g := mS f a 5) (s := s) (by rw [e5]; exact q)
      rw [decide_eq_true q, show wb s 0 1023 = true from by rw [e]; exact ix_wb (n := 1023) (ix_n hS (by decide)) (by decide) rfl]
      rfl
    · rw [decide_eq_false q, Bool.and_false]
  cases hm : mmOk f s p with
  | false =>
    rw [mmR_n hm]
    unfold maR
    rw [hok, hm]; rfl
  | true =>
    have hT := hT hm
    have q : s &&& (f 5 ^^^ -1) = 0 := by
      unfold mmOk at hm
      have := (Bool.and_eq_true _ _).mp ((Bool.and_eq_true _ _).mp hm).1
      exact of_decide_eq_true this.2
    obtain ⟨S, hS, e⟩ := set_of (g := mS f a 5) (s := s) (by rw [e5]; exact q)
    subst e
    rw [nI_clamp (by omega)] at hT
    obtain ⟨F, hF, eF⟩ := and1023 hf5
    rw [eF] at q
    have hsub := (sub_i hS hF).mp q
    have hp : ∀ j, j < 10 → Nat.testBit S j = true → pE (mS f a) (nI j) = true := by
      intro j hj hb
      rw [pE_m, eF, hb_n hF hj, sub_tb hsub hb, show wb (nI j) 0 9 = true from ix_wb (n := 9) (ix_n hj (by decide)) (by decide) rfl]
      rfl
    have hT2 := Tab_moN hf h0 hS hp
    have hTT := Tab.un (by omega) hT2 hT (fun s l h => clr_sub hS s l h)
    have hSS : S &&& S = S := Nat.and_self S
    unfold maR
    rw [hok, hm, if_pos rfl, nI_clamp (by omega)]
    by_cases y : p = -1
    · rw [if_pos y, mmR_1 hS hm y, mPr_n hS, hTT S (by omega) hSS]
    · rw [if_neg y, mmR_2 hS hm y]
      exact ptR_pw hf hS hp hTT p 10 0 S (by omega) rfl hSS (fun i hi => absurd hi (Nat.not_lt_zero i)) (fun i hi => absurd hi (Nat.not_lt_zero i)) S (Nat.le_refl _)
