/-! ===== the law: its script, its cases ===== -/
/-- the script of L ints xs lies at b, and stays -/
def sX (b L : Nat) (xs : Nat → Int32) (Γ : GT) : Prop := match Γ with
  | (_, _, _, _, s, _, _, _, _, _, _, A, _, _) => va_X b L xs s s.heap ∧ b < s.heap.size ∧ ¬ A b
theorem s_sln {l : Launch} {D : va_G} {R : Room} {own : String} {cc : ByteArray} {nL : Nat} {Γ : GT} {ce sl pc : Nat} {lv : List (Nat × Value)} {st : List Value} {N : Nat} {adr : Nat → Nat} {G : Nat → va_E} {b L : Nat} {xs : Nat → Int32} (h : cx l D R own cc nL Γ) (hX : sX b L xs Γ) (d : decode cc pc = .ok (.arraylength, 1)) (k_ : SX Γ ce sl (pc + 1) lv (.int (nI L) :: st) N adr G) : SX Γ ce sl pc lv (.ref b :: st) N adr G := by
  obtain ⟨p, l', e, R', s, m, args, below, meth, c, D', A, Q, nL'⟩ := Γ
  obtain ⟨rfl, rfl, rfl, rfl, hx, hb, hml, hown, hts, hnw, hK, hA, hlk⟩ := h
  intro H locs ls hP hD hS hl
  obtain ⟨q1, q2, q3⟩ := hX
  exact va_slen hx hb q1 q2 q3 hS d (k_ H locs ls hP hD hS hl)
theorem s_sld {l : Launch} {D : va_G} {R : Room} {own : String} {cc : ByteArray} {nL : Nat} {Γ : GT} {ce sl pc : Nat} {lv : List (Nat × Value)} {st : List Value} {N : Nat} {adr : Nat → Nat} {G : Nat → va_E} {b L j : Nat} {xs : Nat → Int32} (h : cx l D R own cc nL Γ) (hX : sX b L xs Γ) (d : decode cc pc = .ok (.iaload, 1)) (hj : j < L) (hL : L ≤ 512) (k_ : SX Γ ce sl (pc + 1) lv (.int (xs j) :: st) N adr G) : SX Γ ce sl pc lv (.int (nI j) :: .ref b :: st) N adr G := by
  obtain ⟨p, l', e, R', s, m, args, below, meth, c, D', A, Q, nL'⟩ := Γ
  obtain ⟨rfl, rfl, rfl, rfl, hx, hb, hml, hown, hts, hnw, hK, hA, hlk⟩ := h
  intro H locs ls hP hD hS hl
  obtain ⟨q1, q2, q3⟩ := hX
  have z := k_ H locs ls hP hD hS hl
  have e : (nI j).toNatClampNeg = j := nI_clamp (by omega)
  refine va_sld (L := L) (xs := xs) hx hb q1 q2 q3 hS (ix_in (ix_n hj (by omega))) d ?_
  rw [e]
  exact z
theorem PMt.go {Γ : GT} {ce sl pc : Nat} {lv : List (Nat × Value)} {st : List Value} {D : va_G} {adr : Nat → Nat} {G : Nat → va_E} {sc i0 i1 : Nat → Nat → Int32} {kp sg : Nat → Int32} {n : Nat} {s p : Int32} {N : Nat} (k : ∀ fr mo W, (∀ j, j < 10 → fr j = frB sc (nI j) 10) → mo 0 = 0 → isSW D adr W sc i0 i1 kp sg n → frW G W → SX Γ ce sl pc lv (.int (maR sc fr mo s p) :: st) N adr W) : ∀ v N' adr' G', PMt D adr G sc i0 i1 kp sg n s p N v N' adr' G' → SX Γ ce sl pc lv (v.toList ++ st) N' adr' G' := by
  rintro v N' adr' W ⟨rfl, rfl, fr, mo, h1, h2, rfl, h3, h4⟩
  exact k fr mo W h1 h2 h3 h4
theorem PMm.go {Γ : GT} {ce sl pc : Nat} {lv : List (Nat × Value)} {st : List Value} {D : va_G} {adr : Nat → Nat} {G0 : Nat → va_E} {f : Nat → Int32} {a : Nat → Nat → Int32} {s p : Int32} {N : Nat} (k : ∀ b T W, isMF D adr G0 W f b → sM f a f b → (mmOk f s p = true → Tab (cw (mS f a)) s.toNatClampNeg (s.toNatClampNeg + 1) T) → SX Γ ce sl pc lv (.int (mmR f (mS f a) T s p) :: st) N adr W) : ∀ v N' adr' G', PMm D adr G0 f a s p N v N' adr' G' → SX Γ ce sl pc lv (v.toList ++ st) N' adr' G' := by
  rintro v N' adr' W ⟨rfl, rfl, b, h1, h2, T, h3, rfl⟩
  exact k b T W h1 h2 h3
theorem w10 {f : Int32} (h : f &&& 63 = f) : f &&& 1023 = f := by
  obtain ⟨F, hF, e⟩ := nI63 h
  rw [e]; exact and10 (by omega)
theorem wb01k {x : Int32} (h : wb x 0 1 = true) : ∃ k, k < 2 ∧ x = nI k := by
  rcases wb01 h with q | q
  · exact ⟨0, by decide, q⟩
  · exact ⟨1, by decide, q⟩
theorem wb01n {x : Int32} (h : wb x 0 1 = false) : ¬ x = 0 ∧ ¬ x = 1 := by
  constructor
  · intro q; rw [q] at h; exact absurd h (by decide)
  · intro q; rw [q] at h; exact absurd h (by decide)
theorem lw_c0 {l : Launch} {D : va_G} {adr : Nat → Nat} {G : Nat → va_E} {Γ : GT} {ce sl b L i : Nat} {xs : Nat → Int32} (h : cx l D room_1 RL cL_law 4 Γ) (hX : sX b L xs Γ) (hc : ce ≤ 600000 ∧ sl ≤ 7302250) (hi : i + 8 ≤ L) (hL : L ≤ 512) (hI : LwI D adr G) (k_ : ∀ G2, LwI D adr G2 → SX Γ ce sl 1042 [(0, .ref b), (1, .ref (adr 0)), (2, .ref (adr 103)), (3, .int (nI i))] [] 115 adr G2) : SX Γ ce sl 156 [(0, .ref b), (1, .ref (adr 0)), (2, .ref (adr 103)), (3, .int (nI i))] [] 115 adr G := by
  obtain ⟨f, a, i0, i1, n, hW, hM, hP⟩ := hI
  obtain ⟨p1, p2, ⟨q1, q2, q3, q4⟩, p4, p5, p6, p7⟩ := id hP
  refine s_aload_n h dL_law_156 rfl <|
    s_aload_n h dL_law_157 rfl <|
    s_iload_n h dL_law_158 rfl <|
    s_iconst h dL_law_159 ic_1 <|
    s_iadd h dL_law_160 <|
    s_topi (nI (i + 1)) (nI_add i 1) <|
    s_sld h hX dL_law_161 (show i + 1 < L by omega) hL <|
    s_aload_n h dL_law_162 rfl <|
    s_iload_n h dL_law_163 rfl <|
    s_iconst h dL_law_164 ic_2 <|
    s_iadd h dL_law_165 <|
    s_topi (nI (i + 2)) (nI_add i 2) <|
    s_sld h hX dL_law_166 (show i + 2 < L by omega) hL <|
    s_aload_n h dL_law_167 rfl <|
    s_iload_n h dL_law_168 rfl <|
    s_iconst h dL_law_169 ic_3 <|
    s_iadd h dL_law_170 <|
    s_topi (nI (i + 3)) (nI_add i 3) <|
    s_sld h hX dL_law_171 (show i + 3 < L by omega) hL <|
    s_aload_n h dL_law_172 rfl <|
    s_iload_n h dL_law_173 rfl <|
    s_iconst h dL_law_174 ic_4 <|
    s_iadd h dL_law_175 <|
    s_topi (nI (i + 4)) (nI_add i 4) <|
    s_sld h hX dL_law_176 (show i + 4 < L by omega) hL <|
    k_L_13 h (c_X7_thing (by decide) hW) (by decide) hW.1 (by decide) rfl dL_law_177 (PR.go (fun V hV => ?_)) hc
  have hM2 : isMF D adr V V f a := ⟨hM.fr hV.2, fun _ _ => rfl⟩
  refine s_aload_n h dL_law_180 rfl <|
    s_aload_n h dL_law_181 rfl <|
    s_iload_n h dL_law_182 rfl <|
    s_iconst h dL_law_183 ic_1 <|
    s_iadd h dL_law_184 <|
    s_topi (nI (i + 1)) (nI_add i 1) <|
    s_sld h hX dL_law_185 (show i + 1 < L by omega) hL <|
    s_aload_n h dL_law_186 rfl <|
    s_iload_n h dL_law_187 rfl <|
    s_iconst h dL_law_188 ic_2 <|
    s_iadd h dL_law_189 <|
    s_topi (nI (i + 2)) (nI_add i 2) <|
    s_sld h hX dL_law_190 (show i + 2 < L by omega) hL <|
    s_aload_n h dL_law_191 rfl <|
    s_iload_n h dL_law_192 rfl <|
    s_iconst h dL_law_193 ic_3 <|
    s_iadd h dL_law_194 <|
    s_topi (nI (i + 3)) (nI_add i 3) <|
    s_sld h hX dL_law_195 (show i + 3 < L by omega) hL <|
    s_aload_n h dL_law_196 rfl <|
    s_iload_n h dL_law_197 rfl <|
    s_iconst h dL_law_198 ic_4 <|
    s_iadd h dL_law_199 <|
    s_topi (nI (i + 4)) (nI_add i 4) <|
    s_sld h hX dL_law_200 (show i + 4 < L by omega) hL <|
    k_L_17 h (c_X8_thing (by decide) hM2 (w10 q1)) (by decide) hM2.o (by decide) rfl dL_law_201 (PR.go (fun W hM3 => ?_)) hc
  refine s_icmp_eq (tgt := 1042) h dL_law_204 (by decide) (fun _ => ?_) (fun q => absurd (thR_eq ⟨q1, q2, q3, q4⟩) q)
  exact k_ _ (LwI.put hV.1 hM3 (thS_ag q1) (thing_P hP).2.1.symm (thing_P hP).2.2.symm (thing_P hP).1)
theorem lw_c1 {l : Launch} {D : va_G} {adr : Nat → Nat} {G : Nat → va_E} {Γ : GT} {ce sl b L i : Nat} {xs : Nat → Int32} (h : cx l D room_1 RL cL_law 4 Γ) (hX : sX b L xs Γ) (hc : ce ≤ 600000 ∧ sl ≤ 7302250) (hi : i + 8 ≤ L) (hL : L ≤ 512) (hI : LwI D adr G) (k_ : ∀ G2, LwI D adr G2 → SX Γ ce sl 1042 [(0, .ref b), (1, .ref (adr 0)), (2, .ref (adr 103)), (3, .int (nI i))] [] 115 adr G2) : SX Γ ce sl 209 [(0, .ref b), (1, .ref (adr 0)), (2, .ref (adr 103)), (3, .int (nI i))] [] 115 adr G := by
  obtain ⟨f, a, i0, i1, n, hW, hM, hP⟩ := hI
  obtain ⟨p1, p2, ⟨q1, q2, q3, q4⟩, p4, p5, p6, p7⟩ := id hP
  refine s_aload_n h dL_law_209 rfl <|
    s_aload_n h dL_law_210 rfl <|
    s_iload_n h dL_law_211 rfl <|
    s_iconst h dL_law_212 ic_1 <|
    s_iadd h dL_law_213 <|
    s_topi (nI (i + 1)) (nI_add i 1) <|
    s_sld h hX dL_law_214 (show i + 1 < L by omega) hL <|
    k_L_18 h (c_X7_leave (by decide) hW) (by decide) hW.1 (by decide) rfl dL_law_215 (PR.go (fun V hV => ?_)) hc
  have hM2 : isMF D adr V V f a := ⟨hM.fr hV.2, fun _ _ => rfl⟩
  refine s_aload_n h dL_law_218 rfl <|
    s_aload_n h dL_law_219 rfl <|
    s_iload_n h dL_law_220 rfl <|
    s_iconst h dL_law_221 ic_1 <|
    s_iadd h dL_law_222 <|
    s_topi (nI (i + 1)) (nI_add i 1) <|
    s_sld h hX dL_law_223 (show i + 1 < L by omega) hL <|
    k_L_22 h (c_X8_leave (by decide) hM2 (w10 q1)) (by decide) hM2.o (by decide) rfl dL_law_224 (PR.go (fun W hM3 => ?_)) hc
  refine s_icmp_eq (tgt := 1042) h dL_law_227 (by decide) (fun _ => ?_) (fun q => absurd (lvR_eq ⟨q1, q2, q3, q4⟩) q)
  exact k_ _ (LwI.put hV.1 hM3 (lvS_ag q1) rfl rfl (leave_P hP))
theorem lw_c2 {l : Launch} {D : va_G} {adr : Nat → Nat} {G : Nat → va_E} {Γ : GT} {ce sl b L i : Nat} {xs : Nat → Int32} (h : cx l D room_1 RL cL_law 4 Γ) (hX : sX b L xs Γ) (hc : ce ≤ 600000 ∧ sl ≤ 7302250) (hi : i + 8 ≤ L) (hL : L ≤ 512) (hI : LwI D adr G) (k_ : ∀ G2, LwI D adr G2 → SX Γ ce sl 1042 [(0, .ref b), (1, .ref (adr 0)), (2, .ref (adr 103)), (3, .int (nI i))] [] 115 adr G2) : SX Γ ce sl 232 [(0, .ref b), (1, .ref (adr 0)), (2, .ref (adr 103)), (3, .int (nI i))] [] 115 adr G := by
  obtain ⟨f, a, i0, i1, n, hW, hM, hP⟩ := hI
  obtain ⟨p1, p2, ⟨q1, q2, q3, q4⟩, p4, p5, p6, p7⟩ := id hP
  refine s_aload_n h dL_law_232 rfl <|
    s_aload_n h dL_law_233 rfl <|
    s_iload_n h dL_law_234 rfl <|
    s_iconst h dL_law_235 ic_1 <|
    s_iadd h dL_law_236 <|
    s_topi (nI (i + 1)) (nI_add i 1) <|
    s_sld h hX dL_law_237 (show i + 1 < L by omega) hL <|
    k_L_23 h (c_X7_focus (by decide) hW) (by decide) hW.1 (by decide) rfl dL_law_238 (PR.go (fun V hV => ?_)) hc
  have hM2 : isMF D adr V V f a := ⟨hM.fr hV.2, fun _ _ => rfl⟩
  refine s_aload_n h dL_law_241 rfl <|
    s_aload_n h dL_law_242 rfl <|
    s_iload_n h dL_law_243 rfl <|
    s_iconst h dL_law_244 ic_1 <|
    s_iadd h dL_law_245 <|
    s_topi (nI (i + 1)) (nI_add i 1) <|
    s_sld h hX dL_law_246 (show i + 1 < L by omega) hL <|
    k_L_26 h (c_X8_focus (by decide) hM2) (by decide) hM2.o (by decide) rfl dL_law_247 (PR.go (fun W hM3 => ?_)) hc
  refine s_icmp_eq (tgt := 1042) h dL_law_250 (by decide) (fun _ => ?_) (fun q => absurd (foR_eq) q)
  exact k_ _ (LwI.put hV.1 hM3 foS_ag rfl rfl (focus_P hP))
theorem lw_c3 {l : Launch} {D : va_G} {adr : Nat → Nat} {G : Nat → va_E} {Γ : GT} {ce sl b L i : Nat} {xs : Nat → Int32} (h : cx l D room_1 RL cL_law 4 Γ) (hX : sX b L xs Γ) (hc : ce ≤ 600000 ∧ sl ≤ 7302250) (hi : i + 8 ≤ L) (hL : L ≤ 512) (hI : LwI D adr G) (k_ : ∀ G2, LwI D adr G2 → SX Γ ce sl 1042 [(0, .ref b), (1, .ref (adr 0)), (2, .ref (adr 103)), (3, .int (nI i))] [] 115 adr G2) : SX Γ ce sl 255 [(0, .ref b), (1, .ref (adr 0)), (2, .ref (adr 103)), (3, .int (nI i))] [] 115 adr G := by
  obtain ⟨f, a, i0, i1, n, hW, hM, hP⟩ := hI
  obtain ⟨p1, p2, ⟨q1, q2, q3, q4⟩, p4, p5, p6, p7⟩ := id hP
  refine s_aload_n h dL_law_255 rfl <|
    s_aload_n h dL_law_256 rfl <|
    s_iload_n h dL_law_257 rfl <|
    s_iconst h dL_law_258 ic_1 <|
    s_iadd h dL_law_259 <|
    s_topi (nI (i + 1)) (nI_add i 1) <|
    s_sld h hX dL_law_260 (show i + 1 < L by omega) hL <|
    s_aload_n h dL_law_261 rfl <|
    s_iload_n h dL_law_262 rfl <|
    s_iconst h dL_law_263 ic_2 <|
    s_iadd h dL_law_264 <|
    s_topi (nI (i + 2)) (nI_add i 2) <|
    s_sld h hX dL_law_265 (show i + 2 < L by omega) hL <|
    s_aload_n h dL_law_266 rfl <|
    s_iload_n h dL_law_267 rfl <|
    s_iconst h dL_law_268 ic_3 <|
    s_iadd h dL_law_269 <|
    s_topi (nI (i + 3)) (nI_add i 3) <|
    s_sld h hX dL_law_270 (show i + 3 < L by omega) hL <|
    k_L_27 h (c_X7_take (by decide) hW q3) (by decide) hW.1 (by decide) rfl dL_law_271 (PR.go (fun V hV => ?_)) hc
  have hM2 : isMF D adr V V f a := ⟨hM.fr hV.2, fun _ _ => rfl⟩
  refine s_aload_n h dL_law_274 rfl <|
    s_aload_n h dL_law_275 rfl <|
    s_iload_n h dL_law_276 rfl <|
    s_iconst h dL_law_277 ic_1 <|
    s_iadd h dL_law_278 <|
    s_topi (nI (i + 1)) (nI_add i 1) <|
    s_sld h hX dL_law_279 (show i + 1 < L by omega) hL <|
    s_aload_n h dL_law_280 rfl <|
    s_iload_n h dL_law_281 rfl <|
    s_iconst h dL_law_282 ic_2 <|
    s_iadd h dL_law_283 <|
    s_topi (nI (i + 2)) (nI_add i 2) <|
    s_sld h hX dL_law_284 (show i + 2 < L by omega) hL <|
    s_aload_n h dL_law_285 rfl <|
    s_iload_n h dL_law_286 rfl <|
    s_iconst h dL_law_287 ic_3 <|
    s_iadd h dL_law_288 <|
    s_topi (nI (i + 3)) (nI_add i 3) <|
    s_sld h hX dL_law_289 (show i + 3 < L by omega) hL <|
    k_L_31 h (c_X8_take (by decide) hM2 q3) (by decide) hM2.o (by decide) rfl dL_law_290 (PR.go (fun W hM3 => ?_)) hc
  refine s_icmp_eq (tgt := 1042) h dL_law_293 (by decide) (fun _ => ?_) (fun q => absurd (rfl) q)
  exact k_ _ (LwI.put hV.1 hM3 (tkS_ag q2) (take_P hP).2.1.symm (take_P hP).2.2.symm (take_P hP).1)
theorem lw_c4 {l : Launch} {D : va_G} {adr : Nat → Nat} {G : Nat → va_E} {Γ : GT} {ce sl b L i : Nat} {xs : Nat → Int32} (h : cx l D room_1 RL cL_law 4 Γ) (hX : sX b L xs Γ) (hc : ce ≤ 600000 ∧ sl ≤ 7302250) (hi : i + 8 ≤ L) (hL : L ≤ 512) (hI : LwI D adr G) (k_ : ∀ G2, LwI D adr G2 → SX Γ ce sl 1042 [(0, .ref b), (1, .ref (adr 0)), (2, .ref (adr 103)), (3, .int (nI i))] [] 115 adr G2) : SX Γ ce sl 298 [(0, .ref b), (1, .ref (adr 0)), (2, .ref (adr 103)), (3, .int (nI i))] [] 115 adr G := by
  obtain ⟨f, a, i0, i1, n, hW, hM, hP⟩ := hI
  obtain ⟨p1, p2, ⟨q1, q2, q3, q4⟩, p4, p5, p6, p7⟩ := id hP
  refine s_aload_n h dL_law_298 rfl <|
    s_aload_n h dL_law_299 rfl <|
    s_iload_n h dL_law_300 rfl <|
    s_iconst h dL_law_301 ic_1 <|
    s_iadd h dL_law_302 <|
    s_topi (nI (i + 1)) (nI_add i 1) <|
    s_sld h hX dL_law_303 (show i + 1 < L by omega) hL <|
    s_aload_n h dL_law_304 rfl <|
    s_iload_n h dL_law_305 rfl <|
    s_iconst h dL_law_306 ic_2 <|
    s_iadd h dL_law_307 <|
    s_topi (nI (i + 2)) (nI_add i 2) <|
    s_sld h hX dL_law_308 (show i + 2 < L by omega) hL <|
    s_aload_n h dL_law_309 rfl <|
    s_iload_n h dL_law_310 rfl <|
    s_iconst h dL_law_311 ic_3 <|
    s_iadd h dL_law_312 <|
    s_topi (nI (i + 3)) (nI_add i 3) <|
    s_sld h hX dL_law_313 (show i + 3 < L by omega) hL <|
    k_L_32 h (c_X7_retouch (by decide) hW) (by decide) hW.1 (by decide) rfl dL_law_314 (PR.go (fun V hV => ?_)) hc
  have hM2 : isMF D adr V V f a := ⟨hM.fr hV.2, fun _ _ => rfl⟩
  refine s_aload_n h dL_law_317 rfl <|
    s_aload_n h dL_law_318 rfl <|
    s_iload_n h dL_law_319 rfl <|
    s_iconst h dL_law_320 ic_1 <|
    s_iadd h dL_law_321 <|
    s_topi (nI (i + 1)) (nI_add i 1) <|
    s_sld h hX dL_law_322 (show i + 1 < L by omega) hL <|
    s_aload_n h dL_law_323 rfl <|
    s_iload_n h dL_law_324 rfl <|
    s_iconst h dL_law_325 ic_2 <|
    s_iadd h dL_law_326 <|
    s_topi (nI (i + 2)) (nI_add i 2) <|
    s_sld h hX dL_law_327 (show i + 2 < L by omega) hL <|
    s_aload_n h dL_law_328 rfl <|
    s_iload_n h dL_law_329 rfl <|
    s_iconst h dL_law_330 ic_3 <|
    s_iadd h dL_law_331 <|
    s_topi (nI (i + 3)) (nI_add i 3) <|
    s_sld h hX dL_law_332 (show i + 3 < L by omega) hL <|
    k_L_35 h (c_X8_retouch (by decide) hM2) (by decide) hM2.o (by decide) rfl dL_law_333 (PR.go (fun W hM3 => ?_)) hc
  refine s_icmp_eq (tgt := 1042) h dL_law_336 (by decide) (fun _ => ?_) (fun q => absurd (reR_eq) q)
  exact k_ _ (LwI.put hV.1 hM3 reS_ag (retouch_P hP).2.1.symm (retouch_P hP).2.2.symm (retouch_P hP).1)
theorem lw_c5 {l : Launch} {D : va_G} {adr : Nat → Nat} {G : Nat → va_E} {Γ : GT} {ce sl b L i : Nat} {xs : Nat → Int32} (h : cx l D room_1 RL cL_law 4 Γ) (hX : sX b L xs Γ) (hc : ce ≤ 600000 ∧ sl ≤ 7302250) (hi : i + 8 ≤ L) (hL : L ≤ 512) (hI : LwI D adr G) (k_ : ∀ G2, LwI D adr G2 → SX Γ ce sl 1042 [(0, .ref b), (1, .ref (adr 0)), (2, .ref (adr 103)), (3, .int (nI i))] [] 115 adr G2) : SX Γ ce sl 341 [(0, .ref b), (1, .ref (adr 0)), (2, .ref (adr 103)), (3, .int (nI i))] [] 115 adr G := by
  obtain ⟨f, a, i0, i1, n, hW, hM, hP⟩ := hI
  obtain ⟨p1, p2, ⟨q1, q2, q3, q4⟩, p4, p5, p6, p7⟩ := id hP
  refine s_aload_n h dL_law_341 rfl <|
    s_aload_n h dL_law_342 rfl <|
    s_iload_n h dL_law_343 rfl <|
    s_iconst h dL_law_344 ic_1 <|
    s_iadd h dL_law_345 <|
    s_topi (nI (i + 1)) (nI_add i 1) <|
    s_sld h hX dL_law_346 (show i + 1 < L by omega) hL <|
    k_L_36 h (c_X7_burn (by decide) hW) (by decide) hW.1 (by decide) rfl dL_law_347 (PR.go (fun V hV => ?_)) hc
  have hM2 : isMF D adr V V f a := ⟨hM.fr hV.2, fun _ _ => rfl⟩
  refine s_aload_n h dL_law_350 rfl <|
    s_aload_n h dL_law_351 rfl <|
    s_iload_n h dL_law_352 rfl <|
    s_iconst h dL_law_353 ic_1 <|
    s_iadd h dL_law_354 <|
    s_topi (nI (i + 1)) (nI_add i 1) <|
    s_sld h hX dL_law_355 (show i + 1 < L by omega) hL <|
    k_L_39 h (c_X8_burn (by decide) hM2 q2) (by decide) hM2.o (by decide) rfl dL_law_356 (PR.go (fun W hM3 => ?_)) hc
  refine s_icmp_eq (tgt := 1042) h dL_law_359 (by decide) (fun _ => ?_) (fun q => absurd (buR_eq ⟨q1, q2, q3, q4⟩) q)
  exact k_ _ (LwI.put hV.1 hM3 (buS_ag q2) rfl rfl (burn_P hP))
theorem lw_c6 {l : Launch} {D : va_G} {adr : Nat → Nat} {G : Nat → va_E} {Γ : GT} {ce sl b L i : Nat} {xs : Nat → Int32} (h : cx l D room_1 RL cL_law 4 Γ) (hX : sX b L xs Γ) (hc : ce ≤ 600000 ∧ sl ≤ 7302250) (hi : i + 8 ≤ L) (hL : L ≤ 512) (hI : LwI D adr G) (k_ : ∀ G2, LwI D adr G2 → SX Γ ce sl 1042 [(0, .ref b), (1, .ref (adr 0)), (2, .ref (adr 103)), (3, .int (nI i))] [] 115 adr G2) : SX Γ ce sl 364 [(0, .ref b), (1, .ref (adr 0)), (2, .ref (adr 103)), (3, .int (nI i))] [] 115 adr G := by
  obtain ⟨f, a, i0, i1, n, hW, hM, hP⟩ := hI
  obtain ⟨p1, p2, ⟨q1, q2, q3, q4⟩, p4, p5, p6, p7⟩ := id hP
  refine s_aload_n h dL_law_364 rfl <|
    s_aload_n h dL_law_365 rfl <|
    s_iload_n h dL_law_366 rfl <|
    s_iconst h dL_law_367 ic_1 <|
    s_iadd h dL_law_368 <|
    s_topi (nI (i + 1)) (nI_add i 1) <|
    s_sld h hX dL_law_369 (show i + 1 < L by omega) hL <|
    k_L_40 h (c_X7_say (by decide) hW p2) (by decide) hW.1 (by decide) rfl dL_law_370 (PR.go (fun V hV => ?_)) hc
  have hM2 : isMF D adr V V f a := ⟨hM.fr hV.2, fun _ _ => rfl⟩
  refine s_aload_n h dL_law_373 rfl <|
    s_aload_n h dL_law_374 rfl <|
    s_iload_n h dL_law_375 rfl <|
    s_iconst h dL_law_376 ic_1 <|
    s_iadd h dL_law_377 <|
    s_topi (nI (i + 1)) (nI_add i 1) <|
    s_sld h hX dL_law_378 (show i + 1 < L by omega) hL <|
    k_L_43 h (c_X8_say (by decide) hM2 p1 p2) (by decide) hM2.o (by decide) rfl dL_law_379 (PR.go (fun W hM3 => ?_)) hc
  refine s_icmp_eq (tgt := 1042) h dL_law_382 (by decide) (fun _ => ?_) (fun q => absurd (rfl) q)
  exact k_ _ (LwI.put hV.1 hM3 (say_P hP).2.2.2 (say_P hP).2.1.symm (say_P hP).2.2.1.symm (say_P hP).1)
theorem lw_c7 {l : Launch} {D : va_G} {adr : Nat → Nat} {G : Nat → va_E} {Γ : GT} {ce sl b L i : Nat} {xs : Nat → Int32} (h : cx l D room_1 RL cL_law 4 Γ) (hX : sX b L xs Γ) (hc : ce ≤ 600000 ∧ sl ≤ 7302250) (hi : i + 8 ≤ L) (hL : L ≤ 512) (hI : LwI D adr G) (k_ : ∀ G2, LwI D adr G2 → SX Γ ce sl 1042 [(0, .ref b), (1, .ref (adr 0)), (2, .ref (adr 103)), (3, .int (nI i))] [] 115 adr G2) : SX Γ ce sl 387 [(0, .ref b), (1, .ref (adr 0)), (2, .ref (adr 103)), (3, .int (nI i))] [] 115 adr G := by
  obtain ⟨f, a, i0, i1, n, hW, hM, hP⟩ := hI
  obtain ⟨p1, p2, ⟨q1, q2, q3, q4⟩, p4, p5, p6, p7⟩ := id hP
  refine s_aload_n h dL_law_387 rfl <|
    k_L_44 h (c_X7_wipe (by decide) hW) (by decide) hW.1 (by decide) rfl dL_law_388 (PR.go (fun V hV => ?_)) hc
  have hM2 : isMF D adr V V f a := ⟨hM.fr hV.2, fun _ _ => rfl⟩
  refine s_aload_n h dL_law_391 rfl <|
    k_L_48 h (c_X8_wipe (by decide) hM2) (by decide) hM2.o (by decide) rfl dL_law_392 (PR.go (fun W hM3 => ?_)) hc
  refine s_icmp_eq (tgt := 1042) h dL_law_395 (by decide) (fun _ => ?_) (fun q => absurd (p1.symm) q)
  exact k_ _ (LwI.put hV.1 hM3 (wipe_P hP).2 rfl rfl (wipe_P hP).1)
theorem lw_c8 {l : Launch} {D : va_G} {adr : Nat → Nat} {G : Nat → va_E} {Γ : GT} {ce sl b L i : Nat} {xs : Nat → Int32} (h : cx l D room_1 RL cL_law 4 Γ) (hX : sX b L xs Γ) (hc : ce ≤ 600000 ∧ sl ≤ 7302250) (hi : i + 8 ≤ L) (hL : L ≤ 512) (hI : LwI D adr G) (k_ : ∀ G2, LwI D adr G2 → SX Γ ce sl 1042 [(0, .ref b), (1, .ref (adr 0)), (2, .ref (adr 103)), (3, .int (nI i))] [] 115 adr G2) : SX Γ ce sl 400 [(0, .ref b), (1, .ref (adr 0)), (2, .ref (adr 103)), (3, .int (nI i))] [] 115 adr G := by
  obtain ⟨f, a, i0, i1, n, hW, hM, hP⟩ := hI
  obtain ⟨p1, p2, ⟨q1, q2, q3, q4⟩, p4, p5, p6, p7⟩ := id hP
  refine s_aload_n h dL_law_400 rfl <|
    k_L_49 h (c_X7_fault (by decide) hW p2) (by decide) hW.1 (by decide) rfl dL_law_401 (PR.go (fun V hV => ?_)) hc
  have hM2 : isMF D adr V V f a := ⟨hM.fr hV.2, fun _ _ => rfl⟩
  refine s_aload_n h dL_law_404 rfl <|
    k_L_52 h (c_X8_fault (by decide) hM2 (sM.refl f a) p1 p2) (by decide) hM2.o (by decide) rfl dL_law_405 (PR.go (fun W hM3 => ?_)) hc
  obtain ⟨g, b2, m1, m2, -⟩ := hM3
  refine s_icmp_eq (tgt := 1042) h dL_law_408 (by decide) (fun _ => ?_) (fun q => absurd (rfl) q)
  exact k_ _ (LwI.sM (f := f) (a := a) hV.1 m1 m2 hP)
theorem lw_c9 {l : Launch} {D : va_G} {adr : Nat → Nat} {G : Nat → va_E} {Γ : GT} {ce sl b L i : Nat} {xs : Nat → Int32} (h : cx l D room_1 RL cL_law 4 Γ) (hX : sX b L xs Γ) (hc : ce ≤ 600000 ∧ sl ≤ 7302250) (hi : i + 8 ≤ L) (hL : L ≤ 512) (hI : LwI D adr G) (k_ : ∀ G2, LwI D adr G2 → SX Γ ce sl 1042 [(0, .ref b), (1, .ref (adr 0)), (2, .ref (adr 103)), (3, .int (nI i))] [] 115 adr G2) : SX Γ ce sl 413 [(0, .ref b), (1, .ref (adr 0)), (2, .ref (adr 103)), (3, .int (nI i))] [] 115 adr G := by
  obtain ⟨f, a, i0, i1, n, hW, hM, hP⟩ := hI
  obtain ⟨p1, p2, ⟨q1, q2, q3, q4⟩, p4, p5, p6, p7⟩ := id hP
  refine s_aload_n h dL_law_413 rfl <|
    s_aload_n h dL_law_414 rfl <|
    s_iload_n h dL_law_415 rfl <|
    s_iconst h dL_law_416 ic_1 <|
    s_iadd h dL_law_417 <|
    s_topi (nI (i + 1)) (nI_add i 1) <|
    s_sld h hX dL_law_418 (show i + 1 < L by omega) hL <|
    k_L_53 h (c_X7_judge (by decide) hW p2) (by decide) hW.1 (by decide) rfl dL_law_419 (PR.go (fun V hV => ?_)) hc
  have hM2 : isMF D adr V V f a := ⟨hM.fr hV.2, fun _ _ => rfl⟩
  refine s_aload_n h dL_law_422 rfl <|
    s_aload_n h dL_law_423 rfl <|
    s_iload_n h dL_law_424 rfl <|
    s_iconst h dL_law_425 ic_1 <|
    s_iadd h dL_law_426 <|
    s_topi (nI (i + 1)) (nI_add i 1) <|
    s_sld h hX dL_law_427 (show i + 1 < L by omega) hL <|
    k_L_56 h (c_X8_judge (by decide) hM2 p1 p2) (by decide) hM2.o (by decide) rfl dL_law_428 (PR.go (fun W hM3 => ?_)) hc
  obtain ⟨g, b2, m1, m2⟩ := hM3
  refine s_icmp_eq (tgt := 1042) h dL_law_431 (by decide) (fun _ => ?_) (fun q => absurd (rfl) q)
  exact k_ _ (LwI.sM (f := f) (a := a) hV.1 m1 m2 hP)
theorem lw_c10 {l : Launch} {D : va_G} {adr : Nat → Nat} {G : Nat → va_E} {Γ : GT} {ce sl b L i : Nat} {xs : Nat → Int32} (h : cx l D room_1 RL cL_law 4 Γ) (hX : sX b L xs Γ) (hc : ce ≤ 600000 ∧ sl ≤ 7302250) (hi : i + 8 ≤ L) (hL : L ≤ 512) (hI : LwI D adr G) (k_ : ∀ G2, LwI D adr G2 → SX Γ ce sl 1042 [(0, .ref b), (1, .ref (adr 0)), (2, .ref (adr 103)), (3, .int (nI i))] [] 115 adr G2) : SX Γ ce sl 436 [(0, .ref b), (1, .ref (adr 0)), (2, .ref (adr 103)), (3, .int (nI i))] [] 115 adr G := by
  obtain ⟨f, a, i0, i1, n, hW, hM, hP⟩ := hI
  obtain ⟨p1, p2, ⟨q1, q2, q3, q4⟩, p4, p5, p6, p7⟩ := id hP
  refine s_aload_n h dL_law_436 rfl <|
    s_aload_n h dL_law_437 rfl <|
    s_iload_n h dL_law_438 rfl <|
    s_iconst h dL_law_439 ic_1 <|
    s_iadd h dL_law_440 <|
    s_topi (nI (i + 1)) (nI_add i 1) <|
    s_sld h hX dL_law_441 (show i + 1 < L by omega) hL <|
    k_L_57 h (c_X7_kinds (by decide) hW p2) (by decide) hW.1 (by decide) rfl dL_law_442 (PR.go (fun V hV => ?_)) hc
  have hM2 : isMF D adr V V f a := ⟨hM.fr hV.2, fun _ _ => rfl⟩
  refine s_aload_n h dL_law_445 rfl <|
    s_aload_n h dL_law_446 rfl <|
    s_iload_n h dL_law_447 rfl <|
    s_iconst h dL_law_448 ic_1 <|
    s_iadd h dL_law_449 <|
    s_topi (nI (i + 1)) (nI_add i 1) <|
    s_sld h hX dL_law_450 (show i + 1 < L by omega) hL <|
    k_L_60 h (c_X8_kinds (by decide) hM2 q4 p1 p2) (by decide) hM2.o (by decide) rfl dL_law_451 (PR.go (fun W hM3 => ?_)) hc
  obtain ⟨g, b2, m1, m2⟩ := hM3
  refine s_icmp_eq (tgt := 1042) h dL_law_454 (by decide) (fun _ => ?_) (fun q => absurd (rfl) q)
  exact k_ _ (LwI.sM (f := f) (a := a) hV.1 m1 m2 hP)
theorem lw_c11 {l : Launch} {D : va_G} {adr : Nat → Nat} {G : Nat → va_E} {Γ : GT} {ce sl b L i : Nat} {xs : Nat → Int32} (h : cx l D room_1 RL cL_law 4 Γ) (hX : sX b L xs Γ) (hc : ce ≤ 600000 ∧ sl ≤ 7302250) (hi : i + 8 ≤ L) (hL : L ≤ 512) (hI : LwI D adr G) (k_ : ∀ G2, LwI D adr G2 → SX Γ ce sl 1042 [(0, .ref b), (1, .ref (adr 0)), (2, .ref (adr 103)), (3, .int (nI i))] [] 115 adr G2) : SX Γ ce sl 459 [(0, .ref b), (1, .ref (adr 0)), (2, .ref (adr 103)), (3, .int (nI i))] [] 115 adr G := by
  obtain ⟨f, a, i0, i1, n, hW, hM, hP⟩ := hI
  obtain ⟨p1, p2, ⟨q1, q2, q3, q4⟩, p4, p5, p6, p7⟩ := id hP
  have hM2 : isMF D adr G G f a := ⟨hM, fun _ _ => rfl⟩
  refine s_aload_n h dL_law_459 rfl <|
    s_aload_n h dL_law_460 rfl <|
    s_iload_n h dL_law_461 rfl <|
    s_iconst h dL_law_462 ic_1 <|
    s_iadd h dL_law_463 <|
    s_topi (nI (i + 1)) (nI_add i 1) <|
    s_sld h hX dL_law_464 (show i + 1 < L by omega) hL <|
    s_aload_n h dL_law_465 rfl <|
    s_iload_n h dL_law_466 rfl <|
    s_iconst h dL_law_467 ic_2 <|
    s_iadd h dL_law_468 <|
    s_topi (nI (i + 2)) (nI_add i 2) <|
    s_sld h hX dL_law_469 (show i + 2 < L by omega) hL <|
    k_L_61 h (c_X7_kind (by decide) hW) (by decide) hW.1 (by decide) rfl dL_law_470 (PE.go ?_) hc
  refine s_aload_n h dL_law_473 rfl <|
    s_aload_n h dL_law_474 rfl <|
    s_iload_n h dL_law_475 rfl <|
    s_iconst h dL_law_476 ic_1 <|
    s_iadd h dL_law_477 <|
    s_topi (nI (i + 1)) (nI_add i 1) <|
    s_sld h hX dL_law_478 (show i + 1 < L by omega) hL <|
    s_aload_n h dL_law_479 rfl <|
    s_iload_n h dL_law_480 rfl <|
    s_iconst h dL_law_481 ic_2 <|
    s_iadd h dL_law_482 <|
    s_topi (nI (i + 2)) (nI_add i 2) <|
    s_sld h hX dL_law_483 (show i + 2 < L by omega) hL <|
    k_L_65 h (c_X8_kind (by decide) hM2 q4) (by decide) hM2.o (by decide) rfl dL_law_484 (PE.go ?_) hc
  refine s_icmp_eq (tgt := 1042) h dL_law_487 (by decide) (fun _ => ?_) (fun q => absurd (rfl) q)
  exact k_ _ ⟨f, a, i0, i1, n, hW, hM, hP⟩
theorem lw_c12 {l : Launch} {D : va_G} {adr : Nat → Nat} {G : Nat → va_E} {Γ : GT} {ce sl b L i : Nat} {xs : Nat → Int32} (h : cx l D room_1 RL cL_law 4 Γ) (hX : sX b L xs Γ) (hc : ce ≤ 600000 ∧ sl ≤ 7302250) (hi : i + 8 ≤ L) (hL : L ≤ 512) (hI : LwI D adr G) (k_ : ∀ G2, LwI D adr G2 → SX Γ ce sl 1042 [(0, .ref b), (1, .ref (adr 0)), (2, .ref (adr 103)), (3, .int (nI i))] [] 115 adr G2) : SX Γ ce sl 492 [(0, .ref b), (1, .ref (adr 0)), (2, .ref (adr 103)), (3, .int (nI i))] [] 115 adr G := by
  obtain ⟨f, a, i0, i1, n, hW, hM, hP⟩ := hI
  obtain ⟨p1, p2, ⟨q1, q2, q3, q4⟩, p4, p5, p6, p7⟩ := id hP
  have hM2 : isMF D adr G G f a := ⟨hM, fun _ _ => rfl⟩
  refine s_aload_n h dL_law_492 rfl <|
    s_aload_n h dL_law_493 rfl <|
    s_iload_n h dL_law_494 rfl <|
    s_iconst h dL_law_495 ic_1 <|
    s_iadd h dL_law_496 <|
    s_topi (nI (i + 1)) (nI_add i 1) <|
    s_sld h hX dL_law_497 (show i + 1 < L by omega) hL <|
    s_aload_n h dL_law_498 rfl <|
    s_iload_n h dL_law_499 rfl <|
    s_iconst h dL_law_500 ic_2 <|
    s_iadd h dL_law_501 <|
    s_topi (nI (i + 2)) (nI_add i 2) <|
    s_sld h hX dL_law_502 (show i + 2 < L by omega) hL <|
    s_aload_n h dL_law_503 rfl <|
    s_iload_n h dL_law_504 rfl <|
    s_iconst h dL_law_505 ic_3 <|
    s_iadd h dL_law_506 <|
    s_topi (nI (i + 3)) (nI_add i 3) <|
    s_sld h hX dL_law_507 (show i + 3 < L by omega) hL <|
    k_L_66 h (c_X7_shift (by decide) hW) (by decide) hW.1 (by decide) rfl dL_law_508 (PE.go ?_) hc
  refine s_aload_n h dL_law_511 rfl <|
    s_aload_n h dL_law_512 rfl <|
    s_iload_n h dL_law_513 rfl <|
    s_iconst h dL_law_514 ic_1 <|
    s_iadd h dL_law_515 <|
    s_topi (nI (i + 1)) (nI_add i 1) <|
    s_sld h hX dL_law_516 (show i + 1 < L by omega) hL <|
    s_aload_n h dL_law_517 rfl <|
    s_iload_n h dL_law_518 rfl <|
    s_iconst h dL_law_519 ic_2 <|
    s_iadd h dL_law_520 <|
    s_topi (nI (i + 2)) (nI_add i 2) <|
    s_sld h hX dL_law_521 (show i + 2 < L by omega) hL <|
    s_aload_n h dL_law_522 rfl <|
    s_iload_n h dL_law_523 rfl <|
    s_iconst h dL_law_524 ic_3 <|
    s_iadd h dL_law_525 <|
    s_topi (nI (i + 3)) (nI_add i 3) <|
    s_sld h hX dL_law_526 (show i + 3 < L by omega) hL <|
    k_L_69 h (c_X8_shift (by decide) hM2 q4) (by decide) hM2.o (by decide) rfl dL_law_527 (PE.go ?_) hc
  refine s_icmp_eq (tgt := 1042) h dL_law_530 (by decide) (fun _ => ?_) (fun q => absurd (rfl) q)
  exact k_ _ ⟨f, a, i0, i1, n, hW, hM, hP⟩
theorem lw_c13 {l : Launch} {D : va_G} {adr : Nat → Nat} {G : Nat → va_E} {Γ : GT} {ce sl b L i : Nat} {xs : Nat → Int32} (h : cx l D room_1 RL cL_law 4 Γ) (hX : sX b L xs Γ) (hc : ce ≤ 600000 ∧ sl ≤ 7302250) (hi : i + 8 ≤ L) (hL : L ≤ 512) (hI : LwI D adr G) (k_ : ∀ G2, LwI D adr G2 → SX Γ ce sl 1042 [(0, .ref b), (1, .ref (adr 0)), (2, .ref (adr 103)), (3, .int (nI i))] [] 115 adr G2) : SX Γ ce sl 535 [(0, .ref b), (1, .ref (adr 0)), (2, .ref (adr 103)), (3, .int (nI i))] [] 115 adr G := by
  obtain ⟨f, a, i0, i1, n, hW, hM, hP⟩ := hI
  obtain ⟨p1, p2, ⟨q1, q2, q3, q4⟩, p4, p5, p6, p7⟩ := id hP
  have hM2 : isMF D adr G G f a := ⟨hM, fun _ _ => rfl⟩
  refine s_aload_n h dL_law_535 rfl <|
    s_aload_n h dL_law_536 rfl <|
    s_iload_n h dL_law_537 rfl <|
    s_iconst h dL_law_538 ic_1 <|
    s_iadd h dL_law_539 <|
    s_topi (nI (i + 1)) (nI_add i 1) <|
    s_sld h hX dL_law_540 (show i + 1 < L by omega) hL <|
    s_aload_n h dL_law_541 rfl <|
    s_iload_n h dL_law_542 rfl <|
    s_iconst h dL_law_543 ic_2 <|
    s_iadd h dL_law_544 <|
    s_topi (nI (i + 2)) (nI_add i 2) <|
    s_sld h hX dL_law_545 (show i + 2 < L by omega) hL <|
    s_aload_n h dL_law_546 rfl <|
    s_iload_n h dL_law_547 rfl <|
    s_iconst h dL_law_548 ic_3 <|
    s_iadd h dL_law_549 <|
    s_topi (nI (i + 3)) (nI_add i 3) <|
    s_sld h hX dL_law_550 (show i + 3 < L by omega) hL <|
    k_L_70 h (c_X7_near (by decide) hW) (by decide) hW.1 (by decide) rfl dL_law_551 (PE.go ?_) hc
  refine s_aload_n h dL_law_554 rfl <|
    s_aload_n h dL_law_555 rfl <|
    s_iload_n h dL_law_556 rfl <|
    s_iconst h dL_law_557 ic_1 <|
    s_iadd h dL_law_558 <|
    s_topi (nI (i + 1)) (nI_add i 1) <|
    s_sld h hX dL_law_559 (show i + 1 < L by omega) hL <|
    s_aload_n h dL_law_560 rfl <|
    s_iload_n h dL_law_561 rfl <|
    s_iconst h dL_law_562 ic_2 <|
    s_iadd h dL_law_563 <|
    s_topi (nI (i + 2)) (nI_add i 2) <|
    s_sld h hX dL_law_564 (show i + 2 < L by omega) hL <|
    s_aload_n h dL_law_565 rfl <|
    s_iload_n h dL_law_566 rfl <|
    s_iconst h dL_law_567 ic_3 <|
    s_iadd h dL_law_568 <|
    s_topi (nI (i + 3)) (nI_add i 3) <|
    s_sld h hX dL_law_569 (show i + 3 < L by omega) hL <|
    k_L_73 h (c_X8_near (by decide) hM2 q4) (by decide) hM2.o (by decide) rfl dL_law_570 (PE.go ?_) hc
  refine s_icmp_eq (tgt := 1042) h dL_law_573 (by decide) (fun _ => ?_) (fun q => absurd ((neM_eq q4 _ _ _).symm) q)
  exact k_ _ ⟨f, a, i0, i1, n, hW, hM, hP⟩
theorem lw_c14 {l : Launch} {D : va_G} {adr : Nat → Nat} {G : Nat → va_E} {Γ : GT} {ce sl b L i : Nat} {xs : Nat → Int32} (h : cx l D room_1 RL cL_law 4 Γ) (hX : sX b L xs Γ) (hc : ce ≤ 600000 ∧ sl ≤ 7302250) (hi : i + 8 ≤ L) (hL : L ≤ 512) (hI : LwI D adr G) (k_ : ∀ G2, LwI D adr G2 → SX Γ ce sl 1042 [(0, .ref b), (1, .ref (adr 0)), (2, .ref (adr 103)), (3, .int (nI i))] [] 115 adr G2) : SX Γ ce sl 578 [(0, .ref b), (1, .ref (adr 0)), (2, .ref (adr 103)), (3, .int (nI i))] [] 115 adr G := by
  obtain ⟨f, a, i0, i1, n, hW, hM, hP⟩ := hI
  obtain ⟨p1, p2, ⟨q1, q2, q3, q4⟩, p4, p5, p6, p7⟩ := id hP
  refine s_aload_n h dL_law_578 rfl <|
    s_aload_n h dL_law_579 rfl <|
    s_iload_n h dL_law_580 rfl <|
    s_iconst h dL_law_581 ic_1 <|
    s_iadd h dL_law_582 <|
    s_topi (nI (i + 1)) (nI_add i 1) <|
    s_sld h hX dL_law_583 (show i + 1 < L by omega) hL <|
    s_aload_n h dL_law_584 rfl <|
    s_iload_n h dL_law_585 rfl <|
    s_iconst h dL_law_586 ic_2 <|
    s_iadd h dL_law_587 <|
    s_topi (nI (i + 2)) (nI_add i 2) <|
    s_sld h hX dL_law_588 (show i + 2 < L by omega) hL <|
    k_L_74 h (c_X7_match (by decide) hW) (by decide) hW.1 (by decide) rfl dL_law_589 (PMt.go (fun fr mo V y1 y2 hV1 hV2 => ?_)) hc
  have hV : isSW D adr V (mS f a) i0 i1 (a 114) (a 108) n ∧ frW G V := ⟨hV1, hV2⟩
  have hM2 : isMF D adr V V f a := ⟨hM.fr hV.2, fun _ _ => rfl⟩
  refine s_aload_n h dL_law_592 rfl <|
    s_aload_n h dL_law_593 rfl <|
    s_iload_n h dL_law_594 rfl <|
    s_iconst h dL_law_595 ic_1 <|
    s_iadd h dL_law_596 <|
    s_topi (nI (i + 1)) (nI_add i 1) <|
    s_sld h hX dL_law_597 (show i + 1 < L by omega) hL <|
    s_aload_n h dL_law_598 rfl <|
    s_iload_n h dL_law_599 rfl <|
    s_iconst h dL_law_600 ic_2 <|
    s_iadd h dL_law_601 <|
    s_topi (nI (i + 2)) (nI_add i 2) <|
    s_sld h hX dL_law_602 (show i + 2 < L by omega) hL <|
    k_L_77 h (c_X8_match (by decide) hM2 q4) (by decide) hM2.o (by decide) rfl dL_law_603 (PMm.go (fun b2 T W m1 m2 y3 => ?_)) hc
  refine s_icmp_eq (tgt := 1042) h dL_law_606 (by decide) (fun _ => ?_) (fun q => absurd (maR_eq q2 y1 y2 y3) q)
  exact k_ _ (LwI.sM (f := f) (a := a) hV.1 m1 m2 hP)
theorem lw_c15 {l : Launch} {D : va_G} {adr : Nat → Nat} {G : Nat → va_E} {Γ : GT} {ce sl b L i : Nat} {xs : Nat → Int32} (h : cx l D room_1 RL cL_law 4 Γ) (hX : sX b L xs Γ) (hc : ce ≤ 600000 ∧ sl ≤ 7302250) (hi : i + 8 ≤ L) (hL : L ≤ 512) (hI : LwI D adr G) (k_ : ∀ G2, LwI D adr G2 → SX Γ ce sl 1042 [(0, .ref b), (1, .ref (adr 0)), (2, .ref (adr 103)), (3, .int (nI i))] [] 115 adr G2) : SX Γ ce sl 611 [(0, .ref b), (1, .ref (adr 0)), (2, .ref (adr 103)), (3, .int (nI i))] [] 115 adr G := by
  obtain ⟨f, a, i0, i1, n, hW, hM, hP⟩ := hI
  obtain ⟨p1, p2, ⟨q1, q2, q3, q4⟩, p4, p5, p6, p7⟩ := id hP
  have hM2 : isMF D adr G G f a := ⟨hM, fun _ _ => rfl⟩
  refine s_aload_n h dL_law_611 rfl <|
    s_aload_n h dL_law_612 rfl <|
    s_iload_n h dL_law_613 rfl <|
    s_iconst h dL_law_614 ic_1 <|
    s_iadd h dL_law_615 <|
    s_topi (nI (i + 1)) (nI_add i 1) <|
    s_sld h hX dL_law_616 (show i + 1 < L by omega) hL <|
    s_aload_n h dL_law_617 rfl <|
    s_iload_n h dL_law_618 rfl <|
    s_iconst h dL_law_619 ic_2 <|
    s_iadd h dL_law_620 <|
    s_topi (nI (i + 2)) (nI_add i 2) <|
    s_sld h hX dL_law_621 (show i + 2 < L by omega) hL <|
    k_L_78 h (c_X7_stood (by decide) hW q3) (by decide) hW.1 (by decide) rfl dL_law_622 (PE.go ?_) hc
  refine s_aload_n h dL_law_625 rfl <|
    s_aload_n h dL_law_626 rfl <|
    s_iload_n h dL_law_627 rfl <|
    s_iconst h dL_law_628 ic_1 <|
    s_iadd h dL_law_629 <|
    s_topi (nI (i + 1)) (nI_add i 1) <|
    s_sld h hX dL_law_630 (show i + 1 < L by omega) hL <|
    s_aload_n h dL_law_631 rfl <|
    s_iload_n h dL_law_632 rfl <|
    s_iconst h dL_law_633 ic_2 <|
    s_iadd h dL_law_634 <|
    s_topi (nI (i + 2)) (nI_add i 2) <|
    s_sld h hX dL_law_635 (show i + 2 < L by omega) hL <|
    k_L_81 h (c_X8_stood (by decide) hM2 q3) (by decide) hM2.o (by decide) rfl dL_law_636 (PE.go ?_) hc
  refine s_icmp_eq (tgt := 1042) h dL_law_639 (by decide) (fun _ => ?_) (fun q => absurd ((stR_eq _ _ _).symm) q)
  exact k_ _ ⟨f, a, i0, i1, n, hW, hM, hP⟩
theorem lw_c16 {l : Launch} {D : va_G} {adr : Nat → Nat} {G : Nat → va_E} {Γ : GT} {ce sl b L i : Nat} {xs : Nat → Int32} (h : cx l D room_1 RL cL_law 4 Γ) (hX : sX b L xs Γ) (hc : ce ≤ 600000 ∧ sl ≤ 7302250) (hi : i + 8 ≤ L) (hL : L ≤ 512) (hI : LwI D adr G) (k_ : ∀ G2, LwI D adr G2 → SX Γ ce sl 1042 [(0, .ref b), (1, .ref (adr 0)), (2, .ref (adr 103)), (3, .int (nI i))] [] 115 adr G2) : SX Γ ce sl 644 [(0, .ref b), (1, .ref (adr 0)), (2, .ref (adr 103)), (3, .int (nI i))] [] 115 adr G := by
  obtain ⟨f, a, i0, i1, n, hW, hM, hP⟩ := hI
  obtain ⟨p1, p2, ⟨q1, q2, q3, q4⟩, p4, p5, p6, p7⟩ := id hP
  have hM2 : isMF D adr G G f a := ⟨hM, fun _ _ => rfl⟩
  refine s_aload_n h dL_law_644 rfl <|
    s_aload_n h dL_law_645 rfl <|
    s_iload_n h dL_law_646 rfl <|
    s_iconst h dL_law_647 ic_1 <|
    s_iadd h dL_law_648 <|
    s_topi (nI (i + 1)) (nI_add i 1) <|
    s_sld h hX dL_law_649 (show i + 1 < L by omega) hL <|
    s_aload_n h dL_law_650 rfl <|
    s_iload_n h dL_law_651 rfl <|
    s_iconst h dL_law_652 ic_2 <|
    s_iadd h dL_law_653 <|
    s_topi (nI (i + 2)) (nI_add i 2) <|
    s_sld h hX dL_law_654 (show i + 2 < L by omega) hL <|
    k_L_82 h (c_X7_forged (by decide) hW q3) (by decide) hW.1 (by decide) rfl dL_law_655 (PE.go ?_) hc
  refine s_aload_n h dL_law_658 rfl <|
    s_aload_n h dL_law_659 rfl <|
    s_iload_n h dL_law_660 rfl <|
    s_iconst h dL_law_661 ic_1 <|
    s_iadd h dL_law_662 <|
    s_topi (nI (i + 1)) (nI_add i 1) <|
    s_sld h hX dL_law_663 (show i + 1 < L by omega) hL <|
    s_aload_n h dL_law_664 rfl <|
    s_iload_n h dL_law_665 rfl <|
    s_iconst h dL_law_666 ic_2 <|
    s_iadd h dL_law_667 <|
    s_topi (nI (i + 2)) (nI_add i 2) <|
    s_sld h hX dL_law_668 (show i + 2 < L by omega) hL <|
    k_L_85 h (c_X8_forged (by decide) hM2 q3) (by decide) hM2.o (by decide) rfl dL_law_669 (PE.go ?_) hc
  refine s_icmp_eq (tgt := 1042) h dL_law_672 (by decide) (fun _ => ?_) (fun q => absurd (rfl) q)
  exact k_ _ ⟨f, a, i0, i1, n, hW, hM, hP⟩
theorem lw_c17 {l : Launch} {D : va_G} {adr : Nat → Nat} {G : Nat → va_E} {Γ : GT} {ce sl b L i : Nat} {xs : Nat → Int32} (h : cx l D room_1 RL cL_law 4 Γ) (hX : sX b L xs Γ) (hc : ce ≤ 600000 ∧ sl ≤ 7302250) (hi : i + 8 ≤ L) (hL : L ≤ 512) (hI : LwI D adr G) (k_ : ∀ G2, LwI D adr G2 → SX Γ ce sl 1042 [(0, .ref b), (1, .ref (adr 0)), (2, .ref (adr 103)), (3, .int (nI i))] [] 115 adr G2) : SX Γ ce sl 677 [(0, .ref b), (1, .ref (adr 0)), (2, .ref (adr 103)), (3, .int (nI i))] [] 115 adr G := by
  obtain ⟨f, a, i0, i1, n, hW, hM, hP⟩ := hI
  obtain ⟨p1, p2, ⟨q1, q2, q3, q4⟩, p4, p5, p6, p7⟩ := id hP
  have hM2 : isMF D adr G G f a := ⟨hM, fun _ _ => rfl⟩
  refine s_aload_n h dL_law_677 rfl <|
    s_aload_n h dL_law_678 rfl <|
    s_iload_n h dL_law_679 rfl <|
    s_iconst h dL_law_680 ic_1 <|
    s_iadd h dL_law_681 <|
    s_topi (nI (i + 1)) (nI_add i 1) <|
    s_sld h hX dL_law_682 (show i + 1 < L by omega) hL <|
    s_aload_n h dL_law_683 rfl <|
    s_iload_n h dL_law_684 rfl <|
    s_iconst h dL_law_685 ic_2 <|
    s_iadd h dL_law_686 <|
    s_topi (nI (i + 2)) (nI_add i 2) <|
    s_sld h hX dL_law_687 (show i + 2 < L by omega) hL <|
    k_L_86 h (c_X7_ahead (by decide) hW q3) (by decide) hW.1 (by decide) rfl dL_law_688 (PE.go ?_) hc
  refine s_aload_n h dL_law_691 rfl <|
    s_aload_n h dL_law_692 rfl <|
    s_iload_n h dL_law_693 rfl <|
    s_iconst h dL_law_694 ic_1 <|
    s_iadd h dL_law_695 <|
    s_topi (nI (i + 1)) (nI_add i 1) <|
    s_sld h hX dL_law_696 (show i + 1 < L by omega) hL <|
    s_aload_n h dL_law_697 rfl <|
    s_iload_n h dL_law_698 rfl <|
    s_iconst h dL_law_699 ic_2 <|
    s_iadd h dL_law_700 <|
    s_topi (nI (i + 2)) (nI_add i 2) <|
    s_sld h hX dL_law_701 (show i + 2 < L by omega) hL <|
    k_L_89 h (c_X8_ahead (by decide) hM2 q3) (by decide) hM2.o (by decide) rfl dL_law_702 (PR.go (fun W hM3 => ?_)) hc
  obtain ⟨g, m1, m2⟩ := hM3
  refine s_icmp_eq (tgt := 1042) h dL_law_705 (by decide) (fun _ => ?_) (fun q => absurd ((ahM_eq _ _ _).symm) q)
  exact k_ _ (LwI.sM (f := f) (a := a) hW m1 m2 hP)
theorem lw_c18 {l : Launch} {D : va_G} {adr : Nat → Nat} {G : Nat → va_E} {Γ : GT} {ce sl b L i : Nat} {xs : Nat → Int32} (h : cx l D room_1 RL cL_law 4 Γ) (hX : sX b L xs Γ) (hc : ce ≤ 600000 ∧ sl ≤ 7302250) (hi : i + 8 ≤ L) (hL : L ≤ 512) (hI : LwI D adr G) (k_ : ∀ G2, LwI D adr G2 → SX Γ ce sl 1042 [(0, .ref b), (1, .ref (adr 0)), (2, .ref (adr 103)), (3, .int (nI i))] [] 115 adr G2) : SX Γ ce sl 710 [(0, .ref b), (1, .ref (adr 0)), (2, .ref (adr 103)), (3, .int (nI i))] [] 115 adr G := by
  obtain ⟨f, a, i0, i1, n, hW, hM, hP⟩ := hI
  obtain ⟨p1, p2, ⟨q1, q2, q3, q4⟩, p4, p5, p6, p7⟩ := id hP
  have hM2 : isMF D adr G G f a := ⟨hM, fun _ _ => rfl⟩
  refine s_aload_n h dL_law_710 rfl <|
    s_aload_n h dL_law_711 rfl <|
    s_iload_n h dL_law_712 rfl <|
    s_iconst h dL_law_713 ic_1 <|
    s_iadd h dL_law_714 <|
    s_topi (nI (i + 1)) (nI_add i 1) <|
    s_sld h hX dL_law_715 (show i + 1 < L by omega) hL <|
    s_aload_n h dL_law_716 rfl <|
    s_iload_n h dL_law_717 rfl <|
    s_iconst h dL_law_718 ic_2 <|
    s_iadd h dL_law_719 <|
    s_topi (nI (i + 2)) (nI_add i 2) <|
    s_sld h hX dL_law_720 (show i + 2 < L by omega) hL <|
    s_aload_n h dL_law_721 rfl <|
    s_iload_n h dL_law_722 rfl <|
    s_iconst h dL_law_723 ic_3 <|
    s_iadd h dL_law_724 <|
    s_topi (nI (i + 3)) (nI_add i 3) <|
    s_sld h hX dL_law_725 (show i + 3 < L by omega) hL <|
    k_L_90 h (c_X7_missing (by decide) hW q3) (by decide) hW.1 (by decide) rfl dL_law_726 (PE.go ?_) hc
  refine s_aload_n h dL_law_729 rfl <|
    s_aload_n h dL_law_730 rfl <|
    s_iload_n h dL_law_731 rfl <|
    s_iconst h dL_law_732 ic_1 <|
    s_iadd h dL_law_733 <|
    s_topi (nI (i + 1)) (nI_add i 1) <|
    s_sld h hX dL_law_734 (show i + 1 < L by omega) hL <|
    s_aload_n h dL_law_735 rfl <|
    s_iload_n h dL_law_736 rfl <|
    s_iconst h dL_law_737 ic_2 <|
    s_iadd h dL_law_738 <|
    s_topi (nI (i + 2)) (nI_add i 2) <|
    s_sld h hX dL_law_739 (show i + 2 < L by omega) hL <|
    s_aload_n h dL_law_740 rfl <|
    s_iload_n h dL_law_741 rfl <|
    s_iconst h dL_law_742 ic_3 <|
    s_iadd h dL_law_743 <|
    s_topi (nI (i + 3)) (nI_add i 3) <|
    s_sld h hX dL_law_744 (show i + 3 < L by omega) hL <|
    k_L_93 h (c_X8_missing (by decide) hM2 q3) (by decide) hM2.o (by decide) rfl dL_law_745 (PR.go (fun W hM3 => ?_)) hc
  obtain ⟨g, b2, m1, m2⟩ := hM3
  refine s_icmp_eq (tgt := 1042) h dL_law_748 (by decide) (fun _ => ?_) (fun q => absurd ((msM_eq _ _ _ _).symm) q)
  exact k_ _ (LwI.sM (f := f) (a := a) hW m1 m2 hP)
theorem lw_c19 {l : Launch} {D : va_G} {adr : Nat → Nat} {G : Nat → va_E} {Γ : GT} {ce sl b L i : Nat} {xs : Nat → Int32} (h : cx l D room_1 RL cL_law 4 Γ) (hX : sX b L xs Γ) (hc : ce ≤ 600000 ∧ sl ≤ 7302250) (hi : i + 8 ≤ L) (hL : L ≤ 512) (hI : LwI D adr G) (k_ : ∀ G2, LwI D adr G2 → SX Γ ce sl 1042 [(0, .ref b), (1, .ref (adr 0)), (2, .ref (adr 103)), (3, .int (nI i))] [] 115 adr G2) : SX Γ ce sl 753 [(0, .ref b), (1, .ref (adr 0)), (2, .ref (adr 103)), (3, .int (nI i))] [] 115 adr G := by
  obtain ⟨f, a, i0, i1, n, hW, hM, hP⟩ := hI
  obtain ⟨p1, p2, ⟨q1, q2, q3, q4⟩, p4, p5, p6, p7⟩ := id hP
  have hM2 : isMF D adr G G f a := ⟨hM, fun _ _ => rfl⟩
  refine s_aload_n h dL_law_753 rfl <|
    k_L_94 h (c_X7_eyes (by decide) hW) (by decide) hW.1 (by decide) rfl dL_law_754 (PE.go ?_) hc
  refine s_aload_n h dL_law_757 rfl <|
    k_L_97 h (c_X8_eyes (by decide) hM2 q4) (by decide) hM2.o (by decide) rfl dL_law_758 (PE.go ?_) hc
  refine s_icmp_eq (tgt := 1042) h dL_law_761 (by decide) (fun _ => ?_) (fun q => absurd ((eyM_eq _).symm) q)
  exact k_ _ ⟨f, a, i0, i1, n, hW, hM, hP⟩
theorem lw_c20 {l : Launch} {D : va_G} {adr : Nat → Nat} {G : Nat → va_E} {Γ : GT} {ce sl b L i : Nat} {xs : Nat → Int32} (h : cx l D room_1 RL cL_law 4 Γ) (hX : sX b L xs Γ) (hc : ce ≤ 600000 ∧ sl ≤ 7302250) (hi : i + 8 ≤ L) (hL : L ≤ 512) (hI : LwI D adr G) (k_ : ∀ G2, LwI D adr G2 → SX Γ ce sl 1042 [(0, .ref b), (1, .ref (adr 0)), (2, .ref (adr 103)), (3, .int (nI i))] [] 115 adr G2) : SX Γ ce sl 766 [(0, .ref b), (1, .ref (adr 0)), (2, .ref (adr 103)), (3, .int (nI i))] [] 115 adr G := by
  obtain ⟨f, a, i0, i1, n, hW, hM, hP⟩ := hI
  obtain ⟨p1, p2, ⟨q1, q2, q3, q4⟩, p4, p5, p6, p7⟩ := id hP
  refine s_aload_n h dL_law_766 rfl <|
    s_aload_n h dL_law_767 rfl <|
    s_iload_n h dL_law_768 rfl <|
    s_iconst h dL_law_769 ic_1 <|
    s_iadd h dL_law_770 <|
    s_topi (nI (i + 1)) (nI_add i 1) <|
    s_sld h hX dL_law_771 (show i + 1 < L by omega) hL <|
    s_aload_n h dL_law_772 rfl <|
    s_iload_n h dL_law_773 rfl <|
    s_iconst h dL_law_774 ic_2 <|
    s_iadd h dL_law_775 <|
    s_topi (nI (i + 2)) (nI_add i 2) <|
    s_sld h hX dL_law_776 (show i + 2 < L by omega) hL <|
    s_aload_n h dL_law_777 rfl <|
    s_iload_n h dL_law_778 rfl <|
    s_iconst h dL_law_779 ic_3 <|
    s_iadd h dL_law_780 <|
    s_topi (nI (i + 3)) (nI_add i 3) <|
    s_sld h hX dL_law_781 (show i + 3 < L by omega) hL <|
    s_aload_n h dL_law_782 rfl <|
    s_iload_n h dL_law_783 rfl <|
    s_iconst h dL_law_784 ic_4 <|
    s_iadd h dL_law_785 <|
    s_topi (nI (i + 4)) (nI_add i 4) <|
    s_sld h hX dL_law_786 (show i + 4 < L by omega) hL <|
    s_aload_n h dL_law_787 rfl <|
    s_iload_n h dL_law_788 rfl <|
    s_iconst h dL_law_789 ic_5 <|
    s_iadd h dL_law_790 <|
    s_topi (nI (i + 5)) (nI_add i 5) <|
    s_sld h hX dL_law_791 (show i + 5 < L by omega) hL <|
    s_aload_n h dL_law_792 rfl <|
    s_iload_n h dL_law_793 rfl <|
    s_bipush h dL_law_794 bp_6 <|
    s_iadd h dL_law_796 <|
    s_topi (nI (i + 6)) (nI_add i 6) <|
    s_sld h hX dL_law_797 (show i + 6 < L by omega) hL <|
    s_aload_n h dL_law_798 rfl <|
    s_iload_n h dL_law_799 rfl <|
    s_bipush h dL_law_800 bp_7 <|
    s_iadd h dL_law_802 <|
    s_topi (nI (i + 7)) (nI_add i 7) <|
    s_sld h hX dL_law_803 (show i + 7 < L by omega) hL <|
    k_L_98 h (c_X7_late (by decide) hW q3) (by decide) hW.1 (by decide) rfl dL_law_804 (PR.go (fun V hV => ?_)) hc
  have hM2 : isMF D adr V V f a := ⟨hM.fr hV.2, fun _ _ => rfl⟩
  refine s_aload_n h dL_law_807 rfl <|
    s_aload_n h dL_law_808 rfl <|
    s_iload_n h dL_law_809 rfl <|
    s_iconst h dL_law_810 ic_1 <|
    s_iadd h dL_law_811 <|
    s_topi (nI (i + 1)) (nI_add i 1) <|
    s_sld h hX dL_law_812 (show i + 1 < L by omega) hL <|
    s_aload_n h dL_law_813 rfl <|
    s_iload_n h dL_law_814 rfl <|
    s_iconst h dL_law_815 ic_2 <|
    s_iadd h dL_law_816 <|
    s_topi (nI (i + 2)) (nI_add i 2) <|
    s_sld h hX dL_law_817 (show i + 2 < L by omega) hL <|
    s_aload_n h dL_law_818 rfl <|
    s_iload_n h dL_law_819 rfl <|
    s_iconst h dL_law_820 ic_3 <|
    s_iadd h dL_law_821 <|
    s_topi (nI (i + 3)) (nI_add i 3) <|
    s_sld h hX dL_law_822 (show i + 3 < L by omega) hL <|
    s_aload_n h dL_law_823 rfl <|
    s_iload_n h dL_law_824 rfl <|
    s_iconst h dL_law_825 ic_4 <|
    s_iadd h dL_law_826 <|
    s_topi (nI (i + 4)) (nI_add i 4) <|
    s_sld h hX dL_law_827 (show i + 4 < L by omega) hL <|
    s_aload_n h dL_law_828 rfl <|
    s_iload_n h dL_law_829 rfl <|
    s_iconst h dL_law_830 ic_5 <|
    s_iadd h dL_law_831 <|
    s_topi (nI (i + 5)) (nI_add i 5) <|
    s_sld h hX dL_law_832 (show i + 5 < L by omega) hL <|
    s_aload_n h dL_law_833 rfl <|
    s_iload_n h dL_law_834 rfl <|
    s_bipush h dL_law_835 bp_6 <|
    s_iadd h dL_law_837 <|
    s_topi (nI (i + 6)) (nI_add i 6) <|
    s_sld h hX dL_law_838 (show i + 6 < L by omega) hL <|
    s_aload_n h dL_law_839 rfl <|
    s_iload_n h dL_law_840 rfl <|
    s_bipush h dL_law_841 bp_7 <|
    s_iadd h dL_law_843 <|
    s_topi (nI (i + 7)) (nI_add i 7) <|
    s_sld h hX dL_law_844 (show i + 7 < L by omega) hL <|
    k_L_102 h (c_X8_late (by decide) hM2 q3) (by decide) hM2.o (by decide) rfl dL_law_845 (PE.go ?_) hc
  refine s_lcmp h dL_law_848 <|
    s_if_eq (tgt := 1042) h dL_law_849 (by decide) (fun _ => ?_) (fun q => absurd (lg_cmp0.mpr ((laM2_eq _ _ _ _ _ _ _ _).symm)) q)
  exact k_ _ ⟨f, a, i0, i1, n, hV.1, hM2.1, hP⟩
theorem lw_c21 {l : Launch} {D : va_G} {adr : Nat → Nat} {G : Nat → va_E} {Γ : GT} {ce sl b L i : Nat} {xs : Nat → Int32} (h : cx l D room_1 RL cL_law 4 Γ) (hX : sX b L xs Γ) (hc : ce ≤ 600000 ∧ sl ≤ 7302250) (hi : i + 8 ≤ L) (hL : L ≤ 512) (hI : LwI D adr G) (k_ : ∀ G2, LwI D adr G2 → SX Γ ce sl 1042 [(0, .ref b), (1, .ref (adr 0)), (2, .ref (adr 103)), (3, .int (nI i))] [] 115 adr G2) : SX Γ ce sl 854 [(0, .ref b), (1, .ref (adr 0)), (2, .ref (adr 103)), (3, .int (nI i))] [] 115 adr G := by
  obtain ⟨f, a, i0, i1, n, hW, hM, hP⟩ := hI
  obtain ⟨p1, p2, ⟨q1, q2, q3, q4⟩, p4, p5, p6, p7⟩ := id hP
  have hM2 : isMF D adr G G f a := ⟨hM, fun _ _ => rfl⟩
  refine s_aload_n h dL_law_854 rfl <|
    s_aload_n h dL_law_855 rfl <|
    s_iload_n h dL_law_856 rfl <|
    s_iconst h dL_law_857 ic_1 <|
    s_iadd h dL_law_858 <|
    s_topi (nI (i + 1)) (nI_add i 1) <|
    s_sld h hX dL_law_859 (show i + 1 < L by omega) hL <|
    s_aload_n h dL_law_860 rfl <|
    s_iload_n h dL_law_861 rfl <|
    s_iconst h dL_law_862 ic_2 <|
    s_iadd h dL_law_863 <|
    s_topi (nI (i + 2)) (nI_add i 2) <|
    s_sld h hX dL_law_864 (show i + 2 < L by omega) hL <|
    s_aload_n h dL_law_865 rfl <|
    s_iload_n h dL_law_866 rfl <|
    s_iconst h dL_law_867 ic_3 <|
    s_iadd h dL_law_868 <|
    s_topi (nI (i + 3)) (nI_add i 3) <|
    s_sld h hX dL_law_869 (show i + 3 < L by omega) hL <|
    k_L_103 h (c_X7_past (by decide) hW q3) (by decide) hW.1 (by decide) rfl dL_law_870 (PE.go ?_) hc
  refine s_aload_n h dL_law_873 rfl <|
    s_aload_n h dL_law_874 rfl <|
    s_iload_n h dL_law_875 rfl <|
    s_iconst h dL_law_876 ic_1 <|
    s_iadd h dL_law_877 <|
    s_topi (nI (i + 1)) (nI_add i 1) <|
    s_sld h hX dL_law_878 (show i + 1 < L by omega) hL <|
    s_aload_n h dL_law_879 rfl <|
    s_iload_n h dL_law_880 rfl <|
    s_iconst h dL_law_881 ic_2 <|
    s_iadd h dL_law_882 <|
    s_topi (nI (i + 2)) (nI_add i 2) <|
    s_sld h hX dL_law_883 (show i + 2 < L by omega) hL <|
    s_aload_n h dL_law_884 rfl <|
    s_iload_n h dL_law_885 rfl <|
    s_iconst h dL_law_886 ic_3 <|
    s_iadd h dL_law_887 <|
    s_topi (nI (i + 3)) (nI_add i 3) <|
    s_sld h hX dL_law_888 (show i + 3 < L by omega) hL <|
    k_L_106 h (c_X8_past (by decide) hM2 q3) (by decide) hM2.o (by decide) rfl dL_law_889 (PE.go ?_) hc
  refine s_icmp_eq (tgt := 1042) h dL_law_892 (by decide) (fun _ => ?_) (fun q => absurd ((paM_eq _ _ _ _).symm) q)
  exact k_ _ ⟨f, a, i0, i1, n, hW, hM, hP⟩
theorem lw_c22 {l : Launch} {D : va_G} {adr : Nat → Nat} {G : Nat → va_E} {Γ : GT} {ce sl b L i : Nat} {xs : Nat → Int32} (h : cx l D room_1 RL cL_law 4 Γ) (hX : sX b L xs Γ) (hc : ce ≤ 600000 ∧ sl ≤ 7302250) (hi : i + 8 ≤ L) (hL : L ≤ 512) (hI : LwI D adr G) (k_ : ∀ G2, LwI D adr G2 → SX Γ ce sl 1042 [(0, .ref b), (1, .ref (adr 0)), (2, .ref (adr 103)), (3, .int (nI i))] [] 115 adr G2) : SX Γ ce sl 897 [(0, .ref b), (1, .ref (adr 0)), (2, .ref (adr 103)), (3, .int (nI i))] [] 115 adr G := by
  obtain ⟨f, a, i0, i1, n, hW, hM, hP⟩ := hI
  obtain ⟨p1, p2, ⟨q1, q2, q3, q4⟩, p4, p5, p6, p7⟩ := id hP
  have hM2 : isMF D adr G G f a := ⟨hM, fun _ _ => rfl⟩
  refine s_aload_n h dL_law_897 rfl <|
    s_aload_n h dL_law_898 rfl <|
    s_iload_n h dL_law_899 rfl <|
    s_iconst h dL_law_900 ic_1 <|
    s_iadd h dL_law_901 <|
    s_topi (nI (i + 1)) (nI_add i 1) <|
    s_sld h hX dL_law_902 (show i + 1 < L by omega) hL <|
    s_aload_n h dL_law_903 rfl <|
    s_iload_n h dL_law_904 rfl <|
    s_iconst h dL_law_905 ic_2 <|
    s_iadd h dL_law_906 <|
    s_topi (nI (i + 2)) (nI_add i 2) <|
    s_sld h hX dL_law_907 (show i + 2 < L by omega) hL <|
    k_L_107 h (c_X7_best (by decide) hW q3) (by decide) hW.1 (by decide) rfl dL_law_908 (PE.go ?_) hc
  refine s_aload_n h dL_law_911 rfl <|
    s_aload_n h dL_law_912 rfl <|
    s_iload_n h dL_law_913 rfl <|
    s_iconst h dL_law_914 ic_1 <|
    s_iadd h dL_law_915 <|
    s_topi (nI (i + 1)) (nI_add i 1) <|
    s_sld h hX dL_law_916 (show i + 1 < L by omega) hL <|
    s_aload_n h dL_law_917 rfl <|
    s_iload_n h dL_law_918 rfl <|
    s_iconst h dL_law_919 ic_2 <|
    s_iadd h dL_law_920 <|
    s_topi (nI (i + 2)) (nI_add i 2) <|
    s_sld h hX dL_law_921 (show i + 2 < L by omega) hL <|
    k_L_110 h (c_X8_best (by decide) hM2 q3) (by decide) hM2.o (by decide) rfl dL_law_922 (PE.go ?_) hc
  refine s_icmp_eq (tgt := 1042) h dL_law_925 (by decide) (fun _ => ?_) (fun q => absurd ((beM_eq _ _ _).symm) q)
  exact k_ _ ⟨f, a, i0, i1, n, hW, hM, hP⟩
theorem lw_c23 {l : Launch} {D : va_G} {adr : Nat → Nat} {G : Nat → va_E} {Γ : GT} {ce sl b L i : Nat} {xs : Nat → Int32} (h : cx l D room_1 RL cL_law 4 Γ) (hX : sX b L xs Γ) (hc : ce ≤ 600000 ∧ sl ≤ 7302250) (hi : i + 8 ≤ L) (hL : L ≤ 512) (hI : LwI D adr G) (k_ : ∀ G2, LwI D adr G2 → SX Γ ce sl 1042 [(0, .ref b), (1, .ref (adr 0)), (2, .ref (adr 103)), (3, .int (nI i))] [] 115 adr G2) : SX Γ ce sl 930 [(0, .ref b), (1, .ref (adr 0)), (2, .ref (adr 103)), (3, .int (nI i))] [] 115 adr G := by
  obtain ⟨f, a, i0, i1, n, hW, hM, hP⟩ := hI
  obtain ⟨p1, p2, ⟨q1, q2, q3, q4⟩, p4, p5, p6, p7⟩ := id hP
  have hM2 : isMF D adr G G f a := ⟨hM, fun _ _ => rfl⟩
  refine s_aload_n h dL_law_930 rfl <|
    s_aload_n h dL_law_931 rfl <|
    s_iload_n h dL_law_932 rfl <|
    s_iconst h dL_law_933 ic_1 <|
    s_iadd h dL_law_934 <|
    s_topi (nI (i + 1)) (nI_add i 1) <|
    s_sld h hX dL_law_935 (show i + 1 < L by omega) hL <|
    s_aload_n h dL_law_936 rfl <|
    s_iload_n h dL_law_937 rfl <|
    s_iconst h dL_law_938 ic_2 <|
    s_iadd h dL_law_939 <|
    s_topi (nI (i + 2)) (nI_add i 2) <|
    s_sld h hX dL_law_940 (show i + 2 < L by omega) hL <|
    s_aload_n h dL_law_941 rfl <|
    s_iload_n h dL_law_942 rfl <|
    s_iconst h dL_law_943 ic_3 <|
    s_iadd h dL_law_944 <|
    s_topi (nI (i + 3)) (nI_add i 3) <|
    s_sld h hX dL_law_945 (show i + 3 < L by omega) hL <|
    k_L_111 h (c_X7_year (by decide) hW) (by decide) hW.1 (by decide) rfl dL_law_946 (PE.go ?_) hc
  refine s_aload_n h dL_law_949 rfl <|
    s_aload_n h dL_law_950 rfl <|
    s_iload_n h dL_law_951 rfl <|
    s_iconst h dL_law_952 ic_1 <|
    s_iadd h dL_law_953 <|
    s_topi (nI (i + 1)) (nI_add i 1) <|
    s_sld h hX dL_law_954 (show i + 1 < L by omega) hL <|
    s_aload_n h dL_law_955 rfl <|
    s_iload_n h dL_law_956 rfl <|
    s_iconst h dL_law_957 ic_2 <|
    s_iadd h dL_law_958 <|
    s_topi (nI (i + 2)) (nI_add i 2) <|
    s_sld h hX dL_law_959 (show i + 2 < L by omega) hL <|
    s_aload_n h dL_law_960 rfl <|
    s_iload_n h dL_law_961 rfl <|
    s_iconst h dL_law_962 ic_3 <|
    s_iadd h dL_law_963 <|
    s_topi (nI (i + 3)) (nI_add i 3) <|
    s_sld h hX dL_law_964 (show i + 3 < L by omega) hL <|
    k_L_114 h (c_X8_year (by decide) hM2 q4) (by decide) hM2.o (by decide) rfl dL_law_965 (PE.go ?_) hc
  refine s_icmp_eq (tgt := 1042) h dL_law_968 (by decide) (fun _ => ?_) (fun q => absurd (rfl) q)
  exact k_ _ ⟨f, a, i0, i1, n, hW, hM, hP⟩
theorem lw_c24 {l : Launch} {D : va_G} {adr : Nat → Nat} {G : Nat → va_E} {Γ : GT} {ce sl b L i : Nat} {xs : Nat → Int32} (h : cx l D room_1 RL cL_law 4 Γ) (hX : sX b L xs Γ) (hc : ce ≤ 600000 ∧ sl ≤ 7302250) (hi : i + 8 ≤ L) (hL : L ≤ 512) (hI : LwI D adr G) (k_ : ∀ G2, LwI D adr G2 → SX Γ ce sl 1042 [(0, .ref b), (1, .ref (adr 0)), (2, .ref (adr 103)), (3, .int (nI i))] [] 115 adr G2) : SX Γ ce sl 973 [(0, .ref b), (1, .ref (adr 0)), (2, .ref (adr 103)), (3, .int (nI i))] [] 115 adr G := by
  obtain ⟨f, a, i0, i1, n, hW, hM, hP⟩ := hI
  obtain ⟨p1, p2, ⟨q1, q2, q3, q4⟩, p4, p5, p6, p7⟩ := id hP
  refine s_aload_n h dL_law_973 rfl <|
    s_aload_n h dL_law_974 rfl <|
    s_iload_n h dL_law_975 rfl <|
    s_iconst h dL_law_976 ic_1 <|
    s_iadd h dL_law_977 <|
    s_topi (nI (i + 1)) (nI_add i 1) <|
    s_sld h hX dL_law_978 (show i + 1 < L by omega) hL <|
    k_L_115 h (c_X7_image (by decide) hW (mS_z f a)) (by decide) hW.1 (by decide) rfl dL_law_979 (PR.go (fun V hV => ?_)) hc
  have hM2 : isMF D adr V V f a := ⟨hM.fr hV.2, fun _ _ => rfl⟩
  have hV1 := hV.1
  refine s_aload_n h dL_law_982 rfl <|
    s_aload_n h dL_law_983 rfl <|
    s_iload_n h dL_law_984 rfl <|
    s_iconst h dL_law_985 ic_1 <|
    s_iadd h dL_law_986 <|
    s_topi (nI (i + 1)) (nI_add i 1) <|
    s_sld h hX dL_law_987 (show i + 1 < L by omega) hL <|
    ?_
  cases hw : wb (xs (i + 1)) 0 1 with
  | false =>
    obtain ⟨n0, n1⟩ := wb01n hw
    refine k_L_118 h (c_X8_image_no (by decide) hM2 hw) (by decide) hM2.o (by decide) rfl dL_law_988 (PE.go ?_) hc
    refine s_icmp_eq (tgt := 1042) h dL_law_991 (by decide) (fun _ => ?_) (fun q => absurd (show imR _ = -2 by unfold imR; rw [hw]; rfl) q)
    unfold im0 im1 imK at hV1
    rw [if_neg n0, if_neg n1, hw, if_neg (by decide)] at hV1
    exact k_ _ ⟨f, a, i0, i1, n, hV1, hM2.1, hP⟩
  | true =>
    obtain ⟨k, hk, e⟩ := wb01k hw
    refine s_topi (nI k) e <|
      k_L_118 h (c_X8_image_ok (by decide) hM2 hk) (by decide) hM2.o (by decide) rfl dL_law_988 (PR.go (fun W hM3 => ?_)) hc
    obtain ⟨g, b2, m1, m2⟩ := hM3
    refine s_icmp_eq (tgt := 1042) h dL_law_991 (by decide) (fun _ => ?_) (fun q => absurd (show imR _ = 1 by unfold imR; rw [hw]; rfl) q)
    rw [e] at hV1
    obtain ⟨r1, r2, r3, r4⟩ := image_P hk hP m2
    exact k_ _ (LwI.put hV1 m1 (by rw [r4]; exact agS.refl _) r2 r3.symm r1)
theorem lw_c25 {l : Launch} {D : va_G} {adr : Nat → Nat} {G : Nat → va_E} {Γ : GT} {ce sl b L i : Nat} {xs : Nat → Int32} (h : cx l D room_1 RL cL_law 4 Γ) (hX : sX b L xs Γ) (hc : ce ≤ 600000 ∧ sl ≤ 7302250) (hi : i + 8 ≤ L) (hL : L ≤ 512) (hI : LwI D adr G) (k_ : ∀ G2, LwI D adr G2 → SX Γ ce sl 1042 [(0, .ref b), (1, .ref (adr 0)), (2, .ref (adr 103)), (3, .int (nI i))] [] 115 adr G2) : SX Γ ce sl 996 [(0, .ref b), (1, .ref (adr 0)), (2, .ref (adr 103)), (3, .int (nI i))] [] 115 adr G := by
  obtain ⟨f, a, i0, i1, n, hW, hM, hP⟩ := hI
  obtain ⟨p1, p2, ⟨q1, q2, q3, q4⟩, p4, p5, p6, p7⟩ := id hP
  refine s_aload_n h dL_law_996 rfl <|
    s_aload_n h dL_law_997 rfl <|
    s_iload_n h dL_law_998 rfl <|
    s_iconst h dL_law_999 ic_1 <|
    s_iadd h dL_law_1000 <|
    s_topi (nI (i + 1)) (nI_add i 1) <|
    s_sld h hX dL_law_1001 (show i + 1 < L by omega) hL <|
    k_L_119 h (c_X7_restore (by decide) hW p4 p5) (by decide) hW.1 (by decide) rfl dL_law_1002 (PR.go (fun V hV => ?_)) hc
  have hM2 : isMF D adr V V f a := ⟨hM.fr hV.2, fun _ _ => rfl⟩
  have hV1 := hV.1
  refine s_aload_n h dL_law_1005 rfl <|
    s_aload_n h dL_law_1006 rfl <|
    s_iload_n h dL_law_1007 rfl <|
    s_iconst h dL_law_1008 ic_1 <|
    s_iadd h dL_law_1009 <|
    s_topi (nI (i + 1)) (nI_add i 1) <|
    s_sld h hX dL_law_1010 (show i + 1 < L by omega) hL <|
    ?_
  cases hw : wb (xs (i + 1)) 0 1 with
  | false =>
    refine k_L_122 h (c_X8_restore_no (by decide) hM2 hw) (by decide) hM2.o (by decide) rfl dL_law_1011 (PE.go ?_) hc
    refine s_icmp_eq (tgt := 1042) h dL_law_1014 (by decide) (fun _ => ?_) (fun q => absurd (show rsR _ _ = -2 by unfold rsR; rw [hw]; rfl) q)
    unfold rsS at hV1
    rw [hw, if_neg (by decide)] at hV1
    exact k_ _ ⟨f, a, i0, i1, n, hV1, hM2.1, hP⟩
  | true =>
    obtain ⟨k, hk, e⟩ := wb01k hw
    have ek : (xs (i + 1)).toNatClampNeg = k := by rw [e]; exact nI_clamp (by omega)
    refine s_topi (nI k) e ?_
    by_cases hz : a 114 k = 0
    · refine k_L_122 h (c_X8_restore_un (by decide) hM2 hk hz) (by decide) hM2.o (by decide) rfl dL_law_1011 (PE.go ?_) hc
      refine s_icmp_eq (tgt := 1042) h dL_law_1014 (by decide) (fun _ => ?_) (fun q => absurd (show rsR _ _ = -3 by unfold rsR; rw [hw, if_pos rfl, ek, if_pos hz]) q)
      unfold rsS at hV1
      rw [hw, if_pos rfl, ek, if_pos hz] at hV1
      exact k_ _ ⟨f, a, i0, i1, n, hV1, hM2.1, hP⟩
    · refine k_L_122 h (c_X8_restore_ok (by decide) hM2 hk hz) (by decide) hM2.o (by decide) rfl dL_law_1011 (PR.go (fun W hM3 => ?_)) hc
      obtain ⟨g, b2, m1, m2⟩ := hM3
      refine s_icmp_eq (tgt := 1042) h dL_law_1014 (by decide) (fun _ => ?_) (fun q => absurd (show rsR _ _ = 1 by unfold rsR; rw [hw, if_pos rfl, ek, if_neg hz]) q)
      unfold rsS at hV1
      rw [hw, if_pos rfl, ek, if_neg hz, e] at hV1
      rcases (show k = 0 ∨ k = 1 by omega) with z | z
      · subst z
        rw [if_pos (show nI 0 = 0 from rfl)] at hV1
        obtain ⟨r1, r2, r3, r4⟩ := restore_P hP p6 hz m2
        exact k_ _ (LwI.put hV1 m1 r4 r2.symm r3.symm r1)
      · subst z
        rw [if_neg (show ¬ nI 1 = 0 by decide)] at hV1
        obtain ⟨r1, r2, r3, r4⟩ := restore_P hP p7 hz m2
        exact k_ _ (LwI.put hV1 m1 r4 r2.symm r3.symm r1)
theorem lw_c26 {l : Launch} {D : va_G} {adr : Nat → Nat} {G : Nat → va_E} {Γ : GT} {ce sl b L i : Nat} {xs : Nat → Int32} (h : cx l D room_1 RL cL_law 4 Γ) (hX : sX b L xs Γ) (hc : ce ≤ 600000 ∧ sl ≤ 7302250) (hi : i + 8 ≤ L) (hL : L ≤ 512) (hI : LwI D adr G) (k_ : ∀ G2, LwI D adr G2 → SX Γ ce sl 1042 [(0, .ref b), (1, .ref (adr 0)), (2, .ref (adr 103)), (3, .int (nI i))] [] 115 adr G2) : SX Γ ce sl 1019 [(0, .ref b), (1, .ref (adr 0)), (2, .ref (adr 103)), (3, .int (nI i))] [] 115 adr G := by
  obtain ⟨f, a, i0, i1, n, hW, hM, hP⟩ := hI
  obtain ⟨p1, p2, ⟨q1, q2, q3, q4⟩, p4, p5, p6, p7⟩ := id hP
  have hM2 : isMF D adr G G f a := ⟨hM, fun _ _ => rfl⟩
  refine s_aload_n h dL_law_1019 rfl <|
    s_aload_n h dL_law_1020 rfl <|
    s_iload_n h dL_law_1021 rfl <|
    s_iconst h dL_law_1022 ic_1 <|
    s_iadd h dL_law_1023 <|
    s_topi (nI (i + 1)) (nI_add i 1) <|
    s_sld h hX dL_law_1024 (show i + 1 < L by omega) hL <|
    k_L_123 h (c_X7_told (by decide) hW) (by decide) hW.1 (by decide) rfl dL_law_1025 (PE.go ?_) hc
  refine s_aload_n h dL_law_1028 rfl <|
    s_aload_n h dL_law_1029 rfl <|
    s_iload_n h dL_law_1030 rfl <|
    s_iconst h dL_law_1031 ic_1 <|
    s_iadd h dL_law_1032 <|
    s_topi (nI (i + 1)) (nI_add i 1) <|
    s_sld h hX dL_law_1033 (show i + 1 < L by omega) hL <|
    k_L_126 h (c_X8_told (by decide) hM2) (by decide) hM2.o (by decide) rfl dL_law_1034 (PE.go ?_) hc
  refine s_icmp_eq (tgt := 1042) h dL_law_1037 (by decide) (fun _ => ?_) (fun q => absurd ((toM_eq p1 q1 q2 _).symm) q)
  exact k_ _ ⟨f, a, i0, i1, n, hW, hM, hP⟩
