/-! ===== acts: what they share ===== -/
def uKp (W : WD) : WD := (W.1, W.2.1, W.2.2.1, (mn (vK W), psh (vS W) (vU W)), W.2.2.2.2)
def uSt (W : WD) (s : St) (F P D H : Nat) : WD := (W.1, (vR W, vT W, s), (F, P, D, H), W.2.2.2)
def act (W : WD) (s : St) (F P D H : Nat) : WD := uE (uSt (uKp W) s (vF W + F) (vP W + P) (vD W + D) (vH W + H)) 0
theorem mn_le (n : Nat) (h : n ≤ 16) : mn n ≤ 16 ∧ mn n ≤ n + 1 := by unfold mn; split <;> omega
theorem WV.act {W : WD} {c : Nat} (h : WV W c) (hr : vR W = true) {s : St} {F P D H : Nat} (hs : Inv s (tP (vT W))) (hc : sc s ≤ sc (vS W) + 2) (hF : F + H ≤ 1) : WV (act W s F P D H) (c + 1) := by
  obtain ⟨h1, h2, h3, h4, h5, h6, h7, h8⟩ := h
  have up : ∀ s pl, SV s pl c → SV s pl (c + 1) := fun s pl h => ⟨h.1, by have := h.2; omega⟩
  obtain ⟨V1, V2, V3, V4, V5⟩ := h7 hr
  have hm := mn_le (vK W) h2
  refine ⟨h1, hm.1, h3, ?_, by show (0 : Nat) < 7; omega, h6, fun _ => ⟨V1, V2, ⟨hs, ?_⟩, fun j hj => ?_, fun j hj => up _ _ (V5 j hj)⟩, fun z => ?_⟩
  · show vH W + H + (vF W + F) ≤ c + 1; omega
  · show sc s ≤ _; have := V3.2; omega
  · show SV (psh (vS W) (vU W) j) _ _
    unfold psh
    by_cases j0 : j = 0
    · rw [if_pos j0]; exact up _ _ V3
    · rw [if_neg j0]; exact up _ _ (V4 (j - 1) (by have : j < mn (vK W) := hj; omega))
  · have : vR W = false := z
    rw [hr] at this; cases this
section ACTK
variable {S : SH} {I J J' : II} {L L' : LL} {o x ta tb p q rg pc rs ps m ou a c e : Nat} {W : WD} {s : St}
theorem CI.st (hA : AD o x ta tb p q rg pc rs ps m ou) (h : CI J o x ta p q rs ps W) (hK : vK W ≤ 16) (hI : vI W ≤ 3) (f : Fr J J' p (p + 9)) (hR : PR J' p s (tP (vT W))) {F P D H : Nat} (c3 : J' p 3 = ic H) (c4 : J' p 4 = ic F) (c6 : J' p 6 = ic P) (c7 : J' p 7 = ic D) : CI J' o x ta p q rs ps (uSt W s F P D H) := by
  obtain ⟨d1, d2, d3, d4, d5, d6, d7, d8, d9, d10, d11⟩ := hA
  obtain ⟨h1, ⟨nw, h2, h3, h4⟩, h5, h6, h7, h8, h9, h10, h11, h12, h13, h14, h15, h16, h17, h18, h19⟩ := h
  have e : ∀ y, y < 24 ∨ 33 < y → J' y = J y := fun y hy => f y (by omega)
  have eo := e o (by omega)
  have ex := e x (by omega)
  obtain ⟨w, w1, w2, -⟩ := hR.2.2.2.2.2.1
  refine ⟨by rw [eo]; exact h1, ⟨nw, h2, by rw [eo]; exact h3, fun j hj => (h4 j hj).lc fun y _ _ => e y (by omega)⟩, by rw [eo]; exact h5, by rw [eo]; exact h6, fun j hj => ?_, by rw [eo]; exact h8, by rw [ex]; exact h9, fun k hk => by rw [e (x + 1) (by omega)]; exact h10 k hk, by rw [ex]; exact h11, fun z => by rw [ex]; exact h12 z, ⟨w, w1, w2⟩, by rw [e (q + 5) (by omega)]; exact h14, fun z => ⟨(h15 z).1.lc fun y _ _ => e y (by omega), hR⟩, c3, c4, c6, c7⟩
  exact (h7 j hj).lc fun y _ _ => e y (by have : j < vI W := hj; omega)
theorem k_keep (H : KH S I o x ta tb p q rg pc rs ps m ou W c) (hr : vR W = true) : ∃ J, p_X7_keep o (hp S I L) = some (hp S J L) ∧ CI J o x ta p q rs ps (uKp W) ∧ ∀ y, m ≤ y → J y = I y := by
  obtain ⟨hA, hY, hC, hV⟩ := H
  have hA9 := hA
  obtain ⟨d1, d2, d3, d4, d5, d6, d7, d8, d9, d10, d11⟩ := hA9
  obtain ⟨y0, -, y1, -, y4, y5, y6, -, -, hT, -, hP, hQ, ⟨yr, ys⟩, -⟩ := hY
  obtain ⟨h1, ⟨nw, h2, h3, h4⟩, h5, h6, h7, h8, h9, h10, h11, h12, h13, h14, h15, h16, h17, h18, h19⟩ := hC
  have hK := hV.2.1
  have hI := hV.2.2.1
  obtain ⟨R0, R1⟩ := h15 hr
  obtain ⟨r1, r2⟩ := ys ((nw + 1) % 16) (by omega)
  have n0 : (ic nw + 1) &&& ic 15 = ic ((nw + 1) % 16) := by rw [ic_add1, and15]
  have nlt : (nw + 1) % 16 < 16 := Nat.mod_lt _ (by decide)
  have hc9 : ∀ j, (nw + 1) % 16 = j → rs + 9 * ((nw + 1) % 16) = rs + 9 * j := fun j e => by rw [e]
  generalize hnw : (nw + 1) % 16 = nv at *
  have R2 : SR (up2 I o 7 (ic nv)) (p + 1) (vS W) (tP (vT W)) := by
    have : SR I (p + 1) (vS W) (tP (vT W)) := R1
    exact this.lc fun y _ _ => funext fun j => up_a (by omega)
  obtain ⟨J, e1, s1, f1⟩ := c_copy (I := up2 I o 7 (ic nv)) (L := L) r2 hP.sc (by omega) R2
  have eJ : ∀ y, y ≠ o → y < rs + 9 * nv ∨ rs + 9 * nv + 8 < y → J y = I y := fun y hy hz => by rw [f1 y (by omega)]; exact funext fun j => up_a hy
  have eo : ∀ j, j ≠ 7 → J o j = I o j := fun j hj => by rw [f1 o (by omega), up_k hj]
  have eo7 : J o 7 = ic nv := by rw [f1 o (by omega), up_s]
  have mid : CI (if vK W < 16 then up2 J o 8 (ic (vK W + 1)) else J) o x ta p q rs ps (uKp W) := by
    have eo2 : ∀ j, j ≠ 8 → (if vK W < 16 then up2 J o 8 (ic (vK W + 1)) else J) o j = J o j := fun j hj => by split; exact up_k hj; rfl
    have ey2 : ∀ y, y ≠ o → (if vK W < 16 then up2 J o 8 (ic (vK W + 1)) else J) y = J y := fun y hy => by split; exact funext fun j => up_a hy; rfl
    have e88 : (if vK W < 16 then up2 J o 8 (ic (vK W + 1)) else J) o 8 = ic (mn (vK W)) := by
      unfold mn
      split
      · exact up_s _ _ _ _
      · rw [eo 8 (by omega), h5, show vK W = 16 by omega]
    generalize (if vK W < 16 then up2 J o 8 (ic (vK W + 1)) else J) = K at eo2 ey2 e88 ⊢
    have eK : ∀ y, y ≠ o → y < rs + 9 * nv ∨ rs + 9 * nv + 8 < y → K y = I y := fun y hy hz => (ey2 y hy).trans (eJ y hy hz)
    have mle := mn_le (vK W) hK
    refine ⟨by rw [eo2 3 (by omega), eo 3 (by omega)]; exact h1, ⟨nv, nlt, by rw [eo2 7 (by omega)]; exact eo7, fun j hj => ?_⟩, e88, by rw [eo2 10 (by omega), eo 10 (by omega)]; exact h6, fun j hj => ?_, by rw [eo2 11 (by omega), eo 11 (by omega)]; exact h8, by rw [eK x (by omega) (by omega)]; exact h9, fun k hk => by rw [eK (x + 1) (by omega) (by omega)]; exact h10 k hk, by rw [eK x (by omega) (by omega)]; exact h11, fun z => by rw [eK x (by omega) (by omega)]; exact h12 z, by rw [eK (p + 5) (by omega) (by omega)]; exact h13, by rw [eK (q + 5) (by omega) (by omega)]; exact h14, fun z => ⟨(h15 z).1.lc fun y _ _ => eK y (by omega) (by omega), (h15 z).2.lc fun y _ _ => eK y (by omega) (by omega)⟩, by rw [eK p (by omega) (by omega)]; exact h16, by rw [eK p (by omega) (by omega)]; exact h17, by rw [eK p (by omega) (by omega)]; exact h18, by rw [eK p (by omega) (by omega)]; exact h19⟩
    · have hj9 : j < mn (vK W) := hj
      show SR K _ (psh (vS W) (vU W) j) _
      unfold psh
      by_cases j0 : j = 0
      · rw [if_pos j0]
        rw [show (nv + 16 - j) % 16 = nv by omega]
        exact s1.lc fun y _ _ => ey2 y (by omega)
      · rw [if_neg j0]
        have e3 : (nv + 16 - j) % 16 = (nw + 16 - (j - 1)) % 16 := by omega
        have e4 : (nv + 16 - j) % 16 ≠ nv := by omega
        have h49 := h4 (j - 1) (by omega)
        rw [← e3] at h49
        generalize (nv + 16 - j) % 16 = u at e4 h49 ⊢
        exact h49.lc fun y _ _ => eK y (by omega) (by omega)
    · exact (h7 j hj).lc fun y _ _ => eK y (by have : j < vI W := hj; omega) (by omega)
  refine ⟨_, ?_, mid, fun y hy => ?_⟩
  · have e7 : up2 I o 7 (ic nv) o 7 = ic nv := up_s _ _ _ _
    have e8 : J o 8 = ic (vK W) := by rw [eo 8 (by omega)]; exact h5
    by_cases d : vK W < 16
    · rw [if_pos d]
      simp (maxSteps := 1000000) (disch := omega) only [↓reduceIte, ↓if_bi0, ↓if_bi1, hp_tg, hp_rI, hp_rR, hp_rL, hp_wI, hp_wL, Option.bind_some, if_11, if_01, bi_and1, i10, i01, bi_t, bi_f, ic_add, mr_4, ml_4, mr_8, ml_8, mr_10, ml_10, ic_add1, ic_sub1, ic_clamp, ic_div, ic_irm, ic_lt0, ic_0lt, ic_eq0, ic_lt, ic_inj, and15, and7, and31, and63, shl1, shr_ok, neg_1, neg_2, neg_3, neg_4, kc_lt0, kc_ic, kc_m2, kc_1, kc_0, i0_add, add_i0, or_i0, z_8, z_4, z_64, z_256, ic_m2, ec_m1, ic_m1, m1_lt0, m2_lt0, m3_lt0, m4_lt0, up_s, if_true, if_false, ne_eq, not_true_eq_false, not_false_eq_true, Bool.false_eq_true, eq_self, or_self, or_false, false_or, and_self, and_true, true_and, ite_self, Nat.reduceEqDiff, Nat.reduceLT, Nat.reduceMod, Nat.reduceMul, Nat.reduceAdd, Nat.reducePow, Nat.reduceDiv, lt_2, lt_3, lt_4, lt_5, lt_6, lt_7, lt_8, lt_10, lt_11, lt_12, lt_15, lt_16, lt_18, lt_20, lt_24, lt_31, lt_32, lt_48, lt_57, lt_59, lt_63, lt_64, lt_74, lt_75, lt_97, lt_122, lt_128, lt_144, lt_145, lt_146, lt_147, lt_155, lt_163, lt_171, lt_179, lt_200, lt_243, lt_244, lt_255, lt_256, lt_732, lt_900, lt_3660, lt_3904, lt_4095, lt_65536, lt_65537, lt_252645135, lt_858993459, lt_1431655765, ↓p_has_b, p_has, ↓p_has9_b, p_has9, ↓p_bit_b, p_bit, ↓p_bit1_b, p_bit1, ↓p_bit0_b, p_bit0, p_X7_keep, p_X7_keep_51, y0, h3, hnw, e7, y6, y4, hP.t, hP.2.1, r2.1, if_inB yr, r1, ↓bnd (e1), e1, e8, d]
    · rw [if_neg d]
      simp (maxSteps := 1000000) (disch := omega) only [↓reduceIte, ↓if_bi0, ↓if_bi1, hp_tg, hp_rI, hp_rR, hp_rL, hp_wI, hp_wL, Option.bind_some, if_11, if_01, bi_and1, i10, i01, bi_t, bi_f, ic_add, mr_4, ml_4, mr_8, ml_8, mr_10, ml_10, ic_add1, ic_sub1, ic_clamp, ic_div, ic_irm, ic_lt0, ic_0lt, ic_eq0, ic_lt, ic_inj, and15, and7, and31, and63, shl1, shr_ok, neg_1, neg_2, neg_3, neg_4, kc_lt0, kc_ic, kc_m2, kc_1, kc_0, i0_add, add_i0, or_i0, z_8, z_4, z_64, z_256, ic_m2, ec_m1, ic_m1, m1_lt0, m2_lt0, m3_lt0, m4_lt0, up_s, if_true, if_false, ne_eq, not_true_eq_false, not_false_eq_true, Bool.false_eq_true, eq_self, or_self, or_false, false_or, and_self, and_true, true_and, ite_self, Nat.reduceEqDiff, Nat.reduceLT, Nat.reduceMod, Nat.reduceMul, Nat.reduceAdd, Nat.reducePow, Nat.reduceDiv, lt_2, lt_3, lt_4, lt_5, lt_6, lt_7, lt_8, lt_10, lt_11, lt_12, lt_15, lt_16, lt_18, lt_20, lt_24, lt_31, lt_32, lt_48, lt_57, lt_59, lt_63, lt_64, lt_74, lt_75, lt_97, lt_122, lt_128, lt_144, lt_145, lt_146, lt_147, lt_155, lt_163, lt_171, lt_179, lt_200, lt_243, lt_244, lt_255, lt_256, lt_732, lt_900, lt_3660, lt_3904, lt_4095, lt_65536, lt_65537, lt_252645135, lt_858993459, lt_1431655765, ↓p_has_b, p_has, ↓p_has9_b, p_has9, ↓p_bit_b, p_bit, ↓p_bit1_b, p_bit1, ↓p_bit0_b, p_bit0, p_X7_keep, p_X7_keep_51, y0, h3, hnw, e7, y6, y4, hP.t, hP.2.1, r2.1, if_inB yr, r1, ↓bnd (e1), e1, e8, d]
  · split
    · rw [← eJ y (by omega) (by omega)]; exact funext fun j => up_a (by omega)
    · exact eJ y (by omega) (by omega)
/-- an act of the class, put together -/
theorem kc_act {oo : Option (Int32 × AH)} {r : Int32} (H : KH S I o x ta tb p q rg pc rs ps m ou W c) (C1 : CI J o x ta p q rs ps (uKp W)) (f1 : ∀ y, m ≤ y → J y = I y) (f : Fr J J' p (p + 9)) (hR : PR J' p s (tP (vT W))) {F P D G : Nat} (c3 : J' p 3 = ic (vH W + G)) (c4 : J' p 4 = ic (vF W + F)) (c6 : J' p 6 = ic (vP W + P)) (c7 : J' p 7 = ic (vD W + D)) (h : oo = some (r, hp S (up2 J' o 11 0) L)) : KC S I L o x ta p q rs ps m oo (r, act W s F P D G) := by
  have hK : vK (uKp W) ≤ 16 := (mn_le _ H.2.2.2.2.1).1
  have C2 := C1.st H.1 hK H.2.2.2.2.2.1 f hR c3 c4 c6 c7
  obtain ⟨d1, d2, d3, d4, d5, d6, d7, d8, d9, d10, d11⟩ := H.1
  exact ⟨_, h, C2.ee (e := 0) H.1 hK H.2.2.2.2.2.1 (by decide), fun y hy => by rw [← f1 y hy, ← f y (by omega)]; exact funext fun j => up_a (by omega)⟩
end ACTK
section ACTX
variable {S : SH} {I J J' : II} {L L' : LL} {m a c e pl : Nat} {W : WD} {s : St}
/-- the reference once it remembers -/
def XR (I J : II) (m : Nat) (W : WD) : Prop := PW J m (mn (vK W)) (psh (vS W) (vU W)) ∧ RW (J (m + 3)) (vS W) ∧ J m 19 = ic (mn (vK W)) ∧ J m 26 = ic (tP (vT W)) ∧ J m 27 = 0 ∧ J m 28 = 0 ∧ J m 29 = 0 ∧ (∀ j, 2 < j → j < 26 → j ≠ 19 → J m j = I m j) ∧ ∀ b, b ≠ m → b ≠ m + 3 → b ≠ m + 4 → b ≠ m + 6 → J b = I b
theorem x_rem (H : XH S I m a W c) (hr : vR W = true) {J0 : II} (XJ : Xq I J0 m) : ∃ J, p_X9_remembers m (hp S J0 L) = some (hp S J L) ∧ XR I J m W := by
  obtain ⟨hL, hm, hM, hX, hV⟩ := H
  obtain ⟨lm, l2, l3, l4⟩ := hM.y hr
  obtain ⟨x1, x6, xt, x12, c19, c20, c21, c22, c23, c24, c25, xp, xk, xr⟩ := hX
  obtain ⟨r1, r2⟩ := xr hr
  have P0 : PW J0 m (vK W) (vU W) := by unfold PW; rw [XJ.1 (m + 4) (by omega) (by omega) (by omega)]; exact xp
  obtain ⟨J, e1, p1, w1, g19, g26, g27, g28, g29, g1, f1⟩ := x_remembers (I := J0) (L := L) hL lm l4 hm (pl := tP (vT W)) (by rw [XJ.1 a (by omega) (by omega) (by omega)]; exact r1.1) hV.2.1 (by rw [XJ.2 19 (by omega) (by omega)]; exact c19) P0 (by rw [XJ.1 (m + 2) (by omega) (by omega) (by omega)]; exact r2)
  exact ⟨J, e1, p1, w1, g19, g26, g27, g28, g29, fun j h1 h2 h3 => (g1 j (by omega) h3).trans (XJ.2 j h1 h2), fun b h1 h2 h3 h4 => (f1 b h1 h2 h3).trans (XJ.1 b h1 h2 h4)⟩
theorem xc_act {oo : Option (Int32 × AH)} {r : Int32} (H : XH S I m a W c) (hr : vR W = true) (R : XR I J m W) (hR : RW (J' (m + 2)) s) (h1 : J' m 1 = 0) (h2 : J' m 2 = m1) (hj : ∀ j, 2 < j → j < 21 → J' m j = J m j) {F P D G : Nat} (c21 : J' m 21 = ic (vF W + F)) (c22 : J' m 22 = ic (vP W + P)) (c23 : J' m 23 = ic (vD W + D)) (c24 : J' m 24 = ic (vH W + G)) (c25 : J' m 25 = ic (vH W + G + (vF W + F))) (hb : ∀ b, b ≠ m → b ≠ m + 2 → b ≠ m + 3 → J' b = J b) (h : oo = some (r, hp S J' L')) : XC S I m a oo (r, act W s F P D G) := by
  obtain ⟨hL, hm, hM, hX, hV⟩ := H
  obtain ⟨p1, w1, g19, g26, g27, g28, g29, gj, gb⟩ := R
  obtain ⟨x1, x6, xt, x12, d19, d20, d21, d22, d23, d24, d25, xp, xk, xr⟩ := hX
  obtain ⟨r1, r2⟩ := xr hr
  have ey : ∀ b, b ≠ m → b ≠ m + 2 → b ≠ m + 3 → b ≠ m + 4 → b ≠ m + 6 → J' b = I b := fun b h1 h2 h3 h4 h6 => (hb b h1 h2 h3).trans (gb b h1 h3 h4 h6)
  refine ⟨J', L', h, ⟨⟨h1, h2⟩, by rw [hj 6 (by omega) (by omega), gj 6 (by omega) (by omega) (by omega)]; exact x6, fun k hk => by rw [ey (m + 1) (by omega) (by omega) (by omega) (by omega) (by omega)]; exact xt k hk, by rw [hj 12 (by omega) (by omega), gj 12 (by omega) (by omega) (by omega)]; exact x12, by rw [hj 19 (by omega) (by omega)]; exact g19, by rw [hj 20 (by omega) (by omega), gj 20 (by omega) (by omega) (by omega)]; exact d20, c21, c22, c23, c24, c25, ?_, ?_, fun _ => ⟨r1.lc fun y _ _ => ey y (by omega) (by omega) (by omega) (by omega) (by omega), hR⟩⟩, fun y hy => ey y (by omega) (by omega) (by omega) (by omega) (by omega)⟩
  · unfold PW; rw [hb (m + 4) (by omega) (by omega) (by omega)]; exact p1
  · rw [ey (m + 5) (by omega) (by omega) (by omega) (by omega) (by omega)]; exact xk
/-- an act that counts nothing: the row is laid back, and an answer -/
theorem xc_act0 {oo : Option (Int32 × AH)} {r : Int32} (H : XH S I m a W c) (hr : vR W = true) (R : XR I J m W) (hR : RW (J' (m + 3)) s) (hj : ∀ j, j < 26 → J' m j = J m j) (hb : ∀ b, b ≠ m → b ≠ m + 3 → J' b = J b) (h : ∀ K, p_X9_remains m (hp S J' L) = some (hp S K L) → oo = some (r, hp S (up2 (up2 K m 1 0) m 2 m1) L')) : XC S I m a oo (r, act W s 0 0 0 0) := by
  obtain ⟨K, e1, k1, k2⟩ := x_remains (I := J') (L := L) H.1
  obtain ⟨p1, w1, g19, g26, g27, g28, g29, gj, gb⟩ := R
  have hX := H.2.2.2.1
  have em : ∀ j, j ≠ 1 → j ≠ 2 → up2 (up2 K m 1 0) m 2 m1 m j = K m j := fun j h1 h2 => by rw [up_k h2, up_k h1]
  have ek : ∀ j, 2 < j → j < 26 → up2 (up2 K m 1 0) m 2 m1 m j = J m j := fun j h1 h2 => by rw [em j (by omega) (by omega), k2 m (by omega), hj j h2]
  have eb : ∀ b, b ≠ m → up2 (up2 K m 1 0) m 2 m1 b = K b := fun b h1 => funext fun j => by rw [up_a h1, up_a h1]
  refine xc_act H hr ⟨p1, w1, g19, g26, g27, g28, g29, gj, gb⟩ (J' := up2 (up2 K m 1 0) m 2 m1) ?_ (by rw [up_k (by omega), up_s]) (up_s _ _ _ _) (fun j h1 h2 => ek j h1 (by omega)) (by rw [ek 21 (by omega) (by omega), gj 21 (by omega) (by omega) (by omega)]; exact hX.2.2.2.2.2.2.1) (by rw [ek 22 (by omega) (by omega), gj 22 (by omega) (by omega) (by omega)]; exact hX.2.2.2.2.2.2.2.1) (by rw [ek 23 (by omega) (by omega), gj 23 (by omega) (by omega) (by omega)]; exact hX.2.2.2.2.2.2.2.2.1) (by rw [ek 24 (by omega) (by omega), gj 24 (by omega) (by omega) (by omega)]; exact hX.2.2.2.2.2.2.2.2.2.1) (by rw [ek 25 (by omega) (by omega), gj 25 (by omega) (by omega) (by omega)]; exact hX.2.2.2.2.2.2.2.2.2.2.1) (fun b h1 h2 h3 => by rw [eb b h1, k2 b h2, hb b h1 h3]) (h K e1)
  rw [eb (m + 2) (by omega)]
  exact hR.cong fun j hj => k1 j hj
end ACTX
