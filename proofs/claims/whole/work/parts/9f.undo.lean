/-! ===== undo, image, back: both sides ===== -/
def uUn (W : WD) : WD := (W.1, (vR W, vT W, vU W 0), W.2.2.1, (vK W - 1, fun j => vU W (j + 1)), W.2.2.2.2)
def uIm (W : WD) : WD := (W.1, W.2.1, W.2.2.1, W.2.2.2.1, (vI W + 1, fun j => if j = vI W then vS W else vJ W j), W.2.2.2.2.2)
def uBk (W : WD) (k : Nat) : WD := (W.1, (vR W, vT W, vJ W k), W.2.2.1, (0, vU W), W.2.2.2.2)
def unD (W : WD) : Int32 × WD := if vK W = 0 then (0, uE W 6) else (1, uE (uUn W) 0)
def imD (W : WD) : Int32 × WD := if vR W = true then (if vI W = 3 then (m1, uE W 3) else (ic (vI W), uE (uIm W) 0)) else (m1, uE W 1)
def bkD (W : WD) (v : Int32) : Int32 × WD := if ok true (vI W) v = true then (1, uE (uBk W v.toNatClampNeg) 0) else (0, uE W 1)
theorem WV.un {W : WD} {c : Nat} (h : WV W c) (hk : vK W ≠ 0) : WV (uUn W) c := by
  obtain ⟨h1, h2, h3, h4, h5, h6, h7, h8⟩ := h
  refine ⟨h1, by show vK W - 1 ≤ 16; omega, h3, h4, h5, h6, fun z => ?_, fun z => ?_⟩
  · obtain ⟨V1, V2, V3, V4, V5⟩ := h7 z
    exact ⟨V1, V2, V4 0 (by omega), fun j hj => V4 (j + 1) (by have : j < vK W - 1 := hj; omega), V5⟩
  · exact absurd (h8 z).1 hk
theorem WV.im {W : WD} {c : Nat} (h : WV W c) (hr : vR W = true) (hk : vI W ≠ 3) : WV (uIm W) c := by
  obtain ⟨h1, h2, h3, h4, h5, h6, h7, h8⟩ := h
  refine ⟨h1, h2, by show vI W + 1 ≤ 3; omega, h4, h5, h6, fun z => ?_, fun z => ?_⟩
  · obtain ⟨V1, V2, V3, V4, V5⟩ := h7 z
    refine ⟨V1, V2, V3, V4, fun j hj => ?_⟩
    show SV (if j = vI W then vS W else vJ W j) _ _
    by_cases e : j = vI W
    · rw [if_pos e]; exact V3
    · rw [if_neg e]; exact V5 j (by have : j < vI W + 1 := hj; omega)
  · have : vR W = false := z
    rw [hr] at this; cases this
theorem WV.bk {W : WD} {c k : Nat} (h : WV W c) (hk : k < vI W) : WV (uBk W k) c := by
  obtain ⟨h1, h2, h3, h4, h5, h6, h7, h8⟩ := h
  refine ⟨h1, by show 0 ≤ 16; omega, h3, h4, h5, h6, fun z => ?_, fun z => ?_⟩
  · obtain ⟨V1, V2, V3, V4, V5⟩ := h7 z
    exact ⟨V1, V2, V5 k hk, fun j hj => by have : j < 0 := hj; omega, V5⟩
  · have := (h8 z).2; omega
section UNK
variable {S : SH} {I J J' : II} {L L' : LL} {o x ta tb p q rg pc rs ps m ou a c e pl : Nat} {W : WD} {s : St}
theorem kc_undo (H : KH S I o x ta tb p q rg pc rs ps m ou W c) : KC S I L o x ta p q rs ps m (p_X7_undo o (hp S I L)) (unD W) := by
  have b1 : (1 : Int32) &&& 1 = 1 := by decide
  have b0 : (0 : Int32) &&& 1 = 0 := by decide
  have H9 := H
  obtain ⟨hA, hY, hC, hV⟩ := H9
  have hA9 := hA
  obtain ⟨d1, d2, d3, d4, d5, d6, d7, d8, d9, d10, d11⟩ := hA9
  obtain ⟨y0, -, y1, -, y4, y5, y6, -, -, hT, -, hP, hQ, ⟨yr, ys⟩, -⟩ := hY
  have hK := hV.2.1
  have hI := hV.2.2.1
  have h5 := hC.2.2.1
  unfold unD
  by_cases d : vK W = 0
  · rw [if_pos d]
    refine kc_to (e := 6) hA hV hC (fun _ _ => rfl) (by decide) ?_
    rw [d, ic_zero] at h5
    simp (maxSteps := 1000000) (disch := omega) only [↓reduceIte, ↓if_bi0, ↓if_bi1, hp_tg, hp_rI, hp_rR, hp_rL, hp_wI, hp_wL, Option.bind_some, if_11, if_01, bi_and1, i10, i01, bi_t, bi_f, ic_add, mr_4, ml_4, mr_8, ml_8, mr_10, ml_10, ic_add1, ic_sub1, ic_clamp, ic_div, ic_irm, ic_lt0, ic_0lt, ic_eq0, ic_lt, ic_inj, and15, and7, and31, and63, shl1, shr_ok, neg_1, neg_2, neg_3, neg_4, kc_lt0, kc_ic, kc_m2, kc_1, kc_0, i0_add, add_i0, or_i0, z_8, z_4, z_64, z_256, ic_m2, ec_m1, ic_m1, m1_lt0, m2_lt0, m3_lt0, m4_lt0, up_s, if_true, if_false, ne_eq, not_true_eq_false, not_false_eq_true, Bool.false_eq_true, eq_self, or_self, or_false, false_or, and_self, and_true, true_and, ite_self, Nat.reduceEqDiff, Nat.reduceLT, Nat.reduceMod, Nat.reduceMul, Nat.reduceAdd, Nat.reducePow, Nat.reduceDiv, lt_2, lt_3, lt_4, lt_5, lt_6, lt_7, lt_8, lt_10, lt_11, lt_12, lt_15, lt_16, lt_18, lt_20, lt_24, lt_31, lt_32, lt_48, lt_57, lt_59, lt_63, lt_64, lt_74, lt_75, lt_97, lt_122, lt_128, lt_144, lt_145, lt_146, lt_147, lt_155, lt_163, lt_171, lt_179, lt_200, lt_243, lt_244, lt_255, lt_256, lt_732, lt_900, lt_3660, lt_3904, lt_4095, lt_65536, lt_65537, lt_252645135, lt_858993459, lt_1431655765, ↓p_has_b, p_has, ↓p_has9_b, p_has9, ↓p_bit_b, p_bit, ↓p_bit1_b, p_bit1, ↓p_bit0_b, p_bit0, p_X7_undo, p_X7_declines, y0, h5, b0]
  · rw [if_neg d]
    have hr : vR W = true := by
      cases q : vR W
      · exact absurd (hV.2.2.2.2.2.2.2 q).1 d
      · rfl
    have hC9 := hC
    obtain ⟨h1, ⟨nw, h2, h3, h4⟩, -, h6, h7, h8, h9, h10, h11, h12, h13, h14, h15, h16, h17, h18, h19⟩ := hC9
    obtain ⟨r1, r2⟩ := ys nw h2
    have R2 := h4 0 (by omega)
    rw [show (nw + 16 - 0) % 16 = nw by omega] at R2
    obtain ⟨J, e1, s1, f1⟩ := c_copy (I := I) (L := L) hP.sc r2 (by omega) R2
    have eJ : ∀ y, y < p + 1 ∨ p + 9 < y → J y = I y := fun y hy => f1 y (by omega)
    have nlt : (nw + 16 - 1) % 16 < 16 := Nat.mod_lt _ (by decide)
    have hring : ∀ j, j < vK W - 1 → ((nw + 16 - 1) % 16 + 16 - j) % 16 = (nw + 16 - (j + 1)) % 16 := fun j hj => by omega
    have s2 : PR J p (vU W 0) (tP (vT W)) := s1
    obtain ⟨w, w1, w2, -⟩ := s2.2.2.2.2.2.1
    have C1 : CI (up2 (up2 J o 7 (ic ((nw + 16 - 1) % 16))) o 8 (ic (vK W - 1))) o x ta p q rs ps (uUn W) := by
      have eo : ∀ j, j ≠ 7 → j ≠ 8 → up2 (up2 J o 7 (ic ((nw + 16 - 1) % 16))) o 8 (ic (vK W - 1)) o j = I o j := fun j q1 q2 => by rw [up_k q2, up_k q1, eJ o (by omega)]
      have ey : ∀ y, y ≠ o → up2 (up2 J o 7 (ic ((nw + 16 - 1) % 16))) o 8 (ic (vK W - 1)) y = J y := fun y hy => funext fun j => by rw [up_a hy, up_a hy]
      have ez : ∀ y, y ≠ o → (y < p + 1 ∨ p + 9 < y) → up2 (up2 J o 7 (ic ((nw + 16 - 1) % 16))) o 8 (ic (vK W - 1)) y = I y := fun y hy hz => (ey y hy).trans (eJ y hz)
      refine ⟨by rw [eo 3 (by omega) (by omega)]; exact h1, ⟨(nw + 16 - 1) % 16, nlt, by rw [up_k (by omega), up_s], fun j hj => ?_⟩, up_s _ _ _ _, by rw [eo 10 (by omega) (by omega)]; exact h6, fun j hj => ?_, by rw [eo 11 (by omega) (by omega)]; exact h8, by rw [ez x (by omega) (by omega)]; exact h9, fun k hk => by rw [ez (x + 1) (by omega) (by omega)]; exact h10 k hk, by rw [ez x (by omega) (by omega)]; exact h11, fun z => by rw [ez x (by omega) (by omega)]; exact h12 z, by rw [ey (p + 5) (by omega)]; exact ⟨w, w1, w2⟩, by rw [ez (q + 5) (by omega) (by omega)]; exact h14, fun z => ⟨(h15 z).1.lc fun y _ _ => ez y (by omega) (by omega), s2.lc fun y _ _ => ey y (by omega)⟩, by rw [ez p (by omega) (by omega)]; exact h16, by rw [ez p (by omega) (by omega)]; exact h17, by rw [ez p (by omega) (by omega)]; exact h18, by rw [ez p (by omega) (by omega)]; exact h19⟩
      · have hj9 : j < vK W - 1 := hj
        rw [hring j hj9]
        have h49 := h4 (j + 1) (by omega)
        have u16 : (nw + 16 - (j + 1)) % 16 < 16 := Nat.mod_lt _ (by decide)
        generalize (nw + 16 - (j + 1)) % 16 = u at h49 u16 ⊢
        exact h49.lc fun y _ _ => ez y (by omega) (by omega)
      · exact (h7 j hj).lc fun y _ _ => ez y (by have : j < vI W := hj; omega) (by omega)
    have e7 : J o 7 = ic nw := by rw [eJ o (by omega)]; exact h3
    have e8 : up2 J o 7 (ic ((nw + 16 - 1) % 16)) o 8 = ic (vK W) := by rw [up_k (by omega), eJ o (by omega)]; exact h5
    refine kc_to (W := uUn W) (e := 0) hA (hV.un d) C1 (fun y hy => ?_) (by decide) ?_
    · rw [← eJ y (by omega)]; exact funext fun j => by rw [up_a (by omega), up_a (by omega)]
    · simp (maxSteps := 1000000) (disch := omega) only [↓reduceIte, ↓if_bi0, ↓if_bi1, hp_tg, hp_rI, hp_rR, hp_rL, hp_wI, hp_wL, Option.bind_some, if_11, if_01, bi_and1, i10, i01, bi_t, bi_f, ic_add, mr_4, ml_4, mr_8, ml_8, mr_10, ml_10, ic_add1, ic_sub1, ic_clamp, ic_div, ic_irm, ic_lt0, ic_0lt, ic_eq0, ic_lt, ic_inj, and15, and7, and31, and63, shl1, shr_ok, neg_1, neg_2, neg_3, neg_4, kc_lt0, kc_ic, kc_m2, kc_1, kc_0, i0_add, add_i0, or_i0, z_8, z_4, z_64, z_256, ic_m2, ec_m1, ic_m1, m1_lt0, m2_lt0, m3_lt0, m4_lt0, up_s, if_true, if_false, ne_eq, not_true_eq_false, not_false_eq_true, Bool.false_eq_true, eq_self, or_self, or_false, false_or, and_self, and_true, true_and, ite_self, Nat.reduceEqDiff, Nat.reduceLT, Nat.reduceMod, Nat.reduceMul, Nat.reduceAdd, Nat.reducePow, Nat.reduceDiv, lt_2, lt_3, lt_4, lt_5, lt_6, lt_7, lt_8, lt_10, lt_11, lt_12, lt_15, lt_16, lt_18, lt_20, lt_24, lt_31, lt_32, lt_48, lt_57, lt_59, lt_63, lt_64, lt_74, lt_75, lt_97, lt_122, lt_128, lt_144, lt_145, lt_146, lt_147, lt_155, lt_163, lt_171, lt_179, lt_200, lt_243, lt_244, lt_255, lt_256, lt_732, lt_900, lt_3660, lt_3904, lt_4095, lt_65536, lt_65537, lt_252645135, lt_858993459, lt_1431655765, ↓p_has_b, p_has, ↓p_has9_b, p_has9, ↓p_bit_b, p_bit, ↓p_bit1_b, p_bit1, ↓p_bit0_b, p_bit0, p_X7_undo, p_X7_agrees, y0, h5, d, y4, hP.t, hP.2.1, hP.sc.1, y6, h3, show nw % 16 = nw by omega, if_inB yr, r1, ↓bnd (e1), e1, e7, e8, b1]
      rfl
theorem kc_image (H : KH S I o x ta tb p q rg pc rs ps m ou W c) : KC S I L o x ta p q rs ps m (p_X7_image o (hp S I L)) (imD W) := by
  have H9 := H
  obtain ⟨hA, hY, hC, hV⟩ := H9
  have hA9 := hA
  obtain ⟨d1, d2, d3, d4, d5, d6, d7, d8, d9, d10, d11⟩ := hA9
  obtain ⟨y0, -, y1, -, y4, y5, y6, y9, -, hT, -, hP, hQ, -, ⟨yr, ys⟩, -⟩ := hY
  have hK := hV.2.1
  have hI := hV.2.2.1
  have hC9 := hC
  obtain ⟨h1, ⟨nw, h2, h3, h4⟩, h5, h6, h7, h8, h9, h10, h11, h12, h13, h14, h15, h16, h17, h18, h19⟩ := hC9
  unfold imD
  cases hr : vR W
  · rw [hr] at h1
    rw [if_neg (by decide)]
    refine kc_no1 H ?_
    simp (maxSteps := 1000000) (disch := omega) only [↓reduceIte, ↓if_bi0, ↓if_bi1, hp_tg, hp_rI, hp_rR, hp_rL, hp_wI, hp_wL, Option.bind_some, if_11, if_01, bi_and1, i10, i01, bi_t, bi_f, ic_add, mr_4, ml_4, mr_8, ml_8, mr_10, ml_10, ic_add1, ic_sub1, ic_clamp, ic_div, ic_irm, ic_lt0, ic_0lt, ic_eq0, ic_lt, ic_inj, and15, and7, and31, and63, shl1, shr_ok, neg_1, neg_2, neg_3, neg_4, kc_lt0, kc_ic, kc_m2, kc_1, kc_0, i0_add, add_i0, or_i0, z_8, z_4, z_64, z_256, ic_m2, ec_m1, ic_m1, m1_lt0, m2_lt0, m3_lt0, m4_lt0, up_s, if_true, if_false, ne_eq, not_true_eq_false, not_false_eq_true, Bool.false_eq_true, eq_self, or_self, or_false, false_or, and_self, and_true, true_and, ite_self, Nat.reduceEqDiff, Nat.reduceLT, Nat.reduceMod, Nat.reduceMul, Nat.reduceAdd, Nat.reducePow, Nat.reduceDiv, lt_2, lt_3, lt_4, lt_5, lt_6, lt_7, lt_8, lt_10, lt_11, lt_12, lt_15, lt_16, lt_18, lt_20, lt_24, lt_31, lt_32, lt_48, lt_57, lt_59, lt_63, lt_64, lt_74, lt_75, lt_97, lt_122, lt_128, lt_144, lt_145, lt_146, lt_147, lt_155, lt_163, lt_171, lt_179, lt_200, lt_243, lt_244, lt_255, lt_256, lt_732, lt_900, lt_3660, lt_3904, lt_4095, lt_65536, lt_65537, lt_252645135, lt_858993459, lt_1431655765, ↓p_has_b, p_has, ↓p_has9_b, p_has9, ↓p_bit_b, p_bit, ↓p_bit1_b, p_bit1, ↓p_bit0_b, p_bit0, p_X7_image, p_X7_refuse, y0, h1]
  · rw [if_pos rfl]
    by_cases d : vI W = 3
    · rw [if_pos d]
      rw [hr] at h1
      refine kc_no (e := 3) H (by decide) ?_
      simp (maxSteps := 1000000) (disch := omega) only [↓reduceIte, ↓if_bi0, ↓if_bi1, hp_tg, hp_rI, hp_rR, hp_rL, hp_wI, hp_wL, Option.bind_some, if_11, if_01, bi_and1, i10, i01, bi_t, bi_f, ic_add, mr_4, ml_4, mr_8, ml_8, mr_10, ml_10, ic_add1, ic_sub1, ic_clamp, ic_div, ic_irm, ic_lt0, ic_0lt, ic_eq0, ic_lt, ic_inj, and15, and7, and31, and63, shl1, shr_ok, neg_1, neg_2, neg_3, neg_4, kc_lt0, kc_ic, kc_m2, kc_1, kc_0, i0_add, add_i0, or_i0, z_8, z_4, z_64, z_256, ic_m2, ec_m1, ic_m1, m1_lt0, m2_lt0, m3_lt0, m4_lt0, up_s, if_true, if_false, ne_eq, not_true_eq_false, not_false_eq_true, Bool.false_eq_true, eq_self, or_self, or_false, false_or, and_self, and_true, true_and, ite_self, Nat.reduceEqDiff, Nat.reduceLT, Nat.reduceMod, Nat.reduceMul, Nat.reduceAdd, Nat.reducePow, Nat.reduceDiv, lt_2, lt_3, lt_4, lt_5, lt_6, lt_7, lt_8, lt_10, lt_11, lt_12, lt_15, lt_16, lt_18, lt_20, lt_24, lt_31, lt_32, lt_48, lt_57, lt_59, lt_63, lt_64, lt_74, lt_75, lt_97, lt_122, lt_128, lt_144, lt_145, lt_146, lt_147, lt_155, lt_163, lt_171, lt_179, lt_200, lt_243, lt_244, lt_255, lt_256, lt_732, lt_900, lt_3660, lt_3904, lt_4095, lt_65536, lt_65537, lt_252645135, lt_858993459, lt_1431655765, ↓p_has_b, p_has, ↓p_has9_b, p_has9, ↓p_bit_b, p_bit, ↓p_bit1_b, p_bit1, ↓p_bit0_b, p_bit0, p_X7_image, p_X7_refuse, y0, h1, h6, d, Nat.lt_irrefl]
    · rw [if_neg d]
      obtain ⟨r1, r2⟩ := ys (vI W) (by omega)
      have R1 : SR I (p + 1) (vS W) (tP (vT W)) := (h15 hr).2
      obtain ⟨J, e1, s1, f1⟩ := c_copy (I := I) (L := L) r2 hP.sc (by omega) R1
      have eJ : ∀ y, y < ps + 9 * vI W ∨ ps + 9 * vI W + 8 < y → J y = I y := fun y hy => f1 y (by omega)
      have C1 : CI (up2 J o 10 (ic (vI W + 1))) o x ta p q rs ps (uIm W) := by
        have eo : ∀ j, j ≠ 10 → up2 J o 10 (ic (vI W + 1)) o j = I o j := fun j q1 => by rw [up_k q1, eJ o (by omega)]
        have ey : ∀ y, y ≠ o → up2 J o 10 (ic (vI W + 1)) y = J y := fun y hy => funext fun j => by rw [up_a hy]
        have ez : ∀ y, y ≠ o → (y < ps + 9 * vI W ∨ ps + 9 * vI W + 8 < y) → up2 J o 10 (ic (vI W + 1)) y = I y := fun y hy hz => (ey y hy).trans (eJ y hz)
        refine ⟨by rw [eo 3 (by omega)]; exact h1, ⟨nw, h2, by rw [eo 7 (by omega)]; exact h3, fun j hj => ?_⟩, by rw [eo 8 (by omega)]; exact h5, up_s _ _ _ _, fun j hj => ?_, by rw [eo 11 (by omega)]; exact h8, by rw [ez x (by omega) (by omega)]; exact h9, fun k hk => by rw [ez (x + 1) (by omega) (by omega)]; exact h10 k hk, by rw [ez x (by omega) (by omega)]; exact h11, fun z => by rw [ez x (by omega) (by omega)]; exact h12 z, by rw [ez (p + 5) (by omega) (by omega)]; exact h13, by rw [ez (q + 5) (by omega) (by omega)]; exact h14, fun z => ⟨(h15 z).1.lc fun y _ _ => ez y (by omega) (by omega), (h15 z).2.lc fun y _ _ => ez y (by omega) (by omega)⟩, by rw [ez p (by omega) (by omega)]; exact h16, by rw [ez p (by omega) (by omega)]; exact h17, by rw [ez p (by omega) (by omega)]; exact h18, by rw [ez p (by omega) (by omega)]; exact h19⟩
        · have h49 := h4 j hj
          have u16 : (nw + 16 - j) % 16 < 16 := Nat.mod_lt _ (by decide)
          generalize (nw + 16 - j) % 16 = u at h49 u16 ⊢
          exact h49.lc fun y _ _ => ez y (by omega) (by omega)
        · have hj9 : j < vI W + 1 := hj
          show SR _ _ (if j = vI W then vS W else vJ W j) _
          by_cases e : j = vI W
          · rw [if_pos e, e]; exact s1.lc fun y _ _ => ey y (by omega)
          · rw [if_neg e]; exact (h7 j (by omega)).lc fun y _ _ => ez y (by omega) (by omega)
      have e10 : J o 10 = ic (vI W) := by rw [eJ o (by omega)]; exact h6
      have f10 : up2 J o 10 (ic (vI W + 1)) o 10 = ic (vI W + 1) := up_s _ _ _ _
      rw [hr] at h1
      refine kc_to (W := uIm W) (e := 0) hA (hV.im hr d) C1 (fun y hy => ?_) (by decide) ?_
      · rw [← eJ y (by omega)]; exact funext fun j => by rw [up_a (by omega)]
      · simp (maxSteps := 1000000) (disch := omega) only [↓reduceIte, ↓if_bi0, ↓if_bi1, hp_tg, hp_rI, hp_rR, hp_rL, hp_wI, hp_wL, Option.bind_some, if_11, if_01, bi_and1, i10, i01, bi_t, bi_f, ic_add, mr_4, ml_4, mr_8, ml_8, mr_10, ml_10, ic_add1, ic_sub1, ic_clamp, ic_div, ic_irm, ic_lt0, ic_0lt, ic_eq0, ic_lt, ic_inj, and15, and7, and31, and63, shl1, shr_ok, neg_1, neg_2, neg_3, neg_4, kc_lt0, kc_ic, kc_m2, kc_1, kc_0, i0_add, add_i0, or_i0, z_8, z_4, z_64, z_256, ic_m2, ec_m1, ic_m1, m1_lt0, m2_lt0, m3_lt0, m4_lt0, up_s, if_true, if_false, ne_eq, not_true_eq_false, not_false_eq_true, Bool.false_eq_true, eq_self, or_self, or_false, false_or, and_self, and_true, true_and, ite_self, Nat.reduceEqDiff, Nat.reduceLT, Nat.reduceMod, Nat.reduceMul, Nat.reduceAdd, Nat.reducePow, Nat.reduceDiv, lt_2, lt_3, lt_4, lt_5, lt_6, lt_7, lt_8, lt_10, lt_11, lt_12, lt_15, lt_16, lt_18, lt_20, lt_24, lt_31, lt_32, lt_48, lt_57, lt_59, lt_63, lt_64, lt_74, lt_75, lt_97, lt_122, lt_128, lt_144, lt_145, lt_146, lt_147, lt_155, lt_163, lt_171, lt_179, lt_200, lt_243, lt_244, lt_255, lt_256, lt_732, lt_900, lt_3660, lt_3904, lt_4095, lt_65536, lt_65537, lt_252645135, lt_858993459, lt_1431655765, ↓p_has_b, p_has, ↓p_has9_b, p_has9, ↓p_bit_b, p_bit, ↓p_bit1_b, p_bit1, ↓p_bit0_b, p_bit0, p_X7_image, p_X7_answer, y0, h1, h6, show vI W < 3 by omega, y9, y4, hP.t, hP.2.1, r2.1, if_inB yr, r1, ↓bnd (e1), e1, e10, f10, Nat.add_sub_cancel]
        rfl
theorem kc_back (H : KH S I o x ta tb p q rg pc rs ps m ou W c) (v : Int32) : KC S I L o x ta p q rs ps m (p_X7_back o v (hp S I L)) (bkD W v) := by
  have b1 : (1 : Int32) &&& 1 = 1 := by decide
  have b0 : (0 : Int32) &&& 1 = 0 := by decide
  have H9 := H
  obtain ⟨hA, hY, hC, hV⟩ := H9
  have hA9 := hA
  obtain ⟨d1, d2, d3, d4, d5, d6, d7, d8, d9, d10, d11⟩ := hA9
  obtain ⟨y0, -, y1, -, y4, y5, y6, y9, -, hT, -, hP, hQ, -, ⟨yr, ys⟩, -⟩ := hY
  have hK := hV.2.1
  have hI := hV.2.2.1
  have hC9 := hC
  obtain ⟨h1, ⟨nw, h2, h3, h4⟩, h5, h6, h7, h8, h9, h10, h11, h12, h13, h14, h15, h16, h17, h18, h19⟩ := hC9
  unfold bkD
  rcases i_cases v with g | ⟨k, hk, rfl⟩
  · rw [ok_neg g, if_neg (by decide)]
    refine kc_to (e := 1) hA hV hC (fun _ _ => rfl) (by decide) ?_
    simp (maxSteps := 1000000) (disch := omega) only [↓reduceIte, ↓if_bi0, ↓if_bi1, hp_tg, hp_rI, hp_rR, hp_rL, hp_wI, hp_wL, Option.bind_some, if_11, if_01, bi_and1, i10, i01, bi_t, bi_f, ic_add, mr_4, ml_4, mr_8, ml_8, mr_10, ml_10, ic_add1, ic_sub1, ic_clamp, ic_div, ic_irm, ic_lt0, ic_0lt, ic_eq0, ic_lt, ic_inj, and15, and7, and31, and63, shl1, shr_ok, neg_1, neg_2, neg_3, neg_4, kc_lt0, kc_ic, kc_m2, kc_1, kc_0, i0_add, add_i0, or_i0, z_8, z_4, z_64, z_256, ic_m2, ec_m1, ic_m1, m1_lt0, m2_lt0, m3_lt0, m4_lt0, up_s, if_true, if_false, ne_eq, not_true_eq_false, not_false_eq_true, Bool.false_eq_true, eq_self, or_self, or_false, false_or, and_self, and_true, true_and, ite_self, Nat.reduceEqDiff, Nat.reduceLT, Nat.reduceMod, Nat.reduceMul, Nat.reduceAdd, Nat.reducePow, Nat.reduceDiv, lt_2, lt_3, lt_4, lt_5, lt_6, lt_7, lt_8, lt_10, lt_11, lt_12, lt_15, lt_16, lt_18, lt_20, lt_24, lt_31, lt_32, lt_48, lt_57, lt_59, lt_63, lt_64, lt_74, lt_75, lt_97, lt_122, lt_128, lt_144, lt_145, lt_146, lt_147, lt_155, lt_163, lt_171, lt_179, lt_200, lt_243, lt_244, lt_255, lt_256, lt_732, lt_900, lt_3660, lt_3904, lt_4095, lt_65536, lt_65537, lt_252645135, lt_858993459, lt_1431655765, ↓p_has_b, p_has, ↓p_has9_b, p_has9, ↓p_bit_b, p_bit, ↓p_bit1_b, p_bit1, ↓p_bit0_b, p_bit0, p_X7_back, p_X7_back_17, p_X7_declines, y0, g, b0]
    rfl
  · rw [ok_ic (by omega) hk, ic_clamp hk]
    by_cases d : k < vI W
    · rw [if_pos (decide_eq_true d)]
      have hr : vR W = true := by
        cases q : vR W
        · have := (hV.2.2.2.2.2.2.2 q).2; omega
        · rfl
      obtain ⟨r1, r2⟩ := ys k (by omega)
      obtain ⟨J, e1, s1, f1⟩ := c_copy (I := I) (L := L) hP.sc r2 (by omega) (h7 k d)
      have eJ : ∀ y, y < p + 1 ∨ p + 9 < y → J y = I y := fun y hy => f1 y (by omega)
      have s2 : PR J p (vJ W k) (tP (vT W)) := s1
      obtain ⟨w, w1, w2, -⟩ := s2.2.2.2.2.2.1
      have C1 : CI (up2 J o 8 0) o x ta p q rs ps (uBk W k) := by
        have eo : ∀ j, j ≠ 8 → up2 J o 8 0 o j = I o j := fun j q1 => by rw [up_k q1, eJ o (by omega)]
        have ey : ∀ y, y ≠ o → up2 J o 8 0 y = J y := fun y hy => funext fun j => by rw [up_a hy]
        have ez : ∀ y, y ≠ o → (y < p + 1 ∨ p + 9 < y) → up2 J o 8 0 y = I y := fun y hy hz => (ey y hy).trans (eJ y hz)
        refine ⟨by rw [eo 3 (by omega)]; exact h1, ⟨nw, h2, by rw [eo 7 (by omega)]; exact h3, fun j hj => by have : j < 0 := hj; omega⟩, up_s _ _ _ _, by rw [eo 10 (by omega)]; exact h6, fun j hj => ?_, by rw [eo 11 (by omega)]; exact h8, by rw [ez x (by omega) (by omega)]; exact h9, fun k hk => by rw [ez (x + 1) (by omega) (by omega)]; exact h10 k hk, by rw [ez x (by omega) (by omega)]; exact h11, fun z => by rw [ez x (by omega) (by omega)]; exact h12 z, by rw [ey (p + 5) (by omega)]; exact ⟨w, w1, w2⟩, by rw [ez (q + 5) (by omega) (by omega)]; exact h14, fun z => ⟨(h15 z).1.lc fun y _ _ => ez y (by omega) (by omega), s2.lc fun y _ _ => ey y (by omega)⟩, by rw [ez p (by omega) (by omega)]; exact h16, by rw [ez p (by omega) (by omega)]; exact h17, by rw [ez p (by omega) (by omega)]; exact h18, by rw [ez p (by omega) (by omega)]; exact h19⟩
        exact (h7 j hj).lc fun y _ _ => ez y (by have : j < vI W := hj; omega) (by omega)
      refine kc_to (W := uBk W k) (e := 0) hA (hV.bk d) C1 (fun y hy => ?_) (by decide) ?_
      · rw [← eJ y (by omega)]; exact funext fun j => by rw [up_a (by omega)]
      · simp (maxSteps := 1000000) (disch := omega) only [↓reduceIte, ↓if_bi0, ↓if_bi1, hp_tg, hp_rI, hp_rR, hp_rL, hp_wI, hp_wL, Option.bind_some, if_11, if_01, bi_and1, i10, i01, bi_t, bi_f, ic_add, mr_4, ml_4, mr_8, ml_8, mr_10, ml_10, ic_add1, ic_sub1, ic_clamp, ic_div, ic_irm, ic_lt0, ic_0lt, ic_eq0, ic_lt, ic_inj, and15, and7, and31, and63, shl1, shr_ok, neg_1, neg_2, neg_3, neg_4, kc_lt0, kc_ic, kc_m2, kc_1, kc_0, i0_add, add_i0, or_i0, z_8, z_4, z_64, z_256, ic_m2, ec_m1, ic_m1, m1_lt0, m2_lt0, m3_lt0, m4_lt0, up_s, if_true, if_false, ne_eq, not_true_eq_false, not_false_eq_true, Bool.false_eq_true, eq_self, or_self, or_false, false_or, and_self, and_true, true_and, ite_self, Nat.reduceEqDiff, Nat.reduceLT, Nat.reduceMod, Nat.reduceMul, Nat.reduceAdd, Nat.reducePow, Nat.reduceDiv, lt_2, lt_3, lt_4, lt_5, lt_6, lt_7, lt_8, lt_10, lt_11, lt_12, lt_15, lt_16, lt_18, lt_20, lt_24, lt_31, lt_32, lt_48, lt_57, lt_59, lt_63, lt_64, lt_74, lt_75, lt_97, lt_122, lt_128, lt_144, lt_145, lt_146, lt_147, lt_155, lt_163, lt_171, lt_179, lt_200, lt_243, lt_244, lt_255, lt_256, lt_732, lt_900, lt_3660, lt_3904, lt_4095, lt_65536, lt_65537, lt_252645135, lt_858993459, lt_1431655765, ↓p_has_b, p_has, ↓p_has9_b, p_has9, ↓p_bit_b, p_bit, ↓p_bit1_b, p_bit1, ↓p_bit0_b, p_bit0, p_X7_back, p_X7_agrees, y0, h6, d, show k < 3 by omega, y9, y4, hP.t, hP.2.1, hP.sc.1, if_inB yr, r1, ↓bnd (e1), e1, b1]
        rfl
    · rw [if_neg (by rw [decide_eq_false d]; decide)]
      refine kc_to (e := 1) hA hV hC (fun _ _ => rfl) (by decide) ?_
      simp (maxSteps := 1000000) (disch := omega) only [↓reduceIte, ↓if_bi0, ↓if_bi1, hp_tg, hp_rI, hp_rR, hp_rL, hp_wI, hp_wL, Option.bind_some, if_11, if_01, bi_and1, i10, i01, bi_t, bi_f, ic_add, mr_4, ml_4, mr_8, ml_8, mr_10, ml_10, ic_add1, ic_sub1, ic_clamp, ic_div, ic_irm, ic_lt0, ic_0lt, ic_eq0, ic_lt, ic_inj, and15, and7, and31, and63, shl1, shr_ok, neg_1, neg_2, neg_3, neg_4, kc_lt0, kc_ic, kc_m2, kc_1, kc_0, i0_add, add_i0, or_i0, z_8, z_4, z_64, z_256, ic_m2, ec_m1, ic_m1, m1_lt0, m2_lt0, m3_lt0, m4_lt0, up_s, if_true, if_false, ne_eq, not_true_eq_false, not_false_eq_true, Bool.false_eq_true, eq_self, or_self, or_false, false_or, and_self, and_true, true_and, ite_self, Nat.reduceEqDiff, Nat.reduceLT, Nat.reduceMod, Nat.reduceMul, Nat.reduceAdd, Nat.reducePow, Nat.reduceDiv, lt_2, lt_3, lt_4, lt_5, lt_6, lt_7, lt_8, lt_10, lt_11, lt_12, lt_15, lt_16, lt_18, lt_20, lt_24, lt_31, lt_32, lt_48, lt_57, lt_59, lt_63, lt_64, lt_74, lt_75, lt_97, lt_122, lt_128, lt_144, lt_145, lt_146, lt_147, lt_155, lt_163, lt_171, lt_179, lt_200, lt_243, lt_244, lt_255, lt_256, lt_732, lt_900, lt_3660, lt_3904, lt_4095, lt_65536, lt_65537, lt_252645135, lt_858993459, lt_1431655765, ↓p_has_b, p_has, ↓p_has9_b, p_has9, ↓p_bit_b, p_bit, ↓p_bit1_b, p_bit1, ↓p_bit0_b, p_bit0, p_X7_back, p_X7_back_17, p_X7_declines, y0, h6, d, b0]
      rfl
end UNK
