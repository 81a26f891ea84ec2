/-! ===== the line of the machine: class, its row ===== -/
section KMACH
variable {S : SH} {I J : II} {L : LL} {x t m n a c : Nat} {b : Nat → Nat} {tk : TK} {T : TS}
theorem TR.uP (h : TR I t T) (v : Nat) : TR (up2 I t 1 (ic v)) t (uP T v) := by
  obtain ⟨g, -, r2, r3, r4, ⟨r6, r6'⟩, ⟨r9, r9'⟩, r12, r12'⟩ := h
  have e : ∀ y, y ≠ t → up2 I t 1 (ic v) y = I y := fun y hy => funext fun j => up_a hy
  refine ⟨?_, up_s _ _ _ _, by rw [up_k (by omega)]; exact r2, fun k hk => by rw [e _ (by omega)]; exact r3 k hk, by rw [up_k (by omega)]; exact r4, ⟨by rw [up_k (by omega)]; exact r6, fun i hi => by rw [e _ (by omega)]; exact r6' i hi⟩, ⟨by rw [up_k (by omega)]; exact r9, fun i hi => by rw [e _ (by omega), e _ (by omega)]; exact r9' i hi⟩, by rw [up_k (by omega)]; exact r12, fun i hi => by rw [e _ (by omega), e _ (by omega)]; exact r12' i hi⟩
  unfold GR
  rw [e (t + 1) (by omega), e (t + 1 + 1) (by omega), e (t + 1 + 2) (by omega)]
  exact g
theorem TR.uR (h : TR I t T) (v : Nat) : TR (up2 I (t + 1) 4 (ic v)) t (uG T (ur (tG T) v)) := by
  obtain ⟨g, r1, r2, r3, r4, ⟨r6, r6'⟩, ⟨r9, r9'⟩, r12, r12'⟩ := h
  have e : ∀ y, y ≠ t + 1 → up2 I (t + 1) 4 (ic v) y = I y := fun y hy => funext fun j => up_a hy
  exact ⟨g.setR v, by rw [e t (by omega)]; exact r1, by rw [e t (by omega)]; exact r2, fun k hk => by rw [e _ (by omega)]; exact r3 k hk, by rw [e t (by omega)]; exact r4, ⟨by rw [e t (by omega)]; exact r6, fun i hi => by rw [e _ (by omega)]; exact r6' i hi⟩, ⟨by rw [e t (by omega)]; exact r9, fun i hi => by rw [e _ (by omega), e _ (by omega)]; exact r9' i hi⟩, by rw [e t (by omega)]; exact r12, fun i hi => by rw [e _ (by omega), e _ (by omega)]; exact r12' i hi⟩
theorem k_lM (hL : XL S x) (hT : TL S t) (hx : x + 1 < t) (h : CS I x b n tk) (hR : TR I t T) (h8 : tP T ≤ 8) : KO S I L x t b n (p_X5_readsMachine x t (hp S I L)) (lM b n T tk) := by
  unfold lM
  have r1 : I t 1 = ic (tP T) := hR.2.1
  have b1 : (1 : Int32) &&& 1 = 1 := by decide
  have b0 : (0 : Int32) &&& 1 = 0 := by decide
  by_cases c0 : tP T ≠ 0
  · rw [if_pos c0]
    have F := h.fails (L := L) hL 3
    refine ⟨kF I x 3 tk.2.1, ?_, kF_7 _ _ _ _, kF_8 _ _ _ _, (Tf.refl I x t).kF 3 tk.2.1⟩
    simp (maxSteps := 1000000) (disch := omega) only [↓reduceIte, ↓if_bi0, ↓if_bi1, hp_tg, hp_rI, hp_rR, hp_rL, hp_wI, hp_wL, Option.bind_some, if_11, if_01, bi_and1, i10, i01, bi_t, bi_f, ic_add, mr_4, ml_4, mr_8, ml_8, mr_10, ml_10, ic_add1, ic_sub1, ic_clamp, ic_div, ic_irm, ic_lt0, ic_0lt, ic_eq0, ic_lt, ic_inj, and15, and7, and31, and63, shl1, shr_ok, neg_1, neg_2, neg_3, neg_4, kc_lt0, kc_ic, kc_m2, kc_1, kc_0, i0_add, add_i0, or_i0, z_8, z_4, z_64, z_256, ic_m2, ec_m1, ic_m1, m1_lt0, m2_lt0, m3_lt0, m4_lt0, up_s, if_true, if_false, ne_eq, not_true_eq_false, not_false_eq_true, Bool.false_eq_true, eq_self, or_self, or_false, false_or, and_self, and_true, true_and, ite_self, Nat.reduceEqDiff, Nat.reduceLT, Nat.reduceMod, Nat.reduceMul, Nat.reduceAdd, Nat.reducePow, Nat.reduceDiv, lt_2, lt_3, lt_4, lt_5, lt_6, lt_7, lt_8, lt_10, lt_11, lt_12, lt_15, lt_16, lt_18, lt_20, lt_24, lt_31, lt_32, lt_48, lt_57, lt_59, lt_63, lt_64, lt_74, lt_75, lt_97, lt_122, lt_128, lt_144, lt_145, lt_146, lt_147, lt_155, lt_163, lt_171, lt_179, lt_200, lt_243, lt_244, lt_255, lt_256, lt_732, lt_900, lt_3660, lt_3904, lt_4095, lt_65536, lt_65537, lt_252645135, lt_858993459, lt_1431655765, ↓p_has_b, p_has, ↓p_has9_b, p_has9, ↓p_bit_b, p_bit, ↓p_bit1_b, p_bit1, ↓p_bit0_b, p_bit0, p_X5_readsMachine, hT.1, r1, c0, hL.1, ↓bnd (F), F, b0]
  · rw [if_neg c0]
    have c0' : tP T = 0 := by omega
    rw [c0'] at r1
    have g0 : p_X5_readsMachine x t (hp S I L) = p_X5_readsMachine_13 x t (hp S I L) := by
      unfold p_X5_readsMachine
      simp only [↓reduceIte, ↓if_bi0, hp_tg, hp_rR, hp_rI, hp_wI, eq_self, bi_t, bi_f, i10, if_true, if_false, Bool.false_eq_true, hT.1, r1]
      rw [if_pos (by rfl)]
      rfl
    rw [g0]
    clear g0
    obtain ⟨I1, e1, s1, f1⟩ := k_next (L := L) hL h
    have A1 := s1.nm (L := L) hL (k := 2) (by omega) (by omega)
    generalize nt b n tk = k1 at *
    have t1 := (Tf.refl I x t).xf f1
    by_cases c1 : nm b k1 2 = false
    · rw [if_pos c1]
      rw [c1] at A1
      have F := s1.fails (L := L) hL 1
      rw [show ic 1 = 1 from rfl] at F
      refine ⟨kF I1 x 1 k1.2.1, ?_, kF_7 _ _ _ _, kF_8 _ _ _ _, t1.kF 1 k1.2.1⟩
      unfold p_X5_readsMachine_13
      simp only [↓reduceIte, ↓if_bi0, hp_tg, hp_rR, hp_rI, hp_wI, eq_self, bi_t, bi_f, i10, if_true, if_false, Bool.false_eq_true, hL.1]
      refine Eq.trans (bnd e1) ?_
      simp only [↓reduceIte, ↓if_bi0, hp_tg, hp_rR, hp_rI, hp_wI, eq_self, bi_t, bi_f, i10, if_true, if_false, Bool.false_eq_true, hL.1]
      refine Eq.trans (bnd A1) ?_
      simp (maxSteps := 1000000) (disch := omega) only [↓reduceIte, ↓if_bi0, ↓if_bi1, hp_tg, hp_rI, hp_rR, hp_rL, hp_wI, hp_wL, Option.bind_some, if_11, if_01, bi_and1, i10, i01, bi_t, bi_f, ic_add, mr_4, ml_4, mr_8, ml_8, mr_10, ml_10, ic_add1, ic_sub1, ic_clamp, ic_div, ic_irm, ic_lt0, ic_0lt, ic_eq0, ic_lt, ic_inj, and15, and7, and31, and63, shl1, shr_ok, neg_1, neg_2, neg_3, neg_4, kc_lt0, kc_ic, kc_m2, kc_1, kc_0, i0_add, add_i0, or_i0, z_8, z_4, z_64, z_256, ic_m2, ec_m1, ic_m1, m1_lt0, m2_lt0, m3_lt0, m4_lt0, up_s, if_true, if_false, ne_eq, not_true_eq_false, not_false_eq_true, Bool.false_eq_true, eq_self, or_self, or_false, false_or, and_self, and_true, true_and, ite_self, Nat.reduceEqDiff, Nat.reduceLT, Nat.reduceMod, Nat.reduceMul, Nat.reduceAdd, Nat.reducePow, Nat.reduceDiv, lt_2, lt_3, lt_4, lt_5, lt_6, lt_7, lt_8, lt_10, lt_11, lt_12, lt_15, lt_16, lt_18, lt_20, lt_24, lt_31, lt_32, lt_48, lt_57, lt_59, lt_63, lt_64, lt_74, lt_75, lt_97, lt_122, lt_128, lt_144, lt_145, lt_146, lt_147, lt_155, lt_163, lt_171, lt_179, lt_200, lt_243, lt_244, lt_255, lt_256, lt_732, lt_900, lt_3660, lt_3904, lt_4095, lt_65536, lt_65537, lt_252645135, lt_858993459, lt_1431655765, ↓p_has_b, p_has, ↓p_has9_b, p_has9, ↓p_bit_b, p_bit, ↓p_bit1_b, p_bit1, ↓p_bit0_b, p_bit0, hL.1, ↓bnd (F), F, b0]
    · rw [if_neg c1]
      rw [show nm b k1 2 = true by simpa using c1] at A1
      have g1 : p_X5_readsMachine_13 x t (hp S I L) = p_X5_readsMachine_32 x t (hp S I1 L) := by
        unfold p_X5_readsMachine_13
        simp only [↓reduceIte, ↓if_bi0, hp_tg, hp_rR, hp_rI, hp_wI, eq_self, bi_t, bi_f, i10, if_true, if_false, Bool.false_eq_true, hL.1]
        refine Eq.trans (bnd e1) ?_
        simp only [↓reduceIte, ↓if_bi0, hp_tg, hp_rR, hp_rI, hp_wI, eq_self, bi_t, bi_f, i10, if_true, if_false, Bool.false_eq_true, hL.1]
        refine Eq.trans (bnd A1) ?_
        rw [if_neg (by show ¬ bi true = 0; decide)]
        rfl
      rw [g1]
      clear g1
      obtain ⟨I2, e2, s2, f2⟩ := k_next (L := L) hL s1
      generalize nt b n k1 = k2 at *
      have t2 := t1.xf f2
      by_cases c2 : wf k2 3 8 ≠ 0
      · rw [if_pos c2]
        have A2 := s2.wh1 (L := L) hL (a := 3) (c := 8) (by omega) (by omega) c2
        refine ⟨kF I2 x (wf k2 3 8) k2.2.1, ?_, kF_7 _ _ _ _, kF_8 _ _ _ _, t2.kF _ _⟩
        unfold p_X5_readsMachine_32
        simp only [↓reduceIte, ↓if_bi0, hp_tg, hp_rR, hp_rI, hp_wI, eq_self, bi_t, bi_f, i10, if_true, if_false, Bool.false_eq_true, hL.1]
        refine Eq.trans (bnd e2) ?_
        simp only [↓reduceIte, ↓if_bi0, hp_tg, hp_rR, hp_rI, hp_wI, eq_self, bi_t, bi_f, i10, if_true, if_false, Bool.false_eq_true, hL.1]
        refine Eq.trans (bnd A2) ?_
        simp (maxSteps := 1000000) (disch := omega) only [↓reduceIte, ↓if_bi0, ↓if_bi1, hp_tg, hp_rI, hp_rR, hp_rL, hp_wI, hp_wL, Option.bind_some, if_11, if_01, bi_and1, i10, i01, bi_t, bi_f, ic_add, mr_4, ml_4, mr_8, ml_8, mr_10, ml_10, ic_add1, ic_sub1, ic_clamp, ic_div, ic_irm, ic_lt0, ic_0lt, ic_eq0, ic_lt, ic_inj, and15, and7, and31, and63, shl1, shr_ok, neg_1, neg_2, neg_3, neg_4, kc_lt0, kc_ic, kc_m2, kc_1, kc_0, i0_add, add_i0, or_i0, z_8, z_4, z_64, z_256, ic_m2, ec_m1, ic_m1, m1_lt0, m2_lt0, m3_lt0, m4_lt0, up_s, if_true, if_false, ne_eq, not_true_eq_false, not_false_eq_true, Bool.false_eq_true, eq_self, or_self, or_false, false_or, and_self, and_true, true_and, ite_self, Nat.reduceEqDiff, Nat.reduceLT, Nat.reduceMod, Nat.reduceMul, Nat.reduceAdd, Nat.reducePow, Nat.reduceDiv, lt_2, lt_3, lt_4, lt_5, lt_6, lt_7, lt_8, lt_10, lt_11, lt_12, lt_15, lt_16, lt_18, lt_20, lt_24, lt_31, lt_32, lt_48, lt_57, lt_59, lt_63, lt_64, lt_74, lt_75, lt_97, lt_122, lt_128, lt_144, lt_145, lt_146, lt_147, lt_155, lt_163, lt_171, lt_179, lt_200, lt_243, lt_244, lt_255, lt_256, lt_732, lt_900, lt_3660, lt_3904, lt_4095, lt_65536, lt_65537, lt_252645135, lt_858993459, lt_1431655765, ↓p_has_b, p_has, ↓p_has9_b, p_has9, ↓p_bit_b, p_bit, ↓p_bit1_b, p_bit1, ↓p_bit0_b, p_bit0, b0]
      · rw [if_neg c2]
        have c2' : wf k2 3 8 = 0 := by omega
        have A2 := s2.wh0 (L := L) hL (a := 3) (c := 8) (by omega) (by omega) c2'
        have g2 : p_X5_readsMachine_32 x t (hp S I1 L) = p_X5_readsMachine_48 x t (hp S I2 L) := by
          unfold p_X5_readsMachine_32
          simp only [↓reduceIte, ↓if_bi0, hp_tg, hp_rR, hp_rI, hp_wI, eq_self, bi_t, bi_f, i10, if_true, if_false, Bool.false_eq_true, hL.1]
          refine Eq.trans (bnd e2) ?_
          simp only [↓reduceIte, ↓if_bi0, hp_tg, hp_rR, hp_rI, hp_wI, eq_self, bi_t, bi_f, i10, if_true, if_false, Bool.false_eq_true, hL.1]
          refine Eq.trans (bnd A2) ?_
          rw [if_neg (by show ¬ (1 : Int32) = 0; decide)]
          rfl
        rw [g2]
        clear g2
        have v2 : I2 x 6 = ic k2.2.2.2 := s2.2.2.1.2.2.2 (wf_2 c2').1
        have R2 : TR (up2 I2 t 1 (ic k2.2.2.2)) t (uP T k2.2.2.2) := ((hR.xf f1 hx).xf f2 hx).uP _
        have u2 := t2.up (y := t) hx (by omega) (by omega) 1 (ic k2.2.2.2)
        obtain ⟨I3, e3, s3, f3⟩ := k_next (L := L) hL (s2.up (y := t) hx 1 (ic k2.2.2.2))
        have A3 := s3.nm (L := L) hL (k := 3) (by omega) (by omega)
        generalize nt b n k2 = k3 at *
        have t3 := u2.xf f3
        by_cases c3 : nm b k3 3 = false
        · rw [if_pos c3]
          rw [c3] at A3
          have F := s3.fails (L := L) hL 1
          rw [show ic 1 = 1 from rfl] at F
          refine ⟨kF I3 x 1 k3.2.1, ?_, kF_7 _ _ _ _, kF_8 _ _ _ _, t3.kF _ _⟩
          unfold p_X5_readsMachine_48
          simp only [↓reduceIte, ↓if_bi0, hp_tg, hp_rR, hp_rI, hp_wI, eq_self, bi_t, bi_f, i10, if_true, if_false, Bool.false_eq_true, hL.1, hT.1, v2]
          refine Eq.trans (bnd e3) ?_
          simp only [↓reduceIte, ↓if_bi0, hp_tg, hp_rR, hp_rI, hp_wI, eq_self, bi_t, bi_f, i10, if_true, if_false, Bool.false_eq_true, hL.1]
          refine Eq.trans (bnd A3) ?_
          simp (maxSteps := 1000000) (disch := omega) only [↓reduceIte, ↓if_bi0, ↓if_bi1, hp_tg, hp_rI, hp_rR, hp_rL, hp_wI, hp_wL, Option.bind_some, if_11, if_01, bi_and1, i10, i01, bi_t, bi_f, ic_add, mr_4, ml_4, mr_8, ml_8, mr_10, ml_10, ic_add1, ic_sub1, ic_clamp, ic_div, ic_irm, ic_lt0, ic_0lt, ic_eq0, ic_lt, ic_inj, and15, and7, and31, and63, shl1, shr_ok, neg_1, neg_2, neg_3, neg_4, kc_lt0, kc_ic, kc_m2, kc_1, kc_0, i0_add, add_i0, or_i0, z_8, z_4, z_64, z_256, ic_m2, ec_m1, ic_m1, m1_lt0, m2_lt0, m3_lt0, m4_lt0, up_s, if_true, if_false, ne_eq, not_true_eq_false, not_false_eq_true, Bool.false_eq_true, eq_self, or_self, or_false, false_or, and_self, and_true, true_and, ite_self, Nat.reduceEqDiff, Nat.reduceLT, Nat.reduceMod, Nat.reduceMul, Nat.reduceAdd, Nat.reducePow, Nat.reduceDiv, lt_2, lt_3, lt_4, lt_5, lt_6, lt_7, lt_8, lt_10, lt_11, lt_12, lt_15, lt_16, lt_18, lt_20, lt_24, lt_31, lt_32, lt_48, lt_57, lt_59, lt_63, lt_64, lt_74, lt_75, lt_97, lt_122, lt_128, lt_144, lt_145, lt_146, lt_147, lt_155, lt_163, lt_171, lt_179, lt_200, lt_243, lt_244, lt_255, lt_256, lt_732, lt_900, lt_3660, lt_3904, lt_4095, lt_65536, lt_65537, lt_252645135, lt_858993459, lt_1431655765, ↓p_has_b, p_has, ↓p_has9_b, p_has9, ↓p_bit_b, p_bit, ↓p_bit1_b, p_bit1, ↓p_bit0_b, p_bit0, hL.1, ↓bnd (F), F, b0]
        · rw [if_neg c3]
          rw [show nm b k3 3 = true by simpa using c3] at A3
          have g3 : p_X5_readsMachine_48 x t (hp S I2 L) = p_X5_readsMachine_75 x t (hp S I3 L) := by
            unfold p_X5_readsMachine_48
            simp only [↓reduceIte, ↓if_bi0, hp_tg, hp_rR, hp_rI, hp_wI, eq_self, bi_t, bi_f, i10, if_true, if_false, Bool.false_eq_true, hL.1, hT.1, v2]
            refine Eq.trans (bnd e3) ?_
            simp only [↓reduceIte, ↓if_bi0, hp_tg, hp_rR, hp_rI, hp_wI, eq_self, bi_t, bi_f, i10, if_true, if_false, Bool.false_eq_true, hL.1]
            refine Eq.trans (bnd A3) ?_
            rw [if_neg (by show ¬ bi true = 0; decide)]
            rfl
          rw [g3]
          clear g3
          obtain ⟨I4, e4, s4, f4⟩ := k_next (L := L) hL s3
          generalize nt b n k3 = k4 at *
          have t4 := t3.xf f4
          by_cases c4 : wf k4 0 15 ≠ 0
          · rw [if_pos c4]
            have A4 := s4.wh1 (L := L) hL (a := 0) (c := 15) (by omega) (by omega) c4
            rw [ic_zero] at A4
            refine ⟨kF I4 x (wf k4 0 15) k4.2.1, ?_, kF_7 _ _ _ _, kF_8 _ _ _ _, t4.kF _ _⟩
            unfold p_X5_readsMachine_75
            simp only [↓reduceIte, ↓if_bi0, hp_tg, hp_rR, hp_rI, hp_wI, eq_self, bi_t, bi_f, i10, if_true, if_false, Bool.false_eq_true, hL.1]
            refine Eq.trans (bnd e4) ?_
            simp only [↓reduceIte, ↓if_bi0, hp_tg, hp_rR, hp_rI, hp_wI, eq_self, bi_t, bi_f, i10, if_true, if_false, Bool.false_eq_true, hL.1]
            refine Eq.trans (bnd A4) ?_
            simp (maxSteps := 1000000) (disch := omega) only [↓reduceIte, ↓if_bi0, ↓if_bi1, hp_tg, hp_rI, hp_rR, hp_rL, hp_wI, hp_wL, Option.bind_some, if_11, if_01, bi_and1, i10, i01, bi_t, bi_f, ic_add, mr_4, ml_4, mr_8, ml_8, mr_10, ml_10, ic_add1, ic_sub1, ic_clamp, ic_div, ic_irm, ic_lt0, ic_0lt, ic_eq0, ic_lt, ic_inj, and15, and7, and31, and63, shl1, shr_ok, neg_1, neg_2, neg_3, neg_4, kc_lt0, kc_ic, kc_m2, kc_1, kc_0, i0_add, add_i0, or_i0, z_8, z_4, z_64, z_256, ic_m2, ec_m1, ic_m1, m1_lt0, m2_lt0, m3_lt0, m4_lt0, up_s, if_true, if_false, ne_eq, not_true_eq_false, not_false_eq_true, Bool.false_eq_true, eq_self, or_self, or_false, false_or, and_self, and_true, true_and, ite_self, Nat.reduceEqDiff, Nat.reduceLT, Nat.reduceMod, Nat.reduceMul, Nat.reduceAdd, Nat.reducePow, Nat.reduceDiv, lt_2, lt_3, lt_4, lt_5, lt_6, lt_7, lt_8, lt_10, lt_11, lt_12, lt_15, lt_16, lt_18, lt_20, lt_24, lt_31, lt_32, lt_48, lt_57, lt_59, lt_63, lt_64, lt_74, lt_75, lt_97, lt_122, lt_128, lt_144, lt_145, lt_146, lt_147, lt_155, lt_163, lt_171, lt_179, lt_200, lt_243, lt_244, lt_255, lt_256, lt_732, lt_900, lt_3660, lt_3904, lt_4095, lt_65536, lt_65537, lt_252645135, lt_858993459, lt_1431655765, ↓p_has_b, p_has, ↓p_has9_b, p_has9, ↓p_bit_b, p_bit, ↓p_bit1_b, p_bit1, ↓p_bit0_b, p_bit0, b0]
          · rw [if_neg c4]
            have c4' : wf k4 0 15 = 0 := by omega
            have A4 := s4.wh0 (L := L) hL (a := 0) (c := 15) (by omega) (by omega) c4'
            rw [ic_zero] at A4
            have v4 : I4 x 6 = ic k4.2.2.2 := s4.2.2.1.2.2.2 (wf_2 c4').1
            have R4 : TR (up2 I4 (t + 1) 4 (ic k4.2.2.2)) t (uG (uP T k2.2.2.2) (ur (tG T) k4.2.2.2)) := ((R2.xf f3 hx).xf f4 hx).uR _
            have u4 := t4.up (y := t + 1) hx (by omega) (by omega) 4 (ic k4.2.2.2)
            obtain ⟨I5, e5, s5, f5⟩ := k_next (L := L) hL (s4.up (y := t + 1) (by omega) 4 (ic k4.2.2.2))
            have q : ∀ j, 6 < j → I5 x j = I x j := fun j hj => by rw [f5.1 j (by omega), up_a (by omega), f4.1 j (by omega), f3.1 j (by omega), up_a (by omega), f2.1 j (by omega), f1.1 j (by omega)]
            refine ⟨I5, ?_, s5, R4.xf f5 hx, q 7 (by omega), q 8 (by omega), u4.xf f5⟩
            unfold p_X5_readsMachine_75
            simp only [↓reduceIte, ↓if_bi0, hp_tg, hp_rR, hp_rI, hp_wI, eq_self, bi_t, bi_f, i10, if_true, if_false, Bool.false_eq_true, hL.1]
            refine Eq.trans (bnd e4) ?_
            simp only [↓reduceIte, ↓if_bi0, hp_tg, hp_rR, hp_rI, hp_wI, eq_self, bi_t, bi_f, i10, if_true, if_false, Bool.false_eq_true, hL.1]
            refine Eq.trans (bnd A4) ?_
            simp (maxSteps := 1000000) (disch := omega) only [↓reduceIte, ↓if_bi0, ↓if_bi1, hp_tg, hp_rI, hp_rR, hp_rL, hp_wI, hp_wL, Option.bind_some, if_11, if_01, bi_and1, i10, i01, bi_t, bi_f, ic_add, mr_4, ml_4, mr_8, ml_8, mr_10, ml_10, ic_add1, ic_sub1, ic_clamp, ic_div, ic_irm, ic_lt0, ic_0lt, ic_eq0, ic_lt, ic_inj, and15, and7, and31, and63, shl1, shr_ok, neg_1, neg_2, neg_3, neg_4, kc_lt0, kc_ic, kc_m2, kc_1, kc_0, i0_add, add_i0, or_i0, z_8, z_4, z_64, z_256, ic_m2, ec_m1, ic_m1, m1_lt0, m2_lt0, m3_lt0, m4_lt0, up_s, if_true, if_false, ne_eq, not_true_eq_false, not_false_eq_true, Bool.false_eq_true, eq_self, or_self, or_false, false_or, and_self, and_true, true_and, ite_self, Nat.reduceEqDiff, Nat.reduceLT, Nat.reduceMod, Nat.reduceMul, Nat.reduceAdd, Nat.reducePow, Nat.reduceDiv, lt_2, lt_3, lt_4, lt_5, lt_6, lt_7, lt_8, lt_10, lt_11, lt_12, lt_15, lt_16, lt_18, lt_20, lt_24, lt_31, lt_32, lt_48, lt_57, lt_59, lt_63, lt_64, lt_74, lt_75, lt_97, lt_122, lt_128, lt_144, lt_145, lt_146, lt_147, lt_155, lt_163, lt_171, lt_179, lt_200, lt_243, lt_244, lt_255, lt_256, lt_732, lt_900, lt_3660, lt_3904, lt_4095, lt_65536, lt_65537, lt_252645135, lt_858993459, lt_1431655765, ↓p_has_b, p_has, ↓p_has9_b, p_has9, ↓p_bit_b, p_bit, ↓p_bit1_b, p_bit1, ↓p_bit0_b, p_bit0, hL.1, hT.1, hT.2.1, hT.2.2.1.1, v4, ↓bnd (e5), e5, b1]
end KMACH
