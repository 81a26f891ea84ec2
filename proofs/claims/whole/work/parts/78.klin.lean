/-! ===== the lines of hosts and words: the class ===== -/
def lH (b : Nat → Nat) (n : Nat) (T : TS) (k1 : TK) : LR :=
  if wf k1 0 15 ≠ 0 then .inl (wf k1 0 15, k1.2.1)
  else if 0 < sH (tG T) k1.2.2.2 then .inl (3, k1.2.1)
  else if wf (nt b n k1) 0 31 ≠ 0 then .inl (wf (nt b n k1) 0 31, (nt b n k1).2.1)
  else if isH T (nt b n k1).2.2.2 = true then .inl (3, (nt b n k1).2.1)
  else if nm b (nt b n (nt b n k1)) 9 = false ∧ nm b (nt b n (nt b n k1)) 10 = false then .inl (1, (nt b n (nt b n k1)).2.1)
  else .inr (uHo T k1.2.2.2 (nt b n k1).2.2.2 (nm b (nt b n (nt b n k1)) 9), nt b n (nt b n (nt b n k1)))
def tw (su : Bool) (T : TS) (k : Nat) : Bool := if su = true then wT T k else isU T k
def ad (su : Bool) (T : TS) (k v : Nat) : TS := if su = true then uWo T k v else uD T k v
def lW (b : Nat → Nat) (n : Nat) (su : Bool) (T : TS) (k1 : TK) : LR :=
  if wf k1 0 15 ≠ 0 then .inl (wf k1 0 15, k1.2.1)
  else if wf (nt b n k1) 0 7 ≠ 0 then .inl (wf (nt b n k1) 0 7, (nt b n k1).2.1)
  else if tw su T (8 * k1.2.2.2 + (nt b n k1).2.2.2) = true then .inl (3, (nt b n k1).2.1)
  else if wf (nt b n (nt b n k1)) 0 4095 ≠ 0 then .inl (wf (nt b n (nt b n k1)) 0 4095, (nt b n (nt b n k1)).2.1)
  else .inr (ad su T (8 * k1.2.2.2 + (nt b n k1).2.2.2) (nt b n (nt b n k1)).2.2.2, nt b n (nt b n (nt b n k1)))
section KLIN
variable {S : SH} {I J : II} {L : LL} {x t n : Nat} {b : Nat → Nat} {tk : TK} {T : TS}
theorem CS.fr (h : CS I x b n tk) (hx : x + 1 < t) (f : Fr I J t (t + 9)) : CS J x b n tk := by
  obtain ⟨h2, hT, ⟨c3, c4, c5, c6⟩, hK, hn⟩ := h
  have e0 : J x = I x := f x (by omega)
  have e1 : J (x + 1) = I (x + 1) := f (x + 1) (by omega)
  exact ⟨by rw [e0]; exact h2, fun k hk => by rw [e1]; exact hT k hk, ⟨by rw [e0]; exact c3, by rw [e0]; exact c4, by rw [e0]; exact c5, fun q => by rw [e0]; exact c6 q⟩, hK, hn⟩
theorem Tf.fr (h : Tf I J x t) (hx : x + 1 < t) {K : II} (f : Fr J K t (t + 9)) : Tf I K x t := ⟨fun j hj => by rw [f x (by omega)]; exact h.1 j hj, fun y h1 h2 => (f y h2).trans (h.2 y h1 h2)⟩
theorem k_lH (hL : XL S x) (hT : TL S t) (hx : x + 1 < t) (h : CS I x b n tk) (hR : TR I t T) (hV : TV T) : KO S I L x t b n (p_X5_readsHost x t (hp S I L)) (lH b n T tk) := by
  unfold lH
  have b1 : (1 : Int32) &&& 1 = 1 := by decide
  have b0 : (0 : Int32) &&& 1 = 0 := by decide
  by_cases c1 : wf tk 0 15 ≠ 0
  · rw [if_pos c1]
    have A := h.wh1 (L := L) hL (a := 0) (c := 15) (by omega) (by omega) c1
    rw [ic_zero] at A
    refine ⟨kF I x (wf tk 0 15) tk.2.1, ?_, kF_7 _ _ _ _, kF_8 _ _ _ _, (Tf.refl I x t).kF _ _⟩
    unfold p_X5_readsHost
    simp only [↓reduceIte, ↓if_bi0, hp_tg, hp_rR, hp_rI, hp_wI, eq_self, bi_t, bi_f, i10, if_true, if_false, Bool.false_eq_true, hL.1]
    refine Eq.trans (bnd A) ?_
    simp (maxSteps := 1000000) (disch := omega) only [↓reduceIte, ↓if_bi0, ↓if_bi1, hp_tg, hp_rI, hp_rR, hp_rL, hp_wI, hp_wL, Option.bind_some, if_11, if_01, bi_and1, i10, i01, bi_t, bi_f, ic_add, mr_4, ml_4, mr_8, ml_8, mr_10, ml_10, ic_add1, ic_sub1, ic_clamp, ic_div, ic_irm, ic_lt0, ic_0lt, ic_eq0, ic_lt, ic_inj, and15, and7, and31, and63, shl1, shr_ok, neg_1, neg_2, neg_3, neg_4, kc_lt0, kc_ic, kc_m2, kc_1, kc_0, i0_add, add_i0, or_i0, z_8, z_4, z_64, z_256, ic_m2, ec_m1, ic_m1, m1_lt0, m2_lt0, m3_lt0, m4_lt0, up_s, if_true, if_false, ne_eq, not_true_eq_false, not_false_eq_true, Bool.false_eq_true, eq_self, or_self, or_false, false_or, and_self, and_true, true_and, ite_self, Nat.reduceEqDiff, Nat.reduceLT, Nat.reduceMod, Nat.reduceMul, Nat.reduceAdd, Nat.reducePow, Nat.reduceDiv, lt_2, lt_3, lt_4, lt_5, lt_6, lt_7, lt_8, lt_10, lt_11, lt_12, lt_15, lt_16, lt_18, lt_20, lt_24, lt_31, lt_32, lt_48, lt_57, lt_59, lt_63, lt_64, lt_74, lt_75, lt_97, lt_122, lt_128, lt_144, lt_145, lt_146, lt_147, lt_155, lt_163, lt_171, lt_179, lt_200, lt_243, lt_244, lt_255, lt_256, lt_732, lt_900, lt_3660, lt_3904, lt_4095, lt_65536, lt_65537, lt_252645135, lt_858993459, lt_1431655765, ↓p_has_b, p_has, ↓p_has9_b, p_has9, ↓p_bit_b, p_bit, ↓p_bit1_b, p_bit1, ↓p_bit0_b, p_bit0, b0]
  · rw [if_neg c1]
    have c1' : wf tk 0 15 = 0 := by omega
    have A := h.wh0 (L := L) hL (a := 0) (c := 15) (by omega) (by omega) c1'
    rw [ic_zero] at A
    have v1 : I x 6 = ic tk.2.2.2 := h.2.2.1.2.2.2 (wf_2 c1').1
    have w1 := (wf_2 c1').2.2
    have g0 : p_X5_readsHost x t (hp S I L) = p_X5_readsHost_12 x t (hp S I L) := by
      unfold p_X5_readsHost
      simp only [↓reduceIte, ↓if_bi0, hp_tg, hp_rR, hp_rI, hp_wI, eq_self, bi_t, bi_f, i10, if_true, if_false, Bool.false_eq_true, hL.1]
      refine Eq.trans (bnd A) ?_
      refine Eq.trans (if_neg (by show ¬ (1 : Int32) = 0; decide)) ?_
      rfl
    rw [g0]
    clear g0
    have Bk := g_backed (L := L) hT.2.2.1 hR.1 hV.2.1 (f := tk.2.2.2) (by omega)
    by_cases c2 : 0 < sH (tG T) tk.2.2.2
    · rw [if_pos c2]
      rw [decide_eq_true c2] at Bk
      have F := h.fails (L := L) hL 3
      refine ⟨kF I x 3 tk.2.1, ?_, kF_7 _ _ _ _, kF_8 _ _ _ _, (Tf.refl I x t).kF _ _⟩
      unfold p_X5_readsHost_12
      simp only [↓reduceIte, ↓if_bi0, hp_tg, hp_rR, hp_rI, hp_wI, eq_self, bi_t, bi_f, i10, if_true, if_false, Bool.false_eq_true, hL.1, hT.1, hT.2.1, hT.2.2.1.1, v1]
      refine Eq.trans (bnd Bk) ?_
      simp (maxSteps := 1000000) (disch := omega) only [↓reduceIte, ↓if_bi0, ↓if_bi1, hp_tg, hp_rI, hp_rR, hp_rL, hp_wI, hp_wL, Option.bind_some, if_11, if_01, bi_and1, i10, i01, bi_t, bi_f, ic_add, mr_4, ml_4, mr_8, ml_8, mr_10, ml_10, ic_add1, ic_sub1, ic_clamp, ic_div, ic_irm, ic_lt0, ic_0lt, ic_eq0, ic_lt, ic_inj, and15, and7, and31, and63, shl1, shr_ok, neg_1, neg_2, neg_3, neg_4, kc_lt0, kc_ic, kc_m2, kc_1, kc_0, i0_add, add_i0, or_i0, z_8, z_4, z_64, z_256, ic_m2, ec_m1, ic_m1, m1_lt0, m2_lt0, m3_lt0, m4_lt0, up_s, if_true, if_false, ne_eq, not_true_eq_false, not_false_eq_true, Bool.false_eq_true, eq_self, or_self, or_false, false_or, and_self, and_true, true_and, ite_self, Nat.reduceEqDiff, Nat.reduceLT, Nat.reduceMod, Nat.reduceMul, Nat.reduceAdd, Nat.reducePow, Nat.reduceDiv, lt_2, lt_3, lt_4, lt_5, lt_6, lt_7, lt_8, lt_10, lt_11, lt_12, lt_15, lt_16, lt_18, lt_20, lt_24, lt_31, lt_32, lt_48, lt_57, lt_59, lt_63, lt_64, lt_74, lt_75, lt_97, lt_122, lt_128, lt_144, lt_145, lt_146, lt_147, lt_155, lt_163, lt_171, lt_179, lt_200, lt_243, lt_244, lt_255, lt_256, lt_732, lt_900, lt_3660, lt_3904, lt_4095, lt_65536, lt_65537, lt_252645135, lt_858993459, lt_1431655765, ↓p_has_b, p_has, ↓p_has9_b, p_has9, ↓p_bit_b, p_bit, ↓p_bit1_b, p_bit1, ↓p_bit0_b, p_bit0, hL.1, ↓bnd (F), F, b0]
    · rw [if_neg c2]
      rw [decide_eq_false c2] at Bk
      have g1 : p_X5_readsHost_12 x t (hp S I L) = p_X5_readsHost_34 x t (ic tk.2.2.2) (hp S I L) := by
        unfold p_X5_readsHost_12
        simp only [↓reduceIte, ↓if_bi0, hp_tg, hp_rR, hp_rI, hp_wI, eq_self, bi_t, bi_f, i10, if_true, if_false, Bool.false_eq_true, hL.1, hT.1, hT.2.1, hT.2.2.1.1, v1]
        refine Eq.trans (bnd Bk) ?_
        refine Eq.trans (if_pos (by rfl)) ?_
        unfold p_X5_readsHost_34
        simp only [↓reduceIte, ↓if_bi0, hp_tg, hp_rR, hp_rI, hp_wI, eq_self, bi_t, bi_f, i10, if_true, if_false, Bool.false_eq_true, hL.1]
      rw [g1]
      clear g1
      obtain ⟨I2, e2, s2, f2⟩ := k_next (L := L) hL h
      have t2 := (Tf.refl I x t).xf f2
      have R2 := hR.xf f2 hx
      generalize nt b n tk = k2 at *
      by_cases c3 : wf k2 0 31 ≠ 0
      · rw [if_pos c3]
        have A2 := s2.wh1 (L := L) hL (a := 0) (c := 31) (by omega) (by omega) c3
        rw [ic_zero] at A2
        refine ⟨kF I2 x (wf k2 0 31) k2.2.1, ?_, kF_7 _ _ _ _, kF_8 _ _ _ _, t2.kF _ _⟩
        unfold p_X5_readsHost_34
        simp only [↓reduceIte, ↓if_bi0, hp_tg, hp_rR, hp_rI, hp_wI, eq_self, bi_t, bi_f, i10, if_true, if_false, Bool.false_eq_true, hL.1]
        refine Eq.trans (bnd e2) ?_
        simp only [↓reduceIte, ↓if_bi0, hp_tg, hp_rR, hp_rI, hp_wI, eq_self, bi_t, bi_f, i10, if_true, if_false, Bool.false_eq_true, hL.1]
        refine Eq.trans (bnd A2) ?_
        simp (maxSteps := 1000000) (disch := omega) only [↓reduceIte, ↓if_bi0, ↓if_bi1, hp_tg, hp_rI, hp_rR, hp_rL, hp_wI, hp_wL, Option.bind_some, if_11, if_01, bi_and1, i10, i01, bi_t, bi_f, ic_add, mr_4, ml_4, mr_8, ml_8, mr_10, ml_10, ic_add1, ic_sub1, ic_clamp, ic_div, ic_irm, ic_lt0, ic_0lt, ic_eq0, ic_lt, ic_inj, and15, and7, and31, and63, shl1, shr_ok, neg_1, neg_2, neg_3, neg_4, kc_lt0, kc_ic, kc_m2, kc_1, kc_0, i0_add, add_i0, or_i0, z_8, z_4, z_64, z_256, ic_m2, ec_m1, ic_m1, m1_lt0, m2_lt0, m3_lt0, m4_lt0, up_s, if_true, if_false, ne_eq, not_true_eq_false, not_false_eq_true, Bool.false_eq_true, eq_self, or_self, or_false, false_or, and_self, and_true, true_and, ite_self, Nat.reduceEqDiff, Nat.reduceLT, Nat.reduceMod, Nat.reduceMul, Nat.reduceAdd, Nat.reducePow, Nat.reduceDiv, lt_2, lt_3, lt_4, lt_5, lt_6, lt_7, lt_8, lt_10, lt_11, lt_12, lt_15, lt_16, lt_18, lt_20, lt_24, lt_31, lt_32, lt_48, lt_57, lt_59, lt_63, lt_64, lt_74, lt_75, lt_97, lt_122, lt_128, lt_144, lt_145, lt_146, lt_147, lt_155, lt_163, lt_171, lt_179, lt_200, lt_243, lt_244, lt_255, lt_256, lt_732, lt_900, lt_3660, lt_3904, lt_4095, lt_65536, lt_65537, lt_252645135, lt_858993459, lt_1431655765, ↓p_has_b, p_has, ↓p_has9_b, p_has9, ↓p_bit_b, p_bit, ↓p_bit1_b, p_bit1, ↓p_bit0_b, p_bit0, b0]
      · rw [if_neg c3]
        have c3' : wf k2 0 31 = 0 := by omega
        have A2 := s2.wh0 (L := L) hL (a := 0) (c := 31) (by omega) (by omega) c3'
        rw [ic_zero] at A2
        have v2 : I2 x 6 = ic k2.2.2.2 := s2.2.2.1.2.2.2 (wf_2 c3').1
        have w2 := (wf_2 c3').2.2
        have g2 : p_X5_readsHost_34 x t (ic tk.2.2.2) (hp S I L) = p_X5_readsHost_50 x t (ic tk.2.2.2) (hp S I2 L) := by
          unfold p_X5_readsHost_34
          simp only [↓reduceIte, ↓if_bi0, hp_tg, hp_rR, hp_rI, hp_wI, eq_self, bi_t, bi_f, i10, if_true, if_false, Bool.false_eq_true, hL.1]
          refine Eq.trans (bnd e2) ?_
          simp only [↓reduceIte, ↓if_bi0, hp_tg, hp_rR, hp_rI, hp_wI, eq_self, bi_t, bi_f, i10, if_true, if_false, Bool.false_eq_true, hL.1]
          refine Eq.trans (bnd A2) ?_
          refine Eq.trans (if_neg (by show ¬ (1 : Int32) = 0; decide)) ?_
          rfl
        rw [g2]
        clear g2
        have Tk : p_X1_isTaken (t + 1) (ic k2.2.2.2) (hp S I2 L) = some (bi (isH T k2.2.2.2), hp S I2 L) := g_isTaken (L := L) hT.2.2.1 R2.1 hV.2.1 (h := k2.2.2.2) (by omega)
        by_cases c4 : isH T k2.2.2.2 = true
        · rw [if_pos c4]
          rw [c4] at Tk
          have F := s2.fails (L := L) hL 3
          refine ⟨kF I2 x 3 k2.2.1, ?_, kF_7 _ _ _ _, kF_8 _ _ _ _, t2.kF _ _⟩
          unfold p_X5_readsHost_50
          simp only [↓reduceIte, ↓if_bi0, hp_tg, hp_rR, hp_rI, hp_wI, eq_self, bi_t, bi_f, i10, if_true, if_false, Bool.false_eq_true, hL.1, hT.1, hT.2.1, hT.2.2.1.1, v2]
          refine Eq.trans (bnd Tk) ?_
          simp (maxSteps := 1000000) (disch := omega) only [↓reduceIte, ↓if_bi0, ↓if_bi1, hp_tg, hp_rI, hp_rR, hp_rL, hp_wI, hp_wL, Option.bind_some, if_11, if_01, bi_and1, i10, i01, bi_t, bi_f, ic_add, mr_4, ml_4, mr_8, ml_8, mr_10, ml_10, ic_add1, ic_sub1, ic_clamp, ic_div, ic_irm, ic_lt0, ic_0lt, ic_eq0, ic_lt, ic_inj, and15, and7, and31, and63, shl1, shr_ok, neg_1, neg_2, neg_3, neg_4, kc_lt0, kc_ic, kc_m2, kc_1, kc_0, i0_add, add_i0, or_i0, z_8, z_4, z_64, z_256, ic_m2, ec_m1, ic_m1, m1_lt0, m2_lt0, m3_lt0, m4_lt0, up_s, if_true, if_false, ne_eq, not_true_eq_false, not_false_eq_true, Bool.false_eq_true, eq_self, or_self, or_false, false_or, and_self, and_true, true_and, ite_self, Nat.reduceEqDiff, Nat.reduceLT, Nat.reduceMod, Nat.reduceMul, Nat.reduceAdd, Nat.reducePow, Nat.reduceDiv, lt_2, lt_3, lt_4, lt_5, lt_6, lt_7, lt_8, lt_10, lt_11, lt_12, lt_15, lt_16, lt_18, lt_20, lt_24, lt_31, lt_32, lt_48, lt_57, lt_59, lt_63, lt_64, lt_74, lt_75, lt_97, lt_122, lt_128, lt_144, lt_145, lt_146, lt_147, lt_155, lt_163, lt_171, lt_179, lt_200, lt_243, lt_244, lt_255, lt_256, lt_732, lt_900, lt_3660, lt_3904, lt_4095, lt_65536, lt_65537, lt_252645135, lt_858993459, lt_1431655765, ↓p_has_b, p_has, ↓p_has9_b, p_has9, ↓p_bit_b, p_bit, ↓p_bit1_b, p_bit1, ↓p_bit0_b, p_bit0, hL.1, ↓bnd (F), F, b0]
        · rw [if_neg c4]
          rw [show isH T k2.2.2.2 = false by simpa using c4] at Tk
          have g3 : p_X5_readsHost_50 x t (ic tk.2.2.2) (hp S I2 L) = p_X5_readsHost_72 x t (ic tk.2.2.2) (ic k2.2.2.2) (hp S I2 L) := by
            unfold p_X5_readsHost_50
            simp only [↓reduceIte, ↓if_bi0, hp_tg, hp_rR, hp_rI, hp_wI, eq_self, bi_t, bi_f, i10, if_true, if_false, Bool.false_eq_true, hL.1, hT.1, hT.2.1, hT.2.2.1.1, v2]
            refine Eq.trans (bnd Tk) ?_
            refine Eq.trans (if_pos (by rfl)) ?_
            unfold p_X5_readsHost_72
            simp only [↓reduceIte, ↓if_bi0, hp_tg, hp_rR, hp_rI, hp_wI, eq_self, bi_t, bi_f, i10, if_true, if_false, Bool.false_eq_true, hL.1]
          rw [g3]
          clear g3
          obtain ⟨I3, e3, s3, f3⟩ := k_next (L := L) hL s2
          have t3 := t2.xf f3
          have R3 := R2.xf f3 hx
          generalize nt b n k2 = k3 at *
          have A9 := s3.nm (L := L) hL (k := 9) (by omega) (by omega)
          have A10 := s3.nm (L := L) hL (k := 10) (by omega) (by omega)
          by_cases c5 : nm b k3 9 = false ∧ nm b k3 10 = false
          · rw [if_pos c5]
            rw [c5.1] at A9
            rw [c5.2] at A10
            have F := s3.fails (L := L) hL 1
            rw [show ic 1 = 1 from rfl] at F
            refine ⟨kF I3 x 1 k3.2.1, ?_, kF_7 _ _ _ _, kF_8 _ _ _ _, t3.kF _ _⟩
            unfold p_X5_readsHost_72
            simp only [↓reduceIte, ↓if_bi0, hp_tg, hp_rR, hp_rI, hp_wI, eq_self, bi_t, bi_f, i10, if_true, if_false, Bool.false_eq_true, hL.1]
            refine Eq.trans (bnd e3) ?_
            simp only [↓reduceIte, ↓if_bi0, hp_tg, hp_rR, hp_rI, hp_wI, eq_self, bi_t, bi_f, i10, if_true, if_false, Bool.false_eq_true, hL.1]
            refine Eq.trans (bnd A9) ?_
            refine Eq.trans (if_pos (by rfl)) ?_
            simp only [↓reduceIte, ↓if_bi0, hp_tg, hp_rR, hp_rI, hp_wI, eq_self, bi_t, bi_f, i10, if_true, if_false, Bool.false_eq_true, hL.1]
            refine Eq.trans (bnd A10) ?_
            simp (maxSteps := 1000000) (disch := omega) only [↓reduceIte, ↓if_bi0, ↓if_bi1, hp_tg, hp_rI, hp_rR, hp_rL, hp_wI, hp_wL, Option.bind_some, if_11, if_01, bi_and1, i10, i01, bi_t, bi_f, ic_add, mr_4, ml_4, mr_8, ml_8, mr_10, ml_10, ic_add1, ic_sub1, ic_clamp, ic_div, ic_irm, ic_lt0, ic_0lt, ic_eq0, ic_lt, ic_inj, and15, and7, and31, and63, shl1, shr_ok, neg_1, neg_2, neg_3, neg_4, kc_lt0, kc_ic, kc_m2, kc_1, kc_0, i0_add, add_i0, or_i0, z_8, z_4, z_64, z_256, ic_m2, ec_m1, ic_m1, m1_lt0, m2_lt0, m3_lt0, m4_lt0, up_s, if_true, if_false, ne_eq, not_true_eq_false, not_false_eq_true, Bool.false_eq_true, eq_self, or_self, or_false, false_or, and_self, and_true, true_and, ite_self, Nat.reduceEqDiff, Nat.reduceLT, Nat.reduceMod, Nat.reduceMul, Nat.reduceAdd, Nat.reducePow, Nat.reduceDiv, lt_2, lt_3, lt_4, lt_5, lt_6, lt_7, lt_8, lt_10, lt_11, lt_12, lt_15, lt_16, lt_18, lt_20, lt_24, lt_31, lt_32, lt_48, lt_57, lt_59, lt_63, lt_64, lt_74, lt_75, lt_97, lt_122, lt_128, lt_144, lt_145, lt_146, lt_147, lt_155, lt_163, lt_171, lt_179, lt_200, lt_243, lt_244, lt_255, lt_256, lt_732, lt_900, lt_3660, lt_3904, lt_4095, lt_65536, lt_65537, lt_252645135, lt_858993459, lt_1431655765, ↓p_has_b, p_has, ↓p_has9_b, p_has9, ↓p_bit_b, p_bit, ↓p_bit1_b, p_bit1, ↓p_bit0_b, p_bit0, hL.1, ↓bnd (F), F, b0]
          · rw [if_neg c5]
            have g4 : p_X5_readsHost_72 x t (ic tk.2.2.2) (ic k2.2.2.2) (hp S I2 L) = p_X5_readsHost_104 x t (ic tk.2.2.2) (ic k2.2.2.2) (bi (nm b k3 9)) (hp S I3 L) := by
              unfold p_X5_readsHost_72
              simp only [↓reduceIte, ↓if_bi0, hp_tg, hp_rR, hp_rI, hp_wI, eq_self, bi_t, bi_f, i10, if_true, if_false, Bool.false_eq_true, hL.1]
              refine Eq.trans (bnd e3) ?_
              simp only [↓reduceIte, ↓if_bi0, hp_tg, hp_rR, hp_rI, hp_wI, eq_self, bi_t, bi_f, i10, if_true, if_false, Bool.false_eq_true, hL.1]
              refine Eq.trans (bnd A9) ?_
              cases c9 : nm b k3 9
              · have c10 : nm b k3 10 = true := by
                  cases q : nm b k3 10
                  · exact absurd ⟨c9, q⟩ c5
                  · rfl
                rw [c10] at A10
                refine Eq.trans (if_pos (by rfl)) ?_
                simp only [↓reduceIte, ↓if_bi0, hp_tg, hp_rR, hp_rI, hp_wI, eq_self, bi_t, bi_f, i10, if_true, if_false, Bool.false_eq_true, hL.1]
                refine Eq.trans (bnd A10) ?_
                exact if_neg (by show ¬ bi true = 0; decide)
              · exact if_neg (by show ¬ bi true = 0; decide)
            rw [g4]
            clear g4
            obtain ⟨J4, e4, R4, f4⟩ := t_addHost (L := L) hT R3 (f := tk.2.2.2) (h := k2.2.2.2) (by omega) (by omega) (nm b k3 9)
            obtain ⟨I5, e5, s5, f5⟩ := k_next (L := L) hL (s3.fr hx f4)
            have q : ∀ j, 6 < j → I5 x j = I x j := fun j hj => by rw [f5.1 j (by omega), f4 x (by omega), f3.1 j (by omega), f2.1 j (by omega)]
            refine ⟨I5, ?_, s5, R4.xf f5 hx, q 7 (by omega), q 8 (by omega), (t3.fr hx f4).xf f5⟩
            unfold p_X5_readsHost_104
            simp only [↓reduceIte, ↓if_bi0, hp_tg, hp_rR, hp_rI, hp_wI, eq_self, bi_t, bi_f, i10, if_true, if_false, Bool.false_eq_true, hT.1]
            refine Eq.trans (bnd e4) ?_
            simp only [↓reduceIte, ↓if_bi0, hp_tg, hp_rR, hp_rI, hp_wI, eq_self, bi_t, bi_f, i10, if_true, if_false, Bool.false_eq_true, hL.1]
            refine Eq.trans (bnd e5) ?_
            exact if_pos b1
theorem k_w33 (hL : XL S x) (hT : TL S t) (hR : TR I t T) (hV : TV T) (su : Bool) {f i : Nat} (hf : f < 16) (hi : i < 8) (v6 : I x 6 = ic i) :
    p_X5_readsWord_33 x t (bi su) (ic f) (hp S I L) = if tw su T (8 * f + i) = true then p_X5_readsWord_66 x (hp S I L) else p_X5_readsWord_72 x t (bi su) (ic f) (ic i) (hp S I L) := by
  unfold tw
  cases su
  · have D := t_doubted (L := L) hT hR hV hf hi
    unfold p_X5_readsWord_33
    simp only [↓reduceIte, ↓if_bi0, hp_tg, hp_rR, hp_rI, hp_wI, eq_self, bi_t, bi_f, i10, if_true, if_false, Bool.false_eq_true, hL.1, hT.1, v6]
    refine Eq.trans (bnd D) ?_
    cases isU T (8 * f + i)
    · exact if_pos (by rfl)
    · exact if_neg (by show ¬ bi true = 0; decide)
  · have D := t_toldWord (L := L) hT hR hf hi
    unfold p_X5_readsWord_33
    simp only [↓reduceIte, ↓if_bi0, hp_tg, hp_rR, hp_rI, hp_wI, eq_self, bi_t, bi_f, i10, if_true, if_false, Bool.false_eq_true, hL.1, hT.1, v6]
    refine Eq.trans (bnd D) ?_
    cases wT T (8 * f + i)
    · exact if_pos (by rfl)
    · exact if_neg (by show ¬ bi true = 0; decide)
theorem k_w89 (hL : XL S x) (hT : TL S t) (hR : TR I t T) (su : Bool) (hd : su = false → dN T < 4) {f i v : Nat} (hf : f < 16) (hi : i < 8) (v6 : I x 6 = ic v) :
    ∃ J, p_X5_readsWord_89 x t (bi su) (ic f) (ic i) (hp S I L) = p_X5_readsWord_118 x (hp S J L) ∧ TR J t (ad su T (8 * f + i) v) ∧ Fr I J t (t + 9) := by
  unfold ad
  cases su
  · obtain ⟨J, e, r, f9⟩ := t_addDoubt (L := L) hT hR (hd rfl) hf hi v
    refine ⟨J, ?_, r, f9⟩
    unfold p_X5_readsWord_89
    simp only [↓reduceIte, ↓if_bi0, hp_tg, hp_rR, hp_rI, hp_wI, eq_self, bi_t, bi_f, i10, if_true, if_false, Bool.false_eq_true, hL.1, hT.1, v6]
    refine Eq.trans (bnd e) ?_
    rfl
  · obtain ⟨J, e, r, f9⟩ := t_addWord (L := L) hT hR hf hi v
    refine ⟨J, ?_, r, f9⟩
    unfold p_X5_readsWord_89
    simp only [↓reduceIte, ↓if_bi0, hp_tg, hp_rR, hp_rI, hp_wI, eq_self, bi_t, bi_f, i10, if_true, if_false, Bool.false_eq_true, hL.1, hT.1, v6]
    refine Eq.trans (bnd e) ?_
    rfl
theorem k_lW (hL : XL S x) (hT : TL S t) (hx : x + 1 < t) (h : CS I x b n tk) (hR : TR I t T) (hV : TV T) (su : Bool) (hd : su = false → dN T < 4) : KO S I L x t b n (p_X5_readsWord x t (bi su) (hp S I L)) (lW b n su T tk) := by
  unfold lW
  have b1 : (1 : Int32) &&& 1 = 1 := by decide
  have b0 : (0 : Int32) &&& 1 = 0 := by decide
  by_cases c1 : wf tk 0 15 ≠ 0
  · rw [if_pos c1]
    have A := h.wh1 (L := L) hL (a := 0) (c := 15) (by omega) (by omega) c1
    rw [ic_zero] at A
    refine ⟨kF I x (wf tk 0 15) tk.2.1, ?_, kF_7 _ _ _ _, kF_8 _ _ _ _, (Tf.refl I x t).kF _ _⟩
    unfold p_X5_readsWord
    simp only [↓reduceIte, ↓if_bi0, hp_tg, hp_rR, hp_rI, hp_wI, eq_self, bi_t, bi_f, i10, if_true, if_false, Bool.false_eq_true, hL.1]
    refine Eq.trans (bnd A) ?_
    simp (maxSteps := 1000000) (disch := omega) only [↓reduceIte, ↓if_bi0, ↓if_bi1, hp_tg, hp_rI, hp_rR, hp_rL, hp_wI, hp_wL, Option.bind_some, if_11, if_01, bi_and1, i10, i01, bi_t, bi_f, ic_add, mr_4, ml_4, mr_8, ml_8, mr_10, ml_10, ic_add1, ic_sub1, ic_clamp, ic_div, ic_irm, ic_lt0, ic_0lt, ic_eq0, ic_lt, ic_inj, and15, and7, and31, and63, shl1, shr_ok, neg_1, neg_2, neg_3, neg_4, kc_lt0, kc_ic, kc_m2, kc_1, kc_0, i0_add, add_i0, or_i0, z_8, z_4, z_64, z_256, ic_m2, ec_m1, ic_m1, m1_lt0, m2_lt0, m3_lt0, m4_lt0, up_s, if_true, if_false, ne_eq, not_true_eq_false, not_false_eq_true, Bool.false_eq_true, eq_self, or_self, or_false, false_or, and_self, and_true, true_and, ite_self, Nat.reduceEqDiff, Nat.reduceLT, Nat.reduceMod, Nat.reduceMul, Nat.reduceAdd, Nat.reducePow, Nat.reduceDiv, lt_2, lt_3, lt_4, lt_5, lt_6, lt_7, lt_8, lt_10, lt_11, lt_12, lt_15, lt_16, lt_18, lt_20, lt_24, lt_31, lt_32, lt_48, lt_57, lt_59, lt_63, lt_64, lt_74, lt_75, lt_97, lt_122, lt_128, lt_144, lt_145, lt_146, lt_147, lt_155, lt_163, lt_171, lt_179, lt_200, lt_243, lt_244, lt_255, lt_256, lt_732, lt_900, lt_3660, lt_3904, lt_4095, lt_65536, lt_65537, lt_252645135, lt_858993459, lt_1431655765, ↓p_has_b, p_has, ↓p_has9_b, p_has9, ↓p_bit_b, p_bit, ↓p_bit1_b, p_bit1, ↓p_bit0_b, p_bit0, b0]
  · rw [if_neg c1]
    have c1' : wf tk 0 15 = 0 := by omega
    have A := h.wh0 (L := L) hL (a := 0) (c := 15) (by omega) (by omega) c1'
    rw [ic_zero] at A
    have v1 : I x 6 = ic tk.2.2.2 := h.2.2.1.2.2.2 (wf_2 c1').1
    have w1 := (wf_2 c1').2.2
    have g0 : p_X5_readsWord x t (bi su) (hp S I L) = p_X5_readsWord_12 x t (bi su) (hp S I L) := by
      generalize bi su = y
      unfold p_X5_readsWord
      simp only [↓reduceIte, ↓if_bi0, hp_tg, hp_rR, hp_rI, hp_wI, eq_self, bi_t, bi_f, i10, if_true, if_false, Bool.false_eq_true, hL.1]
      refine Eq.trans (bnd A) ?_
      refine Eq.trans (if_neg (by show ¬ (1 : Int32) = 0; decide)) ?_
      rfl
    rw [g0]
    clear g0
    obtain ⟨I2, e2, s2, f2⟩ := k_next (L := L) hL h
    have t2 := (Tf.refl I x t).xf f2
    have R2 := hR.xf f2 hx
    generalize nt b n tk = k2 at *
    by_cases c2 : wf k2 0 7 ≠ 0
    · rw [if_pos c2]
      have A2 := s2.wh1 (L := L) hL (a := 0) (c := 7) (by omega) (by omega) c2
      rw [ic_zero] at A2
      refine ⟨kF I2 x (wf k2 0 7) k2.2.1, ?_, kF_7 _ _ _ _, kF_8 _ _ _ _, t2.kF _ _⟩
      unfold p_X5_readsWord_12
      simp only [↓reduceIte, ↓if_bi0, hp_tg, hp_rR, hp_rI, hp_wI, eq_self, bi_t, bi_f, i10, if_true, if_false, Bool.false_eq_true, hL.1]
      refine Eq.trans (bnd e2) ?_
      simp only [↓reduceIte, ↓if_bi0, hp_tg, hp_rR, hp_rI, hp_wI, eq_self, bi_t, bi_f, i10, if_true, if_false, Bool.false_eq_true, hL.1]
      refine Eq.trans (bnd A2) ?_
      simp (maxSteps := 1000000) (disch := omega) only [↓reduceIte, ↓if_bi0, ↓if_bi1, hp_tg, hp_rI, hp_rR, hp_rL, hp_wI, hp_wL, Option.bind_some, if_11, if_01, bi_and1, i10, i01, bi_t, bi_f, ic_add, mr_4, ml_4, mr_8, ml_8, mr_10, ml_10, ic_add1, ic_sub1, ic_clamp, ic_div, ic_irm, ic_lt0, ic_0lt, ic_eq0, ic_lt, ic_inj, and15, and7, and31, and63, shl1, shr_ok, neg_1, neg_2, neg_3, neg_4, kc_lt0, kc_ic, kc_m2, kc_1, kc_0, i0_add, add_i0, or_i0, z_8, z_4, z_64, z_256, ic_m2, ec_m1, ic_m1, m1_lt0, m2_lt0, m3_lt0, m4_lt0, up_s, if_true, if_false, ne_eq, not_true_eq_false, not_false_eq_true, Bool.false_eq_true, eq_self, or_self, or_false, false_or, and_self, and_true, true_and, ite_self, Nat.reduceEqDiff, Nat.reduceLT, Nat.reduceMod, Nat.reduceMul, Nat.reduceAdd, Nat.reducePow, Nat.reduceDiv, lt_2, lt_3, lt_4, lt_5, lt_6, lt_7, lt_8, lt_10, lt_11, lt_12, lt_15, lt_16, lt_18, lt_20, lt_24, lt_31, lt_32, lt_48, lt_57, lt_59, lt_63, lt_64, lt_74, lt_75, lt_97, lt_122, lt_128, lt_144, lt_145, lt_146, lt_147, lt_155, lt_163, lt_171, lt_179, lt_200, lt_243, lt_244, lt_255, lt_256, lt_732, lt_900, lt_3660, lt_3904, lt_4095, lt_65536, lt_65537, lt_252645135, lt_858993459, lt_1431655765, ↓p_has_b, p_has, ↓p_has9_b, p_has9, ↓p_bit_b, p_bit, ↓p_bit1_b, p_bit1, ↓p_bit0_b, p_bit0, b0]
    · rw [if_neg c2]
      have c2' : wf k2 0 7 = 0 := by omega
      have A2 := s2.wh0 (L := L) hL (a := 0) (c := 7) (by omega) (by omega) c2'
      rw [ic_zero] at A2
      have v2 : I2 x 6 = ic k2.2.2.2 := s2.2.2.1.2.2.2 (wf_2 c2').1
      have w2 := (wf_2 c2').2.2
      have g1 : p_X5_readsWord_12 x t (bi su) (hp S I L) = p_X5_readsWord_33 x t (bi su) (ic tk.2.2.2) (hp S I2 L) := by
        generalize bi su = y
        unfold p_X5_readsWord_12
        simp only [↓reduceIte, ↓if_bi0, hp_tg, hp_rR, hp_rI, hp_wI, eq_self, bi_t, bi_f, i10, if_true, if_false, Bool.false_eq_true, hL.1, v1]
        refine Eq.trans (bnd e2) ?_
        simp only [↓reduceIte, ↓if_bi0, hp_tg, hp_rR, hp_rI, hp_wI, eq_self, bi_t, bi_f, i10, if_true, if_false, Bool.false_eq_true, hL.1]
        refine Eq.trans (bnd A2) ?_
        refine Eq.trans (if_neg (by show ¬ (1 : Int32) = 0; decide)) ?_
        rfl
      rw [g1, k_w33 hL hT R2 hV su (by omega) (by omega) v2]
      clear g1
      by_cases c3 : tw su T (8 * tk.2.2.2 + k2.2.2.2) = true
      · rw [if_pos c3, if_pos c3]
        have F := s2.fails (L := L) hL 3
        refine ⟨kF I2 x 3 k2.2.1, ?_, kF_7 _ _ _ _, kF_8 _ _ _ _, t2.kF _ _⟩
        simp (maxSteps := 1000000) (disch := omega) only [↓reduceIte, ↓if_bi0, ↓if_bi1, hp_tg, hp_rI, hp_rR, hp_rL, hp_wI, hp_wL, Option.bind_some, if_11, if_01, bi_and1, i10, i01, bi_t, bi_f, ic_add, mr_4, ml_4, mr_8, ml_8, mr_10, ml_10, ic_add1, ic_sub1, ic_clamp, ic_div, ic_irm, ic_lt0, ic_0lt, ic_eq0, ic_lt, ic_inj, and15, and7, and31, and63, shl1, shr_ok, neg_1, neg_2, neg_3, neg_4, kc_lt0, kc_ic, kc_m2, kc_1, kc_0, i0_add, add_i0, or_i0, z_8, z_4, z_64, z_256, ic_m2, ec_m1, ic_m1, m1_lt0, m2_lt0, m3_lt0, m4_lt0, up_s, if_true, if_false, ne_eq, not_true_eq_false, not_false_eq_true, Bool.false_eq_true, eq_self, or_self, or_false, false_or, and_self, and_true, true_and, ite_self, Nat.reduceEqDiff, Nat.reduceLT, Nat.reduceMod, Nat.reduceMul, Nat.reduceAdd, Nat.reducePow, Nat.reduceDiv, lt_2, lt_3, lt_4, lt_5, lt_6, lt_7, lt_8, lt_10, lt_11, lt_12, lt_15, lt_16, lt_18, lt_20, lt_24, lt_31, lt_32, lt_48, lt_57, lt_59, lt_63, lt_64, lt_74, lt_75, lt_97, lt_122, lt_128, lt_144, lt_145, lt_146, lt_147, lt_155, lt_163, lt_171, lt_179, lt_200, lt_243, lt_244, lt_255, lt_256, lt_732, lt_900, lt_3660, lt_3904, lt_4095, lt_65536, lt_65537, lt_252645135, lt_858993459, lt_1431655765, ↓p_has_b, p_has, ↓p_has9_b, p_has9, ↓p_bit_b, p_bit, ↓p_bit1_b, p_bit1, ↓p_bit0_b, p_bit0, p_X5_readsWord_66, hL.1, ↓bnd (F), F, b0]
      · rw [if_neg c3, if_neg c3]
        obtain ⟨I3, e3, s3, f3⟩ := k_next (L := L) hL s2
        have t3 := t2.xf f3
        have R3 := R2.xf f3 hx
        generalize nt b n k2 = k3 at *
        by_cases c4 : wf k3 0 4095 ≠ 0
        · rw [if_pos c4]
          have A3 := s3.wh1 (L := L) hL (a := 0) (c := 4095) (by omega) (by omega) c4
          rw [ic_zero] at A3
          refine ⟨kF I3 x (wf k3 0 4095) k3.2.1, ?_, kF_7 _ _ _ _, kF_8 _ _ _ _, t3.kF _ _⟩
          unfold p_X5_readsWord_72
          simp only [↓reduceIte, ↓if_bi0, hp_tg, hp_rR, hp_rI, hp_wI, eq_self, bi_t, bi_f, i10, if_true, if_false, Bool.false_eq_true, hL.1]
          refine Eq.trans (bnd e3) ?_
          simp only [↓reduceIte, ↓if_bi0, hp_tg, hp_rR, hp_rI, hp_wI, eq_self, bi_t, bi_f, i10, if_true, if_false, Bool.false_eq_true, hL.1]
          refine Eq.trans (bnd A3) ?_
          simp (maxSteps := 1000000) (disch := omega) only [↓reduceIte, ↓if_bi0, ↓if_bi1, hp_tg, hp_rI, hp_rR, hp_rL, hp_wI, hp_wL, Option.bind_some, if_11, if_01, bi_and1, i10, i01, bi_t, bi_f, ic_add, mr_4, ml_4, mr_8, ml_8, mr_10, ml_10, ic_add1, ic_sub1, ic_clamp, ic_div, ic_irm, ic_lt0, ic_0lt, ic_eq0, ic_lt, ic_inj, and15, and7, and31, and63, shl1, shr_ok, neg_1, neg_2, neg_3, neg_4, kc_lt0, kc_ic, kc_m2, kc_1, kc_0, i0_add, add_i0, or_i0, z_8, z_4, z_64, z_256, ic_m2, ec_m1, ic_m1, m1_lt0, m2_lt0, m3_lt0, m4_lt0, up_s, if_true, if_false, ne_eq, not_true_eq_false, not_false_eq_true, Bool.false_eq_true, eq_self, or_self, or_false, false_or, and_self, and_true, true_and, ite_self, Nat.reduceEqDiff, Nat.reduceLT, Nat.reduceMod, Nat.reduceMul, Nat.reduceAdd, Nat.reducePow, Nat.reduceDiv, lt_2, lt_3, lt_4, lt_5, lt_6, lt_7, lt_8, lt_10, lt_11, lt_12, lt_15, lt_16, lt_18, lt_20, lt_24, lt_31, lt_32, lt_48, lt_57, lt_59, lt_63, lt_64, lt_74, lt_75, lt_97, lt_122, lt_128, lt_144, lt_145, lt_146, lt_147, lt_155, lt_163, lt_171, lt_179, lt_200, lt_243, lt_244, lt_255, lt_256, lt_732, lt_900, lt_3660, lt_3904, lt_4095, lt_65536, lt_65537, lt_252645135, lt_858993459, lt_1431655765, ↓p_has_b, p_has, ↓p_has9_b, p_has9, ↓p_bit_b, p_bit, ↓p_bit1_b, p_bit1, ↓p_bit0_b, p_bit0, b0]
        · rw [if_neg c4]
          have c4' : wf k3 0 4095 = 0 := by omega
          have A3 := s3.wh0 (L := L) hL (a := 0) (c := 4095) (by omega) (by omega) c4'
          rw [ic_zero] at A3
          have v3 : I3 x 6 = ic k3.2.2.2 := s3.2.2.1.2.2.2 (wf_2 c4').1
          obtain ⟨J4, e4, R4, f4⟩ := k_w89 (L := L) hL hT R3 su hd (f := tk.2.2.2) (i := k2.2.2.2) (by omega) (by omega) v3
          have g2 : p_X5_readsWord_72 x t (bi su) (ic tk.2.2.2) (ic k2.2.2.2) (hp S I2 L) = p_X5_readsWord_118 x (hp S J4 L) := by
            rw [← e4]
            generalize bi su = y
            unfold p_X5_readsWord_72
            simp only [↓reduceIte, ↓if_bi0, hp_tg, hp_rR, hp_rI, hp_wI, eq_self, bi_t, bi_f, i10, if_true, if_false, Bool.false_eq_true, hL.1]
            refine Eq.trans (bnd e3) ?_
            simp only [↓reduceIte, ↓if_bi0, hp_tg, hp_rR, hp_rI, hp_wI, eq_self, bi_t, bi_f, i10, if_true, if_false, Bool.false_eq_true, hL.1]
            refine Eq.trans (bnd A3) ?_
            refine Eq.trans (if_neg (by show ¬ (1 : Int32) = 0; decide)) ?_
            rfl
          rw [g2]
          clear g2
          obtain ⟨I5, e5, s5, f5⟩ := k_next (L := L) hL (s3.fr hx f4)
          have q : ∀ j, 6 < j → I5 x j = I x j := fun j hj => by rw [f5.1 j (by omega), f4 x (by omega), f3.1 j (by omega), f2.1 j (by omega)]
          refine ⟨I5, ?_, s5, R4.xf f5 hx, q 7 (by omega), q 8 (by omega), (t3.fr hx f4).xf f5⟩
          unfold p_X5_readsWord_118
          simp only [↓reduceIte, ↓if_bi0, hp_tg, hp_rR, hp_rI, hp_wI, eq_self, bi_t, bi_f, i10, if_true, if_false, Bool.false_eq_true, hL.1]
          refine Eq.trans (bnd e5) ?_
          exact if_pos b1
end KLIN
