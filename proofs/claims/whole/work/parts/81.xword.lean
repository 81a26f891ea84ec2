/-! ===== the lines of words, sure and unsure: the reference ===== -/
section XWORD
variable {S : SH} {I J : II} {L : LL} {m n a : Nat} {b : Nat → Nat} {tk : TK} {T : TS}
theorem MR.uWo (h : MR I a T) {k v : Nat} (hk : k < 128) : MR (up2 (up2 (up2 I (a + 3) k 1) (a + 2) k (ic v)) a 4 (ic (wN T + 1))) a (uWo T k v) := by
  obtain ⟨r0, r1, r2, r3, r4, ⟨r5, r5'⟩, ⟨r6, r6'⟩, ⟨r7, r7'⟩, r8, r9, r10⟩ := h
  have e : ∀ y, y ≠ a → y ≠ a + 2 → y ≠ a + 3 → up2 (up2 (up2 I (a + 3) k 1) (a + 2) k (ic v)) a 4 (ic (wN T + 1)) y = I y := fun y h1 h2 h3 => funext fun j => by rw [up_a h1, up_a h2, up_a h3]
  have q : ∀ j, j ≠ 4 → up2 (up2 (up2 I (a + 3) k 1) (a + 2) k (ic v)) a 4 (ic (wN T + 1)) a j = I a j := fun j h1 => by rw [up_k h1, up_a (by omega), up_a (by omega)]
  refine ⟨by rw [q 0 (by omega)]; exact r0, by rw [q 1 (by omega)]; exact r1, by rw [q 2 (by omega)]; exact r2, by rw [q 3 (by omega)]; exact r3, by rw [up_s]; rfl, ⟨by rw [q 5 (by omega)]; exact r5, fun i hi => by rw [e _ (by omega) (by omega) (by omega), e _ (by omega) (by omega) (by omega)]; exact r5' i hi⟩, ⟨by rw [q 6 (by omega)]; exact r6, fun i hi => by rw [e _ (by omega) (by omega) (by omega), e _ (by omega) (by omega) (by omega)]; exact r6' i hi⟩, ⟨by rw [q 7 (by omega)]; exact r7, fun i hi => by rw [e _ (by omega) (by omega) (by omega), e _ (by omega) (by omega) (by omega), e _ (by omega) (by omega) (by omega)]; exact r7' i hi⟩, fun g hg => by rw [e _ (by omega) (by omega) (by omega)]; exact r8 g hg, fun i hi => ?_, fun i hi => ?_⟩
  · show _ = ic (up1 (sW (tG T)) k v i)
    rw [up_a (by omega), up_i]
    by_cases d : i = k
    · rw [if_pos d, d, up1_s]
    · rw [if_neg d, up1_n d, up_a (by omega)]; exact r9 i hi
  · show _ = bi (up1 (wT T) k true i)
    rw [up_a (by omega), up_a (by omega), up_i]
    by_cases d : i = k
    · rw [if_pos d, d, up1_s]; rfl
    · rw [if_neg d, up1_n d]; exact r10 i hi
theorem MR.uD (h : MR I a T) {k v : Nat} : MR (up2 (up2 (up2 I (a + 6) (dN T) (ic k)) (a + 7) (dN T) (ic v)) a 6 (ic (dN T + 1))) a (uD T k v) := by
  obtain ⟨r0, r1, r2, r3, r4, ⟨r5, r5'⟩, ⟨r6, r6'⟩, ⟨r7, r7'⟩, r8, r9, r10⟩ := h
  have e : ∀ y, y ≠ a → y ≠ a + 6 → y ≠ a + 7 → up2 (up2 (up2 I (a + 6) (dN T) (ic k)) (a + 7) (dN T) (ic v)) a 6 (ic (dN T + 1)) y = I y := fun y h1 h2 h3 => funext fun j => by rw [up_a h1, up_a h3, up_a h2]
  have q : ∀ j, j ≠ 6 → up2 (up2 (up2 I (a + 6) (dN T) (ic k)) (a + 7) (dN T) (ic v)) a 6 (ic (dN T + 1)) a j = I a j := fun j h1 => by rw [up_k h1, up_a (by omega), up_a (by omega)]
  refine ⟨by rw [q 0 (by omega)]; exact r0, by rw [q 1 (by omega)]; exact r1, by rw [q 2 (by omega)]; exact r2, by rw [q 3 (by omega)]; exact r3, by rw [q 4 (by omega)]; exact r4, ⟨by rw [q 5 (by omega)]; exact r5, fun i hi => by rw [e _ (by omega) (by omega) (by omega), e _ (by omega) (by omega) (by omega)]; exact r5' i hi⟩, ⟨by rw [up_s]; rfl, fun i hi => ?_⟩, ⟨by rw [q 7 (by omega)]; exact r7, fun i hi => by rw [e _ (by omega) (by omega) (by omega), e _ (by omega) (by omega) (by omega), e _ (by omega) (by omega) (by omega)]; exact r7' i hi⟩, fun g hg => by rw [e _ (by omega) (by omega) (by omega)]; exact r8 g hg, fun i hi => by rw [e _ (by omega) (by omega) (by omega)]; exact r9 i hi, fun i hi => by rw [e _ (by omega) (by omega) (by omega)]; exact r10 i hi⟩
  have hi9 : i < dN T + 1 := hi
  show up2 (up2 (up2 I (a + 6) (dN T) (ic k)) (a + 7) (dN T) (ic v)) a 6 (ic (dN T + 1)) (a + 6) i = ic (up1 (dS T) (dN T) k i) ∧ up2 (up2 (up2 I (a + 6) (dN T) (ic k)) (a + 7) (dN T) (ic v)) a 6 (ic (dN T + 1)) (a + 7) i = ic (up1 (dD T) (dN T) v i)
  rw [up_a (show a + 6 ≠ a by omega), up_a (show a + 6 ≠ a + 7 by omega), up_i, up_a (show a + 7 ≠ a by omega), up_i, up_a (show a + 7 ≠ a + 6 by omega)]
  by_cases d : i = dN T
  · rw [if_pos d, if_pos d, d, up1_s, up1_s]; exact ⟨rfl, rfl⟩
  · rw [if_neg d, if_neg d, up1_n d, up1_n d]; exact r6' i (by omega)
theorem x_dW59 (hL : ML S m) (h5 : I m 9 = ic 5) (x1 : Int32) : p_X9_readWord_59 m x1 (hp S I L) = some (hp S I L) := by
  have G := x_goes0 (L := L) hL h5
  have W := x_rwh5 (L := L) hL h5 0 4095
  unfold p_X9_readWord_59
  simp only [↓reduceIte, ↓if_bi0, hp_tg, hp_rR, hp_rI, hp_wI, eq_self, bi_t, bi_f, i10, if_true, if_false, Bool.false_eq_true, hL.t]
  refine Eq.trans (bnd G) ?_
  simp only [↓reduceIte, ↓if_bi0, hp_tg, hp_rR, hp_rI, hp_wI, eq_self, bi_t, bi_f, i10, if_true, if_false, Bool.false_eq_true, hL.t]
  refine Eq.trans (bnd W) ?_
  simp only [↓reduceIte, ↓if_bi0, hp_tg, hp_rR, hp_rI, hp_wI, eq_self, bi_t, bi_f, i10, if_true, if_false, Bool.false_eq_true, hL.t, h5]
  exact if_pos (by rfl)
theorem x_dW59_b (hL : ML S m) (h5 : I m 9 = ic 5) (x1 : Int32) {β : Type} (f9 : AH → Option β) : (p_X9_readWord_59 m x1 (hp S I L)).bind f9 = f9 (hp S I L) := bnd (by apply x_dW59 <;> assumption)
theorem x_dU57 (hL : ML S m) (h5 : I m 9 = ic 5) (x1 : Int32) : p_X9_readUnsure_57 m x1 (hp S I L) = some (hp S I L) := by
  have G := x_goes0 (L := L) hL h5
  have W := x_rwh5 (L := L) hL h5 0 4095
  unfold p_X9_readUnsure_57
  simp only [↓reduceIte, ↓if_bi0, hp_tg, hp_rR, hp_rI, hp_wI, eq_self, bi_t, bi_f, i10, if_true, if_false, Bool.false_eq_true, hL.t]
  refine Eq.trans (bnd G) ?_
  simp only [↓reduceIte, ↓if_bi0, hp_tg, hp_rR, hp_rI, hp_wI, eq_self, bi_t, bi_f, i10, if_true, if_false, Bool.false_eq_true, hL.t]
  refine Eq.trans (bnd W) ?_
  simp only [↓reduceIte, ↓if_bi0, hp_tg, hp_rR, hp_rI, hp_wI, eq_self, bi_t, bi_f, i10, if_true, if_false, Bool.false_eq_true, hL.t, h5]
  exact if_pos (by rfl)
theorem x_dU57_b (hL : ML S m) (h5 : I m 9 = ic 5) (x1 : Int32) {β : Type} (f9 : AH → Option β) : (p_X9_readUnsure_57 m x1 (hp S I L)).bind f9 = f9 (hp S I L) := bnd (by apply x_dU57 <;> assumption)
theorem at_8 (f i : Nat) : (8 : Int32) * ic f + ic i = ic (8 * f + i) := by rw [show (8 : Int32) = ic 8 from rfl, ic_mul, ic_add]
theorem x_lW (hL : ML S m) (ha : tR S m 4 = a) (hA : MCL S a) (hm : m + 6 < a) (h : RS I L m b n tk) (hM : MR I a T) (hV : TV T) (hk : tk.1 ≠ 4) : XO S I m a b n (p_X9_readWord m (hp S I L)) (lbg T (wN T) 24 tk (lW b n true T (nt b n tk))) := by
  unfold lbg
  have l0 := hA.1
  obtain ⟨lw, lw'⟩ := hA.2.2.1
  obtain ⟨lt9, lt'⟩ := hA.2.2.2.1
  have r4 : I a 4 = ic (wN T) := hM.2.2.2.2.1
  have h24 := hV.2.2.2.2.2.2.2
  have b1 : (1 : Int32) &&& 1 = 1 := by decide
  by_cases c0 : lb T (wN T) 24 ≠ 0
  · rw [if_pos c0]
    have F := x_lb1 hL ha hA hm h hM hV.1 (c := wN T) (d := 24) (by omega) (by omega) c0
    have h5 := xF_9 I m (lb T (wN T) 24) tk.2.1
    have W := x_rwh5 (L := L) hL h5 0 15
    have W2 := x_whole5 (L := L) hL h5 0 7
    refine ⟨xF I m (lb T (wN T) 24) tk.2.1, L, ?_, h5, xF_12 _ _ _ _, xF_13 _ _ _ _, (Rf.refl I m a).xF _ _⟩
    unfold p_X9_readWord
    simp only [↓reduceIte, ↓if_bi0, hp_tg, hp_rR, hp_rI, hp_wI, eq_self, bi_t, bi_f, i10, if_true, if_false, Bool.false_eq_true, hL.t, ha, l0, r4]
    refine Eq.trans (bnd F) ?_
    simp only [↓reduceIte, ↓if_bi0, hp_tg, hp_rR, hp_rI, hp_wI, eq_self, bi_t, bi_f, i10, if_true, if_false, Bool.false_eq_true, hL.t]
    refine Eq.trans (bnd W) ?_
    simp only [↓reduceIte, ↓if_bi0, hp_tg, hp_rR, hp_rI, hp_wI, eq_self, bi_t, bi_f, i10, if_true, if_false, Bool.false_eq_true, hL.t]
    refine Eq.trans (bnd W2) ?_
    simp only [↓reduceIte, ↓if_bi0, hp_tg, hp_rR, hp_rI, hp_wI, eq_self, bi_t, bi_f, i10, if_true, if_false, Bool.false_eq_true, hL.t, h5]
    exact Eq.trans (if_pos (by rfl)) (x_dW59 hL h5 _)
  · rw [if_neg c0]
    obtain ⟨I1, L1, e1, s1, f1⟩ := x_lb0 hL ha hA hm h hk hM hV.1 (c := wN T) (d := 24) (by omega) (by omega) (by omega)
    have t1 := (Rf.refl I m a).yf f1
    have M1 := hM.yf f1 hm
    generalize nt b n tk = k1 at *
    unfold lW
    by_cases c1 : wf k1 0 15 ≠ 0
    · rw [if_pos c1]
      have A := x_rwh1 hL s1 (a := 0) (c := 15) (by omega) (by omega) c1
      rw [ic_zero] at A
      have h5 := xF_9 I1 m (wf k1 0 15) k1.2.1
      have W2 := x_whole5 (L := L1) hL h5 0 7
      refine ⟨xF I1 m (wf k1 0 15) k1.2.1, L1, ?_, h5, xF_12 _ _ _ _, xF_13 _ _ _ _, t1.xF _ _⟩
      unfold p_X9_readWord
      simp only [↓reduceIte, ↓if_bi0, hp_tg, hp_rR, hp_rI, hp_wI, eq_self, bi_t, bi_f, i10, if_true, if_false, Bool.false_eq_true, hL.t, ha, l0, r4]
      refine Eq.trans (bnd e1) ?_
      simp only [↓reduceIte, ↓if_bi0, hp_tg, hp_rR, hp_rI, hp_wI, eq_self, bi_t, bi_f, i10, if_true, if_false, Bool.false_eq_true, hL.t]
      refine Eq.trans (bnd A) ?_
      simp only [↓reduceIte, ↓if_bi0, hp_tg, hp_rR, hp_rI, hp_wI, eq_self, bi_t, bi_f, i10, if_true, if_false, Bool.false_eq_true, hL.t]
      refine Eq.trans (bnd W2) ?_
      simp only [↓reduceIte, ↓if_bi0, hp_tg, hp_rR, hp_rI, hp_wI, eq_self, bi_t, bi_f, i10, if_true, if_false, Bool.false_eq_true, hL.t, h5]
      exact Eq.trans (if_pos (by rfl)) (x_dW59 hL h5 _)
    · rw [if_neg c1]
      have c1' : wf k1 0 15 = 0 := by omega
      have w1 := (wf_2 c1').2.2
      obtain ⟨I2, L2, e2, s2, f2⟩ := x_rwh0 hL s1 (a := 0) (c := 15) (by omega) (by omega) c1'
      rw [ic_zero] at e2
      have t2 := t1.yf f2
      have M2 := M1.yf f2 hm
      generalize nt b n k1 = k2 at *
      by_cases c2 : wf k2 0 7 ≠ 0
      · rw [if_pos c2]
        have A := s2.wh1 hL (a := 0) (c := 7) (by omega) (by omega) c2
        rw [ic_zero] at A
        have h5 := xF_9 I2 m (wf k2 0 7) k2.2.1
        refine ⟨xF I2 m (wf k2 0 7) k2.2.1, L2, ?_, h5, xF_12 _ _ _ _, xF_13 _ _ _ _, t2.xF _ _⟩
        unfold p_X9_readWord
        simp only [↓reduceIte, ↓if_bi0, hp_tg, hp_rR, hp_rI, hp_wI, eq_self, bi_t, bi_f, i10, if_true, if_false, Bool.false_eq_true, hL.t, ha, l0, r4]
        refine Eq.trans (bnd e1) ?_
        simp only [↓reduceIte, ↓if_bi0, hp_tg, hp_rR, hp_rI, hp_wI, eq_self, bi_t, bi_f, i10, if_true, if_false, Bool.false_eq_true, hL.t]
        refine Eq.trans (bnd e2) ?_
        simp only [↓reduceIte, ↓if_bi0, hp_tg, hp_rR, hp_rI, hp_wI, eq_self, bi_t, bi_f, i10, if_true, if_false, Bool.false_eq_true, hL.t]
        refine Eq.trans (bnd A) ?_
        simp only [↓reduceIte, ↓if_bi0, hp_tg, hp_rR, hp_rI, hp_wI, eq_self, bi_t, bi_f, i10, if_true, if_false, Bool.false_eq_true, hL.t, h5]
        exact Eq.trans (if_pos (by rfl)) (x_dW59 hL h5 _)
      · rw [if_neg c2]
        have c2' : wf k2 0 7 = 0 := by omega
        have w2 := (wf_2 c2').2.2
        have A := s2.wh0 hL (a := 0) (c := 7) (by omega) (by omega) c2'
        rw [ic_zero] at A
        have n2 := s2.n5
        have rt := M2.2.2.2.2.2.2.2.2.2.2 (8 * k1.2.2.2 + k2.2.2.2) (by omega)
        show XO S I m a b n _ (if wT T (8 * k1.2.2.2 + k2.2.2.2) = true then _ else _)
        by_cases c3 : wT T (8 * k1.2.2.2 + k2.2.2.2) = true
        · rw [if_pos c3]
          rw [c3] at rt
          have F := s2.flaw hL 3
          have h5 := xF_9 I2 m 3 k2.2.1
          have D := x_dW59 (L := L2) hL h5 (ic (8 * k1.2.2.2 + k2.2.2.2))
          refine ⟨xF I2 m 3 k2.2.1, L2, ?_, h5, xF_12 _ _ _ _, xF_13 _ _ _ _, t2.xF _ _⟩
          unfold p_X9_readWord
          simp only [↓reduceIte, ↓if_bi0, hp_tg, hp_rR, hp_rI, hp_wI, eq_self, bi_t, bi_f, i10, if_true, if_false, Bool.false_eq_true, hL.t, ha, l0, r4]
          refine Eq.trans (bnd e1) ?_
          simp only [↓reduceIte, ↓if_bi0, hp_tg, hp_rR, hp_rI, hp_wI, eq_self, bi_t, bi_f, i10, if_true, if_false, Bool.false_eq_true, hL.t]
          refine Eq.trans (bnd e2) ?_
          simp only [↓reduceIte, ↓if_bi0, hp_tg, hp_rR, hp_rI, hp_wI, eq_self, bi_t, bi_f, i10, if_true, if_false, Bool.false_eq_true, hL.t]
          refine Eq.trans (bnd A) ?_
          simp only [↓reduceIte, ↓if_bi0, hp_tg, hp_rR, hp_rI, hp_wI, eq_self, bi_t, bi_f, i10, if_true, if_false, Bool.false_eq_true, hL.t, n2, ha, l0, lt9, at_8]
          simp (maxSteps := 1000000) (disch := omega) only [↓reduceIte, ↓if_bi0, ↓if_bi1, hp_tg, hp_rI, hp_rR, hp_rL, hp_wI, hp_wL, Option.bind_some, if_11, if_01, bi_and1, i10, i01, bi_t, bi_f, ic_add, mr_4, ml_4, mr_8, ml_8, mr_10, ml_10, ic_add1, ic_sub1, ic_clamp, ic_div, ic_irm, ic_lt0, ic_0lt, ic_eq0, ic_lt, ic_inj, and15, and7, and31, and63, shl1, shr_ok, neg_1, neg_2, neg_3, neg_4, kc_lt0, kc_ic, kc_m2, kc_1, kc_0, i0_add, add_i0, or_i0, z_8, z_4, z_64, z_256, ic_m2, ec_m1, ic_m1, m1_lt0, m2_lt0, m3_lt0, m4_lt0, up_s, if_true, if_false, ne_eq, not_true_eq_false, not_false_eq_true, Bool.false_eq_true, eq_self, or_self, or_false, false_or, and_self, and_true, true_and, ite_self, Nat.reduceEqDiff, Nat.reduceLT, Nat.reduceMod, Nat.reduceMul, Nat.reduceAdd, Nat.reducePow, Nat.reduceDiv, lt_2, lt_3, lt_4, lt_5, lt_6, lt_7, lt_8, lt_10, lt_11, lt_12, lt_15, lt_16, lt_18, lt_20, lt_24, lt_31, lt_32, lt_48, lt_57, lt_59, lt_63, lt_64, lt_74, lt_75, lt_97, lt_122, lt_128, lt_144, lt_145, lt_146, lt_147, lt_155, lt_163, lt_171, lt_179, lt_200, lt_243, lt_244, lt_255, lt_256, lt_732, lt_900, lt_3660, lt_3904, lt_4095, lt_65536, lt_65537, lt_252645135, lt_858993459, lt_1431655765, ↓p_has_b, p_has, ↓p_has9_b, p_has9, ↓p_bit_b, p_bit, ↓p_bit1_b, p_bit1, ↓p_bit0_b, p_bit0, if_inB lt', rt, hL.t, ↓bnd (F), F, D]
        · rw [if_neg c3]
          rw [show wT T (8 * k1.2.2.2 + k2.2.2.2) = false by simpa using c3] at rt
          have g1 : p_X9_readWord m (hp S I L) = p_X9_readWord_59 m (ic (8 * k1.2.2.2 + k2.2.2.2)) (hp S I2 L2) := by
            unfold p_X9_readWord
            simp only [↓reduceIte, ↓if_bi0, hp_tg, hp_rR, hp_rI, hp_wI, eq_self, bi_t, bi_f, i10, if_true, if_false, Bool.false_eq_true, hL.t, ha, l0, r4]
            refine Eq.trans (bnd e1) ?_
            simp only [↓reduceIte, ↓if_bi0, hp_tg, hp_rR, hp_rI, hp_wI, eq_self, bi_t, bi_f, i10, if_true, if_false, Bool.false_eq_true, hL.t]
            refine Eq.trans (bnd e2) ?_
            simp only [↓reduceIte, ↓if_bi0, hp_tg, hp_rR, hp_rI, hp_wI, eq_self, bi_t, bi_f, i10, if_true, if_false, Bool.false_eq_true, hL.t]
            refine Eq.trans (bnd A) ?_
            simp only [↓reduceIte, ↓if_bi0, hp_tg, hp_rR, hp_rI, hp_wI, eq_self, bi_t, bi_f, i10, if_true, if_false, Bool.false_eq_true, hL.t, n2, ha, l0, lt9, at_8]
            simp (maxSteps := 1000000) (disch := omega) only [↓reduceIte, ↓if_bi0, ↓if_bi1, hp_tg, hp_rI, hp_rR, hp_rL, hp_wI, hp_wL, Option.bind_some, if_11, if_01, bi_and1, i10, i01, bi_t, bi_f, ic_add, mr_4, ml_4, mr_8, ml_8, mr_10, ml_10, ic_add1, ic_sub1, ic_clamp, ic_div, ic_irm, ic_lt0, ic_0lt, ic_eq0, ic_lt, ic_inj, and15, and7, and31, and63, shl1, shr_ok, neg_1, neg_2, neg_3, neg_4, kc_lt0, kc_ic, kc_m2, kc_1, kc_0, i0_add, add_i0, or_i0, z_8, z_4, z_64, z_256, ic_m2, ec_m1, ic_m1, m1_lt0, m2_lt0, m3_lt0, m4_lt0, up_s, if_true, if_false, ne_eq, not_true_eq_false, not_false_eq_true, Bool.false_eq_true, eq_self, or_self, or_false, false_or, and_self, and_true, true_and, ite_self, Nat.reduceEqDiff, Nat.reduceLT, Nat.reduceMod, Nat.reduceMul, Nat.reduceAdd, Nat.reducePow, Nat.reduceDiv, lt_2, lt_3, lt_4, lt_5, lt_6, lt_7, lt_8, lt_10, lt_11, lt_12, lt_15, lt_16, lt_18, lt_20, lt_24, lt_31, lt_32, lt_48, lt_57, lt_59, lt_63, lt_64, lt_74, lt_75, lt_97, lt_122, lt_128, lt_144, lt_145, lt_146, lt_147, lt_155, lt_163, lt_171, lt_179, lt_200, lt_243, lt_244, lt_255, lt_256, lt_732, lt_900, lt_3660, lt_3904, lt_4095, lt_65536, lt_65537, lt_252645135, lt_858993459, lt_1431655765, ↓p_has_b, p_has, ↓p_has9_b, p_has9, ↓p_bit_b, p_bit, ↓p_bit1_b, p_bit1, ↓p_bit0_b, p_bit0, if_inB lt', rt, hL.t]
          rw [g1]
          clear g1
          obtain ⟨I3, L3, e3, s3, f3⟩ := x_next hL s2 (by rw [(wf_2 c2').1]; decide)
          have t3 := t2.yf f3
          have M3 := M2.yf f3 hm
          generalize nt b n k2 = k3 at *
          by_cases c4 : wf k3 0 4095 ≠ 0
          · rw [if_pos c4]
            have A3 := x_rwh1 hL s3 (a := 0) (c := 4095) (by omega) (by omega) c4
            rw [ic_zero] at A3
            have h5 := xF_9 I3 m (wf k3 0 4095) k3.2.1
            refine ⟨xF I3 m (wf k3 0 4095) k3.2.1, L3, ?_, h5, xF_12 _ _ _ _, xF_13 _ _ _ _, t3.xF _ _⟩
            unfold p_X9_readWord_59
            simp only [↓reduceIte, ↓if_bi0, hp_tg, hp_rR, hp_rI, hp_wI, eq_self, bi_t, bi_f, i10, if_true, if_false, Bool.false_eq_true, hL.t]
            refine Eq.trans (bnd e3) ?_
            simp only [↓reduceIte, ↓if_bi0, hp_tg, hp_rR, hp_rI, hp_wI, eq_self, bi_t, bi_f, i10, if_true, if_false, Bool.false_eq_true, hL.t]
            refine Eq.trans (bnd A3) ?_
            simp only [↓reduceIte, ↓if_bi0, hp_tg, hp_rR, hp_rI, hp_wI, eq_self, bi_t, bi_f, i10, if_true, if_false, Bool.false_eq_true, hL.t, h5]
            exact if_pos (by rfl)
          · rw [if_neg c4]
            obtain ⟨I4, L4, e4, s4, f4⟩ := x_rwh0 hL s3 (a := 0) (c := 4095) (by omega) (by omega) (by omega)
            rw [ic_zero] at e4
            have t4 := t3.yf f4
            have M4 := M3.yf f4 hm
            have n4 := s4.n5
            have M5 := M4.uWo (k := 8 * k1.2.2.2 + k2.2.2.2) (v := k3.2.2.2) (by omega)
            have z4 : up2 (up2 I4 (a + 3) (8 * k1.2.2.2 + k2.2.2.2) 1) (a + 2) (8 * k1.2.2.2 + k2.2.2.2) (ic k3.2.2.2) a 4 = ic (wN T) := by rw [up_a (by omega), up_a (by omega)]; exact M4.2.2.2.2.1
            have t5 := ((t4.up hm (y := a + 3) (by omega) (by omega) (8 * k1.2.2.2 + k2.2.2.2) 1).up hm (y := a + 2) (by omega) (by omega) (8 * k1.2.2.2 + k2.2.2.2) (ic k3.2.2.2)).up hm (y := a) (by omega) (by omega) 4 (ic (wN T + 1))
            have s5 := ((s4.up (y := a + 3) (by omega) (8 * k1.2.2.2 + k2.2.2.2) 1).up (y := a + 2) (by omega) (8 * k1.2.2.2 + k2.2.2.2) (ic k3.2.2.2)).up (y := a) (by omega) 4 (ic (wN T + 1))
            have q : ∀ j, 11 < j → up2 (up2 (up2 I4 (a + 3) (8 * k1.2.2.2 + k2.2.2.2) 1) (a + 2) (8 * k1.2.2.2 + k2.2.2.2) (ic k3.2.2.2)) a 4 (ic (wN T + 1)) m j = I m j := fun j hj => by rw [up_a (by omega), up_a (by omega), up_a (by omega), f4.1 j (by omega), f3.1 j (by omega), f2.1 j (by omega), f1.1 j (by omega)]
            refine ⟨_, L4, ?_, s5, M5, q 12 (by omega), q 13 (by omega), t5⟩
            unfold p_X9_readWord_59
            simp only [↓reduceIte, ↓if_bi0, hp_tg, hp_rR, hp_rI, hp_wI, eq_self, bi_t, bi_f, i10, if_true, if_false, Bool.false_eq_true, hL.t]
            refine Eq.trans (bnd e3) ?_
            simp only [↓reduceIte, ↓if_bi0, hp_tg, hp_rR, hp_rI, hp_wI, eq_self, bi_t, bi_f, i10, if_true, if_false, Bool.false_eq_true, hL.t]
            refine Eq.trans (bnd e4) ?_
            simp only [↓reduceIte, ↓if_bi0, hp_tg, hp_rR, hp_rI, hp_wI, eq_self, bi_t, bi_f, i10, if_true, if_false, Bool.false_eq_true, hL.t, n4, ha, l0, lt9, lw]
            simp (maxSteps := 1000000) (disch := omega) only [↓reduceIte, ↓if_bi0, ↓if_bi1, hp_tg, hp_rI, hp_rR, hp_rL, hp_wI, hp_wL, Option.bind_some, if_11, if_01, bi_and1, i10, i01, bi_t, bi_f, ic_add, mr_4, ml_4, mr_8, ml_8, mr_10, ml_10, ic_add1, ic_sub1, ic_clamp, ic_div, ic_irm, ic_lt0, ic_0lt, ic_eq0, ic_lt, ic_inj, and15, and7, and31, and63, shl1, shr_ok, neg_1, neg_2, neg_3, neg_4, kc_lt0, kc_ic, kc_m2, kc_1, kc_0, i0_add, add_i0, or_i0, z_8, z_4, z_64, z_256, ic_m2, ec_m1, ic_m1, m1_lt0, m2_lt0, m3_lt0, m4_lt0, up_s, if_true, if_false, ne_eq, not_true_eq_false, not_false_eq_true, Bool.false_eq_true, eq_self, or_self, or_false, false_or, and_self, and_true, true_and, ite_self, Nat.reduceEqDiff, Nat.reduceLT, Nat.reduceMod, Nat.reduceMul, Nat.reduceAdd, Nat.reducePow, Nat.reduceDiv, lt_2, lt_3, lt_4, lt_5, lt_6, lt_7, lt_8, lt_10, lt_11, lt_12, lt_15, lt_16, lt_18, lt_20, lt_24, lt_31, lt_32, lt_48, lt_57, lt_59, lt_63, lt_64, lt_74, lt_75, lt_97, lt_122, lt_128, lt_144, lt_145, lt_146, lt_147, lt_155, lt_163, lt_171, lt_179, lt_200, lt_243, lt_244, lt_255, lt_256, lt_732, lt_900, lt_3660, lt_3904, lt_4095, lt_65536, lt_65537, lt_252645135, lt_858993459, lt_1431655765, ↓p_has_b, p_has, ↓p_has9_b, p_has9, ↓p_bit_b, p_bit, ↓p_bit1_b, p_bit1, ↓p_bit0_b, p_bit0, if_inB lt', if_inB lw', hL.t, ha, l0, lt9, lw, b1, z4]
theorem x_lU (hL : ML S m) (ha : tR S m 4 = a) (hA : MCL S a) (hm : m + 6 < a) (h : RS I L m b n tk) (hM : MR I a T) (hV : TV T) (hk : tk.1 ≠ 4) : XO S I m a b n (p_X9_readUnsure m (hp S I L)) (lbg T (dN T) 4 tk (lW b n false T (nt b n tk))) := by
  unfold lbg
  have l0 := hA.1
  obtain ⟨lu, lu'⟩ := hA.2.2.2.2.2.2.1
  obtain ⟨ly, ly'⟩ := hA.2.2.2.2.2.2.2.1
  have r6 : I a 6 = ic (dN T) := hM.2.2.2.2.2.2.1.1
  have h4 := hV.2.2.2.2.1.1
  by_cases c0 : lb T (dN T) 4 ≠ 0
  · rw [if_pos c0]
    have F := x_lb1 hL ha hA hm h hM hV.1 (c := dN T) (d := 4) (by omega) (by omega) c0
    have h5 := xF_9 I m (lb T (dN T) 4) tk.2.1
    have W := x_rwh5 (L := L) hL h5 0 15
    have W2 := x_whole5 (L := L) hL h5 0 7
    refine ⟨xF I m (lb T (dN T) 4) tk.2.1, L, ?_, h5, xF_12 _ _ _ _, xF_13 _ _ _ _, (Rf.refl I m a).xF _ _⟩
    unfold p_X9_readUnsure
    simp only [↓reduceIte, ↓if_bi0, hp_tg, hp_rR, hp_rI, hp_wI, eq_self, bi_t, bi_f, i10, if_true, if_false, Bool.false_eq_true, hL.t, ha, l0, r6]
    refine Eq.trans (bnd F) ?_
    simp only [↓reduceIte, ↓if_bi0, hp_tg, hp_rR, hp_rI, hp_wI, eq_self, bi_t, bi_f, i10, if_true, if_false, Bool.false_eq_true, hL.t]
    refine Eq.trans (bnd W) ?_
    simp only [↓reduceIte, ↓if_bi0, hp_tg, hp_rR, hp_rI, hp_wI, eq_self, bi_t, bi_f, i10, if_true, if_false, Bool.false_eq_true, hL.t]
    refine Eq.trans (bnd W2) ?_
    simp only [↓reduceIte, ↓if_bi0, hp_tg, hp_rR, hp_rI, hp_wI, eq_self, bi_t, bi_f, i10, if_true, if_false, Bool.false_eq_true, hL.t, h5]
    exact Eq.trans (if_pos (by rfl)) (x_dU57 hL h5 _)
  · rw [if_neg c0]
    have hd4 : dN T < 4 := by
      have : dN T ≠ 4 := fun q => c0 (by unfold lb; rw [if_pos q]; decide)
      omega
    obtain ⟨I1, L1, e1, s1, f1⟩ := x_lb0 hL ha hA hm h hk hM hV.1 (c := dN T) (d := 4) (by omega) (by omega) (by omega)
    have t1 := (Rf.refl I m a).yf f1
    have M1 := hM.yf f1 hm
    generalize nt b n tk = k1 at *
    unfold lW
    by_cases c1 : wf k1 0 15 ≠ 0
    · rw [if_pos c1]
      have A := x_rwh1 hL s1 (a := 0) (c := 15) (by omega) (by omega) c1
      rw [ic_zero] at A
      have h5 := xF_9 I1 m (wf k1 0 15) k1.2.1
      have W2 := x_whole5 (L := L1) hL h5 0 7
      refine ⟨xF I1 m (wf k1 0 15) k1.2.1, L1, ?_, h5, xF_12 _ _ _ _, xF_13 _ _ _ _, t1.xF _ _⟩
      unfold p_X9_readUnsure
      simp only [↓reduceIte, ↓if_bi0, hp_tg, hp_rR, hp_rI, hp_wI, eq_self, bi_t, bi_f, i10, if_true, if_false, Bool.false_eq_true, hL.t, ha, l0, r6]
      refine Eq.trans (bnd e1) ?_
      simp only [↓reduceIte, ↓if_bi0, hp_tg, hp_rR, hp_rI, hp_wI, eq_self, bi_t, bi_f, i10, if_true, if_false, Bool.false_eq_true, hL.t]
      refine Eq.trans (bnd A) ?_
      simp only [↓reduceIte, ↓if_bi0, hp_tg, hp_rR, hp_rI, hp_wI, eq_self, bi_t, bi_f, i10, if_true, if_false, Bool.false_eq_true, hL.t]
      refine Eq.trans (bnd W2) ?_
      simp only [↓reduceIte, ↓if_bi0, hp_tg, hp_rR, hp_rI, hp_wI, eq_self, bi_t, bi_f, i10, if_true, if_false, Bool.false_eq_true, hL.t, h5]
      exact Eq.trans (if_pos (by rfl)) (x_dU57 hL h5 _)
    · rw [if_neg c1]
      have c1' : wf k1 0 15 = 0 := by omega
      have w1 := (wf_2 c1').2.2
      obtain ⟨I2, L2, e2, s2, f2⟩ := x_rwh0 hL s1 (a := 0) (c := 15) (by omega) (by omega) c1'
      rw [ic_zero] at e2
      have t2 := t1.yf f2
      have M2 := M1.yf f2 hm
      generalize nt b n k1 = k2 at *
      by_cases c2 : wf k2 0 7 ≠ 0
      · rw [if_pos c2]
        have A := s2.wh1 hL (a := 0) (c := 7) (by omega) (by omega) c2
        rw [ic_zero] at A
        have h5 := xF_9 I2 m (wf k2 0 7) k2.2.1
        refine ⟨xF I2 m (wf k2 0 7) k2.2.1, L2, ?_, h5, xF_12 _ _ _ _, xF_13 _ _ _ _, t2.xF _ _⟩
        unfold p_X9_readUnsure
        simp only [↓reduceIte, ↓if_bi0, hp_tg, hp_rR, hp_rI, hp_wI, eq_self, bi_t, bi_f, i10, if_true, if_false, Bool.false_eq_true, hL.t, ha, l0, r6]
        refine Eq.trans (bnd e1) ?_
        simp only [↓reduceIte, ↓if_bi0, hp_tg, hp_rR, hp_rI, hp_wI, eq_self, bi_t, bi_f, i10, if_true, if_false, Bool.false_eq_true, hL.t]
        refine Eq.trans (bnd e2) ?_
        simp only [↓reduceIte, ↓if_bi0, hp_tg, hp_rR, hp_rI, hp_wI, eq_self, bi_t, bi_f, i10, if_true, if_false, Bool.false_eq_true, hL.t]
        refine Eq.trans (bnd A) ?_
        simp only [↓reduceIte, ↓if_bi0, hp_tg, hp_rR, hp_rI, hp_wI, eq_self, bi_t, bi_f, i10, if_true, if_false, Bool.false_eq_true, hL.t, h5]
        exact Eq.trans (if_pos (by rfl)) (x_dU57 hL h5 _)
      · rw [if_neg c2]
        have c2' : wf k2 0 7 = 0 := by omega
        have w2 := (wf_2 c2').2.2
        have A := s2.wh0 hL (a := 0) (c := 7) (by omega) (by omega) c2'
        rw [ic_zero] at A
        have n2 := s2.n5
        have U := x_isUnsure (L := L2) hA M2 hV (k := 8 * k1.2.2.2 + k2.2.2.2) (by omega)
        show XO S I m a b n _ (if isU T (8 * k1.2.2.2 + k2.2.2.2) = true then _ else _)
        by_cases c3 : isU T (8 * k1.2.2.2 + k2.2.2.2) = true
        · rw [if_pos c3]
          rw [c3] at U
          have F := s2.flaw hL 3
          have h5 := xF_9 I2 m 3 k2.2.1
          have D := x_dU57 (L := L2) hL h5 (ic (8 * k1.2.2.2 + k2.2.2.2))
          refine ⟨xF I2 m 3 k2.2.1, L2, ?_, h5, xF_12 _ _ _ _, xF_13 _ _ _ _, t2.xF _ _⟩
          unfold p_X9_readUnsure
          simp only [↓reduceIte, ↓if_bi0, hp_tg, hp_rR, hp_rI, hp_wI, eq_self, bi_t, bi_f, i10, if_true, if_false, Bool.false_eq_true, hL.t, ha, l0, r6]
          refine Eq.trans (bnd e1) ?_
          simp only [↓reduceIte, ↓if_bi0, hp_tg, hp_rR, hp_rI, hp_wI, eq_self, bi_t, bi_f, i10, if_true, if_false, Bool.false_eq_true, hL.t]
          refine Eq.trans (bnd e2) ?_
          simp only [↓reduceIte, ↓if_bi0, hp_tg, hp_rR, hp_rI, hp_wI, eq_self, bi_t, bi_f, i10, if_true, if_false, Bool.false_eq_true, hL.t]
          refine Eq.trans (bnd A) ?_
          simp only [↓reduceIte, ↓if_bi0, hp_tg, hp_rR, hp_rI, hp_wI, eq_self, bi_t, bi_f, i10, if_true, if_false, Bool.false_eq_true, hL.t, n2, ha, l0, at_8]
          refine Eq.trans (bnd U) ?_
          refine Eq.trans (if_neg (by show ¬ bi true = 0; decide)) ?_
          simp only [↓reduceIte, ↓if_bi0, hp_tg, hp_rR, hp_rI, hp_wI, eq_self, bi_t, bi_f, i10, if_true, if_false, Bool.false_eq_true, hL.t]
          refine Eq.trans (bnd F) ?_
          exact D
        · rw [if_neg c3]
          rw [show isU T (8 * k1.2.2.2 + k2.2.2.2) = false by simpa using c3] at U
          have g1 : p_X9_readUnsure m (hp S I L) = p_X9_readUnsure_57 m (ic (8 * k1.2.2.2 + k2.2.2.2)) (hp S I2 L2) := by
            unfold p_X9_readUnsure
            simp only [↓reduceIte, ↓if_bi0, hp_tg, hp_rR, hp_rI, hp_wI, eq_self, bi_t, bi_f, i10, if_true, if_false, Bool.false_eq_true, hL.t, ha, l0, r6]
            refine Eq.trans (bnd e1) ?_
            simp only [↓reduceIte, ↓if_bi0, hp_tg, hp_rR, hp_rI, hp_wI, eq_self, bi_t, bi_f, i10, if_true, if_false, Bool.false_eq_true, hL.t]
            refine Eq.trans (bnd e2) ?_
            simp only [↓reduceIte, ↓if_bi0, hp_tg, hp_rR, hp_rI, hp_wI, eq_self, bi_t, bi_f, i10, if_true, if_false, Bool.false_eq_true, hL.t]
            refine Eq.trans (bnd A) ?_
            simp only [↓reduceIte, ↓if_bi0, hp_tg, hp_rR, hp_rI, hp_wI, eq_self, bi_t, bi_f, i10, if_true, if_false, Bool.false_eq_true, hL.t, n2, ha, l0, at_8]
            refine Eq.trans (bnd U) ?_
            exact if_pos (by rfl)
          rw [g1]
          clear g1
          obtain ⟨I3, L3, e3, s3, f3⟩ := x_next hL s2 (by rw [(wf_2 c2').1]; decide)
          have t3 := t2.yf f3
          have M3 := M2.yf f3 hm
          generalize nt b n k2 = k3 at *
          by_cases c4 : wf k3 0 4095 ≠ 0
          · rw [if_pos c4]
            have A3 := x_rwh1 hL s3 (a := 0) (c := 4095) (by omega) (by omega) c4
            rw [ic_zero] at A3
            have h5 := xF_9 I3 m (wf k3 0 4095) k3.2.1
            refine ⟨xF I3 m (wf k3 0 4095) k3.2.1, L3, ?_, h5, xF_12 _ _ _ _, xF_13 _ _ _ _, t3.xF _ _⟩
            unfold p_X9_readUnsure_57
            simp only [↓reduceIte, ↓if_bi0, hp_tg, hp_rR, hp_rI, hp_wI, eq_self, bi_t, bi_f, i10, if_true, if_false, Bool.false_eq_true, hL.t]
            refine Eq.trans (bnd e3) ?_
            simp only [↓reduceIte, ↓if_bi0, hp_tg, hp_rR, hp_rI, hp_wI, eq_self, bi_t, bi_f, i10, if_true, if_false, Bool.false_eq_true, hL.t]
            refine Eq.trans (bnd A3) ?_
            simp only [↓reduceIte, ↓if_bi0, hp_tg, hp_rR, hp_rI, hp_wI, eq_self, bi_t, bi_f, i10, if_true, if_false, Bool.false_eq_true, hL.t, h5]
            exact if_pos (by rfl)
          · rw [if_neg c4]
            obtain ⟨I4, L4, e4, s4, f4⟩ := x_rwh0 hL s3 (a := 0) (c := 4095) (by omega) (by omega) (by omega)
            rw [ic_zero] at e4
            have t4 := t3.yf f4
            have M4 := M3.yf f4 hm
            have n4 := s4.n5
            have M5 := M4.uD (k := 8 * k1.2.2.2 + k2.2.2.2) (v := k3.2.2.2)
            have z0 : I4 a 6 = ic (dN T) := M4.2.2.2.2.2.2.1.1
            have z1 : up2 I4 (a + 6) (dN T) (ic (8 * k1.2.2.2 + k2.2.2.2)) a 6 = ic (dN T) := by rw [up_a (by omega)]; exact z0
            have z2 : up2 (up2 I4 (a + 6) (dN T) (ic (8 * k1.2.2.2 + k2.2.2.2))) (a + 7) (dN T) (ic k3.2.2.2) a 6 = ic (dN T) := by rw [up_a (by omega)]; exact z1
            have t5 := ((t4.up hm (y := a + 6) (by omega) (by omega) (dN T) (ic (8 * k1.2.2.2 + k2.2.2.2))).up hm (y := a + 7) (by omega) (by omega) (dN T) (ic k3.2.2.2)).up hm (y := a) (by omega) (by omega) 6 (ic (dN T + 1))
            have s5 := ((s4.up (y := a + 6) (by omega) (dN T) (ic (8 * k1.2.2.2 + k2.2.2.2))).up (y := a + 7) (by omega) (dN T) (ic k3.2.2.2)).up (y := a) (by omega) 6 (ic (dN T + 1))
            have q : ∀ j, 11 < j → up2 (up2 (up2 I4 (a + 6) (dN T) (ic (8 * k1.2.2.2 + k2.2.2.2))) (a + 7) (dN T) (ic k3.2.2.2)) a 6 (ic (dN T + 1)) m j = I m j := fun j hj => by rw [up_a (by omega), up_a (by omega), up_a (by omega), f4.1 j (by omega), f3.1 j (by omega), f2.1 j (by omega), f1.1 j (by omega)]
            refine ⟨_, L4, ?_, s5, M5, q 12 (by omega), q 13 (by omega), t5⟩
            unfold p_X9_readUnsure_57
            simp only [↓reduceIte, ↓if_bi0, hp_tg, hp_rR, hp_rI, hp_wI, eq_self, bi_t, bi_f, i10, if_true, if_false, Bool.false_eq_true, hL.t]
            refine Eq.trans (bnd e3) ?_
            simp only [↓reduceIte, ↓if_bi0, hp_tg, hp_rR, hp_rI, hp_wI, eq_self, bi_t, bi_f, i10, if_true, if_false, Bool.false_eq_true, hL.t]
            refine Eq.trans (bnd e4) ?_
            simp only [↓reduceIte, ↓if_bi0, hp_tg, hp_rR, hp_rI, hp_wI, eq_self, bi_t, bi_f, i10, if_true, if_false, Bool.false_eq_true, hL.t, n4, ha, l0, lu, ly]
            simp (maxSteps := 1000000) (disch := omega) only [↓reduceIte, ↓if_bi0, ↓if_bi1, hp_tg, hp_rI, hp_rR, hp_rL, hp_wI, hp_wL, Option.bind_some, if_11, if_01, bi_and1, i10, i01, bi_t, bi_f, ic_add, mr_4, ml_4, mr_8, ml_8, mr_10, ml_10, ic_add1, ic_sub1, ic_clamp, ic_div, ic_irm, ic_lt0, ic_0lt, ic_eq0, ic_lt, ic_inj, and15, and7, and31, and63, shl1, shr_ok, neg_1, neg_2, neg_3, neg_4, kc_lt0, kc_ic, kc_m2, kc_1, kc_0, i0_add, add_i0, or_i0, z_8, z_4, z_64, z_256, ic_m2, ec_m1, ic_m1, m1_lt0, m2_lt0, m3_lt0, m4_lt0, up_s, if_true, if_false, ne_eq, not_true_eq_false, not_false_eq_true, Bool.false_eq_true, eq_self, or_self, or_false, false_or, and_self, and_true, true_and, ite_self, Nat.reduceEqDiff, Nat.reduceLT, Nat.reduceMod, Nat.reduceMul, Nat.reduceAdd, Nat.reducePow, Nat.reduceDiv, lt_2, lt_3, lt_4, lt_5, lt_6, lt_7, lt_8, lt_10, lt_11, lt_12, lt_15, lt_16, lt_18, lt_20, lt_24, lt_31, lt_32, lt_48, lt_57, lt_59, lt_63, lt_64, lt_74, lt_75, lt_97, lt_122, lt_128, lt_144, lt_145, lt_146, lt_147, lt_155, lt_163, lt_171, lt_179, lt_200, lt_243, lt_244, lt_255, lt_256, lt_732, lt_900, lt_3660, lt_3904, lt_4095, lt_65536, lt_65537, lt_252645135, lt_858993459, lt_1431655765, ↓p_has_b, p_has, ↓p_has9_b, p_has9, ↓p_bit_b, p_bit, ↓p_bit1_b, p_bit1, ↓p_bit0_b, p_bit0, if_inB lu', if_inB ly', hL.t, ha, l0, lu, ly, z0, z1, z2]
end XWORD
