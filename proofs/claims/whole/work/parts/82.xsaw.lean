/-! ===== runs, sights, and every line: the reference ===== -/
section XSAW
variable {S : SH} {I J : II} {L : LL} {m n a : Nat} {b : Nat → Nat} {tk : TK} {T : TS}
theorem MR.uN (h : MR I a T) {v w : Nat} (hw : w < 4) : MR (up2 (up2 (up2 I (a + 4) (tN T) (ic v)) (a + 5) (tN T) (ic w)) a 5 (ic (tN T + 1))) a (uN T (4 * v + w)) := by
  obtain ⟨r0, r1, r2, r3, r4, ⟨r5, r5'⟩, ⟨r6, r6'⟩, ⟨r7, r7'⟩, r8, r9, r10⟩ := h
  have e : ∀ y, y ≠ a → y ≠ a + 4 → y ≠ a + 5 → up2 (up2 (up2 I (a + 4) (tN T) (ic v)) (a + 5) (tN T) (ic w)) a 5 (ic (tN T + 1)) y = I y := fun y h1 h2 h3 => funext fun j => by rw [up_a h1, up_a h3, up_a h2]
  have q : ∀ j, j ≠ 5 → up2 (up2 (up2 I (a + 4) (tN T) (ic v)) (a + 5) (tN T) (ic w)) a 5 (ic (tN T + 1)) a j = I a j := fun j h1 => by rw [up_k h1, up_a (by omega), up_a (by omega)]
  refine ⟨by rw [q 0 (by omega)]; exact r0, by rw [q 1 (by omega)]; exact r1, by rw [q 2 (by omega)]; exact r2, by rw [q 3 (by omega)]; exact r3, by rw [q 4 (by omega)]; exact r4, ⟨by rw [up_s]; rfl, fun i hi => ?_⟩, ⟨by rw [q 6 (by omega)]; exact r6, fun i hi => by rw [e _ (by omega) (by omega) (by omega), e _ (by omega) (by omega) (by omega)]; exact r6' i hi⟩, ⟨by rw [q 7 (by omega)]; exact r7, fun i hi => by rw [e _ (by omega) (by omega) (by omega), e _ (by omega) (by omega) (by omega), e _ (by omega) (by omega) (by omega)]; exact r7' i hi⟩, fun g hg => by rw [e _ (by omega) (by omega) (by omega)]; exact r8 g hg, fun i hi => by rw [e _ (by omega) (by omega) (by omega)]; exact r9 i hi, fun i hi => by rw [e _ (by omega) (by omega) (by omega)]; exact r10 i hi⟩
  have hi9 : i < tN T + 1 := hi
  show up2 (up2 (up2 I (a + 4) (tN T) (ic v)) (a + 5) (tN T) (ic w)) a 5 (ic (tN T + 1)) (a + 4) i = ic (up1 (tY T) (tN T) (4 * v + w) i / 4) ∧ up2 (up2 (up2 I (a + 4) (tN T) (ic v)) (a + 5) (tN T) (ic w)) a 5 (ic (tN T + 1)) (a + 5) i = ic (up1 (tY T) (tN T) (4 * v + w) i % 4)
  rw [up_a (show a + 4 ≠ a by omega), up_a (show a + 4 ≠ a + 5 by omega), up_i, up_a (show a + 5 ≠ a by omega), up_i, up_a (show a + 5 ≠ a + 4 by omega)]
  by_cases d : i = tN T
  · rw [if_pos d, if_pos d, d, up1_s]; exact ⟨by rw [show (4 * v + w) / 4 = v by omega], by rw [show (4 * v + w) % 4 = w by omega]⟩
  · rw [if_neg d, if_neg d, up1_n d]; exact r5' i (by omega)
theorem MR.uZ (h : MR I a T) {v w : Nat} (hw : w < 4) (z : Int32) : MR (up2 (up2 (up2 (up2 I (a + 8) (zN T) (ic v)) (a + 9) (zN T) (ic w)) (a + 10) (zN T) z) a 7 (ic (zN T + 1))) a (uZ T (4 * v + w) z) := by
  obtain ⟨r0, r1, r2, r3, r4, ⟨r5, r5'⟩, ⟨r6, r6'⟩, ⟨r7, r7'⟩, r8, r9, r10⟩ := h
  have e : ∀ y, y ≠ a → y ≠ a + 8 → y ≠ a + 9 → y ≠ a + 10 → up2 (up2 (up2 (up2 I (a + 8) (zN T) (ic v)) (a + 9) (zN T) (ic w)) (a + 10) (zN T) z) a 7 (ic (zN T + 1)) y = I y := fun y h1 h2 h3 h4 => funext fun j => by rw [up_a h1, up_a h4, up_a h3, up_a h2]
  have q : ∀ j, j ≠ 7 → up2 (up2 (up2 (up2 I (a + 8) (zN T) (ic v)) (a + 9) (zN T) (ic w)) (a + 10) (zN T) z) a 7 (ic (zN T + 1)) a j = I a j := fun j h1 => by rw [up_k h1, up_a (by omega), up_a (by omega), up_a (by omega)]
  refine ⟨by rw [q 0 (by omega)]; exact r0, by rw [q 1 (by omega)]; exact r1, by rw [q 2 (by omega)]; exact r2, by rw [q 3 (by omega)]; exact r3, by rw [q 4 (by omega)]; exact r4, ⟨by rw [q 5 (by omega)]; exact r5, fun i hi => by rw [e _ (by omega) (by omega) (by omega) (by omega), e _ (by omega) (by omega) (by omega) (by omega)]; exact r5' i hi⟩, ⟨by rw [q 6 (by omega)]; exact r6, fun i hi => by rw [e _ (by omega) (by omega) (by omega) (by omega), e _ (by omega) (by omega) (by omega) (by omega)]; exact r6' i hi⟩, ⟨by rw [up_s]; rfl, fun i hi => ?_⟩, fun g hg => by rw [e _ (by omega) (by omega) (by omega) (by omega)]; exact r8 g hg, fun i hi => by rw [e _ (by omega) (by omega) (by omega) (by omega)]; exact r9 i hi, fun i hi => by rw [e _ (by omega) (by omega) (by omega) (by omega)]; exact r10 i hi⟩
  have hi9 : i < zN T + 1 := hi
  show up2 (up2 (up2 (up2 I (a + 8) (zN T) (ic v)) (a + 9) (zN T) (ic w)) (a + 10) (zN T) z) a 7 (ic (zN T + 1)) (a + 8) i = ic (up1 (zY T) (zN T) (4 * v + w) i / 4) ∧ up2 (up2 (up2 (up2 I (a + 8) (zN T) (ic v)) (a + 9) (zN T) (ic w)) (a + 10) (zN T) z) a 7 (ic (zN T + 1)) (a + 9) i = ic (up1 (zY T) (zN T) (4 * v + w) i % 4) ∧ up2 (up2 (up2 (up2 I (a + 8) (zN T) (ic v)) (a + 9) (zN T) (ic w)) (a + 10) (zN T) z) a 7 (ic (zN T + 1)) (a + 10) i = up1 (zH T) (zN T) z i
  rw [up_a (show a + 8 ≠ a by omega), up_a (show a + 8 ≠ a + 10 by omega), up_a (show a + 8 ≠ a + 9 by omega), up_i, up_a (show a + 9 ≠ a by omega), up_a (show a + 9 ≠ a + 10 by omega), up_i, up_a (show a + 9 ≠ a + 8 by omega), up_a (show a + 10 ≠ a by omega), up_i, up_a (show a + 10 ≠ a + 9 by omega), up_a (show a + 10 ≠ a + 8 by omega)]
  by_cases d : i = zN T
  · rw [if_pos d, if_pos d, if_pos d, d, up1_s, up1_s]; exact ⟨by rw [show (4 * v + w) / 4 = v by omega], by rw [show (4 * v + w) % 4 = w by omega], rfl⟩
  · rw [if_neg d, if_neg d, if_neg d, up1_n d, up1_n d]; exact r7' i (by omega)
theorem x_lR (hL : ML S m) (ha : tR S m 4 = a) (hA : MCL S a) (hm : m + 6 < a) (h : RS I L m b n tk) (hM : MR I a T) (hV : TV T) (hk : tk.1 ≠ 4) : XO S I m a b n (p_X9_readRun m (hp S I L)) (lbg T (tN T) 10 tk (lR b n T (nt b n tk))) := by
  unfold lbg
  have l0 := hA.1
  obtain ⟨lu, lu'⟩ := hA.2.2.2.2.1
  obtain ⟨ly, ly'⟩ := hA.2.2.2.2.2.1
  have r5 : I a 5 = ic (tN T) := hM.2.2.2.2.2.1.1
  have h10 := hV.2.2.2.1.1
  by_cases c0 : lb T (tN T) 10 ≠ 0
  · rw [if_pos c0]
    have F := x_lb1 hL ha hA hm h hM hV.1 (c := tN T) (d := 10) (by omega) (by omega) c0
    have h5 := xF_9 I m (lb T (tN T) 10) tk.2.1
    have W := x_rwh5 (L := L) hL h5 0 63
    have W2 := x_mode5 (L := L) hL h5
    have G := x_goes0 (L := L) hL h5
    refine ⟨xF I m (lb T (tN T) 10) tk.2.1, L, ?_, h5, xF_12 _ _ _ _, xF_13 _ _ _ _, (Rf.refl I m a).xF _ _⟩
    unfold p_X9_readRun
    simp only [↓reduceIte, ↓if_bi0, hp_tg, hp_rR, hp_rI, hp_wI, eq_self, bi_t, bi_f, i10, if_true, if_false, Bool.false_eq_true, hL.t, ha, l0, r5]
    refine Eq.trans (bnd F) ?_
    simp only [↓reduceIte, ↓if_bi0, hp_tg, hp_rR, hp_rI, hp_wI, eq_self, bi_t, bi_f, i10, if_true, if_false, Bool.false_eq_true, hL.t]
    refine Eq.trans (bnd W) ?_
    simp only [↓reduceIte, ↓if_bi0, hp_tg, hp_rR, hp_rI, hp_wI, eq_self, bi_t, bi_f, i10, if_true, if_false, Bool.false_eq_true, hL.t]
    refine Eq.trans (bnd W2) ?_
    simp only [↓reduceIte, ↓if_bi0, hp_tg, hp_rR, hp_rI, hp_wI, eq_self, bi_t, bi_f, i10, if_true, if_false, Bool.false_eq_true, hL.t]
    refine Eq.trans (bnd G) ?_
    simp only [↓reduceIte, ↓if_bi0, hp_tg, hp_rR, hp_rI, hp_wI, eq_self, bi_t, bi_f, i10, if_true, if_false, Bool.false_eq_true, hL.t, h5]
    exact if_pos (by rfl)
  · rw [if_neg c0]
    have hd10 : tN T < 10 := by
      have : tN T ≠ 10 := fun q => c0 (by unfold lb; rw [if_pos q]; decide)
      omega
    obtain ⟨I1, L1, e1, s1, f1⟩ := x_lb0 hL ha hA hm h hk hM hV.1 (c := tN T) (d := 10) (by omega) (by omega) (by omega)
    have t1 := (Rf.refl I m a).yf f1
    have M1 := hM.yf f1 hm
    generalize nt b n tk = k1 at *
    unfold lR
    by_cases c1 : wf k1 0 63 ≠ 0
    · rw [if_pos c1]
      have A := x_rwh1 hL s1 (a := 0) (c := 63) (by omega) (by omega) c1
      rw [ic_zero] at A
      have h5 := xF_9 I1 m (wf k1 0 63) k1.2.1
      have W2 := x_mode5 (L := L1) hL h5
      have G := x_goes0 (L := L1) hL h5
      refine ⟨xF I1 m (wf k1 0 63) k1.2.1, L1, ?_, h5, xF_12 _ _ _ _, xF_13 _ _ _ _, t1.xF _ _⟩
      unfold p_X9_readRun
      simp only [↓reduceIte, ↓if_bi0, hp_tg, hp_rR, hp_rI, hp_wI, eq_self, bi_t, bi_f, i10, if_true, if_false, Bool.false_eq_true, hL.t, ha, l0, r5]
      refine Eq.trans (bnd e1) ?_
      simp only [↓reduceIte, ↓if_bi0, hp_tg, hp_rR, hp_rI, hp_wI, eq_self, bi_t, bi_f, i10, if_true, if_false, Bool.false_eq_true, hL.t]
      refine Eq.trans (bnd A) ?_
      simp only [↓reduceIte, ↓if_bi0, hp_tg, hp_rR, hp_rI, hp_wI, eq_self, bi_t, bi_f, i10, if_true, if_false, Bool.false_eq_true, hL.t]
      refine Eq.trans (bnd W2) ?_
      simp only [↓reduceIte, ↓if_bi0, hp_tg, hp_rR, hp_rI, hp_wI, eq_self, bi_t, bi_f, i10, if_true, if_false, Bool.false_eq_true, hL.t]
      refine Eq.trans (bnd G) ?_
      simp only [↓reduceIte, ↓if_bi0, hp_tg, hp_rR, hp_rI, hp_wI, eq_self, bi_t, bi_f, i10, if_true, if_false, Bool.false_eq_true, hL.t, h5]
      exact if_pos (by rfl)
    · rw [if_neg c1]
      have c1' : wf k1 0 63 = 0 := by omega
      obtain ⟨I2, L2, e2, s2, f2⟩ := x_rwh0 hL s1 (a := 0) (c := 63) (by omega) (by omega) c1'
      rw [ic_zero] at e2
      have t2 := t1.yf f2
      have M2 := M1.yf f2 hm
      generalize nt b n k1 = k2 at *
      cases hmo : mo b k2 with
      | none =>
        have A := x_mode0 hL s2 hmo
        have h5 := xF_9 I2 m 1 k2.2.1
        have G := x_goes0 (L := L2) hL h5
        refine ⟨xF I2 m 1 k2.2.1, L2, ?_, h5, xF_12 _ _ _ _, xF_13 _ _ _ _, t2.xF _ _⟩
        unfold p_X9_readRun
        simp only [↓reduceIte, ↓if_bi0, hp_tg, hp_rR, hp_rI, hp_wI, eq_self, bi_t, bi_f, i10, if_true, if_false, Bool.false_eq_true, hL.t, ha, l0, r5]
        refine Eq.trans (bnd e1) ?_
        simp only [↓reduceIte, ↓if_bi0, hp_tg, hp_rR, hp_rI, hp_wI, eq_self, bi_t, bi_f, i10, if_true, if_false, Bool.false_eq_true, hL.t]
        refine Eq.trans (bnd e2) ?_
        simp only [↓reduceIte, ↓if_bi0, hp_tg, hp_rR, hp_rI, hp_wI, eq_self, bi_t, bi_f, i10, if_true, if_false, Bool.false_eq_true, hL.t]
        refine Eq.trans (bnd A) ?_
        simp only [↓reduceIte, ↓if_bi0, hp_tg, hp_rR, hp_rI, hp_wI, eq_self, bi_t, bi_f, i10, if_true, if_false, Bool.false_eq_true, hL.t]
        refine Eq.trans (bnd G) ?_
        simp only [↓reduceIte, ↓if_bi0, hp_tg, hp_rR, hp_rI, hp_wI, eq_self, bi_t, bi_f, i10, if_true, if_false, Bool.false_eq_true, hL.t, h5]
        exact if_pos (by rfl)
      | some w =>
        have A := x_mode1 hL s2 hmo
        obtain ⟨w4, w1⟩ := mo_lt hmo
        obtain ⟨I4, L4, e4, s4, f4⟩ := x_next hL s2 (by rw [w1]; decide)
        have t4 := t2.yf f4
        have M4 := M2.yf f4 hm
        have n4 := s4.n5
        have M5 := M4.uN (v := k1.2.2.2) w4
        have z0 : I4 a 5 = ic (tN T) := M4.2.2.2.2.2.1.1
        have z1 : up2 I4 (a + 4) (tN T) (ic k1.2.2.2) a 5 = ic (tN T) := by rw [up_a (by omega)]; exact z0
        have z2 : up2 (up2 I4 (a + 4) (tN T) (ic k1.2.2.2)) (a + 5) (tN T) (ic w) a 5 = ic (tN T) := by rw [up_a (by omega)]; exact z1
        have t5 := ((t4.up hm (y := a + 4) (by omega) (by omega) (tN T) (ic k1.2.2.2)).up hm (y := a + 5) (by omega) (by omega) (tN T) (ic w)).up hm (y := a) (by omega) (by omega) 5 (ic (tN T + 1))
        have s5 := ((s4.up (y := a + 4) (by omega) (tN T) (ic k1.2.2.2)).up (y := a + 5) (by omega) (tN T) (ic w)).up (y := a) (by omega) 5 (ic (tN T + 1))
        have q : ∀ j, 11 < j → up2 (up2 (up2 I4 (a + 4) (tN T) (ic k1.2.2.2)) (a + 5) (tN T) (ic w)) a 5 (ic (tN T + 1)) m j = I m j := fun j hj => by rw [up_a (by omega), up_a (by omega), up_a (by omega), f4.1 j (by omega), f2.1 j (by omega), f1.1 j (by omega)]
        refine ⟨_, L4, ?_, s5, M5, q 12 (by omega), q 13 (by omega), t5⟩
        unfold p_X9_readRun
        simp only [↓reduceIte, ↓if_bi0, hp_tg, hp_rR, hp_rI, hp_wI, eq_self, bi_t, bi_f, i10, if_true, if_false, Bool.false_eq_true, hL.t, ha, l0, r5]
        refine Eq.trans (bnd e1) ?_
        simp only [↓reduceIte, ↓if_bi0, hp_tg, hp_rR, hp_rI, hp_wI, eq_self, bi_t, bi_f, i10, if_true, if_false, Bool.false_eq_true, hL.t]
        refine Eq.trans (bnd e2) ?_
        simp only [↓reduceIte, ↓if_bi0, hp_tg, hp_rR, hp_rI, hp_wI, eq_self, bi_t, bi_f, i10, if_true, if_false, Bool.false_eq_true, hL.t]
        refine Eq.trans (bnd A) ?_
        simp only [↓reduceIte, ↓if_bi0, hp_tg, hp_rR, hp_rI, hp_wI, eq_self, bi_t, bi_f, i10, if_true, if_false, Bool.false_eq_true, hL.t]
        refine Eq.trans (bnd e4) ?_
        simp only [↓reduceIte, ↓if_bi0, hp_tg, hp_rR, hp_rI, hp_wI, eq_self, bi_t, bi_f, i10, if_true, if_false, Bool.false_eq_true, hL.t, n4, ha, l0, lu, ly]
        simp (maxSteps := 1000000) (disch := omega) only [↓reduceIte, ↓if_bi0, ↓if_bi1, hp_tg, hp_rI, hp_rR, hp_rL, hp_wI, hp_wL, Option.bind_some, if_11, if_01, bi_and1, i10, i01, bi_t, bi_f, ic_add, mr_4, ml_4, mr_8, ml_8, mr_10, ml_10, ic_add1, ic_sub1, ic_clamp, ic_div, ic_irm, ic_lt0, ic_0lt, ic_eq0, ic_lt, ic_inj, and15, and7, and31, and63, shl1, shr_ok, neg_1, neg_2, neg_3, neg_4, kc_lt0, kc_ic, kc_m2, kc_1, kc_0, i0_add, add_i0, or_i0, z_8, z_4, z_64, z_256, ic_m2, ec_m1, ic_m1, m1_lt0, m2_lt0, m3_lt0, m4_lt0, up_s, if_true, if_false, ne_eq, not_true_eq_false, not_false_eq_true, Bool.false_eq_true, eq_self, or_self, or_false, false_or, and_self, and_true, true_and, ite_self, Nat.reduceEqDiff, Nat.reduceLT, Nat.reduceMod, Nat.reduceMul, Nat.reduceAdd, Nat.reducePow, Nat.reduceDiv, lt_2, lt_3, lt_4, lt_5, lt_6, lt_7, lt_8, lt_10, lt_11, lt_12, lt_15, lt_16, lt_18, lt_20, lt_24, lt_31, lt_32, lt_48, lt_57, lt_59, lt_63, lt_64, lt_74, lt_75, lt_97, lt_122, lt_128, lt_144, lt_145, lt_146, lt_147, lt_155, lt_163, lt_171, lt_179, lt_200, lt_243, lt_244, lt_255, lt_256, lt_732, lt_900, lt_3660, lt_3904, lt_4095, lt_65536, lt_65537, lt_252645135, lt_858993459, lt_1431655765, ↓p_has_b, p_has, ↓p_has9_b, p_has9, ↓p_bit_b, p_bit, ↓p_bit1_b, p_bit1, ↓p_bit0_b, p_bit0, if_inB lu', if_inB ly', hL.t, ha, l0, lu, ly, z0, z1, z2]
theorem x_dS122 (hL : ML S m) (h5 : I m 9 = ic 5) (x1 x2 x3 : Int32) : p_X9_readSaw_122 m x1 x2 x3 (hp S I L) = some (hp S I L) := by
  have G := x_goes0 (L := L) hL h5
  unfold p_X9_readSaw_122
  simp only [↓reduceIte, ↓if_bi0, hp_tg, hp_rR, hp_rI, hp_wI, eq_self, bi_t, bi_f, i10, if_true, if_false, Bool.false_eq_true, hL.t]
  refine Eq.trans (bnd G) ?_
  simp only [↓reduceIte, ↓if_bi0, hp_tg, hp_rR, hp_rI, hp_wI, eq_self, bi_t, bi_f, i10, if_true, if_false, Bool.false_eq_true, hL.t, h5]
  exact if_pos (by rfl)
theorem x_dS122_b (hL : ML S m) (h5 : I m 9 = ic 5) (x1 x2 x3 : Int32) {β : Type} (f9 : AH → Option β) : (p_X9_readSaw_122 m x1 x2 x3 (hp S I L)).bind f9 = f9 (hp S I L) := bnd (by apply x_dS122 <;> assumption)
theorem x_dS51 (hL : ML S m) (h5 : I m 9 = ic 5) (x1 x2 : Int32) : p_X9_readSaw_51 m x1 x2 (hp S I L) = some (hp S I L) := by
  have G := x_goes0 (L := L) hL h5
  have A1 := x_word5 (L := L) hL h5 15
  have A2 := x_word5 (L := L) hL h5 16
  have A3 := x_word5 (L := L) hL h5 17
  have A4 := x_word5 (L := L) hL h5 18
  have F := x_flaw5 (L := L) hL h5 1
  have D := x_dS122 (L := L) hL h5 x1 x2 1
  unfold p_X9_readSaw_51
  simp only [↓reduceIte, ↓if_bi0, hp_tg, hp_rR, hp_rI, hp_wI, eq_self, bi_t, bi_f, i10, if_true, if_false, Bool.false_eq_true, hL.t]
  refine Eq.trans (bnd G) ?_
  simp only [↓reduceIte, ↓if_bi0, hp_tg, hp_rR, hp_rI, hp_wI, eq_self, bi_t, bi_f, i10, if_true, if_false, Bool.false_eq_true, hL.t]
  refine Eq.trans (bnd A1) ?_
  simp only [↓reduceIte, ↓if_bi0, hp_tg, hp_rR, hp_rI, hp_wI, eq_self, bi_t, bi_f, i10, if_true, if_false, Bool.false_eq_true, hL.t]
  refine Eq.trans (bnd A2) ?_
  simp only [↓reduceIte, ↓if_bi0, hp_tg, hp_rR, hp_rI, hp_wI, eq_self, bi_t, bi_f, i10, if_true, if_false, Bool.false_eq_true, hL.t]
  refine Eq.trans (bnd A3) ?_
  simp only [↓reduceIte, ↓if_bi0, hp_tg, hp_rR, hp_rI, hp_wI, eq_self, bi_t, bi_f, i10, if_true, if_false, Bool.false_eq_true, hL.t]
  refine Eq.trans (bnd A4) ?_
  simp only [↓reduceIte, ↓if_bi0, hp_tg, hp_rR, hp_rI, hp_wI, eq_self, bi_t, bi_f, i10, if_true, if_false, Bool.false_eq_true, hL.t]
  unfold p_X9_readSaw_111
  simp only [↓reduceIte, ↓if_bi0, hp_tg, hp_rR, hp_rI, hp_wI, eq_self, bi_t, bi_f, i10, if_true, if_false, Bool.false_eq_true, hL.t]
  refine Eq.trans (bnd F) ?_
  exact D
theorem x_dS51_b (hL : ML S m) (h5 : I m 9 = ic 5) (x1 x2 : Int32) {β : Type} (f9 : AH → Option β) : (p_X9_readSaw_51 m x1 x2 (hp S I L)).bind f9 = f9 (hp S I L) := bnd (by apply x_dS51 <;> assumption)
theorem x_h51 (hL : ML S m) (h : RS I L m b n tk) (hk : tk.1 ≠ 4) (x1 x2 : Int32) : ∃ I' L', p_X9_readSaw_51 m x1 x2 (hp S I L) = p_X9_readSaw_111 m x1 x2 (ho b (nt b n tk)) (hp S I' L') ∧ RS I' L' m b n (nt b n tk) ∧ Yf I I' m := by
  obtain ⟨I1, L1, e1, s1, f1⟩ := x_next hL h hk
  refine ⟨I1, L1, ?_, s1, f1⟩
  generalize nt b n tk = k1 at *
  have A1 := s1.nm hL (k := 15) (by omega) (by omega)
  have A2 := s1.nm hL (k := 16) (by omega) (by omega)
  have A3 := s1.nm hL (k := 17) (by omega) (by omega)
  have A4 := s1.nm hL (k := 18) (by omega) (by omega)
  unfold ho p_X9_readSaw_51
  simp only [↓reduceIte, ↓if_bi0, hp_tg, hp_rR, hp_rI, hp_wI, eq_self, bi_t, bi_f, i10, if_true, if_false, Bool.false_eq_true, hL.t]
  refine Eq.trans (bnd e1) ?_
  simp only [↓reduceIte, ↓if_bi0, hp_tg, hp_rR, hp_rI, hp_wI, eq_self, bi_t, bi_f, i10, if_true, if_false, Bool.false_eq_true, hL.t]
  refine Eq.trans (bnd A1) ?_
  cases c1 : nm b k1 15
  · refine Eq.trans (if_pos (by rfl)) ?_
    simp only [↓reduceIte, ↓if_bi0, hp_tg, hp_rR, hp_rI, hp_wI, eq_self, bi_t, bi_f, i10, if_true, if_false, Bool.false_eq_true, hL.t]
    refine Eq.trans (bnd A2) ?_
    cases c2 : nm b k1 16
    · refine Eq.trans (if_pos (by rfl)) ?_
      simp only [↓reduceIte, ↓if_bi0, hp_tg, hp_rR, hp_rI, hp_wI, eq_self, bi_t, bi_f, i10, if_true, if_false, Bool.false_eq_true, hL.t]
      refine Eq.trans (bnd A3) ?_
      cases c3 : nm b k1 17
      · refine Eq.trans (if_pos (by rfl)) ?_
        simp only [↓reduceIte, ↓if_bi0, hp_tg, hp_rR, hp_rI, hp_wI, eq_self, bi_t, bi_f, i10, if_true, if_false, Bool.false_eq_true, hL.t]
        refine Eq.trans (bnd A4) ?_
        cases c4 : nm b k1 18
        · exact if_pos (by rfl)
        · exact if_neg (by show ¬ bi true = 0; decide)
      · exact if_neg (by show ¬ bi true = 0; decide)
    · exact if_neg (by show ¬ bi true = 0; decide)
  · exact if_neg (by show ¬ bi true = 0; decide)
theorem x_lS (hL : ML S m) (ha : tR S m 4 = a) (hA : MCL S a) (hm : m + 6 < a) (h : RS I L m b n tk) (hM : MR I a T) (hV : TV T) (hk : tk.1 ≠ 4) : XO S I m a b n (p_X9_readSaw m (hp S I L)) (lbg T (zN T) 6 tk (lS b n T (nt b n tk))) := by
  unfold lbg
  have hA9 := hA
  obtain ⟨l0, -, -, -, -, -, -, -, ⟨lu, lu'⟩, ⟨ly, ly'⟩, ⟨lz, lz'⟩⟩ := hA9
  have r7 : I a 7 = ic (zN T) := hM.2.2.2.2.2.2.2.1.1
  have h6 := hV.2.2.2.2.2.1.1
  by_cases c0 : lb T (zN T) 6 ≠ 0
  · rw [if_pos c0]
    have F := x_lb1 hL ha hA hm h hM hV.1 (c := zN T) (d := 6) (by omega) (by omega) c0
    have h5 := xF_9 I m (lb T (zN T) 6) tk.2.1
    have W := x_rwh5 (L := L) hL h5 0 63
    have W2 := x_mode5 (L := L) hL h5
    refine ⟨xF I m (lb T (zN T) 6) tk.2.1, L, ?_, h5, xF_12 _ _ _ _, xF_13 _ _ _ _, (Rf.refl I m a).xF _ _⟩
    unfold p_X9_readSaw
    simp only [↓reduceIte, ↓if_bi0, hp_tg, hp_rR, hp_rI, hp_wI, eq_self, bi_t, bi_f, i10, if_true, if_false, Bool.false_eq_true, hL.t, ha, l0, r7]
    refine Eq.trans (bnd F) ?_
    simp only [↓reduceIte, ↓if_bi0, hp_tg, hp_rR, hp_rI, hp_wI, eq_self, bi_t, bi_f, i10, if_true, if_false, Bool.false_eq_true, hL.t]
    refine Eq.trans (bnd W) ?_
    simp only [↓reduceIte, ↓if_bi0, hp_tg, hp_rR, hp_rI, hp_wI, eq_self, bi_t, bi_f, i10, if_true, if_false, Bool.false_eq_true, hL.t]
    refine Eq.trans (bnd W2) ?_
    simp only [↓reduceIte, ↓if_bi0, hp_tg, hp_rR, hp_rI, hp_wI, eq_self, bi_t, bi_f, i10, if_true, if_false, Bool.false_eq_true, hL.t, h5]
    exact Eq.trans (if_pos (by rfl)) (x_dS51 hL h5 _ _)
  · rw [if_neg c0]
    have hd6 : zN T < 6 := by
      have : zN T ≠ 6 := fun q => c0 (by unfold lb; rw [if_pos q]; decide)
      omega
    obtain ⟨I1, L1, e1, s1, f1⟩ := x_lb0 hL ha hA hm h hk hM hV.1 (c := zN T) (d := 6) (by omega) (by omega) (by omega)
    have t1 := (Rf.refl I m a).yf f1
    have M1 := hM.yf f1 hm
    generalize nt b n tk = k1 at *
    unfold lS
    by_cases c1 : wf k1 0 63 ≠ 0
    · rw [if_pos c1]
      have A := x_rwh1 hL s1 (a := 0) (c := 63) (by omega) (by omega) c1
      rw [ic_zero] at A
      have h5 := xF_9 I1 m (wf k1 0 63) k1.2.1
      have W2 := x_mode5 (L := L1) hL h5
      refine ⟨xF I1 m (wf k1 0 63) k1.2.1, L1, ?_, h5, xF_12 _ _ _ _, xF_13 _ _ _ _, t1.xF _ _⟩
      unfold p_X9_readSaw
      simp only [↓reduceIte, ↓if_bi0, hp_tg, hp_rR, hp_rI, hp_wI, eq_self, bi_t, bi_f, i10, if_true, if_false, Bool.false_eq_true, hL.t, ha, l0, r7]
      refine Eq.trans (bnd e1) ?_
      simp only [↓reduceIte, ↓if_bi0, hp_tg, hp_rR, hp_rI, hp_wI, eq_self, bi_t, bi_f, i10, if_true, if_false, Bool.false_eq_true, hL.t]
      refine Eq.trans (bnd A) ?_
      simp only [↓reduceIte, ↓if_bi0, hp_tg, hp_rR, hp_rI, hp_wI, eq_self, bi_t, bi_f, i10, if_true, if_false, Bool.false_eq_true, hL.t]
      refine Eq.trans (bnd W2) ?_
      simp only [↓reduceIte, ↓if_bi0, hp_tg, hp_rR, hp_rI, hp_wI, eq_self, bi_t, bi_f, i10, if_true, if_false, Bool.false_eq_true, hL.t, h5]
      exact Eq.trans (if_pos (by rfl)) (x_dS51 hL h5 _ _)
    · rw [if_neg c1]
      have c1' : wf k1 0 63 = 0 := by omega
      have v63 := (wf_2 c1').2.2
      obtain ⟨I2, L2, e2, s2, f2⟩ := x_rwh0 hL s1 (a := 0) (c := 63) (by omega) (by omega) c1'
      rw [ic_zero] at e2
      have t2 := t1.yf f2
      have M2 := M1.yf f2 hm
      generalize nt b n k1 = k2 at *
      cases hmo : mo b k2 with
      | none =>
        have A := x_mode0 hL s2 hmo
        have h5 := xF_9 I2 m 1 k2.2.1
        refine ⟨xF I2 m 1 k2.2.1, L2, ?_, h5, xF_12 _ _ _ _, xF_13 _ _ _ _, t2.xF _ _⟩
        unfold p_X9_readSaw
        simp only [↓reduceIte, ↓if_bi0, hp_tg, hp_rR, hp_rI, hp_wI, eq_self, bi_t, bi_f, i10, if_true, if_false, Bool.false_eq_true, hL.t, ha, l0, r7]
        refine Eq.trans (bnd e1) ?_
        simp only [↓reduceIte, ↓if_bi0, hp_tg, hp_rR, hp_rI, hp_wI, eq_self, bi_t, bi_f, i10, if_true, if_false, Bool.false_eq_true, hL.t]
        refine Eq.trans (bnd e2) ?_
        simp only [↓reduceIte, ↓if_bi0, hp_tg, hp_rR, hp_rI, hp_wI, eq_self, bi_t, bi_f, i10, if_true, if_false, Bool.false_eq_true, hL.t]
        refine Eq.trans (bnd A) ?_
        simp only [↓reduceIte, ↓if_bi0, hp_tg, hp_rR, hp_rI, hp_wI, eq_self, bi_t, bi_f, i10, if_true, if_false, Bool.false_eq_true, hL.t, h5]
        exact Eq.trans (if_pos (by rfl)) (x_dS51 hL h5 _ _)
      | some w =>
        have A := x_mode1 hL s2 hmo
        obtain ⟨w4, w1⟩ := mo_lt hmo
        have n2 := s2.n5
        have Sa := x_isSaw (L := L2) hA M2 hV (v := k1.2.2.2) (w := w) (by omega) w4
        rw [om_some]
        by_cases c3 : isZ T (4 * k1.2.2.2 + w) = true
        · rw [if_pos c3]
          rw [c3] at Sa
          have F := s2.flaw hL 3
          have h5 := xF_9 I2 m 3 k2.2.1
          refine ⟨xF I2 m 3 k2.2.1, L2, ?_, h5, xF_12 _ _ _ _, xF_13 _ _ _ _, t2.xF _ _⟩
          unfold p_X9_readSaw
          simp only [↓reduceIte, ↓if_bi0, hp_tg, hp_rR, hp_rI, hp_wI, eq_self, bi_t, bi_f, i10, if_true, if_false, Bool.false_eq_true, hL.t, ha, l0, r7]
          refine Eq.trans (bnd e1) ?_
          simp only [↓reduceIte, ↓if_bi0, hp_tg, hp_rR, hp_rI, hp_wI, eq_self, bi_t, bi_f, i10, if_true, if_false, Bool.false_eq_true, hL.t]
          refine Eq.trans (bnd e2) ?_
          simp only [↓reduceIte, ↓if_bi0, hp_tg, hp_rR, hp_rI, hp_wI, eq_self, bi_t, bi_f, i10, if_true, if_false, Bool.false_eq_true, hL.t]
          refine Eq.trans (bnd A) ?_
          simp only [↓reduceIte, ↓if_bi0, hp_tg, hp_rR, hp_rI, hp_wI, eq_self, bi_t, bi_f, i10, if_true, if_false, Bool.false_eq_true, hL.t, n2, ha, l0]
          refine Eq.trans (bnd Sa) ?_
          refine Eq.trans (if_neg (by show ¬ bi true = 0; decide)) ?_
          simp only [↓reduceIte, ↓if_bi0, hp_tg, hp_rR, hp_rI, hp_wI, eq_self, bi_t, bi_f, i10, if_true, if_false, Bool.false_eq_true, hL.t]
          refine Eq.trans (bnd F) ?_
          exact x_dS51 hL h5 _ _
        · rw [if_neg c3]
          rw [show isZ T (4 * k1.2.2.2 + w) = false by simpa using c3] at Sa
          have g1 : p_X9_readSaw m (hp S I L) = p_X9_readSaw_51 m (ic k1.2.2.2) (ic w) (hp S I2 L2) := by
            unfold p_X9_readSaw
            simp only [↓reduceIte, ↓if_bi0, hp_tg, hp_rR, hp_rI, hp_wI, eq_self, bi_t, bi_f, i10, if_true, if_false, Bool.false_eq_true, hL.t, ha, l0, r7]
            refine Eq.trans (bnd e1) ?_
            simp only [↓reduceIte, ↓if_bi0, hp_tg, hp_rR, hp_rI, hp_wI, eq_self, bi_t, bi_f, i10, if_true, if_false, Bool.false_eq_true, hL.t]
            refine Eq.trans (bnd e2) ?_
            simp only [↓reduceIte, ↓if_bi0, hp_tg, hp_rR, hp_rI, hp_wI, eq_self, bi_t, bi_f, i10, if_true, if_false, Bool.false_eq_true, hL.t]
            refine Eq.trans (bnd A) ?_
            simp only [↓reduceIte, ↓if_bi0, hp_tg, hp_rR, hp_rI, hp_wI, eq_self, bi_t, bi_f, i10, if_true, if_false, Bool.false_eq_true, hL.t, n2, ha, l0]
            refine Eq.trans (bnd Sa) ?_
            exact if_pos (by rfl)
          obtain ⟨I3, L3, e3, s3, f3⟩ := x_h51 hL s2 (by rw [w1]; decide) (ic k1.2.2.2) (ic w)
          rw [g1, e3]
          clear g1 e3
          have t3 := t2.yf f3
          have M3 := M2.yf f3 hm
          generalize nt b n k2 = k3 at *
          rcases ho_c b k3 with c4 | ⟨c4, c5, c6⟩
          · rw [if_pos c4, c4]
            have F := s3.flaw hL 1
            rw [show ic 1 = 1 from rfl] at F
            have h5 := xF_9 I3 m 1 k3.2.1
            refine ⟨xF I3 m 1 k3.2.1, L3, ?_, h5, xF_12 _ _ _ _, xF_13 _ _ _ _, t3.xF _ _⟩
            unfold p_X9_readSaw_111
            simp only [↓reduceIte, ↓if_bi0, hp_tg, hp_rR, hp_rI, hp_wI, eq_self, bi_t, bi_f, i10, if_true, if_false, Bool.false_eq_true, hL.t]
            refine Eq.trans (bnd F) ?_
            exact x_dS122 hL h5 _ _ _
          · rw [if_neg c5]
            obtain ⟨I4, L4, e4, s4, f4⟩ := x_next hL s3 (by rw [c6]; decide)
            have t4 := t3.yf f4
            have M4 := M3.yf f4 hm
            have n4 := s4.n5
            generalize ho b k3 = z at *
            have M5 := M4.uZ (v := k1.2.2.2) w4 z
            have z0 : I4 a 7 = ic (zN T) := M4.2.2.2.2.2.2.2.1.1
            have z1 : up2 I4 (a + 8) (zN T) (ic k1.2.2.2) a 7 = ic (zN T) := by rw [up_a (by omega)]; exact z0
            have z2 : up2 (up2 I4 (a + 8) (zN T) (ic k1.2.2.2)) (a + 9) (zN T) (ic w) a 7 = ic (zN T) := by rw [up_a (by omega)]; exact z1
            have z3 : up2 (up2 (up2 I4 (a + 8) (zN T) (ic k1.2.2.2)) (a + 9) (zN T) (ic w)) (a + 10) (zN T) z a 7 = ic (zN T) := by rw [up_a (by omega)]; exact z2
            have t5 := (((t4.up hm (y := a + 8) (by omega) (by omega) (zN T) (ic k1.2.2.2)).up hm (y := a + 9) (by omega) (by omega) (zN T) (ic w)).up hm (y := a + 10) (by omega) (by omega) (zN T) z).up hm (y := a) (by omega) (by omega) 7 (ic (zN T + 1))
            have s5 := (((s4.up (y := a + 8) (by omega) (zN T) (ic k1.2.2.2)).up (y := a + 9) (by omega) (zN T) (ic w)).up (y := a + 10) (by omega) (zN T) z).up (y := a) (by omega) 7 (ic (zN T + 1))
            have q : ∀ j, 11 < j → up2 (up2 (up2 (up2 I4 (a + 8) (zN T) (ic k1.2.2.2)) (a + 9) (zN T) (ic w)) (a + 10) (zN T) z) a 7 (ic (zN T + 1)) m j = I m j := fun j hj => by rw [up_a (by omega), up_a (by omega), up_a (by omega), up_a (by omega), f4.1 j (by omega), f3.1 j (by omega), f2.1 j (by omega), f1.1 j (by omega)]
            refine ⟨_, L4, ?_, s5, M5, q 12 (by omega), q 13 (by omega), t5⟩
            unfold p_X9_readSaw_111
            refine Eq.trans (if_neg c5) ?_
            unfold p_X9_readSaw_122
            simp only [↓reduceIte, ↓if_bi0, hp_tg, hp_rR, hp_rI, hp_wI, eq_self, bi_t, bi_f, i10, if_true, if_false, Bool.false_eq_true, hL.t]
            refine Eq.trans (bnd e4) ?_
            simp only [↓reduceIte, ↓if_bi0, hp_tg, hp_rR, hp_rI, hp_wI, eq_self, bi_t, bi_f, i10, if_true, if_false, Bool.false_eq_true, hL.t, n4, ha, l0, lu, ly, lz]
            simp (maxSteps := 1000000) (disch := omega) only [↓reduceIte, ↓if_bi0, ↓if_bi1, hp_tg, hp_rI, hp_rR, hp_rL, hp_wI, hp_wL, Option.bind_some, if_11, if_01, bi_and1, i10, i01, bi_t, bi_f, ic_add, mr_4, ml_4, mr_8, ml_8, mr_10, ml_10, ic_add1, ic_sub1, ic_clamp, ic_div, ic_irm, ic_lt0, ic_0lt, ic_eq0, ic_lt, ic_inj, and15, and7, and31, and63, shl1, shr_ok, neg_1, neg_2, neg_3, neg_4, kc_lt0, kc_ic, kc_m2, kc_1, kc_0, i0_add, add_i0, or_i0, z_8, z_4, z_64, z_256, ic_m2, ec_m1, ic_m1, m1_lt0, m2_lt0, m3_lt0, m4_lt0, up_s, if_true, if_false, ne_eq, not_true_eq_false, not_false_eq_true, Bool.false_eq_true, eq_self, or_self, or_false, false_or, and_self, and_true, true_and, ite_self, Nat.reduceEqDiff, Nat.reduceLT, Nat.reduceMod, Nat.reduceMul, Nat.reduceAdd, Nat.reducePow, Nat.reduceDiv, lt_2, lt_3, lt_4, lt_5, lt_6, lt_7, lt_8, lt_10, lt_11, lt_12, lt_15, lt_16, lt_18, lt_20, lt_24, lt_31, lt_32, lt_48, lt_57, lt_59, lt_63, lt_64, lt_74, lt_75, lt_97, lt_122, lt_128, lt_144, lt_145, lt_146, lt_147, lt_155, lt_163, lt_171, lt_179, lt_200, lt_243, lt_244, lt_255, lt_256, lt_732, lt_900, lt_3660, lt_3904, lt_4095, lt_65536, lt_65537, lt_252645135, lt_858993459, lt_1431655765, ↓p_has_b, p_has, ↓p_has9_b, p_has9, ↓p_bit_b, p_bit, ↓p_bit1_b, p_bit1, ↓p_bit0_b, p_bit0, if_inB lu', if_inB ly', if_inB lz', hL.t, ha, l0, lu, ly, lz, z0, z1, z2, z3]
theorem XO.post {o : Option AH} {r : LR} (h : XO S I m a b n o r) : XO S I m a b n (o.bind fun q => p_X9_readLine_101 q) r := by
  cases r with
  | inl r =>
    obtain ⟨J, L', e, h⟩ := h
    exact ⟨J, L', by rw [e]; rfl, h⟩
  | inr r =>
    obtain ⟨J, L', e, h⟩ := h
    exact ⟨J, L', by rw [e]; rfl, h⟩
theorem x_ln (hL : ML S m) (ha : tR S m 4 = a) (hA : MCL S a) (hm : m + 6 < a) (h : RS I L m b n tk) (hM : MR I a T) (hV : TV T) : XO S I m a b n (p_X9_readLine m (hp S I L)) (ln b n T tk) := by
  unfold ln
  have A1 := h.nm hL (k := 1) (by omega) (by omega)
  have A4 := h.nm hL (k := 4) (by omega) (by omega)
  have A5 := h.nm hL (k := 5) (by omega) (by omega)
  have A6 := h.nm hL (k := 6) (by omega) (by omega)
  have A7 := h.nm hL (k := 7) (by omega) (by omega)
  have A8 := h.nm hL (k := 8) (by omega) (by omega)
  have hk : ∀ k, nm b tk k = true → tk.1 ≠ 4 := fun k q => by rw [nm_1 q]; decide
  unfold p_X9_readLine
  simp only [↓reduceIte, ↓if_bi0, hp_tg, hp_rR, hp_rI, hp_wI, eq_self, bi_t, bi_f, i10, if_true, if_false, Bool.false_eq_true, hL.t]
  rw [bnd A1]
  cases c1 : nm b tk 1
  · rw [if_pos (by rfl), if_neg (show ¬ (false = true) by decide)]
    simp only [↓reduceIte, ↓if_bi0, hp_tg, hp_rR, hp_rI, hp_wI, eq_self, bi_t, bi_f, i10, if_true, if_false, Bool.false_eq_true, hL.t]
    rw [bnd A4]
    cases c4 : nm b tk 4
    · rw [if_pos (by rfl), if_neg (show ¬ (false = true) by decide)]
      simp only [↓reduceIte, ↓if_bi0, hp_tg, hp_rR, hp_rI, hp_wI, eq_self, bi_t, bi_f, i10, if_true, if_false, Bool.false_eq_true, hL.t]
      rw [bnd A5]
      cases c5 : nm b tk 5
      · rw [if_pos (by rfl), if_neg (show ¬ (false = true) by decide)]
        simp only [↓reduceIte, ↓if_bi0, hp_tg, hp_rR, hp_rI, hp_wI, eq_self, bi_t, bi_f, i10, if_true, if_false, Bool.false_eq_true, hL.t]
        rw [bnd A6]
        cases c6 : nm b tk 6
        · rw [if_pos (by rfl), if_neg (show ¬ (false = true) by decide)]
          simp only [↓reduceIte, ↓if_bi0, hp_tg, hp_rR, hp_rI, hp_wI, eq_self, bi_t, bi_f, i10, if_true, if_false, Bool.false_eq_true, hL.t]
          rw [bnd A7]
          cases c7 : nm b tk 7
          · rw [if_pos (by rfl), if_neg (show ¬ (false = true) by decide)]
            simp only [↓reduceIte, ↓if_bi0, hp_tg, hp_rR, hp_rI, hp_wI, eq_self, bi_t, bi_f, i10, if_true, if_false, Bool.false_eq_true, hL.t]
            rw [bnd A8]
            cases c8 : nm b tk 8
            · rw [if_pos (by rfl), if_neg (show ¬ (false = true) by decide)]
              simp only [↓reduceIte, ↓if_bi0, hp_tg, hp_rR, hp_rI, hp_wI, eq_self, bi_t, bi_f, i10, if_true, if_false, Bool.false_eq_true, hL.t]
              have F := h.flaw hL 1
              rw [show ic 1 = 1 from rfl] at F
              rw [bnd F]
              exact ⟨xF I m 1 tk.2.1, L, rfl, xF_9 _ _ _ _, xF_12 _ _ _ _, xF_13 _ _ _ _, (Rf.refl I m a).xF _ _⟩
            · rw [if_neg (by show ¬ bi true = 0; decide), if_pos (show (true = true) from rfl)]
              simp only [↓reduceIte, ↓if_bi0, hp_tg, hp_rR, hp_rI, hp_wI, eq_self, bi_t, bi_f, i10, if_true, if_false, Bool.false_eq_true, hL.t]
              exact (x_lS hL ha hA hm h hM hV (hk 8 c8)).post
          · rw [if_neg (by show ¬ bi true = 0; decide), if_pos (show (true = true) from rfl)]
            simp only [↓reduceIte, ↓if_bi0, hp_tg, hp_rR, hp_rI, hp_wI, eq_self, bi_t, bi_f, i10, if_true, if_false, Bool.false_eq_true, hL.t]
            exact (x_lU hL ha hA hm h hM hV (hk 7 c7)).post
        · rw [if_neg (by show ¬ bi true = 0; decide), if_pos (show (true = true) from rfl)]
          simp only [↓reduceIte, ↓if_bi0, hp_tg, hp_rR, hp_rI, hp_wI, eq_self, bi_t, bi_f, i10, if_true, if_false, Bool.false_eq_true, hL.t]
          exact (x_lR hL ha hA hm h hM hV (hk 6 c6)).post
      · rw [if_neg (by show ¬ bi true = 0; decide), if_pos (show (true = true) from rfl)]
        simp only [↓reduceIte, ↓if_bi0, hp_tg, hp_rR, hp_rI, hp_wI, eq_self, bi_t, bi_f, i10, if_true, if_false, Bool.false_eq_true, hL.t]
        exact (x_lW hL ha hA hm h hM hV (hk 5 c5)).post
    · rw [if_neg (by show ¬ bi true = 0; decide), if_pos (show (true = true) from rfl)]
      simp only [↓reduceIte, ↓if_bi0, hp_tg, hp_rR, hp_rI, hp_wI, eq_self, bi_t, bi_f, i10, if_true, if_false, Bool.false_eq_true, hL.t]
      exact (x_lH hL ha hA hm h hM hV (hk 4 c4)).post
  · rw [if_neg (by show ¬ bi true = 0; decide), if_pos (show (true = true) from rfl)]
    simp only [↓reduceIte, ↓if_bi0, hp_tg, hp_rR, hp_rI, hp_wI, eq_self, bi_t, bi_f, i10, if_true, if_false, Bool.false_eq_true, hL.t]
    exact (x_lM hL ha hA hm h hM hV.1 (hk 1 c1)).post
end XSAW
