/-! ===== the line of a host: the reference ===== -/
section XHOST
variable {S : SH} {I J : II} {L : LL} {m n a : Nat} {b : Nat → Nat} {tk : TK} {T : TS}
theorem RS.n5 (h : RS I L m b n tk) : ¬ (I m 9 = 5) := by
  have h9 := srt_5 tk.1
  rw [h.2.2.1.1, show (5 : Int32) = ic 5 from rfl, ic_inj (by omega) (by omega)]
  omega
theorem x_dH111 (hL : ML S m) (h5 : I m 9 = ic 5) (x1 x2 x3 : Int32) : p_X9_readHost_111 m x1 x2 x3 (hp S I L) = some (hp S I L) := by
  have G := x_goes0 (L := L) hL h5
  unfold p_X9_readHost_111
  simp only [↓reduceIte, ↓if_bi0, hp_tg, hp_rR, hp_rI, hp_wI, eq_self, bi_t, bi_f, i10, if_true, if_false, Bool.false_eq_true, hL.t]
  refine Eq.trans (bnd G) ?_
  simp only [↓reduceIte, ↓if_bi0, hp_tg, hp_rR, hp_rI, hp_wI, eq_self, bi_t, bi_f, i10, if_true, if_false, Bool.false_eq_true, hL.t, h5]
  exact if_pos (by rfl)
theorem x_dH111_b (hL : ML S m) (h5 : I m 9 = ic 5) (x1 x2 x3 : Int32) {β : Type} (f9 : AH → Option β) : (p_X9_readHost_111 m x1 x2 x3 (hp S I L)).bind f9 = f9 (hp S I L) := bnd (by apply x_dH111 <;> assumption)
theorem x_dH82 (hL : ML S m) (h5 : I m 9 = ic 5) (x1 x2 : Int32) : p_X9_readHost_82 m x1 x2 (hp S I L) = some (hp S I L) := by
  have G := x_goes0 (L := L) hL h5
  have A1 := x_word5 (L := L) hL h5 9
  have A2 := x_word5 (L := L) hL h5 10
  have F := x_flaw5 (L := L) hL h5 1
  unfold p_X9_readHost_82
  simp only [↓reduceIte, ↓if_bi0, hp_tg, hp_rR, hp_rI, hp_wI, eq_self, bi_t, bi_f, i10, if_true, if_false, Bool.false_eq_true, hL.t]
  refine Eq.trans (bnd G) ?_
  simp only [↓reduceIte, ↓if_bi0, hp_tg, hp_rR, hp_rI, hp_wI, eq_self, bi_t, bi_f, i10, if_true, if_false, Bool.false_eq_true, hL.t]
  refine Eq.trans (bnd A1) ?_
  simp only [↓reduceIte, ↓if_bi0, hp_tg, hp_rR, hp_rI, hp_wI, eq_self, bi_t, bi_f, i10, if_true, if_false, Bool.false_eq_true, hL.t]
  refine Eq.trans (bnd A2) ?_
  simp only [↓reduceIte, ↓if_bi0, hp_tg, hp_rR, hp_rI, hp_wI, eq_self, bi_t, bi_f, i10, if_true, if_false, Bool.false_eq_true, hL.t]
  refine Eq.trans (bnd F) ?_
  exact x_dH111 hL h5 _ _ _
theorem x_dH82_b (hL : ML S m) (h5 : I m 9 = ic 5) (x1 x2 : Int32) {β : Type} (f9 : AH → Option β) : (p_X9_readHost_82 m x1 x2 (hp S I L)).bind f9 = f9 (hp S I L) := bnd (by apply x_dH82 <;> assumption)
theorem x_dH46 (hL : ML S m) (h5 : I m 9 = ic 5) (x1 : Int32) : p_X9_readHost_46 m x1 (hp S I L) = some (hp S I L) := by
  have G := x_goes0 (L := L) hL h5
  have W := x_whole5 (L := L) hL h5 0 31
  unfold p_X9_readHost_46
  simp only [↓reduceIte, ↓if_bi0, hp_tg, hp_rR, hp_rI, hp_wI, eq_self, bi_t, bi_f, i10, if_true, if_false, Bool.false_eq_true, hL.t]
  refine Eq.trans (bnd G) ?_
  simp only [↓reduceIte, ↓if_bi0, hp_tg, hp_rR, hp_rI, hp_wI, eq_self, bi_t, bi_f, i10, if_true, if_false, Bool.false_eq_true, hL.t]
  refine Eq.trans (bnd W) ?_
  simp only [↓reduceIte, ↓if_bi0, hp_tg, hp_rR, hp_rI, hp_wI, eq_self, bi_t, bi_f, i10, if_true, if_false, Bool.false_eq_true, hL.t, h5]
  exact Eq.trans (if_pos (by rfl)) (x_dH82 hL h5 _ _)
theorem x_dH46_b (hL : ML S m) (h5 : I m 9 = ic 5) (x1 : Int32) {β : Type} (f9 : AH → Option β) : (p_X9_readHost_46 m x1 (hp S I L)).bind f9 = f9 (hp S I L) := bnd (by apply x_dH46 <;> assumption)
theorem tb_or2 (r f g : Nat) : (r ||| 2 ^ f).testBit g = (r.testBit g || decide (f = g)) := by
  rw [Nat.testBit_or, Nat.testBit_two_pow]
theorem MR.uHo (h : MR I a T) (hI : IG (tG T)) {f h9 : Nat} (hf : f < 16) (h0 : ¬ 0 < sH (tG T) f) (bb : Bool) : ∃ r, I a 2 = ic r ∧ r < 65536 ∧ MR (up2 (up2 (up2 I (a + 1) f (ic (h9 + 1))) a 2 (ic (if bb = true then r ||| 2 ^ f else r))) a 3 (ic (hN T + 1))) a (uHo T f h9 bb) := by
  obtain ⟨r0, r1, ⟨r, q1, q2, q3⟩, r3, r4, ⟨r5, r5'⟩, ⟨r6, r6'⟩, ⟨r7, r7'⟩, r8, r9, r10⟩ := h
  refine ⟨r, q2, q1, ?_⟩
  have e : ∀ y, y ≠ a → y ≠ a + 1 → up2 (up2 (up2 I (a + 1) f (ic (h9 + 1))) a 2 (ic (if bb = true then r ||| 2 ^ f else r))) a 3 (ic (hN T + 1)) y = I y := fun y h1 h2 => funext fun j => by rw [up_a h1, up_a h1, up_a h2]
  have k : ∀ j, j ≠ 2 → j ≠ 3 → up2 (up2 (up2 I (a + 1) f (ic (h9 + 1))) a 2 (ic (if bb = true then r ||| 2 ^ f else r))) a 3 (ic (hN T + 1)) a j = I a j := fun j h1 h2 => by rw [up_k h2, up_k h1, up_a (by omega)]
  have hs : sw (tG T) f = false := by
    cases q : sw (tG T) f
    · rfl
    · exact absurd (hI.2.2.1 f hf q) h0
  refine ⟨by rw [k 0 (by omega) (by omega)]; exact r0, by rw [k 1 (by omega) (by omega)]; exact r1, ⟨(if bb = true then r ||| 2 ^ f else r), ?_, ?_, fun g hg => ?_⟩, by rw [up_s]; rfl, by rw [k 4 (by omega) (by omega)]; exact r4, ⟨by rw [k 5 (by omega) (by omega)]; exact r5, fun i hi => by rw [e _ (by omega) (by omega), e _ (by omega) (by omega)]; exact r5' i hi⟩, ⟨by rw [k 6 (by omega) (by omega)]; exact r6, fun i hi => by rw [e _ (by omega) (by omega), e _ (by omega) (by omega)]; exact r6' i hi⟩, ⟨by rw [k 7 (by omega) (by omega)]; exact r7, fun i hi => by rw [e _ (by omega) (by omega), e _ (by omega) (by omega), e _ (by omega) (by omega)]; exact r7' i hi⟩, fun g hg => ?_, fun i hi => by rw [e _ (by omega) (by omega)]; exact r9 i hi, fun i hi => by rw [e _ (by omega) (by omega)]; exact r10 i hi⟩
  · cases bb
    · exact q1
    · show r ||| 2 ^ f < 2 ^ 16
      exact Nat.or_lt_two_pow q1 (Nat.pow_lt_pow_right (by decide) hf)
  · rw [up_k (by omega), up_s]
  · show _ = up1 (sw (tG T)) f bb g
    by_cases d : g = f
    · rw [d, up1_s]
      cases bb
      · exact (q3 f hf).trans hs
      · show (r ||| 2 ^ f).testBit f = true
        rw [tb_or2, decide_eq_true rfl, Bool.or_true]
    · rw [up1_n d]
      cases bb
      · exact q3 g hg
      · show (r ||| 2 ^ f).testBit g = _
        rw [tb_or2, decide_eq_false (by omega), Bool.or_false]; exact q3 g hg
  · show _ = ic (up1 (sH (tG T)) f (h9 + 1) g)
    rw [up_a (by omega), up_a (by omega), up_i]
    by_cases d : g = f
    · rw [if_pos d, d, up1_s]
    · rw [if_neg d, up1_n d]; exact r8 g hg
theorem x_lH (hL : ML S m) (ha : tR S m 4 = a) (hA : MCL S a) (hm : m + 6 < a) (h : RS I L m b n tk) (hM : MR I a T) (hV : TV T) (hk : tk.1 ≠ 4) : XO S I m a b n (p_X9_readHost m (hp S I L)) (lbg T (hN T) 16 tk (lH b n T (nt b n tk))) := by
  unfold lbg
  have l0 := hA.1
  obtain ⟨lh, lh'⟩ := hA.2.1
  have r3 : I a 3 = ic (hN T) := hM.2.2.2.1
  have h16 := hV.2.2.2.2.2.2.1
  by_cases c0 : lb T (hN T) 16 ≠ 0
  · rw [if_pos c0]
    have F := x_lb1 hL ha hA hm h hM hV.1 (c := hN T) (d := 16) (by omega) (by omega) c0
    have h5 := xF_9 I m (lb T (hN T) 16) tk.2.1
    have W := x_whole5 (L := L) hL h5 0 15
    refine ⟨xF I m (lb T (hN T) 16) tk.2.1, L, ?_, h5, xF_12 _ _ _ _, xF_13 _ _ _ _, (Rf.refl I m a).xF _ _⟩
    unfold p_X9_readHost
    simp only [↓reduceIte, ↓if_bi0, hp_tg, hp_rR, hp_rI, hp_wI, eq_self, bi_t, bi_f, i10, if_true, if_false, Bool.false_eq_true, hL.t, ha, l0, r3]
    refine Eq.trans (bnd F) ?_
    simp only [↓reduceIte, ↓if_bi0, hp_tg, hp_rR, hp_rI, hp_wI, eq_self, bi_t, bi_f, i10, if_true, if_false, Bool.false_eq_true, hL.t]
    refine Eq.trans (bnd W) ?_
    simp only [↓reduceIte, ↓if_bi0, hp_tg, hp_rR, hp_rI, hp_wI, eq_self, bi_t, bi_f, i10, if_true, if_false, Bool.false_eq_true, hL.t, h5]
    exact Eq.trans (if_pos (by rfl)) (x_dH46 hL h5 _)
  · rw [if_neg c0]
    obtain ⟨I1, L1, e1, s1, f1⟩ := x_lb0 hL ha hA hm h hk hM hV.1 (c := hN T) (d := 16) (by omega) (by omega) (by omega)
    have t1 := (Rf.refl I m a).yf f1
    have M1 := hM.yf f1 hm
    generalize nt b n tk = k1 at *
    unfold lH
    by_cases c1 : wf k1 0 15 ≠ 0
    · rw [if_pos c1]
      have A := s1.wh1 hL (a := 0) (c := 15) (by omega) (by omega) c1
      rw [ic_zero] at A
      have h5 := xF_9 I1 m (wf k1 0 15) k1.2.1
      refine ⟨xF I1 m (wf k1 0 15) k1.2.1, L1, ?_, h5, xF_12 _ _ _ _, xF_13 _ _ _ _, t1.xF _ _⟩
      unfold p_X9_readHost
      simp only [↓reduceIte, ↓if_bi0, hp_tg, hp_rR, hp_rI, hp_wI, eq_self, bi_t, bi_f, i10, if_true, if_false, Bool.false_eq_true, hL.t, ha, l0, r3]
      refine Eq.trans (bnd e1) ?_
      simp only [↓reduceIte, ↓if_bi0, hp_tg, hp_rR, hp_rI, hp_wI, eq_self, bi_t, bi_f, i10, if_true, if_false, Bool.false_eq_true, hL.t]
      refine Eq.trans (bnd A) ?_
      simp only [↓reduceIte, ↓if_bi0, hp_tg, hp_rR, hp_rI, hp_wI, eq_self, bi_t, bi_f, i10, if_true, if_false, Bool.false_eq_true, hL.t, h5]
      exact Eq.trans (if_pos (by rfl)) (x_dH46 hL h5 _)
    · rw [if_neg c1]
      have c1' : wf k1 0 15 = 0 := by omega
      have A := s1.wh0 hL (a := 0) (c := 15) (by omega) (by omega) c1'
      rw [ic_zero] at A
      have w1 := (wf_2 c1').2.2
      have n1 := s1.n5
      have rh := M1.2.2.2.2.2.2.2.2.1 k1.2.2.2 (by omega)
      have hh := hV.2.1.2.1 k1.2.2.2 (by omega)
      by_cases c2 : 0 < sH (tG T) k1.2.2.2
      · rw [if_pos c2]
        have F := s1.flaw hL 3
        have h5 := xF_9 I1 m 3 k1.2.1
        have D := x_dH46 (L := L1) hL h5 (ic k1.2.2.2)
        refine ⟨xF I1 m 3 k1.2.1, L1, ?_, h5, xF_12 _ _ _ _, xF_13 _ _ _ _, t1.xF _ _⟩
        unfold p_X9_readHost
        simp only [↓reduceIte, ↓if_bi0, hp_tg, hp_rR, hp_rI, hp_wI, eq_self, bi_t, bi_f, i10, if_true, if_false, Bool.false_eq_true, hL.t, ha, l0, r3]
        refine Eq.trans (bnd e1) ?_
        simp only [↓reduceIte, ↓if_bi0, hp_tg, hp_rR, hp_rI, hp_wI, eq_self, bi_t, bi_f, i10, if_true, if_false, Bool.false_eq_true, hL.t]
        refine Eq.trans (bnd A) ?_
        simp only [↓reduceIte, ↓if_bi0, hp_tg, hp_rR, hp_rI, hp_wI, eq_self, bi_t, bi_f, i10, if_true, if_false, Bool.false_eq_true, hL.t, n1, ha, l0, lh]
        simp (maxSteps := 1000000) (disch := omega) only [↓reduceIte, ↓if_bi0, ↓if_bi1, hp_tg, hp_rI, hp_rR, hp_rL, hp_wI, hp_wL, Option.bind_some, if_11, if_01, bi_and1, i10, i01, bi_t, bi_f, ic_add, mr_4, ml_4, mr_8, ml_8, mr_10, ml_10, ic_add1, ic_sub1, ic_clamp, ic_div, ic_irm, ic_lt0, ic_0lt, ic_eq0, ic_lt, ic_inj, and15, and7, and31, and63, shl1, shr_ok, neg_1, neg_2, neg_3, neg_4, kc_lt0, kc_ic, kc_m2, kc_1, kc_0, i0_add, add_i0, or_i0, z_8, z_4, z_64, z_256, ic_m2, ec_m1, ic_m1, m1_lt0, m2_lt0, m3_lt0, m4_lt0, up_s, if_true, if_false, ne_eq, not_true_eq_false, not_false_eq_true, Bool.false_eq_true, eq_self, or_self, or_false, false_or, and_self, and_true, true_and, ite_self, Nat.reduceEqDiff, Nat.reduceLT, Nat.reduceMod, Nat.reduceMul, Nat.reduceAdd, Nat.reducePow, Nat.reduceDiv, lt_2, lt_3, lt_4, lt_5, lt_6, lt_7, lt_8, lt_10, lt_11, lt_12, lt_15, lt_16, lt_18, lt_20, lt_24, lt_31, lt_32, lt_48, lt_57, lt_59, lt_63, lt_64, lt_74, lt_75, lt_97, lt_122, lt_128, lt_144, lt_145, lt_146, lt_147, lt_155, lt_163, lt_171, lt_179, lt_200, lt_243, lt_244, lt_255, lt_256, lt_732, lt_900, lt_3660, lt_3904, lt_4095, lt_65536, lt_65537, lt_252645135, lt_858993459, lt_1431655765, ↓p_has_b, p_has, ↓p_has9_b, p_has9, ↓p_bit_b, p_bit, ↓p_bit1_b, p_bit1, ↓p_bit0_b, p_bit0, if_inB lh', rh, c2, hL.t, ↓bnd (F), F, D]
      · rw [if_neg c2]
        have g1 : p_X9_readHost m (hp S I L) = p_X9_readHost_46 m (ic k1.2.2.2) (hp S I1 L1) := by
          unfold p_X9_readHost
          simp only [↓reduceIte, ↓if_bi0, hp_tg, hp_rR, hp_rI, hp_wI, eq_self, bi_t, bi_f, i10, if_true, if_false, Bool.false_eq_true, hL.t, ha, l0, r3]
          refine Eq.trans (bnd e1) ?_
          simp only [↓reduceIte, ↓if_bi0, hp_tg, hp_rR, hp_rI, hp_wI, eq_self, bi_t, bi_f, i10, if_true, if_false, Bool.false_eq_true, hL.t]
          refine Eq.trans (bnd A) ?_
          simp only [↓reduceIte, ↓if_bi0, hp_tg, hp_rR, hp_rI, hp_wI, eq_self, bi_t, bi_f, i10, if_true, if_false, Bool.false_eq_true, hL.t, n1, ha, l0, lh]
          simp (maxSteps := 1000000) (disch := omega) only [↓reduceIte, ↓if_bi0, ↓if_bi1, hp_tg, hp_rI, hp_rR, hp_rL, hp_wI, hp_wL, Option.bind_some, if_11, if_01, bi_and1, i10, i01, bi_t, bi_f, ic_add, mr_4, ml_4, mr_8, ml_8, mr_10, ml_10, ic_add1, ic_sub1, ic_clamp, ic_div, ic_irm, ic_lt0, ic_0lt, ic_eq0, ic_lt, ic_inj, and15, and7, and31, and63, shl1, shr_ok, neg_1, neg_2, neg_3, neg_4, kc_lt0, kc_ic, kc_m2, kc_1, kc_0, i0_add, add_i0, or_i0, z_8, z_4, z_64, z_256, ic_m2, ec_m1, ic_m1, m1_lt0, m2_lt0, m3_lt0, m4_lt0, up_s, if_true, if_false, ne_eq, not_true_eq_false, not_false_eq_true, Bool.false_eq_true, eq_self, or_self, or_false, false_or, and_self, and_true, true_and, ite_self, Nat.reduceEqDiff, Nat.reduceLT, Nat.reduceMod, Nat.reduceMul, Nat.reduceAdd, Nat.reducePow, Nat.reduceDiv, lt_2, lt_3, lt_4, lt_5, lt_6, lt_7, lt_8, lt_10, lt_11, lt_12, lt_15, lt_16, lt_18, lt_20, lt_24, lt_31, lt_32, lt_48, lt_57, lt_59, lt_63, lt_64, lt_74, lt_75, lt_97, lt_122, lt_128, lt_144, lt_145, lt_146, lt_147, lt_155, lt_163, lt_171, lt_179, lt_200, lt_243, lt_244, lt_255, lt_256, lt_732, lt_900, lt_3660, lt_3904, lt_4095, lt_65536, lt_65537, lt_252645135, lt_858993459, lt_1431655765, ↓p_has_b, p_has, ↓p_has9_b, p_has9, ↓p_bit_b, p_bit, ↓p_bit1_b, p_bit1, ↓p_bit0_b, p_bit0, if_inB lh', rh, c2, hL.t]
        rw [g1]
        clear g1
        obtain ⟨I2, L2, e2, s2, f2⟩ := x_next hL s1 (by rw [(wf_2 c1').1]; decide)
        have t2 := t1.yf f2
        have M2 := M1.yf f2 hm
        generalize nt b n k1 = k2 at *
        by_cases c3 : wf k2 0 31 ≠ 0
        · rw [if_pos c3]
          have A2 := s2.wh1 hL (a := 0) (c := 31) (by omega) (by omega) c3
          rw [ic_zero] at A2
          have h5 := xF_9 I2 m (wf k2 0 31) k2.2.1
          refine ⟨xF I2 m (wf k2 0 31) k2.2.1, L2, ?_, h5, xF_12 _ _ _ _, xF_13 _ _ _ _, t2.xF _ _⟩
          unfold p_X9_readHost_46
          simp only [↓reduceIte, ↓if_bi0, hp_tg, hp_rR, hp_rI, hp_wI, eq_self, bi_t, bi_f, i10, if_true, if_false, Bool.false_eq_true, hL.t]
          refine Eq.trans (bnd e2) ?_
          simp only [↓reduceIte, ↓if_bi0, hp_tg, hp_rR, hp_rI, hp_wI, eq_self, bi_t, bi_f, i10, if_true, if_false, Bool.false_eq_true, hL.t]
          refine Eq.trans (bnd A2) ?_
          simp only [↓reduceIte, ↓if_bi0, hp_tg, hp_rR, hp_rI, hp_wI, eq_self, bi_t, bi_f, i10, if_true, if_false, Bool.false_eq_true, hL.t, h5]
          exact Eq.trans (if_pos (by rfl)) (x_dH82 hL h5 _ _)
        · rw [if_neg c3]
          have c3' : wf k2 0 31 = 0 := by omega
          have A2 := s2.wh0 hL (a := 0) (c := 31) (by omega) (by omega) c3'
          rw [ic_zero] at A2
          have w2 := (wf_2 c3').2.2
          have n2 := s2.n5
          have Gv := x_isGiven (L := L2) hA M2 hV (h := k2.2.2.2) (by omega)
          by_cases c4 : isH T k2.2.2.2 = true
          · rw [if_pos c4]
            rw [c4] at Gv
            have F := s2.flaw hL 3
            have h5 := xF_9 I2 m 3 k2.2.1
            have D := x_dH82 (L := L2) hL h5 (ic k1.2.2.2) (ic k2.2.2.2)
            refine ⟨xF I2 m 3 k2.2.1, L2, ?_, h5, xF_12 _ _ _ _, xF_13 _ _ _ _, t2.xF _ _⟩
            unfold p_X9_readHost_46
            simp only [↓reduceIte, ↓if_bi0, hp_tg, hp_rR, hp_rI, hp_wI, eq_self, bi_t, bi_f, i10, if_true, if_false, Bool.false_eq_true, hL.t]
            refine Eq.trans (bnd e2) ?_
            simp only [↓reduceIte, ↓if_bi0, hp_tg, hp_rR, hp_rI, hp_wI, eq_self, bi_t, bi_f, i10, if_true, if_false, Bool.false_eq_true, hL.t]
            refine Eq.trans (bnd A2) ?_
            simp only [↓reduceIte, ↓if_bi0, hp_tg, hp_rR, hp_rI, hp_wI, eq_self, bi_t, bi_f, i10, if_true, if_false, Bool.false_eq_true, hL.t, n2, ha, l0]
            refine Eq.trans (bnd Gv) ?_
            refine Eq.trans (if_neg (by show ¬ bi true = 0; decide)) ?_
            simp only [↓reduceIte, ↓if_bi0, hp_tg, hp_rR, hp_rI, hp_wI, eq_self, bi_t, bi_f, i10, if_true, if_false, Bool.false_eq_true, hL.t]
            refine Eq.trans (bnd F) ?_
            exact D
          · rw [if_neg c4]
            rw [show isH T k2.2.2.2 = false by simpa using c4] at Gv
            have g2 : p_X9_readHost_46 m (ic k1.2.2.2) (hp S I1 L1) = p_X9_readHost_82 m (ic k1.2.2.2) (ic k2.2.2.2) (hp S I2 L2) := by
              unfold p_X9_readHost_46
              simp only [↓reduceIte, ↓if_bi0, hp_tg, hp_rR, hp_rI, hp_wI, eq_self, bi_t, bi_f, i10, if_true, if_false, Bool.false_eq_true, hL.t]
              refine Eq.trans (bnd e2) ?_
              simp only [↓reduceIte, ↓if_bi0, hp_tg, hp_rR, hp_rI, hp_wI, eq_self, bi_t, bi_f, i10, if_true, if_false, Bool.false_eq_true, hL.t]
              refine Eq.trans (bnd A2) ?_
              simp only [↓reduceIte, ↓if_bi0, hp_tg, hp_rR, hp_rI, hp_wI, eq_self, bi_t, bi_f, i10, if_true, if_false, Bool.false_eq_true, hL.t, n2, ha, l0]
              refine Eq.trans (bnd Gv) ?_
              exact if_pos (by rfl)
            rw [g2]
            clear g2
            obtain ⟨I3, L3, e3, s3, f3⟩ := x_next hL s2 (by rw [(wf_2 c3').1]; decide)
            have t3 := t2.yf f3
            have M3 := M2.yf f3 hm
            generalize nt b n k2 = k3 at *
            have A9 := s3.nm hL (k := 9) (by omega) (by omega)
            have A10 := s3.nm hL (k := 10) (by omega) (by omega)
            by_cases c5 : nm b k3 9 = false ∧ nm b k3 10 = false
            · rw [if_pos c5]
              rw [c5.1] at A9
              rw [c5.2] at A10
              have F := s3.flaw hL 1
              rw [show ic 1 = 1 from rfl] at F
              have h5 := xF_9 I3 m 1 k3.2.1
              refine ⟨xF I3 m 1 k3.2.1, L3, ?_, h5, xF_12 _ _ _ _, xF_13 _ _ _ _, t3.xF _ _⟩
              unfold p_X9_readHost_82
              simp only [↓reduceIte, ↓if_bi0, hp_tg, hp_rR, hp_rI, hp_wI, eq_self, bi_t, bi_f, i10, if_true, if_false, Bool.false_eq_true, hL.t]
              refine Eq.trans (bnd e3) ?_
              simp only [↓reduceIte, ↓if_bi0, hp_tg, hp_rR, hp_rI, hp_wI, eq_self, bi_t, bi_f, i10, if_true, if_false, Bool.false_eq_true, hL.t]
              refine Eq.trans (bnd A9) ?_
              refine Eq.trans (if_pos (by rfl)) ?_
              simp only [↓reduceIte, ↓if_bi0, hp_tg, hp_rR, hp_rI, hp_wI, eq_self, bi_t, bi_f, i10, if_true, if_false, Bool.false_eq_true, hL.t]
              refine Eq.trans (bnd A10) ?_
              refine Eq.trans (if_pos (by rfl)) ?_
              simp only [↓reduceIte, ↓if_bi0, hp_tg, hp_rR, hp_rI, hp_wI, eq_self, bi_t, bi_f, i10, if_true, if_false, Bool.false_eq_true, hL.t]
              refine Eq.trans (bnd F) ?_
              exact x_dH111 hL h5 _ _ _
            · rw [if_neg c5]
              have hk3 : k3.1 ≠ 4 := by
                cases c9 : nm b k3 9
                · cases q : nm b k3 10
                  · exact absurd ⟨c9, q⟩ c5
                  · rw [nm_1 q]; decide
                · rw [nm_1 c9]; decide
              have g3 : p_X9_readHost_82 m (ic k1.2.2.2) (ic k2.2.2.2) (hp S I2 L2) = p_X9_readHost_111 m (ic k1.2.2.2) (ic k2.2.2.2) (bi (nm b k3 9)) (hp S I3 L3) := by
                unfold p_X9_readHost_82
                simp only [↓reduceIte, ↓if_bi0, hp_tg, hp_rR, hp_rI, hp_wI, eq_self, bi_t, bi_f, i10, if_true, if_false, Bool.false_eq_true, hL.t]
                refine Eq.trans (bnd e3) ?_
                simp only [↓reduceIte, ↓if_bi0, hp_tg, hp_rR, hp_rI, hp_wI, eq_self, bi_t, bi_f, i10, if_true, if_false, Bool.false_eq_true, hL.t]
                refine Eq.trans (bnd A9) ?_
                cases c9 : nm b k3 9
                · have c10 : nm b k3 10 = true := by
                    cases q : nm b k3 10
                    · exact absurd ⟨c9, q⟩ c5
                    · rfl
                  rw [c10] at A10
                  refine Eq.trans (if_pos (by rfl)) ?_
                  simp only [↓reduceIte, ↓if_bi0, hp_tg, hp_rR, hp_rI, hp_wI, eq_self, bi_t, bi_f, i10, if_true, if_false, Bool.false_eq_true, hL.t]
                  refine Eq.trans (bnd A10) ?_
                  exact if_neg (by show ¬ bi true = 0; decide)
                · exact if_neg (by show ¬ bi true = 0; decide)
              rw [g3]
              clear g3
              obtain ⟨I4, L4, e4, s4, f4⟩ := x_next hL s3 hk3
              have t4 := t3.yf f4
              have M4 := M3.yf f4 hm
              have n4 := s4.n5
              have h3 : I4 a 3 = ic (hN T) := M4.2.2.2.1
              obtain ⟨r, q2, q1, M5⟩ := M4.uHo hV.2.1 (f := k1.2.2.2) (h9 := k2.2.2.2) (by omega) c2 (nm b k3 9)
              have z2 : up2 I4 (a + 1) k1.2.2.2 (ic (k2.2.2.2 + 1)) a 2 = ic r := by rw [up_a (by omega)]; exact q2
              have z3 : ∀ v : Int32, up2 (up2 I4 (a + 1) k1.2.2.2 (ic (k2.2.2.2 + 1))) a 2 v a 3 = ic (hN T) := fun v => by rw [up_k (by omega), up_a (by omega)]; exact h3
              have t5 := ((t4.up hm (y := a + 1) (by omega) (by omega) k1.2.2.2 (ic (k2.2.2.2 + 1))).up hm (y := a) (by omega) (by omega) 2 (ic (if nm b k3 9 = true then r ||| 2 ^ k1.2.2.2 else r))).up hm (y := a) (by omega) (by omega) 3 (ic (hN T + 1))
              have s5 := ((s4.up (y := a + 1) (by omega) k1.2.2.2 (ic (k2.2.2.2 + 1))).up (y := a) (by omega) 2 (ic (if nm b k3 9 = true then r ||| 2 ^ k1.2.2.2 else r))).up (y := a) (by omega) 3 (ic (hN T + 1))
              have q : ∀ j, 11 < j → up2 (up2 (up2 I4 (a + 1) k1.2.2.2 (ic (k2.2.2.2 + 1))) a 2 (ic (if nm b k3 9 = true then r ||| 2 ^ k1.2.2.2 else r))) a 3 (ic (hN T + 1)) m j = I m j := fun j hj => by rw [up_a (by omega), up_a (by omega), up_a (by omega), f4.1 j (by omega), f3.1 j (by omega), f2.1 j (by omega), f1.1 j (by omega)]
              refine ⟨_, L4, ?_, s5, M5, q 12 (by omega), q 13 (by omega), t5⟩
              unfold p_X9_readHost_111
              simp only [↓reduceIte, ↓if_bi0, hp_tg, hp_rR, hp_rI, hp_wI, eq_self, bi_t, bi_f, i10, if_true, if_false, Bool.false_eq_true, hL.t]
              refine Eq.trans (bnd e4) ?_
              simp only [↓reduceIte, ↓if_bi0, hp_tg, hp_rR, hp_rI, hp_wI, eq_self, bi_t, bi_f, i10, if_true, if_false, Bool.false_eq_true, hL.t, n4, ha, l0, lh]
              cases c9 : nm b k3 9
              · simp (maxSteps := 1000000) (disch := omega) only [↓reduceIte, ↓if_bi0, ↓if_bi1, hp_tg, hp_rI, hp_rR, hp_rL, hp_wI, hp_wL, Option.bind_some, if_11, if_01, bi_and1, i10, i01, bi_t, bi_f, ic_add, mr_4, ml_4, mr_8, ml_8, mr_10, ml_10, ic_add1, ic_sub1, ic_clamp, ic_div, ic_irm, ic_lt0, ic_0lt, ic_eq0, ic_lt, ic_inj, and15, and7, and31, and63, shl1, shr_ok, neg_1, neg_2, neg_3, neg_4, kc_lt0, kc_ic, kc_m2, kc_1, kc_0, i0_add, add_i0, or_i0, z_8, z_4, z_64, z_256, ic_m2, ec_m1, ic_m1, m1_lt0, m2_lt0, m3_lt0, m4_lt0, up_s, if_true, if_false, ne_eq, not_true_eq_false, not_false_eq_true, Bool.false_eq_true, eq_self, or_self, or_false, false_or, and_self, and_true, true_and, ite_self, Nat.reduceEqDiff, Nat.reduceLT, Nat.reduceMod, Nat.reduceMul, Nat.reduceAdd, Nat.reducePow, Nat.reduceDiv, lt_2, lt_3, lt_4, lt_5, lt_6, lt_7, lt_8, lt_10, lt_11, lt_12, lt_15, lt_16, lt_18, lt_20, lt_24, lt_31, lt_32, lt_48, lt_57, lt_59, lt_63, lt_64, lt_74, lt_75, lt_97, lt_122, lt_128, lt_144, lt_145, lt_146, lt_147, lt_155, lt_163, lt_171, lt_179, lt_200, lt_243, lt_244, lt_255, lt_256, lt_732, lt_900, lt_3660, lt_3904, lt_4095, lt_65536, lt_65537, lt_252645135, lt_858993459, lt_1431655765, ↓p_has_b, p_has, ↓p_has9_b, p_has9, ↓p_bit_b, p_bit, ↓p_bit1_b, p_bit1, ↓p_bit0_b, p_bit0, p_X9_readHost_155, if_inB lh', hL.t, ha, l0, z2, z3]
              · simp (maxSteps := 1000000) (disch := omega) only [↓reduceIte, ↓if_bi0, ↓if_bi1, hp_tg, hp_rI, hp_rR, hp_rL, hp_wI, hp_wL, Option.bind_some, if_11, if_01, bi_and1, i10, i01, bi_t, bi_f, ic_add, mr_4, ml_4, mr_8, ml_8, mr_10, ml_10, ic_add1, ic_sub1, ic_clamp, ic_div, ic_irm, ic_lt0, ic_0lt, ic_eq0, ic_lt, ic_inj, and15, and7, and31, and63, shl1, shr_ok, neg_1, neg_2, neg_3, neg_4, kc_lt0, kc_ic, kc_m2, kc_1, kc_0, i0_add, add_i0, or_i0, z_8, z_4, z_64, z_256, ic_m2, ec_m1, ic_m1, m1_lt0, m2_lt0, m3_lt0, m4_lt0, up_s, if_true, if_false, ne_eq, not_true_eq_false, not_false_eq_true, Bool.false_eq_true, eq_self, or_self, or_false, false_or, and_self, and_true, true_and, ite_self, Nat.reduceEqDiff, Nat.reduceLT, Nat.reduceMod, Nat.reduceMul, Nat.reduceAdd, Nat.reducePow, Nat.reduceDiv, lt_2, lt_3, lt_4, lt_5, lt_6, lt_7, lt_8, lt_10, lt_11, lt_12, lt_15, lt_16, lt_18, lt_20, lt_24, lt_31, lt_32, lt_48, lt_57, lt_59, lt_63, lt_64, lt_74, lt_75, lt_97, lt_122, lt_128, lt_144, lt_145, lt_146, lt_147, lt_155, lt_163, lt_171, lt_179, lt_200, lt_243, lt_244, lt_255, lt_256, lt_732, lt_900, lt_3660, lt_3904, lt_4095, lt_65536, lt_65537, lt_252645135, lt_858993459, lt_1431655765, ↓p_has_b, p_has, ↓p_has9_b, p_has9, ↓p_bit_b, p_bit, ↓p_bit1_b, p_bit1, ↓p_bit0_b, p_bit0, p_X9_readHost_155, if_inB lh', hL.t, ha, l0, z2, z3, show k1.2.2.2 % 32 = k1.2.2.2 by omega, ic_or]
end XHOST
