/-! ===== one token on: the reference, whole ===== -/
section GOEST
variable {S : SH} {I : II} {L : LL} {m n p : Nat} {b : Nat → Nat}
theorem mn4_le {c k : Nat} (h : k ≤ c) : mn4 c k = k := by
  unfold mn4
  by_cases q : k < c
  · rw [if_pos q]
  · rw [if_neg q]; omega
theorem x_goes0 (hL : ML S m) (h5 : I m 9 = ic 5) : p_X9_goesOn m (hp S I L) = some (hp S I L) := by
  simp (maxSteps := 1000000) (disch := omega) only [↓reduceIte, ↓if_bi0, ↓if_bi1, hp_tg, hp_rI, hp_rR, hp_rL, hp_wI, hp_wL, Option.bind_some, if_11, if_01, bi_and1, i10, i01, bi_t, bi_f, ic_add, mr_4, ml_4, mr_8, ml_8, mr_10, ml_10, ic_add1, ic_sub1, ic_clamp, ic_div, ic_irm, ic_lt0, ic_0lt, ic_eq0, ic_lt, ic_inj, and15, and7, and31, and63, shl1, shr_ok, neg_1, neg_2, neg_3, neg_4, kc_lt0, kc_ic, kc_m2, kc_1, kc_0, i0_add, add_i0, or_i0, z_8, z_4, z_64, z_256, ic_m2, ec_m1, ic_m1, m1_lt0, m2_lt0, m3_lt0, m4_lt0, up_s, if_true, if_false, ne_eq, not_true_eq_false, not_false_eq_true, Bool.false_eq_true, eq_self, or_self, or_false, false_or, and_self, and_true, true_and, ite_self, Nat.reduceEqDiff, Nat.reduceLT, Nat.reduceMod, Nat.reduceMul, Nat.reduceAdd, Nat.reducePow, Nat.reduceDiv, lt_2, lt_3, lt_4, lt_5, lt_6, lt_7, lt_8, lt_10, lt_11, lt_12, lt_15, lt_16, lt_18, lt_20, lt_24, lt_31, lt_32, lt_48, lt_57, lt_59, lt_63, lt_64, lt_74, lt_75, lt_97, lt_122, lt_128, lt_144, lt_145, lt_146, lt_147, lt_155, lt_163, lt_171, lt_179, lt_200, lt_243, lt_244, lt_255, lt_256, lt_732, lt_900, lt_3660, lt_3904, lt_4095, lt_65536, lt_65537, lt_252645135, lt_858993459, lt_1431655765, ↓p_has_b, p_has, ↓p_has9_b, p_has9, ↓p_bit_b, p_bit, ↓p_bit1_b, p_bit1, ↓p_bit0_b, p_bit0, p_X9_goesOn, hL.t, h5]
theorem x_goes0_b (hL : ML S m) (h5 : I m 9 = ic 5) {β : Type} (f9 : AH → Option β) : (p_X9_goesOn m (hp S I L)).bind f9 = f9 (hp S I L) := bnd (by apply x_goes0 <;> assumption)
theorem x_goes (hL : ML S m) (hT : TP I (m + 1) b) (h7 : I m 7 = ic n) (hn : n ≤ 900) (h8 : I m 8 = ic p) (hp9 : p ≤ n) {s9 : Nat} (h9 : I m 9 = ic s9) (hs : s9 < 5) : ∃ I' L', p_X9_goesOn m (hp S I L) = some (hp S I' L') ∧ RT I' L' m b (tok b n p) ∧ (∀ j, j < 8 ∨ 11 < j → I' m j = I m j) ∧ ∀ y, y ≠ m → I' y = I y := by
  obtain ⟨f1, f2⟩ := @fr_le n p b hp9
  have A := x_sp (L := L) hL hT h7 hn (n - p) p FU (by omega) (fu_lt (by omega))
  rw [show rl (fun k => decide (b k = 32)) (n - p) p = tFr b n p from rfl] at A
  have eI : up2 I m 8 (ic p) = I := by
    funext c j
    unfold up2
    by_cases h : c = m ∧ j = 8
    · rw [if_pos h, h.1, h.2]; exact h8.symm
    · rw [if_neg h]
  rw [eI] at A
  have e0 : p_X9_goesOn m (hp S I L) = p_X9_goesOn_35 m (hp S (up2 I m 8 (ic (tFr b n p))) L) := by
    unfold p_X9_goesOn
    simp only [↓reduceIte, ↓if_bi0, hp_tg, hp_rR, hp_rI, hp_wI, eq_self, bi_t, bi_f, i10, if_true, if_false, Bool.false_eq_true, hL.t, h9]
    rw [if_neg (show ¬ ic s9 = 5 by rw [show (5 : Int32) = ic 5 from rfl, ic_inj (by omega) (by omega)]; omega)]
    exact A
  rw [e0]
  have tk : tok b n p = if n ≤ tFr b n p then (0, tFr b n p, tFr b n p, 0) else if sml (b (tFr b n p)) = true then (if rl (fun k => sml (b k)) (n - tFr b n p) (tFr b n p) - tFr b n p ≤ 8 then 1 else 4, tFr b n p, rl (fun k => sml (b k)) (n - tFr b n p) (tFr b n p), 0) else if dgt (b (tFr b n p)) = true then (if rl (fun k => dgt (b k)) (n - tFr b n p) (tFr b n p) - tFr b n p ≤ 4 then 2 else 4, tFr b n p, rl (fun k => dgt (b k)) (n - tFr b n p) (tFr b n p), vnm b (tFr b n p) (rl (fun k => dgt (b k)) (n - tFr b n p) (tFr b n p) - tFr b n p)) else (if b (tFr b n p) = 59 then 3 else 4, tFr b n p, tFr b n p + 1, 0) := rfl
  rw [tk]
  clear tk e0 A
  generalize tFr b n p = f at *
  -- place and sort set
  have hJ : ∃ J : II, J = up2 (up2 (up2 I m 8 (ic f)) m 10 (ic f)) m 9 0 := ⟨_, rfl⟩
  obtain ⟨J, eJ⟩ := hJ
  have j7 : J m 7 = ic n := by rw [eJ, up_k (by omega), up_k (by omega), up_k (by omega)]; exact h7
  have j8 : J m 8 = ic f := by rw [eJ, up_k (by omega), up_k (by omega), up_s]
  have j9 : J m 9 = 0 := by rw [eJ, up_s]
  have j10 : J m 10 = ic f := by rw [eJ, up_k (by omega), up_s]
  have jT : TP J (m + 1) b := fun k hk => by rw [eJ, up_a (by omega), up_a (by omega), up_a (by omega)]; exact hT k hk
  have jj : ∀ j, j < 8 ∨ 11 < j → J m j = I m j := fun j hj => by rw [eJ, up_k (by omega), up_k (by omega), up_k (by omega)]
  have jy : ∀ y, y ≠ m → J y = I y := fun y hy => funext fun j => by rw [eJ, up_a hy, up_a hy, up_a hy]
  have eJ8 : up2 J m 8 (ic f) = J := by
    funext c j
    unfold up2
    by_cases h : c = m ∧ j = 8
    · rw [if_pos h, h.1, h.2]; exact j8.symm
    · rw [if_neg h]
  have stp : ∀ (v : Int32) (q : AH → Option AH), True := fun _ _ => trivial
  have e35 : p_X9_goesOn_35 m (hp S (up2 I m 8 (ic f)) L) = (p_X9_byteAt m (ic f) (hp S J L)).bind fun q129 => if q129.1 = m1 then (if (tg q129.2 m).1 = 8 then p_X9_goesOn_265 (wI q129.2 m 9 1) else none) else p_X9_goesOn_72 m q129.1 0 q129.2 := by
    unfold p_X9_goesOn_35
    simp only [↓reduceIte, ↓if_bi0, hp_tg, hp_rR, hp_rI, hp_wI, eq_self, bi_t, bi_f, i10, if_true, if_false, Bool.false_eq_true, hL.t, up_s]
    rw [← eJ, j8]
    rfl
  rw [e35]
  clear stp e35 eJ
  by_cases c1 : n ≤ f
  · rw [if_pos c1]
    have B1 := by9_out (L := L) hL j7 hn (p := f) (by omega) (by omega)
    refine ⟨up2 J m 9 1, L, ?_, ⟨up_s _ _ _ _, by rw [up_k (by omega)]; exact j10, fun _ => by rw [up_k (by omega)]; exact j8, fun h => (by dsimp only at h; omega), fun h => (by dsimp only at h; omega)⟩, fun j hj => by rw [up_k (by omega)]; exact jj j hj, fun y hy => by rw [← jy y hy]; exact funext fun j => up_a hy⟩
    refine Eq.trans (bnd B1) ?_
    simp (maxSteps := 1000000) (disch := omega) only [↓reduceIte, ↓if_bi0, ↓if_bi1, hp_tg, hp_rI, hp_rR, hp_rL, hp_wI, hp_wL, Option.bind_some, if_11, if_01, bi_and1, i10, i01, bi_t, bi_f, ic_add, mr_4, ml_4, mr_8, ml_8, mr_10, ml_10, ic_add1, ic_sub1, ic_clamp, ic_div, ic_irm, ic_lt0, ic_0lt, ic_eq0, ic_lt, ic_inj, and15, and7, and31, and63, shl1, shr_ok, neg_1, neg_2, neg_3, neg_4, kc_lt0, kc_ic, kc_m2, kc_1, kc_0, i0_add, add_i0, or_i0, z_8, z_4, z_64, z_256, ic_m2, ec_m1, ic_m1, m1_lt0, m2_lt0, m3_lt0, m4_lt0, up_s, if_true, if_false, ne_eq, not_true_eq_false, not_false_eq_true, Bool.false_eq_true, eq_self, or_self, or_false, false_or, and_self, and_true, true_and, ite_self, Nat.reduceEqDiff, Nat.reduceLT, Nat.reduceMod, Nat.reduceMul, Nat.reduceAdd, Nat.reducePow, Nat.reduceDiv, lt_2, lt_3, lt_4, lt_5, lt_6, lt_7, lt_8, lt_10, lt_11, lt_12, lt_15, lt_16, lt_18, lt_20, lt_24, lt_31, lt_32, lt_48, lt_57, lt_59, lt_63, lt_64, lt_74, lt_75, lt_97, lt_122, lt_128, lt_144, lt_145, lt_146, lt_147, lt_155, lt_163, lt_171, lt_179, lt_200, lt_243, lt_244, lt_255, lt_256, lt_732, lt_900, lt_3660, lt_3904, lt_4095, lt_65536, lt_65537, lt_252645135, lt_858993459, lt_1431655765, ↓p_has_b, p_has, ↓p_has9_b, p_has9, ↓p_bit_b, p_bit, ↓p_bit1_b, p_bit1, ↓p_bit0_b, p_bit0, hL.t, p_X9_goesOn_265]
  · rw [if_neg c1]
    have B1 := by9_in (L := L) hL jT j7 hn (p := f) (by omega)
    have hb := (hT f (by omega)).1
    have s1 := p_sml9 hb (hp S J L)
    have d1 := p_dgt9 hb (hp S J L)
    by_cases c2 : sml (b f) = true
    · rw [if_pos c2]
      rw [c2] at s1
      have W := x_sm (L := L) hL jT j7 hn (f0 := f) (n - f) f FU (by omega) (fu_lt (by omega)) (Nat.le_refl _)
      rw [Nat.sub_self, eJ8, show pk b f (mn4 8 0) = 0 from rfl] at W
      have rb := @rl_le (fun k => sml (b k)) (n - f) f
      generalize rl (fun k => sml (b k)) (n - f) f = t at *
      have e1 : ((p_X9_byteAt m (ic f) (hp S J L)).bind fun q129 => if q129.1 = m1 then (if (tg q129.2 m).1 = 8 then p_X9_goesOn_265 (wI q129.2 m 9 1) else none) else p_X9_goesOn_72 m q129.1 0 q129.2) = p_X9_goesOn_147 m (ic (t - f)) (hp S (up2 J m 8 (ic t)) (up2 L m 14 (lo (pk b f (mn4 8 (t - f)))))) := by
        refine Eq.trans (bnd B1) ?_
        rw [if_neg (by show ¬ ic (b f) = m1; rw [ic_m1 (by omega)]; exact not_false)]
        show p_X9_goesOn_72 m (ic (b f)) 0 (hp S J L) = _
        simp (maxSteps := 1000000) (disch := omega) only [↓reduceIte, ↓if_bi0, ↓if_bi1, hp_tg, hp_rI, hp_rR, hp_rL, hp_wI, hp_wL, Option.bind_some, if_11, if_01, bi_and1, i10, i01, bi_t, bi_f, ic_add, mr_4, ml_4, mr_8, ml_8, mr_10, ml_10, ic_add1, ic_sub1, ic_clamp, ic_div, ic_irm, ic_lt0, ic_0lt, ic_eq0, ic_lt, ic_inj, and15, and7, and31, and63, shl1, shr_ok, neg_1, neg_2, neg_3, neg_4, kc_lt0, kc_ic, kc_m2, kc_1, kc_0, i0_add, add_i0, or_i0, z_8, z_4, z_64, z_256, ic_m2, ec_m1, ic_m1, m1_lt0, m2_lt0, m3_lt0, m4_lt0, up_s, if_true, if_false, ne_eq, not_true_eq_false, not_false_eq_true, Bool.false_eq_true, eq_self, or_self, or_false, false_or, and_self, and_true, true_and, ite_self, Nat.reduceEqDiff, Nat.reduceLT, Nat.reduceMod, Nat.reduceMul, Nat.reduceAdd, Nat.reducePow, Nat.reduceDiv, lt_2, lt_3, lt_4, lt_5, lt_6, lt_7, lt_8, lt_10, lt_11, lt_12, lt_15, lt_16, lt_18, lt_20, lt_24, lt_31, lt_32, lt_48, lt_57, lt_59, lt_63, lt_64, lt_74, lt_75, lt_97, lt_122, lt_128, lt_144, lt_145, lt_146, lt_147, lt_155, lt_163, lt_171, lt_179, lt_200, lt_243, lt_244, lt_255, lt_256, lt_732, lt_900, lt_3660, lt_3904, lt_4095, lt_65536, lt_65537, lt_252645135, lt_858993459, lt_1431655765, ↓p_has_b, p_has, ↓p_has9_b, p_has9, ↓p_bit_b, p_bit, ↓p_bit1_b, p_bit1, ↓p_bit0_b, p_bit0, p_X9_goesOn_72, hL.t, ↓bnd (s1), s1]
        exact W
      rw [e1]
      by_cases c3 : t - f ≤ 8
      · rw [if_pos c3]
        refine ⟨up2 (up2 J m 8 (ic t)) m 9 (ic 2), up2 L m 14 (lo (pk b f (mn4 8 (t - f)))), ?_, ⟨up_s _ _ _ _, by rw [up_k (by omega), up_k (by omega)]; exact j10, fun _ => by rw [up_k (by omega), up_s], fun h => (by dsimp only at h; omega), fun _ => by show up2 L m 14 (lo (pk b f (mn4 8 (t - f)))) m 14 = lo (pk b f (t - f)); rw [up_s, mn4_le c3]⟩, fun j hj => by rw [up_k (by omega), up_k (by omega)]; exact jj j hj, fun y hy => by rw [← jy y hy]; exact funext fun j => by rw [up_a hy, up_a hy]⟩
        simp (maxSteps := 1000000) (disch := omega) only [↓reduceIte, ↓if_bi0, ↓if_bi1, hp_tg, hp_rI, hp_rR, hp_rL, hp_wI, hp_wL, Option.bind_some, if_11, if_01, bi_and1, i10, i01, bi_t, bi_f, ic_add, mr_4, ml_4, mr_8, ml_8, mr_10, ml_10, ic_add1, ic_sub1, ic_clamp, ic_div, ic_irm, ic_lt0, ic_0lt, ic_eq0, ic_lt, ic_inj, and15, and7, and31, and63, shl1, shr_ok, neg_1, neg_2, neg_3, neg_4, kc_lt0, kc_ic, kc_m2, kc_1, kc_0, i0_add, add_i0, or_i0, z_8, z_4, z_64, z_256, ic_m2, ec_m1, ic_m1, m1_lt0, m2_lt0, m3_lt0, m4_lt0, up_s, if_true, if_false, ne_eq, not_true_eq_false, not_false_eq_true, Bool.false_eq_true, eq_self, or_self, or_false, false_or, and_self, and_true, true_and, ite_self, Nat.reduceEqDiff, Nat.reduceLT, Nat.reduceMod, Nat.reduceMul, Nat.reduceAdd, Nat.reducePow, Nat.reduceDiv, lt_2, lt_3, lt_4, lt_5, lt_6, lt_7, lt_8, lt_10, lt_11, lt_12, lt_15, lt_16, lt_18, lt_20, lt_24, lt_31, lt_32, lt_48, lt_57, lt_59, lt_63, lt_64, lt_74, lt_75, lt_97, lt_122, lt_128, lt_144, lt_145, lt_146, lt_147, lt_155, lt_163, lt_171, lt_179, lt_200, lt_243, lt_244, lt_255, lt_256, lt_732, lt_900, lt_3660, lt_3904, lt_4095, lt_65536, lt_65537, lt_252645135, lt_858993459, lt_1431655765, ↓p_has_b, p_has, ↓p_has9_b, p_has9, ↓p_bit_b, p_bit, ↓p_bit1_b, p_bit1, ↓p_bit0_b, p_bit0, p_X9_goesOn_147, p_X9_goesOn_265, hL.t, show ¬ 8 < t - f by omega]
      · rw [if_neg c3]
        refine ⟨up2 J m 8 (ic t), up2 L m 14 (lo (pk b f (mn4 8 (t - f)))), ?_, ⟨by rw [up_k (by omega)]; exact j9, by rw [up_k (by omega)]; exact j10, fun h => absurd rfl h, fun h => (by dsimp only at h; omega), fun h => (by dsimp only at h; omega)⟩, fun j hj => by rw [up_k (by omega)]; exact jj j hj, fun y hy => by rw [← jy y hy]; exact funext fun j => by rw [up_a hy]⟩
        simp (maxSteps := 1000000) (disch := omega) only [↓reduceIte, ↓if_bi0, ↓if_bi1, hp_tg, hp_rI, hp_rR, hp_rL, hp_wI, hp_wL, Option.bind_some, if_11, if_01, bi_and1, i10, i01, bi_t, bi_f, ic_add, mr_4, ml_4, mr_8, ml_8, mr_10, ml_10, ic_add1, ic_sub1, ic_clamp, ic_div, ic_irm, ic_lt0, ic_0lt, ic_eq0, ic_lt, ic_inj, and15, and7, and31, and63, shl1, shr_ok, neg_1, neg_2, neg_3, neg_4, kc_lt0, kc_ic, kc_m2, kc_1, kc_0, i0_add, add_i0, or_i0, z_8, z_4, z_64, z_256, ic_m2, ec_m1, ic_m1, m1_lt0, m2_lt0, m3_lt0, m4_lt0, up_s, if_true, if_false, ne_eq, not_true_eq_false, not_false_eq_true, Bool.false_eq_true, eq_self, or_self, or_false, false_or, and_self, and_true, true_and, ite_self, Nat.reduceEqDiff, Nat.reduceLT, Nat.reduceMod, Nat.reduceMul, Nat.reduceAdd, Nat.reducePow, Nat.reduceDiv, lt_2, lt_3, lt_4, lt_5, lt_6, lt_7, lt_8, lt_10, lt_11, lt_12, lt_15, lt_16, lt_18, lt_20, lt_24, lt_31, lt_32, lt_48, lt_57, lt_59, lt_63, lt_64, lt_74, lt_75, lt_97, lt_122, lt_128, lt_144, lt_145, lt_146, lt_147, lt_155, lt_163, lt_171, lt_179, lt_200, lt_243, lt_244, lt_255, lt_256, lt_732, lt_900, lt_3660, lt_3904, lt_4095, lt_65536, lt_65537, lt_252645135, lt_858993459, lt_1431655765, ↓p_has_b, p_has, ↓p_has9_b, p_has9, ↓p_bit_b, p_bit, ↓p_bit1_b, p_bit1, ↓p_bit0_b, p_bit0, p_X9_goesOn_147, p_X9_goesOn_265, hL.t, show 8 < t - f by omega]
    · rw [if_neg c2]
      rw [show sml (b f) = false by simpa using c2] at s1
      by_cases c3 : dgt (b f) = true
      · rw [if_pos c3]
        rw [c3] at d1
        have W := x_dg (L := L) hL jT j7 hn (f0 := f) (n - f) f FU (by omega) (fu_lt (by omega)) (Nat.le_refl _)
        rw [Nat.sub_self, show vnm b f (mn4 4 0) = 0 from rfl, ← up_cm J (ic f) (ic 0) (show (8 : Nat) ≠ 11 by omega), eJ8] at W
        have rb := @rl_le (fun k => dgt (b k)) (n - f) f
        generalize rl (fun k => dgt (b k)) (n - f) f = t at *
        have e1 : ((p_X9_byteAt m (ic f) (hp S J L)).bind fun q129 => if q129.1 = m1 then (if (tg q129.2 m).1 = 8 then p_X9_goesOn_265 (wI q129.2 m 9 1) else none) else p_X9_goesOn_72 m q129.1 0 q129.2) = p_X9_goesOn_231 m (ic (t - f)) (hp S (up2 (up2 J m 11 (ic (vnm b f (mn4 4 (t - f))))) m 8 (ic t)) L) := by
          refine Eq.trans (bnd B1) ?_
          rw [if_neg (by show ¬ ic (b f) = m1; rw [ic_m1 (by omega)]; exact not_false)]
          show p_X9_goesOn_72 m (ic (b f)) 0 (hp S J L) = _
          simp (maxSteps := 1000000) (disch := omega) only [↓reduceIte, ↓if_bi0, ↓if_bi1, hp_tg, hp_rI, hp_rR, hp_rL, hp_wI, hp_wL, Option.bind_some, if_11, if_01, bi_and1, i10, i01, bi_t, bi_f, ic_add, mr_4, ml_4, mr_8, ml_8, mr_10, ml_10, ic_add1, ic_sub1, ic_clamp, ic_div, ic_irm, ic_lt0, ic_0lt, ic_eq0, ic_lt, ic_inj, and15, and7, and31, and63, shl1, shr_ok, neg_1, neg_2, neg_3, neg_4, kc_lt0, kc_ic, kc_m2, kc_1, kc_0, i0_add, add_i0, or_i0, z_8, z_4, z_64, z_256, ic_m2, ec_m1, ic_m1, m1_lt0, m2_lt0, m3_lt0, m4_lt0, up_s, if_true, if_false, ne_eq, not_true_eq_false, not_false_eq_true, Bool.false_eq_true, eq_self, or_self, or_false, false_or, and_self, and_true, true_and, ite_self, Nat.reduceEqDiff, Nat.reduceLT, Nat.reduceMod, Nat.reduceMul, Nat.reduceAdd, Nat.reducePow, Nat.reduceDiv, lt_2, lt_3, lt_4, lt_5, lt_6, lt_7, lt_8, lt_10, lt_11, lt_12, lt_15, lt_16, lt_18, lt_20, lt_24, lt_31, lt_32, lt_48, lt_57, lt_59, lt_63, lt_64, lt_74, lt_75, lt_97, lt_122, lt_128, lt_144, lt_145, lt_146, lt_147, lt_155, lt_163, lt_171, lt_179, lt_200, lt_243, lt_244, lt_255, lt_256, lt_732, lt_900, lt_3660, lt_3904, lt_4095, lt_65536, lt_65537, lt_252645135, lt_858993459, lt_1431655765, ↓p_has_b, p_has, ↓p_has9_b, p_has9, ↓p_bit_b, p_bit, ↓p_bit1_b, p_bit1, ↓p_bit0_b, p_bit0, p_X9_goesOn_72, hL.t, ↓bnd (s1), s1, ↓bnd (d1), d1]
          exact W
        rw [e1]
        by_cases c4 : t - f ≤ 4
        · rw [if_pos c4]
          refine ⟨up2 (up2 (up2 J m 11 (ic (vnm b f (mn4 4 (t - f))))) m 8 (ic t)) m 9 (ic 3), L, ?_, ⟨up_s _ _ _ _, by rw [up_k (by omega), up_k (by omega), up_k (by omega)]; exact j10, fun _ => by rw [up_k (by omega), up_s], fun _ => by rw [up_k (by omega), up_k (by omega), up_s, mn4_le c4], fun h => (by dsimp only at h; omega)⟩, fun j hj => by rw [up_k (by omega), up_k (by omega), up_k (by omega)]; exact jj j hj, fun y hy => by rw [← jy y hy]; exact funext fun j => by rw [up_a hy, up_a hy, up_a hy]⟩
          simp (maxSteps := 1000000) (disch := omega) only [↓reduceIte, ↓if_bi0, ↓if_bi1, hp_tg, hp_rI, hp_rR, hp_rL, hp_wI, hp_wL, Option.bind_some, if_11, if_01, bi_and1, i10, i01, bi_t, bi_f, ic_add, mr_4, ml_4, mr_8, ml_8, mr_10, ml_10, ic_add1, ic_sub1, ic_clamp, ic_div, ic_irm, ic_lt0, ic_0lt, ic_eq0, ic_lt, ic_inj, and15, and7, and31, and63, shl1, shr_ok, neg_1, neg_2, neg_3, neg_4, kc_lt0, kc_ic, kc_m2, kc_1, kc_0, i0_add, add_i0, or_i0, z_8, z_4, z_64, z_256, ic_m2, ec_m1, ic_m1, m1_lt0, m2_lt0, m3_lt0, m4_lt0, up_s, if_true, if_false, ne_eq, not_true_eq_false, not_false_eq_true, Bool.false_eq_true, eq_self, or_self, or_false, false_or, and_self, and_true, true_and, ite_self, Nat.reduceEqDiff, Nat.reduceLT, Nat.reduceMod, Nat.reduceMul, Nat.reduceAdd, Nat.reducePow, Nat.reduceDiv, lt_2, lt_3, lt_4, lt_5, lt_6, lt_7, lt_8, lt_10, lt_11, lt_12, lt_15, lt_16, lt_18, lt_20, lt_24, lt_31, lt_32, lt_48, lt_57, lt_59, lt_63, lt_64, lt_74, lt_75, lt_97, lt_122, lt_128, lt_144, lt_145, lt_146, lt_147, lt_155, lt_163, lt_171, lt_179, lt_200, lt_243, lt_244, lt_255, lt_256, lt_732, lt_900, lt_3660, lt_3904, lt_4095, lt_65536, lt_65537, lt_252645135, lt_858993459, lt_1431655765, ↓p_has_b, p_has, ↓p_has9_b, p_has9, ↓p_bit_b, p_bit, ↓p_bit1_b, p_bit1, ↓p_bit0_b, p_bit0, p_X9_goesOn_231, p_X9_goesOn_265, hL.t, show ¬ 4 < t - f by omega]
        · rw [if_neg c4]
          refine ⟨up2 (up2 J m 11 (ic (vnm b f (mn4 4 (t - f))))) m 8 (ic t), L, ?_, ⟨by rw [up_k (by omega), up_k (by omega)]; exact j9, by rw [up_k (by omega), up_k (by omega)]; exact j10, fun h => absurd rfl h, fun h => (by dsimp only at h; omega), fun h => (by dsimp only at h; omega)⟩, fun j hj => by rw [up_k (by omega), up_k (by omega)]; exact jj j hj, fun y hy => by rw [← jy y hy]; exact funext fun j => by rw [up_a hy, up_a hy]⟩
          simp (maxSteps := 1000000) (disch := omega) only [↓reduceIte, ↓if_bi0, ↓if_bi1, hp_tg, hp_rI, hp_rR, hp_rL, hp_wI, hp_wL, Option.bind_some, if_11, if_01, bi_and1, i10, i01, bi_t, bi_f, ic_add, mr_4, ml_4, mr_8, ml_8, mr_10, ml_10, ic_add1, ic_sub1, ic_clamp, ic_div, ic_irm, ic_lt0, ic_0lt, ic_eq0, ic_lt, ic_inj, and15, and7, and31, and63, shl1, shr_ok, neg_1, neg_2, neg_3, neg_4, kc_lt0, kc_ic, kc_m2, kc_1, kc_0, i0_add, add_i0, or_i0, z_8, z_4, z_64, z_256, ic_m2, ec_m1, ic_m1, m1_lt0, m2_lt0, m3_lt0, m4_lt0, up_s, if_true, if_false, ne_eq, not_true_eq_false, not_false_eq_true, Bool.false_eq_true, eq_self, or_self, or_false, false_or, and_self, and_true, true_and, ite_self, Nat.reduceEqDiff, Nat.reduceLT, Nat.reduceMod, Nat.reduceMul, Nat.reduceAdd, Nat.reducePow, Nat.reduceDiv, lt_2, lt_3, lt_4, lt_5, lt_6, lt_7, lt_8, lt_10, lt_11, lt_12, lt_15, lt_16, lt_18, lt_20, lt_24, lt_31, lt_32, lt_48, lt_57, lt_59, lt_63, lt_64, lt_74, lt_75, lt_97, lt_122, lt_128, lt_144, lt_145, lt_146, lt_147, lt_155, lt_163, lt_171, lt_179, lt_200, lt_243, lt_244, lt_255, lt_256, lt_732, lt_900, lt_3660, lt_3904, lt_4095, lt_65536, lt_65537, lt_252645135, lt_858993459, lt_1431655765, ↓p_has_b, p_has, ↓p_has9_b, p_has9, ↓p_bit_b, p_bit, ↓p_bit1_b, p_bit1, ↓p_bit0_b, p_bit0, p_X9_goesOn_231, p_X9_goesOn_265, hL.t, show 4 < t - f by omega]
      · rw [if_neg c3]
        rw [show dgt (b f) = false by simpa using c3] at d1
        have e1 : ((p_X9_byteAt m (ic f) (hp S J L)).bind fun q129 => if q129.1 = m1 then (if (tg q129.2 m).1 = 8 then p_X9_goesOn_265 (wI q129.2 m 9 1) else none) else p_X9_goesOn_72 m q129.1 0 q129.2) = p_X9_goesOn_72 m (ic (b f)) 0 (hp S J L) := by
          refine Eq.trans (bnd B1) ?_
          rw [if_neg (by show ¬ ic (b f) = m1; rw [ic_m1 (by omega)]; exact not_false)]
        rw [e1]
        by_cases c4 : b f = 59
        · rw [if_pos c4]
          rw [c4] at s1 d1 ⊢
          have k8 : up2 J m 9 (ic 4) m 8 = ic f := by rw [up_k (by omega)]; exact j8
          refine ⟨up2 (up2 J m 9 (ic 4)) m 8 (ic (f + 1)), L, ?_, ⟨by rw [up_k (by omega), up_s]; rfl, by rw [up_k (by omega), up_k (by omega)]; exact j10, fun _ => up_s _ _ _ _, fun h => (by dsimp only at h; omega), fun h => (by dsimp only at h; omega)⟩, fun j hj => by rw [up_k (by omega), up_k (by omega)]; exact jj j hj, fun y hy => by rw [← jy y hy]; exact funext fun j => by rw [up_a hy, up_a hy]⟩
          simp (maxSteps := 1000000) (disch := omega) only [↓reduceIte, ↓if_bi0, ↓if_bi1, hp_tg, hp_rI, hp_rR, hp_rL, hp_wI, hp_wL, Option.bind_some, if_11, if_01, bi_and1, i10, i01, bi_t, bi_f, ic_add, mr_4, ml_4, mr_8, ml_8, mr_10, ml_10, ic_add1, ic_sub1, ic_clamp, ic_div, ic_irm, ic_lt0, ic_0lt, ic_eq0, ic_lt, ic_inj, and15, and7, and31, and63, shl1, shr_ok, neg_1, neg_2, neg_3, neg_4, kc_lt0, kc_ic, kc_m2, kc_1, kc_0, i0_add, add_i0, or_i0, z_8, z_4, z_64, z_256, ic_m2, ec_m1, ic_m1, m1_lt0, m2_lt0, m3_lt0, m4_lt0, up_s, if_true, if_false, ne_eq, not_true_eq_false, not_false_eq_true, Bool.false_eq_true, eq_self, or_self, or_false, false_or, and_self, and_true, true_and, ite_self, Nat.reduceEqDiff, Nat.reduceLT, Nat.reduceMod, Nat.reduceMul, Nat.reduceAdd, Nat.reducePow, Nat.reduceDiv, lt_2, lt_3, lt_4, lt_5, lt_6, lt_7, lt_8, lt_10, lt_11, lt_12, lt_15, lt_16, lt_18, lt_20, lt_24, lt_31, lt_32, lt_48, lt_57, lt_59, lt_63, lt_64, lt_74, lt_75, lt_97, lt_122, lt_128, lt_144, lt_145, lt_146, lt_147, lt_155, lt_163, lt_171, lt_179, lt_200, lt_243, lt_244, lt_255, lt_256, lt_732, lt_900, lt_3660, lt_3904, lt_4095, lt_65536, lt_65537, lt_252645135, lt_858993459, lt_1431655765, ↓p_has_b, p_has, ↓p_has9_b, p_has9, ↓p_bit_b, p_bit, ↓p_bit1_b, p_bit1, ↓p_bit0_b, p_bit0, p_X9_goesOn_72, p_X9_goesOn_265, hL.t, ↓bnd (s1), s1, ↓bnd (d1), d1, k8]
        · rw [if_neg c4]
          refine ⟨J, L, ?_, ⟨j9, j10, fun h => absurd rfl h, fun h => (by dsimp only at h; omega), fun h => (by dsimp only at h; omega)⟩, jj, jy⟩
          simp (maxSteps := 1000000) (disch := omega) only [↓reduceIte, ↓if_bi0, ↓if_bi1, hp_tg, hp_rI, hp_rR, hp_rL, hp_wI, hp_wL, Option.bind_some, if_11, if_01, bi_and1, i10, i01, bi_t, bi_f, ic_add, mr_4, ml_4, mr_8, ml_8, mr_10, ml_10, ic_add1, ic_sub1, ic_clamp, ic_div, ic_irm, ic_lt0, ic_0lt, ic_eq0, ic_lt, ic_inj, and15, and7, and31, and63, shl1, shr_ok, neg_1, neg_2, neg_3, neg_4, kc_lt0, kc_ic, kc_m2, kc_1, kc_0, i0_add, add_i0, or_i0, z_8, z_4, z_64, z_256, ic_m2, ec_m1, ic_m1, m1_lt0, m2_lt0, m3_lt0, m4_lt0, up_s, if_true, if_false, ne_eq, not_true_eq_false, not_false_eq_true, Bool.false_eq_true, eq_self, or_self, or_false, false_or, and_self, and_true, true_and, ite_self, Nat.reduceEqDiff, Nat.reduceLT, Nat.reduceMod, Nat.reduceMul, Nat.reduceAdd, Nat.reducePow, Nat.reduceDiv, lt_2, lt_3, lt_4, lt_5, lt_6, lt_7, lt_8, lt_10, lt_11, lt_12, lt_15, lt_16, lt_18, lt_20, lt_24, lt_31, lt_32, lt_48, lt_57, lt_59, lt_63, lt_64, lt_74, lt_75, lt_97, lt_122, lt_128, lt_144, lt_145, lt_146, lt_147, lt_155, lt_163, lt_171, lt_179, lt_200, lt_243, lt_244, lt_255, lt_256, lt_732, lt_900, lt_3660, lt_3904, lt_4095, lt_65536, lt_65537, lt_252645135, lt_858993459, lt_1431655765, ↓p_has_b, p_has, ↓p_has9_b, p_has9, ↓p_bit_b, p_bit, ↓p_bit1_b, p_bit1, ↓p_bit0_b, p_bit0, p_X9_goesOn_72, p_X9_goesOn_265, hL.t, ↓bnd (s1), s1, ↓bnd (d1), d1, c4]
end GOEST
