/-! ===== the class: acts ===== -/
section CACT
variable {S : SH} {I : II} {L : LL} {q pl : Nat} {s : St}
theorem q_rem1 (hL : QL S q) (hR : QR I q s pl) (hV : Inv s pl) {n i : Nat} (hn : n < 8) (hi : i < 8) : p_X3_remove q (ic n) (ic i) (hp S I L) = some (bi (decide (se s (8 * n + i) ≠ 0)), hp S (up2 I (q + 4) (8 * n + i) m2) L) := by
  have h := q_remove (L := L) hL hR n i (by rw [show 8 * (n % 8) + i % 8 = 8 * n + i by omega]; exact hV.e64 (by omega))
  rw [show 8 * (n % 8) + i % 8 = 8 * n + i by omega] at h
  exact h
theorem q_rem1_b (hL : QL S q) (hR : QR I q s pl) (hV : Inv s pl) {n i : Nat} (hn : n < 8) (hi : i < 8) {β : Type} (f9 : Int32 × AH → Option β) : (p_X3_remove q (ic n) (ic i) (hp S I L)).bind f9 = f9 (bi (decide (se s (8 * n + i) ≠ 0)), hp S (up2 I (q + 4) (8 * n + i) m2) L) := bnd (by apply q_rem1 <;> assumption)
theorem q_loosen (hL : QL S q) (hR : QR I q s pl) (hV : Inv s pl) {f i : Nat} (hf : f < 16) (hi : i < 8) : ∃ I', p_X3_loosen q (ic f) (ic i) (hp S I L) = some (hp S I' L) ∧ QR I' q (sto4 s f i) pl ∧ Fr I I' q (q + 4) := by
  have A := q_find0 (L := L) hL hR hV (o := f) (by omega)
  have first : ∃ I1, p_X3_loosen q (ic f) (ic i) (hp S I L) = p_X3_loosen_18 q (ic f) (hp S I1 L) ∧ QR I1 q (sto3 s f i) pl ∧ Fr I I1 q (q + 4) := by
    unfold sto3
    cases e : fnd s 0 f with
    | none =>
      rw [e] at A
      refine ⟨I, ?_, hR, Fr.refl _ _ _⟩
      simp (maxSteps := 1000000) (disch := omega) only [↓reduceIte, ↓if_bi0, ↓if_bi1, hp_tg, hp_rI, hp_rR, hp_rL, hp_wI, hp_wL, Option.bind_some, if_11, if_01, bi_and1, i10, i01, bi_t, bi_f, ic_add, mr_4, ml_4, mr_8, ml_8, mr_10, ml_10, ic_add1, ic_sub1, ic_clamp, ic_div, ic_irm, ic_lt0, ic_0lt, ic_eq0, ic_lt, ic_inj, and15, and7, and31, and63, shl1, shr_ok, neg_1, neg_2, neg_3, neg_4, kc_lt0, kc_ic, kc_m2, kc_1, kc_0, i0_add, add_i0, or_i0, z_8, z_4, z_64, z_256, ic_m2, ec_m1, ic_m1, m1_lt0, m2_lt0, m3_lt0, m4_lt0, up_s, if_true, if_false, ne_eq, not_true_eq_false, not_false_eq_true, Bool.false_eq_true, eq_self, or_self, or_false, false_or, and_self, and_true, true_and, ite_self, Nat.reduceEqDiff, Nat.reduceLT, Nat.reduceMod, Nat.reduceMul, Nat.reduceAdd, Nat.reducePow, Nat.reduceDiv, lt_2, lt_3, lt_4, lt_5, lt_6, lt_7, lt_8, lt_10, lt_11, lt_12, lt_15, lt_16, lt_18, lt_20, lt_24, lt_31, lt_32, lt_48, lt_57, lt_59, lt_63, lt_64, lt_74, lt_75, lt_97, lt_122, lt_128, lt_144, lt_145, lt_146, lt_147, lt_155, lt_163, lt_171, lt_179, lt_200, lt_243, lt_244, lt_255, lt_256, lt_732, lt_900, lt_3660, lt_3904, lt_4095, lt_65536, lt_65537, lt_252645135, lt_858993459, lt_1431655765, ↓p_has_b, p_has, ↓p_has9_b, p_has9, ↓p_bit_b, p_bit, ↓p_bit1_b, p_bit1, ↓p_bit0_b, p_bit0, p_X3_loosen, hL.t, ↓bnd (A), A, oc, om_none]
    | some r =>
      have hr := (fnd_some e).1
      rw [e] at A
      have B := q_rem1 (L := L) hL hR hV hr hi
      refine ⟨_, ?_, hR.put m2 rfl (by omega), Fr.up (by omega) (by omega)⟩
      simp (maxSteps := 1000000) (disch := omega) only [↓reduceIte, ↓if_bi0, ↓if_bi1, hp_tg, hp_rI, hp_rR, hp_rL, hp_wI, hp_wL, Option.bind_some, if_11, if_01, bi_and1, i10, i01, bi_t, bi_f, ic_add, mr_4, ml_4, mr_8, ml_8, mr_10, ml_10, ic_add1, ic_sub1, ic_clamp, ic_div, ic_irm, ic_lt0, ic_0lt, ic_eq0, ic_lt, ic_inj, and15, and7, and31, and63, shl1, shr_ok, neg_1, neg_2, neg_3, neg_4, kc_lt0, kc_ic, kc_m2, kc_1, kc_0, i0_add, add_i0, or_i0, z_8, z_4, z_64, z_256, ic_m2, ec_m1, ic_m1, m1_lt0, m2_lt0, m3_lt0, m4_lt0, up_s, if_true, if_false, ne_eq, not_true_eq_false, not_false_eq_true, Bool.false_eq_true, eq_self, or_self, or_false, false_or, and_self, and_true, true_and, ite_self, Nat.reduceEqDiff, Nat.reduceLT, Nat.reduceMod, Nat.reduceMul, Nat.reduceAdd, Nat.reducePow, Nat.reduceDiv, lt_2, lt_3, lt_4, lt_5, lt_6, lt_7, lt_8, lt_10, lt_11, lt_12, lt_15, lt_16, lt_18, lt_20, lt_24, lt_31, lt_32, lt_48, lt_57, lt_59, lt_63, lt_64, lt_74, lt_75, lt_97, lt_122, lt_128, lt_144, lt_145, lt_146, lt_147, lt_155, lt_163, lt_171, lt_179, lt_200, lt_243, lt_244, lt_255, lt_256, lt_732, lt_900, lt_3660, lt_3904, lt_4095, lt_65536, lt_65537, lt_252645135, lt_858993459, lt_1431655765, ↓p_has_b, p_has, ↓p_has9_b, p_has9, ↓p_bit_b, p_bit, ↓p_bit1_b, p_bit1, ↓p_bit0_b, p_bit0, p_X3_loosen, hL.t, ↓bnd (A), A, oc, om_some, ↓bnd (B), B]
  obtain ⟨I1, e1, r1, f1⟩ := first
  have C := q_find1 (L := L) hL r1 (inv_sto3 hV f i) (o := f) (by omega)
  have fe : fnd (sto3 s f i) 1 f = fnd s 1 f := by
    unfold sto3
    cases fnd s 0 f <;> rfl
  rw [fe] at C
  unfold sto4
  cases e : fnd s 1 f with
  | none =>
    rw [e] at C
    refine ⟨I1, e1.trans ?_, r1, f1⟩
    simp (maxSteps := 1000000) (disch := omega) only [↓reduceIte, ↓if_bi0, ↓if_bi1, hp_tg, hp_rI, hp_rR, hp_rL, hp_wI, hp_wL, Option.bind_some, if_11, if_01, bi_and1, i10, i01, bi_t, bi_f, ic_add, mr_4, ml_4, mr_8, ml_8, mr_10, ml_10, ic_add1, ic_sub1, ic_clamp, ic_div, ic_irm, ic_lt0, ic_0lt, ic_eq0, ic_lt, ic_inj, and15, and7, and31, and63, shl1, shr_ok, neg_1, neg_2, neg_3, neg_4, kc_lt0, kc_ic, kc_m2, kc_1, kc_0, i0_add, add_i0, or_i0, z_8, z_4, z_64, z_256, ic_m2, ec_m1, ic_m1, m1_lt0, m2_lt0, m3_lt0, m4_lt0, up_s, if_true, if_false, ne_eq, not_true_eq_false, not_false_eq_true, Bool.false_eq_true, eq_self, or_self, or_false, false_or, and_self, and_true, true_and, ite_self, Nat.reduceEqDiff, Nat.reduceLT, Nat.reduceMod, Nat.reduceMul, Nat.reduceAdd, Nat.reducePow, Nat.reduceDiv, lt_2, lt_3, lt_4, lt_5, lt_6, lt_7, lt_8, lt_10, lt_11, lt_12, lt_15, lt_16, lt_18, lt_20, lt_24, lt_31, lt_32, lt_48, lt_57, lt_59, lt_63, lt_64, lt_74, lt_75, lt_97, lt_122, lt_128, lt_144, lt_145, lt_146, lt_147, lt_155, lt_163, lt_171, lt_179, lt_200, lt_243, lt_244, lt_255, lt_256, lt_732, lt_900, lt_3660, lt_3904, lt_4095, lt_65536, lt_65537, lt_252645135, lt_858993459, lt_1431655765, ↓p_has_b, p_has, ↓p_has9_b, p_has9, ↓p_bit_b, p_bit, ↓p_bit1_b, p_bit1, ↓p_bit0_b, p_bit0, p_X3_loosen_18, p_X3_loosen_44, hL.t, ↓bnd (C), C, oc, om_none]
  | some l =>
    have hl := (fnd_some e).1
    rw [e] at C
    obtain ⟨r2, r3, r4, r5, ⟨w, r6, r7, r8⟩, r9, r10⟩ := r1
    refine ⟨up2 I1 q 4 (ic (sbt w l)), e1.trans ?_, ?_, f1.trans (Fr.up (by omega) (by omega))⟩
    · simp (maxSteps := 1000000) (disch := omega) only [↓reduceIte, ↓if_bi0, ↓if_bi1, hp_tg, hp_rI, hp_rR, hp_rL, hp_wI, hp_wL, Option.bind_some, if_11, if_01, bi_and1, i10, i01, bi_t, bi_f, ic_add, mr_4, ml_4, mr_8, ml_8, mr_10, ml_10, ic_add1, ic_sub1, ic_clamp, ic_div, ic_irm, ic_lt0, ic_0lt, ic_eq0, ic_lt, ic_inj, and15, and7, and31, and63, shl1, shr_ok, neg_1, neg_2, neg_3, neg_4, kc_lt0, kc_ic, kc_m2, kc_1, kc_0, i0_add, add_i0, or_i0, z_8, z_4, z_64, z_256, ic_m2, ec_m1, ic_m1, m1_lt0, m2_lt0, m3_lt0, m4_lt0, up_s, if_true, if_false, ne_eq, not_true_eq_false, not_false_eq_true, Bool.false_eq_true, eq_self, or_self, or_false, false_or, and_self, and_true, true_and, ite_self, Nat.reduceEqDiff, Nat.reduceLT, Nat.reduceMod, Nat.reduceMul, Nat.reduceAdd, Nat.reducePow, Nat.reduceDiv, lt_2, lt_3, lt_4, lt_5, lt_6, lt_7, lt_8, lt_10, lt_11, lt_12, lt_15, lt_16, lt_18, lt_20, lt_24, lt_31, lt_32, lt_48, lt_57, lt_59, lt_63, lt_64, lt_74, lt_75, lt_97, lt_122, lt_128, lt_144, lt_145, lt_146, lt_147, lt_155, lt_163, lt_171, lt_179, lt_200, lt_243, lt_244, lt_255, lt_256, lt_732, lt_900, lt_3660, lt_3904, lt_4095, lt_65536, lt_65537, lt_252645135, lt_858993459, lt_1431655765, ↓p_has_b, p_has, ↓p_has9_b, p_has9, ↓p_bit_b, p_bit, ↓p_bit1_b, p_bit1, ↓p_bit0_b, p_bit0, p_X3_loosen_18, p_X3_loosen_44, hL.t, ↓bnd (C), C, oc, om_some, r7]
      rw [show l % 32 = l by omega]
      simp (maxSteps := 1000000) (disch := omega) only [↓reduceIte, ↓if_bi0, ↓if_bi1, hp_tg, hp_rI, hp_rR, hp_rL, hp_wI, hp_wL, Option.bind_some, if_11, if_01, bi_and1, i10, i01, bi_t, bi_f, ic_add, mr_4, ml_4, mr_8, ml_8, mr_10, ml_10, ic_add1, ic_sub1, ic_clamp, ic_div, ic_irm, ic_lt0, ic_0lt, ic_eq0, ic_lt, ic_inj, and15, and7, and31, and63, shl1, shr_ok, neg_1, neg_2, neg_3, neg_4, kc_lt0, kc_ic, kc_m2, kc_1, kc_0, i0_add, add_i0, or_i0, z_8, z_4, z_64, z_256, ic_m2, ec_m1, ic_m1, m1_lt0, m2_lt0, m3_lt0, m4_lt0, up_s, if_true, if_false, ne_eq, not_true_eq_false, not_false_eq_true, Bool.false_eq_true, eq_self, or_self, or_false, false_or, and_self, and_true, true_and, ite_self, Nat.reduceEqDiff, Nat.reduceLT, Nat.reduceMod, Nat.reduceMul, Nat.reduceAdd, Nat.reducePow, Nat.reduceDiv, lt_2, lt_3, lt_4, lt_5, lt_6, lt_7, lt_8, lt_10, lt_11, lt_12, lt_15, lt_16, lt_18, lt_20, lt_24, lt_31, lt_32, lt_48, lt_57, lt_59, lt_63, lt_64, lt_74, lt_75, lt_97, lt_122, lt_128, lt_144, lt_145, lt_146, lt_147, lt_155, lt_163, lt_171, lt_179, lt_200, lt_243, lt_244, lt_255, lt_256, lt_732, lt_900, lt_3660, lt_3904, lt_4095, lt_65536, lt_65537, lt_252645135, lt_858993459, lt_1431655765, ↓p_has_b, p_has, ↓p_has9_b, p_has9, ↓p_bit_b, p_bit, ↓p_bit1_b, p_bit1, ↓p_bit0_b, p_bit0, ic_or]
      rfl
    · refine ⟨fun n hn => ?_, fun n hn => ?_, fun n hn => ?_, fun a ha => ?_, ⟨sbt w l, sbt_lt (n := 8) r6 hl, up_s _ _ _ _, fun n hn => ?_⟩, ?_, ?_⟩
      · rw [up_a (by omega)]; exact r2 n hn
      · rw [up_a (by omega)]; exact r3 n hn
      · rw [up_a (by omega)]; exact r4 n hn
      · rw [up_a (by omega)]; exact r5 a ha
      · rw [tb_sbt, r8 n hn]
        show _ = up1 (su (sto3 s f i)) l true n
        by_cases c : n = l
        · subst c; rw [up1_s]; simp
        · rw [up1_n c]; simp [show ¬ l = n from fun e => c e.symm]
      · rw [up_k (by omega)]; exact r9
      · rw [up_k (by omega)]; exact r10
theorem q_allow (hL : QL S q) (hR : QR I q s pl) (hV : Inv s pl) {n v : Nat} (hn : n < 8) : ∃ I', p_X3_allowWrite q (ic n) (ic v) (hp S I L) = some (hp S I' L) ∧ QR I' q (or2 s (8 * n + v % 8)) pl ∧ Fr I I' q (q + 4) := by
  have h64 := hV.e64 (a := 8 * n + v % 8) (by omega)
  have he := hR.e (8 * n + v % 8) (by omega)
  unfold or2
  by_cases c : se s (8 * n + v % 8) = 0
  · rw [if_pos c]
    rw [c] at he
    refine ⟨I, ?_, hR, Fr.refl _ _ _⟩
    simp (maxSteps := 1000000) (disch := omega) only [↓reduceIte, ↓if_bi0, ↓if_bi1, hp_tg, hp_rI, hp_rR, hp_rL, hp_wI, hp_wL, Option.bind_some, if_11, if_01, bi_and1, i10, i01, bi_t, bi_f, ic_add, mr_4, ml_4, mr_8, ml_8, mr_10, ml_10, ic_add1, ic_sub1, ic_clamp, ic_div, ic_irm, ic_lt0, ic_0lt, ic_eq0, ic_lt, ic_inj, and15, and7, and31, and63, shl1, shr_ok, neg_1, neg_2, neg_3, neg_4, kc_lt0, kc_ic, kc_m2, kc_1, kc_0, i0_add, add_i0, or_i0, z_8, z_4, z_64, z_256, ic_m2, ec_m1, ic_m1, m1_lt0, m2_lt0, m3_lt0, m4_lt0, up_s, if_true, if_false, ne_eq, not_true_eq_false, not_false_eq_true, Bool.false_eq_true, eq_self, or_self, or_false, false_or, and_self, and_true, true_and, ite_self, Nat.reduceEqDiff, Nat.reduceLT, Nat.reduceMod, Nat.reduceMul, Nat.reduceAdd, Nat.reducePow, Nat.reduceDiv, lt_2, lt_3, lt_4, lt_5, lt_6, lt_7, lt_8, lt_10, lt_11, lt_12, lt_15, lt_16, lt_18, lt_20, lt_24, lt_31, lt_32, lt_48, lt_57, lt_59, lt_63, lt_64, lt_74, lt_75, lt_97, lt_122, lt_128, lt_144, lt_145, lt_146, lt_147, lt_155, lt_163, lt_171, lt_179, lt_200, lt_243, lt_244, lt_255, lt_256, lt_732, lt_900, lt_3660, lt_3904, lt_4095, lt_65536, lt_65537, lt_252645135, lt_858993459, lt_1431655765, ↓p_has_b, p_has, ↓p_has9_b, p_has9, ↓p_bit_b, p_bit, ↓p_bit1_b, p_bit1, ↓p_bit0_b, p_bit0, p_X3_allowWrite_25, p_X3_allowWrite, p_X3_spot, hL.t, hL.e, if_inB hL.et, show n % 8 = n by omega, he, kc_zero]
  · rw [if_neg c]
    rw [kc_pos (by omega)] at he
    refine ⟨_, ?_, hR.put _ (kc_succ _).symm (by omega), Fr.up (by omega) (by omega)⟩
    simp (maxSteps := 1000000) (disch := omega) only [↓reduceIte, ↓if_bi0, ↓if_bi1, hp_tg, hp_rI, hp_rR, hp_rL, hp_wI, hp_wL, Option.bind_some, if_11, if_01, bi_and1, i10, i01, bi_t, bi_f, ic_add, mr_4, ml_4, mr_8, ml_8, mr_10, ml_10, ic_add1, ic_sub1, ic_clamp, ic_div, ic_irm, ic_lt0, ic_0lt, ic_eq0, ic_lt, ic_inj, and15, and7, and31, and63, shl1, shr_ok, neg_1, neg_2, neg_3, neg_4, kc_lt0, kc_ic, kc_m2, kc_1, kc_0, i0_add, add_i0, or_i0, z_8, z_4, z_64, z_256, ic_m2, ec_m1, ic_m1, m1_lt0, m2_lt0, m3_lt0, m4_lt0, up_s, if_true, if_false, ne_eq, not_true_eq_false, not_false_eq_true, Bool.false_eq_true, eq_self, or_self, or_false, false_or, and_self, and_true, true_and, ite_self, Nat.reduceEqDiff, Nat.reduceLT, Nat.reduceMod, Nat.reduceMul, Nat.reduceAdd, Nat.reducePow, Nat.reduceDiv, lt_2, lt_3, lt_4, lt_5, lt_6, lt_7, lt_8, lt_10, lt_11, lt_12, lt_15, lt_16, lt_18, lt_20, lt_24, lt_31, lt_32, lt_48, lt_57, lt_59, lt_63, lt_64, lt_74, lt_75, lt_97, lt_122, lt_128, lt_144, lt_145, lt_146, lt_147, lt_155, lt_163, lt_171, lt_179, lt_200, lt_243, lt_244, lt_255, lt_256, lt_732, lt_900, lt_3660, lt_3904, lt_4095, lt_65536, lt_65537, lt_252645135, lt_858993459, lt_1431655765, ↓p_has_b, p_has, ↓p_has9_b, p_has9, ↓p_bit_b, p_bit, ↓p_bit1_b, p_bit1, ↓p_bit0_b, p_bit0, p_X3_allowWrite_25, p_X3_allowWrite, p_X3_spot, hL.t, hL.e, if_inB hL.et, show n % 8 = n by omega, he, ic_or]
theorem q_forgetPlace (hL : QL S q) (hR : QR I q s pl) (hV : Inv s pl) {f i : Nat} (hf : f < 16) (hi : i < 8) : ∃ I', p_X3_forgetPlace q (ic f) (ic i) (hp S I L) = some (ic (dvN s f i), hp S I' L) ∧ QR I' q (tke (tke s (fnd s 0 f) i) (inst s (fnd s 1 f)) i) pl ∧ Fr I I' q (q + 4) := by
  have A := q_find0 (L := L) hL hR hV (o := f) (by omega)
  have first : ∃ I1, p_X3_forgetPlace q (ic f) (ic i) (hp S I L) = p_X3_forgetPlace_25 q (ic f) (ic i) (ic (tkN s (fnd s 0 f) i)) (hp S I1 L) ∧ QR I1 q (tke s (fnd s 0 f) i) pl ∧ Fr I I1 q (q + 4) := by
    unfold tke tkN
    cases e : fnd s 0 f with
    | none =>
      rw [e] at A
      refine ⟨I, ?_, hR, Fr.refl _ _ _⟩
      simp (maxSteps := 1000000) (disch := omega) only [↓reduceIte, ↓if_bi0, ↓if_bi1, hp_tg, hp_rI, hp_rR, hp_rL, hp_wI, hp_wL, Option.bind_some, if_11, if_01, bi_and1, i10, i01, bi_t, bi_f, ic_add, mr_4, ml_4, mr_8, ml_8, mr_10, ml_10, ic_add1, ic_sub1, ic_clamp, ic_div, ic_irm, ic_lt0, ic_0lt, ic_eq0, ic_lt, ic_inj, and15, and7, and31, and63, shl1, shr_ok, neg_1, neg_2, neg_3, neg_4, kc_lt0, kc_ic, kc_m2, kc_1, kc_0, i0_add, add_i0, or_i0, z_8, z_4, z_64, z_256, ic_m2, ec_m1, ic_m1, m1_lt0, m2_lt0, m3_lt0, m4_lt0, up_s, if_true, if_false, ne_eq, not_true_eq_false, not_false_eq_true, Bool.false_eq_true, eq_self, or_self, or_false, false_or, and_self, and_true, true_and, ite_self, Nat.reduceEqDiff, Nat.reduceLT, Nat.reduceMod, Nat.reduceMul, Nat.reduceAdd, Nat.reducePow, Nat.reduceDiv, lt_2, lt_3, lt_4, lt_5, lt_6, lt_7, lt_8, lt_10, lt_11, lt_12, lt_15, lt_16, lt_18, lt_20, lt_24, lt_31, lt_32, lt_48, lt_57, lt_59, lt_63, lt_64, lt_74, lt_75, lt_97, lt_122, lt_128, lt_144, lt_145, lt_146, lt_147, lt_155, lt_163, lt_171, lt_179, lt_200, lt_243, lt_244, lt_255, lt_256, lt_732, lt_900, lt_3660, lt_3904, lt_4095, lt_65536, lt_65537, lt_252645135, lt_858993459, lt_1431655765, ↓p_has_b, p_has, ↓p_has9_b, p_has9, ↓p_bit_b, p_bit, ↓p_bit1_b, p_bit1, ↓p_bit0_b, p_bit0, p_X3_forgetPlace, hL.t, ↓bnd (A), A, oc, om_none, ic_zero]
    | some r =>
      have hr := (fnd_some e).1
      rw [e] at A
      have B := q_rem1 (L := L) hL hR hV hr hi
      refine ⟨_, ?_, hR.put m2 rfl (by omega), Fr.up (by omega) (by omega)⟩
      simp (maxSteps := 1000000) (disch := omega) only [↓reduceIte, ↓if_bi0, ↓if_bi1, hp_tg, hp_rI, hp_rR, hp_rL, hp_wI, hp_wL, Option.bind_some, if_11, if_01, bi_and1, i10, i01, bi_t, bi_f, ic_add, mr_4, ml_4, mr_8, ml_8, mr_10, ml_10, ic_add1, ic_sub1, ic_clamp, ic_div, ic_irm, ic_lt0, ic_0lt, ic_eq0, ic_lt, ic_inj, and15, and7, and31, and63, shl1, shr_ok, neg_1, neg_2, neg_3, neg_4, kc_lt0, kc_ic, kc_m2, kc_1, kc_0, i0_add, add_i0, or_i0, z_8, z_4, z_64, z_256, ic_m2, ec_m1, ic_m1, m1_lt0, m2_lt0, m3_lt0, m4_lt0, up_s, if_true, if_false, ne_eq, not_true_eq_false, not_false_eq_true, Bool.false_eq_true, eq_self, or_self, or_false, false_or, and_self, and_true, true_and, ite_self, Nat.reduceEqDiff, Nat.reduceLT, Nat.reduceMod, Nat.reduceMul, Nat.reduceAdd, Nat.reducePow, Nat.reduceDiv, lt_2, lt_3, lt_4, lt_5, lt_6, lt_7, lt_8, lt_10, lt_11, lt_12, lt_15, lt_16, lt_18, lt_20, lt_24, lt_31, lt_32, lt_48, lt_57, lt_59, lt_63, lt_64, lt_74, lt_75, lt_97, lt_122, lt_128, lt_144, lt_145, lt_146, lt_147, lt_155, lt_163, lt_171, lt_179, lt_200, lt_243, lt_244, lt_255, lt_256, lt_732, lt_900, lt_3660, lt_3904, lt_4095, lt_65536, lt_65537, lt_252645135, lt_858993459, lt_1431655765, ↓p_has_b, p_has, ↓p_has9_b, p_has9, ↓p_bit_b, p_bit, ↓p_bit1_b, p_bit1, ↓p_bit0_b, p_bit0, p_X3_forgetPlace, hL.t, ↓bnd (A), A, oc, om_some, ↓bnd (B), B]
      by_cases c : se s (8 * r + i) ≠ 0
      · simp only [decide_eq_true c]; rfl
      · simp only [decide_eq_false c]; rfl
  obtain ⟨I1, e1, r1, f1⟩ := first
  have V1 := inv_tke hV (fnd s 0 f) i
  have C := q_find1 (L := L) hL r1 V1 (o := f) (by omega)
  have fe : fnd (tke s (fnd s 0 f) i) 1 f = fnd s 1 f := by
    unfold tke
    cases fnd s 0 f <;> rfl
  rw [fe] at C
  have hsu : su (tke s (fnd s 0 f) i) = su s := by unfold tke; cases fnd s 0 f <;> rfl
  unfold dvN inst
  cases e : fnd s 1 f with
  | none =>
    rw [e] at C
    refine ⟨I1, e1.trans ?_, r1, f1⟩
    simp (maxSteps := 1000000) (disch := omega) only [↓reduceIte, ↓if_bi0, ↓if_bi1, hp_tg, hp_rI, hp_rR, hp_rL, hp_wI, hp_wL, Option.bind_some, if_11, if_01, bi_and1, i10, i01, bi_t, bi_f, ic_add, mr_4, ml_4, mr_8, ml_8, mr_10, ml_10, ic_add1, ic_sub1, ic_clamp, ic_div, ic_irm, ic_lt0, ic_0lt, ic_eq0, ic_lt, ic_inj, and15, and7, and31, and63, shl1, shr_ok, neg_1, neg_2, neg_3, neg_4, kc_lt0, kc_ic, kc_m2, kc_1, kc_0, i0_add, add_i0, or_i0, z_8, z_4, z_64, z_256, ic_m2, ec_m1, ic_m1, m1_lt0, m2_lt0, m3_lt0, m4_lt0, up_s, if_true, if_false, ne_eq, not_true_eq_false, not_false_eq_true, Bool.false_eq_true, eq_self, or_self, or_false, false_or, and_self, and_true, true_and, ite_self, Nat.reduceEqDiff, Nat.reduceLT, Nat.reduceMod, Nat.reduceMul, Nat.reduceAdd, Nat.reducePow, Nat.reduceDiv, lt_2, lt_3, lt_4, lt_5, lt_6, lt_7, lt_8, lt_10, lt_11, lt_12, lt_15, lt_16, lt_18, lt_20, lt_24, lt_31, lt_32, lt_48, lt_57, lt_59, lt_63, lt_64, lt_74, lt_75, lt_97, lt_122, lt_128, lt_144, lt_145, lt_146, lt_147, lt_155, lt_163, lt_171, lt_179, lt_200, lt_243, lt_244, lt_255, lt_256, lt_732, lt_900, lt_3660, lt_3904, lt_4095, lt_65536, lt_65537, lt_252645135, lt_858993459, lt_1431655765, ↓p_has_b, p_has, ↓p_has9_b, p_has9, ↓p_bit_b, p_bit, ↓p_bit1_b, p_bit1, ↓p_bit0_b, p_bit0, p_X3_forgetPlace_25, p_X3_forgetPlace_57, hL.t, ↓bnd (C), C, oc, om_none, tkN, Nat.add_zero]
  | some l =>
    obtain ⟨hl, hk, -⟩ := fnd_some e
    rw [e] at C
    have D := q_astray (L := L) hL r1 hl
    rw [hsu] at D
    have hse : se (tke s (fnd s 0 f) i) (8 * l + i) = se s (8 * l + i) := by
      unfold tke
      cases e0 : fnd s 0 f with
      | none => rfl
      | some r =>
        have := (fnd_some e0).2.1
        rw [om_some]
        show up1 (se s) (8 * r + i) 0 (8 * l + i) = _
        exact up1_n (fun q => by have : r = l := by omega
                                 subst this; omega)
    rw [om_some]
    cases c : su s l
    · rw [c] at D
      have E := q_rem1 (L := L) hL r1 V1 hl hi
      rw [hse] at E
      refine ⟨_, e1.trans ?_, r1.put m2 rfl (by omega), f1.trans (Fr.up (by omega) (by omega))⟩
      simp (maxSteps := 1000000) (disch := omega) only [↓reduceIte, ↓if_bi0, ↓if_bi1, hp_tg, hp_rI, hp_rR, hp_rL, hp_wI, hp_wL, Option.bind_some, if_11, if_01, bi_and1, i10, i01, bi_t, bi_f, ic_add, mr_4, ml_4, mr_8, ml_8, mr_10, ml_10, ic_add1, ic_sub1, ic_clamp, ic_div, ic_irm, ic_lt0, ic_0lt, ic_eq0, ic_lt, ic_inj, and15, and7, and31, and63, shl1, shr_ok, neg_1, neg_2, neg_3, neg_4, kc_lt0, kc_ic, kc_m2, kc_1, kc_0, i0_add, add_i0, or_i0, z_8, z_4, z_64, z_256, ic_m2, ec_m1, ic_m1, m1_lt0, m2_lt0, m3_lt0, m4_lt0, up_s, if_true, if_false, ne_eq, not_true_eq_false, not_false_eq_true, Bool.false_eq_true, eq_self, or_self, or_false, false_or, and_self, and_true, true_and, ite_self, Nat.reduceEqDiff, Nat.reduceLT, Nat.reduceMod, Nat.reduceMul, Nat.reduceAdd, Nat.reducePow, Nat.reduceDiv, lt_2, lt_3, lt_4, lt_5, lt_6, lt_7, lt_8, lt_10, lt_11, lt_12, lt_15, lt_16, lt_18, lt_20, lt_24, lt_31, lt_32, lt_48, lt_57, lt_59, lt_63, lt_64, lt_74, lt_75, lt_97, lt_122, lt_128, lt_144, lt_145, lt_146, lt_147, lt_155, lt_163, lt_171, lt_179, lt_200, lt_243, lt_244, lt_255, lt_256, lt_732, lt_900, lt_3660, lt_3904, lt_4095, lt_65536, lt_65537, lt_252645135, lt_858993459, lt_1431655765, ↓p_has_b, p_has, ↓p_has9_b, p_has9, ↓p_bit_b, p_bit, ↓p_bit1_b, p_bit1, ↓p_bit0_b, p_bit0, p_X3_forgetPlace_25, p_X3_forgetPlace_57, hL.t, ↓bnd (C), C, oc, om_some, ↓bnd (D), D, ↓bnd (E), E, tkN]
      by_cases c : se s (8 * l + i) ≠ 0
      · simp only [decide_eq_true c, b2_t, bi_t, ic_add1]
      · simp only [decide_eq_false c, b2_f, bi_f, add_i0, Nat.add_zero]
    · rw [c] at D
      refine ⟨I1, e1.trans ?_, r1, f1⟩
      simp (maxSteps := 1000000) (disch := omega) only [↓reduceIte, ↓if_bi0, ↓if_bi1, hp_tg, hp_rI, hp_rR, hp_rL, hp_wI, hp_wL, Option.bind_some, if_11, if_01, bi_and1, i10, i01, bi_t, bi_f, ic_add, mr_4, ml_4, mr_8, ml_8, mr_10, ml_10, ic_add1, ic_sub1, ic_clamp, ic_div, ic_irm, ic_lt0, ic_0lt, ic_eq0, ic_lt, ic_inj, and15, and7, and31, and63, shl1, shr_ok, neg_1, neg_2, neg_3, neg_4, kc_lt0, kc_ic, kc_m2, kc_1, kc_0, i0_add, add_i0, or_i0, z_8, z_4, z_64, z_256, ic_m2, ec_m1, ic_m1, m1_lt0, m2_lt0, m3_lt0, m4_lt0, up_s, if_true, if_false, ne_eq, not_true_eq_false, not_false_eq_true, Bool.false_eq_true, eq_self, or_self, or_false, false_or, and_self, and_true, true_and, ite_self, Nat.reduceEqDiff, Nat.reduceLT, Nat.reduceMod, Nat.reduceMul, Nat.reduceAdd, Nat.reducePow, Nat.reduceDiv, lt_2, lt_3, lt_4, lt_5, lt_6, lt_7, lt_8, lt_10, lt_11, lt_12, lt_15, lt_16, lt_18, lt_20, lt_24, lt_31, lt_32, lt_48, lt_57, lt_59, lt_63, lt_64, lt_74, lt_75, lt_97, lt_122, lt_128, lt_144, lt_145, lt_146, lt_147, lt_155, lt_163, lt_171, lt_179, lt_200, lt_243, lt_244, lt_255, lt_256, lt_732, lt_900, lt_3660, lt_3904, lt_4095, lt_65536, lt_65537, lt_252645135, lt_858993459, lt_1431655765, ↓p_has_b, p_has, ↓p_has9_b, p_has9, ↓p_bit_b, p_bit, ↓p_bit1_b, p_bit1, ↓p_bit0_b, p_bit0, p_X3_forgetPlace_25, p_X3_forgetPlace_57, hL.t, ↓bnd (C), C, oc, om_some, om_none, ↓bnd (D), D, tkN, Nat.add_zero]
end CACT
section GACT
variable {S : SH} {I : II} {L : LL} {g : Nat} {s : St}
theorem g_takeAway (hL : GL S g) (hR : GR I g s) {f : Nat} (hf : f < 16) : ∃ I', p_X1_takeAway g (ic f) (hp S I L) = some (hp S I' L) ∧ GR I' g (uw (uH s (up1 (sH s) f 0)) (up1 (sw s) f false)) ∧ Fr I I' g (g + 2) := by
  refine ⟨up2 I (g + 2) f m2, ?_, ?_, Fr.up (by omega) (by omega)⟩
  · simp (maxSteps := 1000000) (disch := omega) only [↓reduceIte, ↓if_bi0, ↓if_bi1, hp_tg, hp_rI, hp_rR, hp_rL, hp_wI, hp_wL, Option.bind_some, if_11, if_01, bi_and1, i10, i01, bi_t, bi_f, ic_add, mr_4, ml_4, mr_8, ml_8, mr_10, ml_10, ic_add1, ic_sub1, ic_clamp, ic_div, ic_irm, ic_lt0, ic_0lt, ic_eq0, ic_lt, ic_inj, and15, and7, and31, and63, shl1, shr_ok, neg_1, neg_2, neg_3, neg_4, kc_lt0, kc_ic, kc_m2, kc_1, kc_0, i0_add, add_i0, or_i0, z_8, z_4, z_64, z_256, ic_m2, ec_m1, ic_m1, m1_lt0, m2_lt0, m3_lt0, m4_lt0, up_s, if_true, if_false, ne_eq, not_true_eq_false, not_false_eq_true, Bool.false_eq_true, eq_self, or_self, or_false, false_or, and_self, and_true, true_and, ite_self, Nat.reduceEqDiff, Nat.reduceLT, Nat.reduceMod, Nat.reduceMul, Nat.reduceAdd, Nat.reducePow, Nat.reduceDiv, lt_2, lt_3, lt_4, lt_5, lt_6, lt_7, lt_8, lt_10, lt_11, lt_12, lt_15, lt_16, lt_18, lt_20, lt_24, lt_31, lt_32, lt_48, lt_57, lt_59, lt_63, lt_64, lt_74, lt_75, lt_97, lt_122, lt_128, lt_144, lt_145, lt_146, lt_147, lt_155, lt_163, lt_171, lt_179, lt_200, lt_243, lt_244, lt_255, lt_256, lt_732, lt_900, lt_3660, lt_3904, lt_4095, lt_65536, lt_65537, lt_252645135, lt_858993459, lt_1431655765, ↓p_has_b, p_has, ↓p_has9_b, p_has9, ↓p_bit_b, p_bit, ↓p_bit1_b, p_bit1, ↓p_bit0_b, p_bit0, p_X1_takeAway, hL.1, hL.2.2.1, show f % 16 = f by omega, if_inB hL.2.2.2.2]
  · obtain ⟨h1, h2, ⟨w, h3, h4, h5⟩, h6, h7⟩ := hR
    refine ⟨fun j hj => by rw [up_a (by omega)]; exact h1 j hj, fun k hk => ?_, ⟨w, h3, by rw [up_a (by omega)]; exact h4, fun k hk h0 => ?_⟩, by rw [up_a (by omega)]; exact h6, by rw [up_a (by omega)]; exact h7⟩
    · rw [up_i]
      show _ = kc (up1 (sH s) f 0 k)
      by_cases c : k = f
      · subst c; rw [if_pos rfl, up1_s]; rfl
      · rw [if_neg c, up1_n c]; exact h2 k hk
    · replace h0 : 0 < up1 (sH s) f 0 k := h0
      show _ = up1 (sw s) f false k
      by_cases c : k = f
      · subst c; rw [up1_s] at h0; omega
      · rw [up1_n c] at h0 ⊢; exact h5 k hk h0
theorem g_readOnly (hL : GL S g) (hR : GR I g s) {f : Nat} (hf : f < 16) : ∃ I', p_X1_makeReadOnly g (ic f) (hp S I L) = some (hp S I' L) ∧ GR I' g (uw s (up1 (sw s) f false)) ∧ Fr I I' g (g + 2) := by
  obtain ⟨h1, h2, ⟨w, h3, h4, h5⟩, h6, h7⟩ := hR
  refine ⟨up2 I g 2 (ic (cbt w f)), ?_, ?_, Fr.up (by omega) (by omega)⟩
  · simp (maxSteps := 1000000) (disch := omega) only [↓reduceIte, ↓if_bi0, ↓if_bi1, hp_tg, hp_rI, hp_rR, hp_rL, hp_wI, hp_wL, Option.bind_some, if_11, if_01, bi_and1, i10, i01, bi_t, bi_f, ic_add, mr_4, ml_4, mr_8, ml_8, mr_10, ml_10, ic_add1, ic_sub1, ic_clamp, ic_div, ic_irm, ic_lt0, ic_0lt, ic_eq0, ic_lt, ic_inj, and15, and7, and31, and63, shl1, shr_ok, neg_1, neg_2, neg_3, neg_4, kc_lt0, kc_ic, kc_m2, kc_1, kc_0, i0_add, add_i0, or_i0, z_8, z_4, z_64, z_256, ic_m2, ec_m1, ic_m1, m1_lt0, m2_lt0, m3_lt0, m4_lt0, up_s, if_true, if_false, ne_eq, not_true_eq_false, not_false_eq_true, Bool.false_eq_true, eq_self, or_self, or_false, false_or, and_self, and_true, true_and, ite_self, Nat.reduceEqDiff, Nat.reduceLT, Nat.reduceMod, Nat.reduceMul, Nat.reduceAdd, Nat.reducePow, Nat.reduceDiv, lt_2, lt_3, lt_4, lt_5, lt_6, lt_7, lt_8, lt_10, lt_11, lt_12, lt_15, lt_16, lt_18, lt_20, lt_24, lt_31, lt_32, lt_48, lt_57, lt_59, lt_63, lt_64, lt_74, lt_75, lt_97, lt_122, lt_128, lt_144, lt_145, lt_146, lt_147, lt_155, lt_163, lt_171, lt_179, lt_200, lt_243, lt_244, lt_255, lt_256, lt_732, lt_900, lt_3660, lt_3904, lt_4095, lt_65536, lt_65537, lt_252645135, lt_858993459, lt_1431655765, ↓p_has_b, p_has, ↓p_has9_b, p_has9, ↓p_bit_b, p_bit, ↓p_bit1_b, p_bit1, ↓p_bit0_b, p_bit0, p_X1_makeReadOnly, hL.1, h4, show f % 32 = f by omega, ic_cbt]
  · refine ⟨fun j hj => by rw [up_a (by omega)]; exact h1 j hj, fun k hk => by rw [up_a (by omega)]; exact h2 k hk, ⟨cbt w f, cbt_lt (n := 16) h3, up_s _ _ _ _, fun k hk h0 => ?_⟩, by rw [up_k (by omega)]; exact h6, by rw [up_k (by omega)]; exact h7⟩
    rw [tb_cbt (by omega), h5 k hk h0]
    show _ = up1 (sw s) f false k
    by_cases c : k = f
    · subst c; rw [up1_s]; simp
    · rw [up1_n c]; simp [show ¬ f = k from fun e => c e.symm]
theorem g_backWith (hL : GL S g) (hR : GR I g s) {f h : Nat} (hf : f < 16) (hh : h < 32) (b : Bool) : ∃ I', p_X1_backWith g (ic f) (ic h) (bi b) (hp S I L) = some (hp S I' L) ∧ GR I' g (uw (uH s (up1 (sH s) f (h + 1))) (up1 (sw s) f b)) ∧ Fr I I' g (g + 2) := by
  obtain ⟨h1, h2, ⟨w, h3, h4, h5⟩, h6, h7⟩ := hR
  have i2 : up2 I (g + 2) f (ic h) g 2 = ic w := by rw [up_a (by omega)]; exact h4
  refine ⟨up2 (up2 I (g + 2) f (ic h)) g 2 (ic (if b = true then sbt w f else cbt w f)), ?_, ?_, (Fr.up (by omega) (by omega)).trans (Fr.up (by omega) (by omega))⟩
  · cases b
    · simp (maxSteps := 1000000) (disch := omega) only [↓reduceIte, ↓if_bi0, ↓if_bi1, hp_tg, hp_rI, hp_rR, hp_rL, hp_wI, hp_wL, Option.bind_some, if_11, if_01, bi_and1, i10, i01, bi_t, bi_f, ic_add, mr_4, ml_4, mr_8, ml_8, mr_10, ml_10, ic_add1, ic_sub1, ic_clamp, ic_div, ic_irm, ic_lt0, ic_0lt, ic_eq0, ic_lt, ic_inj, and15, and7, and31, and63, shl1, shr_ok, neg_1, neg_2, neg_3, neg_4, kc_lt0, kc_ic, kc_m2, kc_1, kc_0, i0_add, add_i0, or_i0, z_8, z_4, z_64, z_256, ic_m2, ec_m1, ic_m1, m1_lt0, m2_lt0, m3_lt0, m4_lt0, up_s, if_true, if_false, ne_eq, not_true_eq_false, not_false_eq_true, Bool.false_eq_true, eq_self, or_self, or_false, false_or, and_self, and_true, true_and, ite_self, Nat.reduceEqDiff, Nat.reduceLT, Nat.reduceMod, Nat.reduceMul, Nat.reduceAdd, Nat.reducePow, Nat.reduceDiv, lt_2, lt_3, lt_4, lt_5, lt_6, lt_7, lt_8, lt_10, lt_11, lt_12, lt_15, lt_16, lt_18, lt_20, lt_24, lt_31, lt_32, lt_48, lt_57, lt_59, lt_63, lt_64, lt_74, lt_75, lt_97, lt_122, lt_128, lt_144, lt_145, lt_146, lt_147, lt_155, lt_163, lt_171, lt_179, lt_200, lt_243, lt_244, lt_255, lt_256, lt_732, lt_900, lt_3660, lt_3904, lt_4095, lt_65536, lt_65537, lt_252645135, lt_858993459, lt_1431655765, ↓p_has_b, p_has, ↓p_has9_b, p_has9, ↓p_bit_b, p_bit, ↓p_bit1_b, p_bit1, ↓p_bit0_b, p_bit0, p_X1_backWith_36, p_X1_backWith_26, p_X1_backWith, hL.1, hL.2.2.1, show f % 16 = f by omega, if_inB hL.2.2.2.2, i2, show f % 32 = f by omega, ic_cbt]
    · simp (maxSteps := 1000000) (disch := omega) only [↓reduceIte, ↓if_bi0, ↓if_bi1, hp_tg, hp_rI, hp_rR, hp_rL, hp_wI, hp_wL, Option.bind_some, if_11, if_01, bi_and1, i10, i01, bi_t, bi_f, ic_add, mr_4, ml_4, mr_8, ml_8, mr_10, ml_10, ic_add1, ic_sub1, ic_clamp, ic_div, ic_irm, ic_lt0, ic_0lt, ic_eq0, ic_lt, ic_inj, and15, and7, and31, and63, shl1, shr_ok, neg_1, neg_2, neg_3, neg_4, kc_lt0, kc_ic, kc_m2, kc_1, kc_0, i0_add, add_i0, or_i0, z_8, z_4, z_64, z_256, ic_m2, ec_m1, ic_m1, m1_lt0, m2_lt0, m3_lt0, m4_lt0, up_s, if_true, if_false, ne_eq, not_true_eq_false, not_false_eq_true, Bool.false_eq_true, eq_self, or_self, or_false, false_or, and_self, and_true, true_and, ite_self, Nat.reduceEqDiff, Nat.reduceLT, Nat.reduceMod, Nat.reduceMul, Nat.reduceAdd, Nat.reducePow, Nat.reduceDiv, lt_2, lt_3, lt_4, lt_5, lt_6, lt_7, lt_8, lt_10, lt_11, lt_12, lt_15, lt_16, lt_18, lt_20, lt_24, lt_31, lt_32, lt_48, lt_57, lt_59, lt_63, lt_64, lt_74, lt_75, lt_97, lt_122, lt_128, lt_144, lt_145, lt_146, lt_147, lt_155, lt_163, lt_171, lt_179, lt_200, lt_243, lt_244, lt_255, lt_256, lt_732, lt_900, lt_3660, lt_3904, lt_4095, lt_65536, lt_65537, lt_252645135, lt_858993459, lt_1431655765, ↓p_has_b, p_has, ↓p_has9_b, p_has9, ↓p_bit_b, p_bit, ↓p_bit1_b, p_bit1, ↓p_bit0_b, p_bit0, p_X1_backWith_36, p_X1_backWith_26, p_X1_backWith, hL.1, hL.2.2.1, show f % 16 = f by omega, if_inB hL.2.2.2.2, i2, show f % 32 = f by omega, ic_or]
      rfl
  · refine ⟨fun j hj => by rw [up_a (by omega), up_a (by omega)]; exact h1 j hj, fun k hk => ?_, ⟨if b = true then sbt w f else cbt w f, ?_, up_s _ _ _ _, fun k hk h0 => ?_⟩, by rw [up_k (by omega), up_a (by omega)]; exact h6, by rw [up_k (by omega), up_a (by omega)]; exact h7⟩
    · rw [up_a (by omega), up_i]
      show _ = kc (up1 (sH s) f (h + 1) k)
      by_cases c : k = f
      · subst c; rw [if_pos rfl, up1_s]; rfl
      · rw [if_neg c, up1_n c]; exact h2 k hk
    · cases b
      · exact cbt_lt (n := 16) h3
      · exact sbt_lt (n := 16) h3 hf
    · replace h0 : 0 < up1 (sH s) f (h + 1) k := h0
      show _ = up1 (sw s) f b k
      cases b
      · show (cbt w f).testBit k = _
        rw [tb_cbt (by omega)]
        by_cases c : k = f
        · subst c; rw [up1_s]; simp
        · rw [up1_n c] at h0 ⊢; rw [h5 k hk h0]; simp [show ¬ f = k from fun e => c e.symm]
      · show (sbt w f).testBit k = _
        rw [tb_sbt]
        by_cases c : k = f
        · subst c; rw [up1_s]; simp
        · rw [up1_n c] at h0 ⊢; rw [h5 k hk h0]; simp [show ¬ f = k from fun e => c e.symm]
end GACT
