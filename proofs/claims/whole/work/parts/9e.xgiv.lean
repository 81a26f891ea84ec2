/-! ===== give: the reference ===== -/
section XGV
variable {S : SH} {I J J' : II} {L L' : LL} {m a c e pl : Nat} {W : WD} {s : St}
theorem x_gv48 (hL : ML S m) (hR : RW (J (m + 3)) s) (hI : IG s) {f k : Nat} (hf : f < 16) (hk : k < 32) (b : Bool) : p_X9_give_48 FU m (ic f) (ic k) (bi b) 0 (hp S J L) = om (fs (fun j => decide (0 < sH s j ∧ (j = f ∨ sH s j = k + 1))) 16 0) (p_X9_give_92 m (ic f) (ic k) (bi b) (hp S J L)) (fun _ => p_X9_give_80 m (hp S J L)) := by
  refine lp_first (fun n j => p_X9_give_48 n m (ic f) (ic k) (bi b) (ic j) (hp S J L)) 16 (fun j => decide (0 < sH s j ∧ (j = f ∨ sH s j = k + 1))) (fun _ => p_X9_give_80 m (hp S J L)) (p_X9_give_92 m (ic f) (ic k) (bi b) (hp S J L)) (fun n j hj => ?_) (fun n => ?_) 16 0 FU rfl (fu_lt (by decide))
  · have t8 : (tg (hp S J L) m).1 = 8 := by rw [hp_tg, hL.t]
    have A := x_backed (L := L) hL hR hI hj
    have h32 := hI.2.1 j hj
    show p_X9_give_48 (n + 1) m (ic f) (ic k) (bi b) (ic j) (hp S J L) = _
    conv => lhs; unfold p_X9_give_48
    rw [if_pos (show ic j < 16 by rw [lt_16, ic_lt (by omega) (by omega)]; exact hj), if_pos t8]
    by_cases d : 0 < sH s j
    · rw [decide_eq_true d] at A
      refine Eq.trans (bnd A) ?_
      rw [if_neg (show ¬ bi true = 0 by decide)]
      by_cases d1 : j = f
      · rw [if_pos (show ic j = ic f by rw [d1]), if_pos (decide_eq_true ⟨d, Or.inl d1⟩)]
      · rw [if_neg (show ¬ ic j = ic f by rw [ic_inj (by omega) (by omega)]; exact d1), if_pos t8]
        have E := x_host (L := L) hL hR hj d
        refine Eq.trans (bnd E) ?_
        by_cases d2 : sH s j = k + 1
        · rw [if_pos (show ic (sH s j - 1) = ic k by rw [d2]; rfl), if_pos (decide_eq_true ⟨d, Or.inr d2⟩)]
        · rw [if_neg (show ¬ ic (sH s j - 1) = ic k by rw [ic_inj (by omega) (by omega)]; omega), if_neg (by rw [decide_eq_false (fun q => q.2.elim d1 d2)]; decide)]
          show p_X9_give_48 n m (ic f) (ic k) (bi b) (ic j + 1) (hp S J L) = _
          rw [ic_add1]
    · rw [decide_eq_false d] at A
      refine Eq.trans (bnd A) ?_
      rw [if_pos (show bi false = 0 from rfl), if_neg (by rw [decide_eq_false (fun q => d q.1)]; decide)]
      show p_X9_give_48 n m (ic f) (ic k) (bi b) (ic j + 1) (hp S J L) = _
      rw [ic_add1]
  · show p_X9_give_48 (n + 1) m (ic f) (ic k) (bi b) (ic 16) (hp S J L) = _
    conv => lhs; unfold p_X9_give_48
    rw [if_neg (show ¬ ic 16 < 16 by decide)]
    rfl
theorem xc_give (H : XH S I m a W c) (v h : Int32) (b : Bool) : XC S I m a (p_X9_give m v h (bi b) (hp S I L)) (giW W v h b) := by
  have b1 : (1 : Int32) &&& 1 = 1 := by decide
  have b0 : (0 : Int32) &&& 1 = 0 := by decide
  have H9 := H
  have a0 := H.a0
  obtain ⟨hL, hm, hM, hX, hV⟩ := H9
  unfold giW
  cases hr : vR W
  · have lm := hM.2 hr
    rw [ok_ff, if_neg (by decide)]
    refine xc_to (L' := L) (e := 1) H (Xq.z I m) (by decide) ?_
    simp (maxSteps := 1000000) (disch := omega) only [↓reduceIte, ↓if_bi0, ↓if_bi1, hp_tg, hp_rI, hp_rR, hp_rL, hp_wI, hp_wL, Option.bind_some, if_11, if_01, bi_and1, i10, i01, bi_t, bi_f, ic_add, mr_4, ml_4, mr_8, ml_8, mr_10, ml_10, ic_add1, ic_sub1, ic_clamp, ic_div, ic_irm, ic_lt0, ic_0lt, ic_eq0, ic_lt, ic_inj, and15, and7, and31, and63, shl1, shr_ok, neg_1, neg_2, neg_3, neg_4, kc_lt0, kc_ic, kc_m2, kc_1, kc_0, i0_add, add_i0, or_i0, z_8, z_4, z_64, z_256, ic_m2, ec_m1, ic_m1, m1_lt0, m2_lt0, m3_lt0, m4_lt0, up_s, if_true, if_false, ne_eq, not_true_eq_false, not_false_eq_true, Bool.false_eq_true, eq_self, or_self, or_false, false_or, and_self, and_true, true_and, ite_self, Nat.reduceEqDiff, Nat.reduceLT, Nat.reduceMod, Nat.reduceMul, Nat.reduceAdd, Nat.reducePow, Nat.reduceDiv, lt_2, lt_3, lt_4, lt_5, lt_6, lt_7, lt_8, lt_10, lt_11, lt_12, lt_15, lt_16, lt_18, lt_20, lt_24, lt_31, lt_32, lt_48, lt_57, lt_59, lt_63, lt_64, lt_74, lt_75, lt_97, lt_122, lt_128, lt_144, lt_145, lt_146, lt_147, lt_155, lt_163, lt_171, lt_179, lt_200, lt_243, lt_244, lt_255, lt_256, lt_732, lt_900, lt_3660, lt_3904, lt_4095, lt_65536, lt_65537, lt_252645135, lt_858993459, lt_1431655765, ↓p_has_b, p_has, ↓p_has9_b, p_has9, ↓p_bit_b, p_bit, ↓p_bit1_b, p_bit1, ↓p_bit0_b, p_bit0, p_X9_give, p_X9_give_19, hL.t, lm, ↓x_denied_b hL, x_denied hL, b0]
    rfl
  · have lm := (hM.y hr).1
    have F := x_isFrame v (hp S (up2 I m 0 0) L)
    have F2 := x_in0 (n := 31) (by omega) h (hp S (up2 I m 0 0) L)
    cases z : ok true 16 v
    · rw [z] at F
      rw [if_neg (by decide)]
      refine xc_to (L' := L) (e := 1) H (Xq.z I m) (by decide) ?_
      simp (maxSteps := 1000000) (disch := omega) only [↓reduceIte, ↓if_bi0, ↓if_bi1, hp_tg, hp_rI, hp_rR, hp_rL, hp_wI, hp_wL, Option.bind_some, if_11, if_01, bi_and1, i10, i01, bi_t, bi_f, ic_add, mr_4, ml_4, mr_8, ml_8, mr_10, ml_10, ic_add1, ic_sub1, ic_clamp, ic_div, ic_irm, ic_lt0, ic_0lt, ic_eq0, ic_lt, ic_inj, and15, and7, and31, and63, shl1, shr_ok, neg_1, neg_2, neg_3, neg_4, kc_lt0, kc_ic, kc_m2, kc_1, kc_0, i0_add, add_i0, or_i0, z_8, z_4, z_64, z_256, ic_m2, ec_m1, ic_m1, m1_lt0, m2_lt0, m3_lt0, m4_lt0, up_s, if_true, if_false, ne_eq, not_true_eq_false, not_false_eq_true, Bool.false_eq_true, eq_self, or_self, or_false, false_or, and_self, and_true, true_and, ite_self, Nat.reduceEqDiff, Nat.reduceLT, Nat.reduceMod, Nat.reduceMul, Nat.reduceAdd, Nat.reducePow, Nat.reduceDiv, lt_2, lt_3, lt_4, lt_5, lt_6, lt_7, lt_8, lt_10, lt_11, lt_12, lt_15, lt_16, lt_18, lt_20, lt_24, lt_31, lt_32, lt_48, lt_57, lt_59, lt_63, lt_64, lt_74, lt_75, lt_97, lt_122, lt_128, lt_144, lt_145, lt_146, lt_147, lt_155, lt_163, lt_171, lt_179, lt_200, lt_243, lt_244, lt_255, lt_256, lt_732, lt_900, lt_3660, lt_3904, lt_4095, lt_65536, lt_65537, lt_252645135, lt_858993459, lt_1431655765, ↓p_has_b, p_has, ↓p_has9_b, p_has9, ↓p_bit_b, p_bit, ↓p_bit1_b, p_bit1, ↓p_bit0_b, p_bit0, p_X9_give, p_X9_give_19, hL.t, lm, a0, ↓bnd (F), F, ↓x_denied_b hL, x_denied hL, b0]
      rfl
    · rw [z] at F
      rw [if_pos rfl]
      cases z2 : ok true 32 h
      · rw [z2] at F2
        rw [if_neg (by decide)]
        refine xc_to (L' := L) (e := 2) H (Xq.z I m) (by decide) ?_
        simp (maxSteps := 1000000) (disch := omega) only [↓reduceIte, ↓if_bi0, ↓if_bi1, hp_tg, hp_rI, hp_rR, hp_rL, hp_wI, hp_wL, Option.bind_some, if_11, if_01, bi_and1, i10, i01, bi_t, bi_f, ic_add, mr_4, ml_4, mr_8, ml_8, mr_10, ml_10, ic_add1, ic_sub1, ic_clamp, ic_div, ic_irm, ic_lt0, ic_0lt, ic_eq0, ic_lt, ic_inj, and15, and7, and31, and63, shl1, shr_ok, neg_1, neg_2, neg_3, neg_4, kc_lt0, kc_ic, kc_m2, kc_1, kc_0, i0_add, add_i0, or_i0, z_8, z_4, z_64, z_256, ic_m2, ec_m1, ic_m1, m1_lt0, m2_lt0, m3_lt0, m4_lt0, up_s, if_true, if_false, ne_eq, not_true_eq_false, not_false_eq_true, Bool.false_eq_true, eq_self, or_self, or_false, false_or, and_self, and_true, true_and, ite_self, Nat.reduceEqDiff, Nat.reduceLT, Nat.reduceMod, Nat.reduceMul, Nat.reduceAdd, Nat.reducePow, Nat.reduceDiv, lt_2, lt_3, lt_4, lt_5, lt_6, lt_7, lt_8, lt_10, lt_11, lt_12, lt_15, lt_16, lt_18, lt_20, lt_24, lt_31, lt_32, lt_48, lt_57, lt_59, lt_63, lt_64, lt_74, lt_75, lt_97, lt_122, lt_128, lt_144, lt_145, lt_146, lt_147, lt_155, lt_163, lt_171, lt_179, lt_200, lt_243, lt_244, lt_255, lt_256, lt_732, lt_900, lt_3660, lt_3904, lt_4095, lt_65536, lt_65537, lt_252645135, lt_858993459, lt_1431655765, ↓p_has_b, p_has, ↓p_has9_b, p_has9, ↓p_bit_b, p_bit, ↓p_bit1_b, p_bit1, ↓p_bit0_b, p_bit0, p_X9_give, hL.t, lm, a0, ↓bnd (F), F, ↓bnd (F2), F2, ↓x_denied_b hL, x_denied hL, b0]
      · rw [z2] at F2
        rw [if_pos rfl]
        obtain ⟨-, f, hf, rfl⟩ := ok_t (by omega) z
        obtain ⟨-, k, hk, rfl⟩ := ok_t (by omega) z2
        rw [ic_clamp (show f < 2147483648 by omega), ic_clamp (show k < 2147483648 by omega)]
        obtain ⟨V1, V2, V3, -⟩ := hV.2.2.2.2.2.2.1 hr
        obtain ⟨J0, e0, R0, X0, -⟩ := x_wk (L := L) H hr
        have Q : p_X9_give m (ic f) (ic k) (bi b) (hp S I L) = p_X9_give_48 FU m (ic f) (ic k) (bi b) 0 (hp S J0 L) := by
          simp (maxSteps := 1000000) (disch := omega) only [↓reduceIte, ↓if_bi0, ↓if_bi1, hp_tg, hp_rI, hp_rR, hp_rL, hp_wI, hp_wL, Option.bind_some, if_11, if_01, bi_and1, i10, i01, bi_t, bi_f, ic_add, mr_4, ml_4, mr_8, ml_8, mr_10, ml_10, ic_add1, ic_sub1, ic_clamp, ic_div, ic_irm, ic_lt0, ic_0lt, ic_eq0, ic_lt, ic_inj, and15, and7, and31, and63, shl1, shr_ok, neg_1, neg_2, neg_3, neg_4, kc_lt0, kc_ic, kc_m2, kc_1, kc_0, i0_add, add_i0, or_i0, z_8, z_4, z_64, z_256, ic_m2, ec_m1, ic_m1, m1_lt0, m2_lt0, m3_lt0, m4_lt0, up_s, if_true, if_false, ne_eq, not_true_eq_false, not_false_eq_true, Bool.false_eq_true, eq_self, or_self, or_false, false_or, and_self, and_true, true_and, ite_self, Nat.reduceEqDiff, Nat.reduceLT, Nat.reduceMod, Nat.reduceMul, Nat.reduceAdd, Nat.reducePow, Nat.reduceDiv, lt_2, lt_3, lt_4, lt_5, lt_6, lt_7, lt_8, lt_10, lt_11, lt_12, lt_15, lt_16, lt_18, lt_20, lt_24, lt_31, lt_32, lt_48, lt_57, lt_59, lt_63, lt_64, lt_74, lt_75, lt_97, lt_122, lt_128, lt_144, lt_145, lt_146, lt_147, lt_155, lt_163, lt_171, lt_179, lt_200, lt_243, lt_244, lt_255, lt_256, lt_732, lt_900, lt_3660, lt_3904, lt_4095, lt_65536, lt_65537, lt_252645135, lt_858993459, lt_1431655765, ↓p_has_b, p_has, ↓p_has9_b, p_has9, ↓p_bit_b, p_bit, ↓p_bit1_b, p_bit1, ↓p_bit0_b, p_bit0, p_X9_give, hL.t, lm, a0, ↓bnd (F), F, ↓bnd (F2), F2, ↓bnd (e0), e0]
        rw [Q, x_gv48 hL R0 V3.1.1 hf hk b]
        cases d : fs (fun j => decide (0 < sH (vS W) j ∧ (j = f ∨ sH (vS W) j = k + 1))) 16 0 with
        | some j =>
          obtain ⟨-, hj, hp9, -⟩ := fs_some d
          have hp8 := of_decide_eq_true hp9
          rw [if_neg (fun q => by
            rcases hp8.2 with q1 | q1
            · rw [q1] at hp8; have := q.1; omega
            · have := fs_none q.2 j (by omega) (by omega)
              rw [decide_eq_true q1] at this; cases this)]
          refine xc_to (L' := L) (e := 5) H X0 (by decide) ?_
          show p_X9_give_80 m (hp S J0 L) = _
          simp (maxSteps := 1000000) (disch := omega) only [↓reduceIte, ↓if_bi0, ↓if_bi1, hp_tg, hp_rI, hp_rR, hp_rL, hp_wI, hp_wL, Option.bind_some, if_11, if_01, bi_and1, i10, i01, bi_t, bi_f, ic_add, mr_4, ml_4, mr_8, ml_8, mr_10, ml_10, ic_add1, ic_sub1, ic_clamp, ic_div, ic_irm, ic_lt0, ic_0lt, ic_eq0, ic_lt, ic_inj, and15, and7, and31, and63, shl1, shr_ok, neg_1, neg_2, neg_3, neg_4, kc_lt0, kc_ic, kc_m2, kc_1, kc_0, i0_add, add_i0, or_i0, z_8, z_4, z_64, z_256, ic_m2, ec_m1, ic_m1, m1_lt0, m2_lt0, m3_lt0, m4_lt0, up_s, if_true, if_false, ne_eq, not_true_eq_false, not_false_eq_true, Bool.false_eq_true, eq_self, or_self, or_false, false_or, and_self, and_true, true_and, ite_self, Nat.reduceEqDiff, Nat.reduceLT, Nat.reduceMod, Nat.reduceMul, Nat.reduceAdd, Nat.reducePow, Nat.reduceDiv, lt_2, lt_3, lt_4, lt_5, lt_6, lt_7, lt_8, lt_10, lt_11, lt_12, lt_15, lt_16, lt_18, lt_20, lt_24, lt_31, lt_32, lt_48, lt_57, lt_59, lt_63, lt_64, lt_74, lt_75, lt_97, lt_122, lt_128, lt_144, lt_145, lt_146, lt_147, lt_155, lt_163, lt_171, lt_179, lt_200, lt_243, lt_244, lt_255, lt_256, lt_732, lt_900, lt_3660, lt_3904, lt_4095, lt_65536, lt_65537, lt_252645135, lt_858993459, lt_1431655765, ↓p_has_b, p_has, ↓p_has9_b, p_has9, ↓p_bit_b, p_bit, ↓p_bit1_b, p_bit1, ↓p_bit0_b, p_bit0, p_X9_give_80, hL.t, ↓x_denied_b hL, x_denied hL, b0]
        | none =>
          have dn := fs_none d
          have hs0 : sH (vS W) f = 0 := by
            have := of_decide_eq_false (dn f (by omega) (by omega))
            have h9 : ¬ 0 < sH (vS W) f := fun q => this ⟨q, Or.inl rfl⟩
            omega
          have hn : fs (fun j => decide (sH (vS W) j = k + 1)) 16 0 = none := by
            cases q : fs (fun j => decide (sH (vS W) j = k + 1)) 16 0 with
            | none => rfl
            | some j =>
              obtain ⟨-, hj, hp9, -⟩ := fs_some q
              have hp8 := of_decide_eq_true hp9
              exact absurd ⟨by omega, Or.inr hp8⟩ (of_decide_eq_false (dn j (by omega) (by omega)))
          rw [if_pos ⟨hs0, hn⟩]
          obtain ⟨J, e1, XJ⟩ := x_rem (L := L) H hr X0
          have XJ9 := XJ
          obtain ⟨p1, w1, g19, g26, g27, g28, g29, gj, gb⟩ := XJ9
          obtain ⟨w, hw, hw2, hw3⟩ := w1.w
          have hsf : sw (vS W) f = false := by
            cases q : sw (vS W) f
            · rfl
            · have := V3.1.1.2.2.1 f hf q; omega
          have w2 : RW (up2 J (m + 3) (128 + f) (ic (k + 1)) (m + 3)) (uH (vS W) (up1 (sH (vS W)) f (k + 1))) := by rw [up_row]; exact w1.setH (ic (k + 1)) rfl hf
          have E : up2 J (m + 3) (128 + f) (ic (k + 1)) (m + 3) 144 = ic w := by rw [up_k (by omega)]; exact hw2
          have key : ∃ w9, w9 < 65536 ∧ (ic w ||| (if b = true then ic (2 ^ f) else 0)) = ic w9 ∧ ∀ j, j < 16 → w9.testBit j = up1 (sw (vS W)) f b j := by
            cases b
            · refine ⟨w, hw, by rw [if_neg (by decide), or_i0], fun j hj => ?_⟩
              rw [hw3 j hj]
              by_cases q : j = f
              · subst q; rw [up1_s]; exact hsf
              · rw [up1_n q]
            · refine ⟨sbt w f, sbt_lt (n := 16) hw hf, by rw [if_pos rfl, ic_or]; rfl, fun j hj => ?_⟩
              rw [tb_sbt, hw3 j hj]
              by_cases q : j = f
              · subst q; rw [up1_s, decide_eq_true rfl, Bool.or_true]
              · rw [up1_n q, decide_eq_false (fun q2 => q q2.symm), Bool.or_false]
          obtain ⟨w9, hw9, ew9, tw9⟩ := key
          have w3 : RW (up2 (up2 J (m + 3) (128 + f) (ic (k + 1))) (m + 3) 144 (ic w9) (m + 3)) (uw (uH (vS W) (up1 (sH (vS W)) f (k + 1))) (up1 (sw (vS W)) f b)) := by rw [up_row]; exact w2.setw (ic w9) rfl hw9 tw9
          have E3 : up2 (up2 J (m + 3) (128 + f) (ic (k + 1))) (m + 3) 144 (ic w9) (m + 3) 145 = ic (sm (vS W)) := w3.mk
          have w4 : RW (up2 (up2 (up2 J (m + 3) (128 + f) (ic (k + 1))) (m + 3) 144 (ic w9)) (m + 3) 145 (ic (cbt (sm (vS W)) f)) (m + 3)) (giv (vS W) f k b) := by rw [up_row]; exact w3.setmk (ic (cbt (sm (vS W)) f)) rfl
          refine xc_act0 (L := L) (L' := L) (J' := up2 (up2 (up2 J (m + 3) (128 + f) (ic (k + 1))) (m + 3) 144 (ic w9)) (m + 3) 145 (ic (cbt (sm (vS W)) f))) H hr XJ w4 (fun j _ => ?_) (fun b q1 q2 => ?_) ?_
          · rw [up_a (by omega), up_a (by omega), up_a (by omega)]
          · exact funext fun j => by rw [up_a q2, up_a q2, up_a q2]
          · intro K2 eK
            show p_X9_give_92 m (ic f) (ic k) (bi b) (hp S J0 L) = _
            cases b
            · rw [if_neg (by decide), or_i0] at ew9
              simp (maxSteps := 1000000) (disch := omega) only [↓reduceIte, ↓if_bi0, ↓if_bi1, hp_tg, hp_rI, hp_rR, hp_rL, hp_wI, hp_wL, Option.bind_some, if_11, if_01, bi_and1, i10, i01, bi_t, bi_f, ic_add, mr_4, ml_4, mr_8, ml_8, mr_10, ml_10, ic_add1, ic_sub1, ic_clamp, ic_div, ic_irm, ic_lt0, ic_0lt, ic_eq0, ic_lt, ic_inj, and15, and7, and31, and63, shl1, shr_ok, neg_1, neg_2, neg_3, neg_4, kc_lt0, kc_ic, kc_m2, kc_1, kc_0, i0_add, add_i0, or_i0, z_8, z_4, z_64, z_256, ic_m2, ec_m1, ic_m1, m1_lt0, m2_lt0, m3_lt0, m4_lt0, up_s, if_true, if_false, ne_eq, not_true_eq_false, not_false_eq_true, Bool.false_eq_true, eq_self, or_self, or_false, false_or, and_self, and_true, true_and, ite_self, Nat.reduceEqDiff, Nat.reduceLT, Nat.reduceMod, Nat.reduceMul, Nat.reduceAdd, Nat.reducePow, Nat.reduceDiv, lt_2, lt_3, lt_4, lt_5, lt_6, lt_7, lt_8, lt_10, lt_11, lt_12, lt_15, lt_16, lt_18, lt_20, lt_24, lt_31, lt_32, lt_48, lt_57, lt_59, lt_63, lt_64, lt_74, lt_75, lt_97, lt_122, lt_128, lt_144, lt_145, lt_146, lt_147, lt_155, lt_163, lt_171, lt_179, lt_200, lt_243, lt_244, lt_255, lt_256, lt_732, lt_900, lt_3660, lt_3904, lt_4095, lt_65536, lt_65537, lt_252645135, lt_858993459, lt_1431655765, ↓p_has_b, p_has, ↓p_has9_b, p_has9, ↓p_bit_b, p_bit, ↓p_bit1_b, p_bit1, ↓p_bit0_b, p_bit0, p_X9_give_92, p_X9_give_129, hL.t, ↓bnd (e1), e1, hL.x, if_inB hL.xt, E, ew9, E3, show f % 32 = f by omega, ic_cbt, ↓bnd (eK), eK, ↓x_granted_b hL, x_granted hL, b1]
            · rw [if_pos rfl] at ew9
              simp (maxSteps := 1000000) (disch := omega) only [↓reduceIte, ↓if_bi0, ↓if_bi1, hp_tg, hp_rI, hp_rR, hp_rL, hp_wI, hp_wL, Option.bind_some, if_11, if_01, bi_and1, i10, i01, bi_t, bi_f, ic_add, mr_4, ml_4, mr_8, ml_8, mr_10, ml_10, ic_add1, ic_sub1, ic_clamp, ic_div, ic_irm, ic_lt0, ic_0lt, ic_eq0, ic_lt, ic_inj, and15, and7, and31, and63, shl1, shr_ok, neg_1, neg_2, neg_3, neg_4, kc_lt0, kc_ic, kc_m2, kc_1, kc_0, i0_add, add_i0, or_i0, z_8, z_4, z_64, z_256, ic_m2, ec_m1, ic_m1, m1_lt0, m2_lt0, m3_lt0, m4_lt0, up_s, if_true, if_false, ne_eq, not_true_eq_false, not_false_eq_true, Bool.false_eq_true, eq_self, or_self, or_false, false_or, and_self, and_true, true_and, ite_self, Nat.reduceEqDiff, Nat.reduceLT, Nat.reduceMod, Nat.reduceMul, Nat.reduceAdd, Nat.reducePow, Nat.reduceDiv, lt_2, lt_3, lt_4, lt_5, lt_6, lt_7, lt_8, lt_10, lt_11, lt_12, lt_15, lt_16, lt_18, lt_20, lt_24, lt_31, lt_32, lt_48, lt_57, lt_59, lt_63, lt_64, lt_74, lt_75, lt_97, lt_122, lt_128, lt_144, lt_145, lt_146, lt_147, lt_155, lt_163, lt_171, lt_179, lt_200, lt_243, lt_244, lt_255, lt_256, lt_732, lt_900, lt_3660, lt_3904, lt_4095, lt_65536, lt_65537, lt_252645135, lt_858993459, lt_1431655765, ↓p_has_b, p_has, ↓p_has9_b, p_has9, ↓p_bit_b, p_bit, ↓p_bit1_b, p_bit1, ↓p_bit0_b, p_bit0, p_X9_give_92, p_X9_give_129, hL.t, ↓bnd (e1), e1, hL.x, if_inB hL.xt, E, show f % 32 = f by omega, ew9, E3, ic_cbt, ↓bnd (eK), eK, ↓x_granted_b hL, x_granted hL, b1]
end XGV
