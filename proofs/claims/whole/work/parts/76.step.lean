/-! ===== a step told: the class ===== -/
def uN (T : TS) (y : Nat) : TS := (T.1, T.2.1, (tN T + 1, up1 (tY T) (tN T) y), T.2.2.2)
section STEP
variable {S : SH} {I J : II} {L : LL} {t : Nat} {T : TS}
theorem t_addStep (hT : TL S t) (hR : TR I t T) (h : tN T < 10) (y : Nat) : ∃ J, p_X6_addStep t (ic y) (hp S I L) = some (hp S J L) ∧ TR J t (uN T y) ∧ J = up2 (up2 I (t + 5) (tN T) (ic y)) t 6 (ic (tN T + 1)) := by
  obtain ⟨g, r1, r2, r3, r4, ⟨r6, r6'⟩, ⟨r9, r9'⟩, r12, r12'⟩ := hR
  have e : ∀ z, z ≠ t → z ≠ t + 5 → up2 (up2 I (t + 5) (tN T) (ic y)) t 6 (ic (tN T + 1)) z = I z := fun z h1 h2 => funext fun j => by rw [up_a h1, up_a h2]
  have k : ∀ j, j ≠ 6 → up2 (up2 I (t + 5) (tN T) (ic y)) t 6 (ic (tN T + 1)) t j = I t j := fun j h1 => by rw [up_k h1, up_a (by omega)]
  have g6 : up2 I (t + 5) (tN T) (ic y) t 6 = ic (tN T) := by rw [up_a (by omega)]; exact r6
  refine ⟨up2 (up2 I (t + 5) (tN T) (ic y)) t 6 (ic (tN T + 1)), ?_, ⟨?_, by rw [k 1 (by omega)]; exact r1, by rw [k 2 (by omega)]; exact r2, fun i hi => by rw [e _ (by omega) (by omega)]; exact r3 i hi, by rw [k 4 (by omega)]; exact r4, ⟨by rw [up_s]; rfl, fun i hi => ?_⟩, ⟨by rw [k 9 (by omega)]; exact r9, fun i hi => by rw [e _ (by omega) (by omega), e _ (by omega) (by omega)]; exact r9' i hi⟩, by rw [k 12 (by omega)]; exact r12, fun i hi => by rw [e _ (by omega) (by omega), e _ (by omega) (by omega)]; exact r12' i hi⟩, rfl⟩
  · simp (maxSteps := 1000000) (disch := omega) only [↓reduceIte, ↓if_bi0, ↓if_bi1, hp_tg, hp_rI, hp_rR, hp_rL, hp_wI, hp_wL, Option.bind_some, if_11, if_01, bi_and1, i10, i01, bi_t, bi_f, ic_add, mr_4, ml_4, mr_8, ml_8, mr_10, ml_10, ic_add1, ic_sub1, ic_clamp, ic_div, ic_irm, ic_lt0, ic_0lt, ic_eq0, ic_lt, ic_inj, and15, and7, and31, and63, shl1, shr_ok, neg_1, neg_2, neg_3, neg_4, kc_lt0, kc_ic, kc_m2, kc_1, kc_0, i0_add, add_i0, or_i0, z_8, z_4, z_64, z_256, ic_m2, ec_m1, ic_m1, m1_lt0, m2_lt0, m3_lt0, m4_lt0, up_s, if_true, if_false, ne_eq, not_true_eq_false, not_false_eq_true, Bool.false_eq_true, eq_self, or_self, or_false, false_or, and_self, and_true, true_and, ite_self, Nat.reduceEqDiff, Nat.reduceLT, Nat.reduceMod, Nat.reduceMul, Nat.reduceAdd, Nat.reducePow, Nat.reduceDiv, lt_2, lt_3, lt_4, lt_5, lt_6, lt_7, lt_8, lt_10, lt_11, lt_12, lt_15, lt_16, lt_18, lt_20, lt_24, lt_31, lt_32, lt_48, lt_57, lt_59, lt_63, lt_64, lt_74, lt_75, lt_97, lt_122, lt_128, lt_144, lt_145, lt_146, lt_147, lt_155, lt_163, lt_171, lt_179, lt_200, lt_243, lt_244, lt_255, lt_256, lt_732, lt_900, lt_3660, lt_3904, lt_4095, lt_65536, lt_65537, lt_252645135, lt_858993459, lt_1431655765, ↓p_has_b, p_has, ↓p_has9_b, p_has9, ↓p_bit_b, p_bit, ↓p_bit1_b, p_bit1, ↓p_bit0_b, p_bit0, p_X6_addStep, p_X6_addStep_29, hT.1, r6, h, hT.2.2.2.2.1.1, if_inB hT.2.2.2.2.1.2, g6]
  · unfold GR
    rw [e (t + 1) (by omega) (by omega), e (t + 1 + 1) (by omega) (by omega), e (t + 1 + 2) (by omega) (by omega)]
    exact g
  · have hi9 : i < tN T + 1 := hi
    show up2 (up2 I (t + 5) (tN T) (ic y)) t 6 (ic (tN T + 1)) (t + 5) i = ic (up1 (tY T) (tN T) y i)
    rw [up_a (by omega), up_i]
    by_cases q : i = tN T
    · rw [if_pos q, q, up1_s]
    · rw [if_neg q, up1_n q]; exact r6' i (by omega)
end STEP
