/-! ===== device, give: the reference ===== -/
section XDV
variable {S : SH} {I J J' : II} {L L' : LL} {m a c e pl : Nat} {W : WD} {s : St}
/-- what a device's word takes away, behind the word itself -/
theorem x_dvk {f i x : Nat} (hL : ML S m) (hR : RW (J (m + 3)) (dv1 s f i x)) (hV : Inv s pl) (hp9 : J m 26 = ic pl) (hf : f < 16) (hi : i < 8) (hx : x < 4096) : ∃ K, (∀ (G : Int32 → AH → Option (Int32 × AH)), ((p_X9_tableOf m 1 (ic f) (hp S J L)).bind fun q145 => if (tg q145.2 m).1 = 8 then ((p_X9_tableOf m 0 (ic f) q145.2).bind fun q146 => if (tg q146.2 m).1 = 8 then ((p_X9_takesEntry m q146.1 (ic i) q146.2).bind fun q147 => if q145.1 = (-1 : Int32) then (G q147.1 q147.2) else if (tg q147.2 m).1 = 8 then (if inB q147.2 (rR q147.2 m 16) 100 ((171 : Int32) + q145.1) then (if (rI q147.2 (rR q147.2 m 16) ((171 : Int32) + q145.1).toNatClampNeg) = 0 then (if (tg q147.2 m).1 = 8 then ((p_X9_takesEntry m q145.1 (ic i) q147.2).bind fun q148 => G (q147.1 + q148.1) q148.2) else none) else G q147.1 q147.2) else none) else none) else none) else none) = G (ic (dvN s f i)) (hp S K L)) ∧ RW (K (m + 3)) (dev s f i x) ∧ Fr J K (m + 3) (m + 3) := by
  have V1 : Inv (dv1 s f i x) pl := inv_um (inv_stoW hV hx) (sbt_lt (n := 16) hV.1.2.2.2.1 hf)
  have T1 := x_table1 (L := L) hL hR V1 hp9 (o := f) (by omega)
  have T0 := x_table0 (L := L) hL hR V1 hp9 (o := f) (by omega)
  have n0 : ∀ n, fnd s 0 f = some n → n < 8 := fun n h => (fnd_some h).1
  obtain ⟨K1, e1, w1, f1⟩ := x_takes (L := L) hL hR (fun b hb => V1.e64 hb) (fnd s 0 f) n0 hi
  have V2 : Inv (tke (dv1 s f i x) (fnd s 0 f) i) pl := inv_tke V1 _ _
  have e19 : p_X9_takesEntry m (od (fnd s 0 f)) (ic i) (hp S J L) = some (ic (tkN s (fnd s 0 f) i), hp S K1 L) := e1
  have T19 : p_X9_tableOf m 1 (ic f) (hp S J L) = some (od (fnd s 1 f), hp S J L) := T1
  have T09 : p_X9_tableOf m 0 (ic f) (hp S J L) = some (od (fnd s 0 f), hp S J L) := T0
  have t8 : ∀ K : II, (tg (hp S K L) m).1 = 8 := fun K => by rw [hp_tg, hL.t]
  cases hl : fnd s 1 f with
  | none =>
    rw [hl] at T19
    refine ⟨K1, fun G => ?_, ?_, f1⟩
    · refine Eq.trans (bnd T19) ?_
      rw [if_pos (t8 J)]
      refine Eq.trans (bnd T09) ?_
      rw [if_pos (t8 J)]
      refine Eq.trans (bnd e19) ?_
      rw [if_pos (show od none = (-1 : Int32) from rfl)]
      unfold dvN
      rw [hl]
      rfl
    · unfold dev
      rw [hl]
      exact w1
  | some l =>
    rw [hl, show od (some l) = ic l from rfl] at T19
    obtain ⟨hl8, hlk, hlo⟩ := fnd_some hl
    have nl : ¬ ic l = (-1 : Int32) := by rw [show (-1 : Int32) = m1 from rfl, ic_m1 (by omega)]; exact not_false
    have hu : K1 (m + 3) (171 + l) = bi (su s l) := by
      rw [w1.u l hl8]
      unfold tke
      cases fnd s 0 f <;> rfl
    have pre : ∀ (G : Int32 → AH → Option (Int32 × AH)), ((p_X9_tableOf m 1 (ic f) (hp S J L)).bind fun q145 => if (tg q145.2 m).1 = 8 then ((p_X9_tableOf m 0 (ic f) q145.2).bind fun q146 => if (tg q146.2 m).1 = 8 then ((p_X9_takesEntry m q146.1 (ic i) q146.2).bind fun q147 => if q145.1 = (-1 : Int32) then (G q147.1 q147.2) else if (tg q147.2 m).1 = 8 then (if inB q147.2 (rR q147.2 m 16) 100 ((171 : Int32) + q145.1) then (if (rI q147.2 (rR q147.2 m 16) ((171 : Int32) + q145.1).toNatClampNeg) = 0 then (if (tg q147.2 m).1 = 8 then ((p_X9_takesEntry m q145.1 (ic i) q147.2).bind fun q148 => G (q147.1 + q148.1) q148.2) else none) else G q147.1 q147.2) else none) else none) else none) else none) = if bi (su s l) = 0 then ((p_X9_takesEntry m (ic l) (ic i) (hp S K1 L)).bind fun q148 => G (ic (tkN s (fnd s 0 f) i) + q148.1) q148.2) else G (ic (tkN s (fnd s 0 f) i)) (hp S K1 L) := by
      intro G
      refine Eq.trans (bnd T19) ?_
      rw [if_pos (t8 J)]
      refine Eq.trans (bnd T09) ?_
      rw [if_pos (t8 J)]
      refine Eq.trans (bnd e19) ?_
      rw [if_neg nl, if_pos (t8 K1), hp_rR, hL.x, lt_171, ic_add, if_pos (if_inB hL.xt (by omega) (by omega)), hp_rI, ic_clamp (by omega), hu, if_pos (t8 K1)]
    cases hsu : su s l
    · have e64 : ∀ b, b < 64 → se (tke (dv1 s f i x) (fnd s 0 f) i) b ≤ 64 := fun b hb => V2.e64 hb
      obtain ⟨K2, e2, w2, f2⟩ := x_takes (L := L) hL w1 e64 (some l) (fun n h => by cases h; exact hl8) hi
      have same : tkN (tke (dv1 s f i x) (fnd s 0 f) i) (some l) i = tkN s (some l) i := by
        show b2 (decide (se _ _ ≠ 0)) 1 = b2 (decide (se _ _ ≠ 0)) 1
        have : se (tke (dv1 s f i x) (fnd s 0 f) i) (8 * l + i) = se s (8 * l + i) := by
          cases hn : fnd s 0 f with
          | none => rfl
          | some n =>
            obtain ⟨hn8, hnk, -⟩ := fnd_some hn
            show (if 8 * l + i = 8 * n + i then 0 else se s (8 * l + i)) = _
            rw [if_neg (fun q => by have : l = n := by omega
                                    rw [this] at hlk; omega)]
        rw [this]
      rw [same, show od (some l) = ic l from rfl] at e2
      refine ⟨K2, fun G => ?_, ?_, f1.trans f2⟩
      · rw [pre G, hsu, if_pos (show bi false = 0 from rfl)]
        refine Eq.trans (bnd e2) ?_
        unfold dvN
        rw [hl]
        show G (ic _ + ic _) _ = G (ic (_ + tkN s (inst s (some l)) i)) _
        rw [ic_add, show inst s (some l) = some l by show (if su s l = true then none else some l) = some l; rw [hsu]; rfl]
      · unfold dev
        rw [hl, show inst s (some l) = some l by show (if su s l = true then none else some l) = some l; rw [hsu]; rfl]
        exact w2
    · refine ⟨K1, fun G => ?_, ?_, f1⟩
      · rw [pre G, hsu, if_neg (show ¬ bi true = 0 by decide)]
        unfold dvN
        rw [hl, show inst s (some l) = none by show (if su s l = true then none else some l) = none; rw [hsu]; rfl]
        rfl
      · unfold dev
        rw [hl, show inst s (some l) = none by show (if su s l = true then none else some l) = none; rw [hsu]; rfl]
        exact w1
theorem xc_device (H : XH S I m a W c) (v i w : Int32) : XC S I m a (p_X9_device m v i w (hp S I L)) (dvW W v i w) := by
  have H9 := H
  have a0 := H.a0
  obtain ⟨hL, hm, hM, hX, hV⟩ := H9
  unfold dvW
  cases hr : vR W
  · have lm := hM.2 hr
    rw [ok_ff, Bool.false_and, if_neg (by decide)]
    refine xc_no1 (L' := L) H (Xq.z I m) ?_
    simp (maxSteps := 1000000) (disch := omega) only [↓reduceIte, ↓if_bi0, ↓if_bi1, hp_tg, hp_rI, hp_rR, hp_rL, hp_wI, hp_wL, Option.bind_some, if_11, if_01, bi_and1, i10, i01, bi_t, bi_f, ic_add, mr_4, ml_4, mr_8, ml_8, mr_10, ml_10, ic_add1, ic_sub1, ic_clamp, ic_div, ic_irm, ic_lt0, ic_0lt, ic_eq0, ic_lt, ic_inj, and15, and7, and31, and63, shl1, shr_ok, neg_1, neg_2, neg_3, neg_4, kc_lt0, kc_ic, kc_m2, kc_1, kc_0, i0_add, add_i0, or_i0, z_8, z_4, z_64, z_256, ic_m2, ec_m1, ic_m1, m1_lt0, m2_lt0, m3_lt0, m4_lt0, up_s, if_true, if_false, ne_eq, not_true_eq_false, not_false_eq_true, Bool.false_eq_true, eq_self, or_self, or_false, false_or, and_self, and_true, true_and, ite_self, Nat.reduceEqDiff, Nat.reduceLT, Nat.reduceMod, Nat.reduceMul, Nat.reduceAdd, Nat.reducePow, Nat.reduceDiv, lt_2, lt_3, lt_4, lt_5, lt_6, lt_7, lt_8, lt_10, lt_11, lt_12, lt_15, lt_16, lt_18, lt_20, lt_24, lt_31, lt_32, lt_48, lt_57, lt_59, lt_63, lt_64, lt_74, lt_75, lt_97, lt_122, lt_128, lt_144, lt_145, lt_146, lt_147, lt_155, lt_163, lt_171, lt_179, lt_200, lt_243, lt_244, lt_255, lt_256, lt_732, lt_900, lt_3660, lt_3904, lt_4095, lt_65536, lt_65537, lt_252645135, lt_858993459, lt_1431655765, ↓p_has_b, p_has, ↓p_has9_b, p_has9, ↓p_bit_b, p_bit, ↓p_bit1_b, p_bit1, ↓p_bit0_b, p_bit0, p_X9_device, p_X9_device_29, hL.t, lm, ↓x_refused_b hL, x_refused hL]
  · have lm := (hM.y hr).1
    have F := x_isFrame v (hp S (up2 I m 0 0) L)
    have F2 := x_in0 (n := 7) (by omega) i (hp S (up2 I m 0 0) L)
    have F3 := x_in0 (n := 4095) (by omega) w (hp S (up2 I m 0 0) L)
    have t8 : ∀ K : II, (tg (hp S K L) m).1 = 8 := fun K => by rw [hp_tg, hL.t]
    have Q : p_X9_device m v i w (hp S I L) = ((p_X9_isFrame v (hp S (up2 I m 0 0) L)).bind fun q137 => if q137.1 = 0 then p_X9_device_29 m q137.2 else (p_X9_in i 0 7 q137.2).bind fun q138 => if q138.1 = 0 then p_X9_device_29 m q138.2 else (p_X9_in w 0 4095 q138.2).bind fun q139 => if q139.1 = 0 then (if (tg q139.2 m).1 = 8 then ((p_X9_refused m 2 q139.2).bind fun q151 => some (q151.1, q151.2)) else none) else p_X9_device_52 m v i w q139.2) := by
      unfold p_X9_device
      rw [if_pos (t8 I)]
      show (if (tg (wI (hp S I L) m 0 0) m).1 = 8 then _ else none) = _
      rw [hp_wI, if_pos (t8 _), if_neg (show ¬ rR (hp S (up2 I m 0 0) L) m 3 = 0 by rw [hp_rR, lm]; exact a0)]
      rfl
    rw [Q]
    cases z : ok true 16 v
    · rw [z] at F
      rw [Bool.false_and, if_neg (by decide)]
      refine xc_no1 (L' := L) H (Xq.z I m) ?_
      refine Eq.trans (bnd F) ?_
      simp (maxSteps := 1000000) (disch := omega) only [↓reduceIte, ↓if_bi0, ↓if_bi1, hp_tg, hp_rI, hp_rR, hp_rL, hp_wI, hp_wL, Option.bind_some, if_11, if_01, bi_and1, i10, i01, bi_t, bi_f, ic_add, mr_4, ml_4, mr_8, ml_8, mr_10, ml_10, ic_add1, ic_sub1, ic_clamp, ic_div, ic_irm, ic_lt0, ic_0lt, ic_eq0, ic_lt, ic_inj, and15, and7, and31, and63, shl1, shr_ok, neg_1, neg_2, neg_3, neg_4, kc_lt0, kc_ic, kc_m2, kc_1, kc_0, i0_add, add_i0, or_i0, z_8, z_4, z_64, z_256, ic_m2, ec_m1, ic_m1, m1_lt0, m2_lt0, m3_lt0, m4_lt0, up_s, if_true, if_false, ne_eq, not_true_eq_false, not_false_eq_true, Bool.false_eq_true, eq_self, or_self, or_false, false_or, and_self, and_true, true_and, ite_self, Nat.reduceEqDiff, Nat.reduceLT, Nat.reduceMod, Nat.reduceMul, Nat.reduceAdd, Nat.reducePow, Nat.reduceDiv, lt_2, lt_3, lt_4, lt_5, lt_6, lt_7, lt_8, lt_10, lt_11, lt_12, lt_15, lt_16, lt_18, lt_20, lt_24, lt_31, lt_32, lt_48, lt_57, lt_59, lt_63, lt_64, lt_74, lt_75, lt_97, lt_122, lt_128, lt_144, lt_145, lt_146, lt_147, lt_155, lt_163, lt_171, lt_179, lt_200, lt_243, lt_244, lt_255, lt_256, lt_732, lt_900, lt_3660, lt_3904, lt_4095, lt_65536, lt_65537, lt_252645135, lt_858993459, lt_1431655765, ↓p_has_b, p_has, ↓p_has9_b, p_has9, ↓p_bit_b, p_bit, ↓p_bit1_b, p_bit1, ↓p_bit0_b, p_bit0, p_X9_device_29, hL.t, ↓x_refused_b hL, x_refused hL]
    · rw [z] at F
      cases z2 : ok true 8 i
      · rw [z2] at F2
        rw [Bool.and_false, if_neg (by decide)]
        refine xc_no1 (L' := L) H (Xq.z I m) ?_
        refine Eq.trans (bnd F) ?_
        rw [if_neg (show ¬ bi true = 0 by decide)]
        refine Eq.trans (bnd F2) ?_
        simp (maxSteps := 1000000) (disch := omega) only [↓reduceIte, ↓if_bi0, ↓if_bi1, hp_tg, hp_rI, hp_rR, hp_rL, hp_wI, hp_wL, Option.bind_some, if_11, if_01, bi_and1, i10, i01, bi_t, bi_f, ic_add, mr_4, ml_4, mr_8, ml_8, mr_10, ml_10, ic_add1, ic_sub1, ic_clamp, ic_div, ic_irm, ic_lt0, ic_0lt, ic_eq0, ic_lt, ic_inj, and15, and7, and31, and63, shl1, shr_ok, neg_1, neg_2, neg_3, neg_4, kc_lt0, kc_ic, kc_m2, kc_1, kc_0, i0_add, add_i0, or_i0, z_8, z_4, z_64, z_256, ic_m2, ec_m1, ic_m1, m1_lt0, m2_lt0, m3_lt0, m4_lt0, up_s, if_true, if_false, ne_eq, not_true_eq_false, not_false_eq_true, Bool.false_eq_true, eq_self, or_self, or_false, false_or, and_self, and_true, true_and, ite_self, Nat.reduceEqDiff, Nat.reduceLT, Nat.reduceMod, Nat.reduceMul, Nat.reduceAdd, Nat.reducePow, Nat.reduceDiv, lt_2, lt_3, lt_4, lt_5, lt_6, lt_7, lt_8, lt_10, lt_11, lt_12, lt_15, lt_16, lt_18, lt_20, lt_24, lt_31, lt_32, lt_48, lt_57, lt_59, lt_63, lt_64, lt_74, lt_75, lt_97, lt_122, lt_128, lt_144, lt_145, lt_146, lt_147, lt_155, lt_163, lt_171, lt_179, lt_200, lt_243, lt_244, lt_255, lt_256, lt_732, lt_900, lt_3660, lt_3904, lt_4095, lt_65536, lt_65537, lt_252645135, lt_858993459, lt_1431655765, ↓p_has_b, p_has, ↓p_has9_b, p_has9, ↓p_bit_b, p_bit, ↓p_bit1_b, p_bit1, ↓p_bit0_b, p_bit0, p_X9_device_29, hL.t, ↓x_refused_b hL, x_refused hL]
      · rw [z2] at F2
        rw [Bool.and_self, if_pos rfl]
        cases z3 : ok true 4096 w
        · rw [z3] at F3
          rw [if_neg (by decide)]
          refine xc_to (L' := L) (e := 2) H (Xq.z I m) (by decide) ?_
          refine Eq.trans (bnd F) ?_
          rw [if_neg (show ¬ bi true = 0 by decide)]
          refine Eq.trans (bnd F2) ?_
          rw [if_neg (show ¬ bi true = 0 by decide)]
          refine Eq.trans (bnd F3) ?_
          simp (maxSteps := 1000000) (disch := omega) only [↓reduceIte, ↓if_bi0, ↓if_bi1, hp_tg, hp_rI, hp_rR, hp_rL, hp_wI, hp_wL, Option.bind_some, if_11, if_01, bi_and1, i10, i01, bi_t, bi_f, ic_add, mr_4, ml_4, mr_8, ml_8, mr_10, ml_10, ic_add1, ic_sub1, ic_clamp, ic_div, ic_irm, ic_lt0, ic_0lt, ic_eq0, ic_lt, ic_inj, and15, and7, and31, and63, shl1, shr_ok, neg_1, neg_2, neg_3, neg_4, kc_lt0, kc_ic, kc_m2, kc_1, kc_0, i0_add, add_i0, or_i0, z_8, z_4, z_64, z_256, ic_m2, ec_m1, ic_m1, m1_lt0, m2_lt0, m3_lt0, m4_lt0, up_s, if_true, if_false, ne_eq, not_true_eq_false, not_false_eq_true, Bool.false_eq_true, eq_self, or_self, or_false, false_or, and_self, and_true, true_and, ite_self, Nat.reduceEqDiff, Nat.reduceLT, Nat.reduceMod, Nat.reduceMul, Nat.reduceAdd, Nat.reducePow, Nat.reduceDiv, lt_2, lt_3, lt_4, lt_5, lt_6, lt_7, lt_8, lt_10, lt_11, lt_12, lt_15, lt_16, lt_18, lt_20, lt_24, lt_31, lt_32, lt_48, lt_57, lt_59, lt_63, lt_64, lt_74, lt_75, lt_97, lt_122, lt_128, lt_144, lt_145, lt_146, lt_147, lt_155, lt_163, lt_171, lt_179, lt_200, lt_243, lt_244, lt_255, lt_256, lt_732, lt_900, lt_3660, lt_3904, lt_4095, lt_65536, lt_65537, lt_252645135, lt_858993459, lt_1431655765, ↓p_has_b, p_has, ↓p_has9_b, p_has9, ↓p_bit_b, p_bit, ↓p_bit1_b, p_bit1, ↓p_bit0_b, p_bit0, hL.t, ↓x_refused_b hL, x_refused hL]
        · rw [z3] at F3
          rw [if_pos rfl]
          obtain ⟨-, f, hf, rfl⟩ := ok_t (by omega) z
          obtain ⟨-, k, hk, rfl⟩ := ok_t (by omega) z2
          obtain ⟨-, n, hn, rfl⟩ := ok_t (by omega) z3
          rw [ic_clamp (show f < 2147483648 by omega), ic_clamp (show k < 2147483648 by omega), ic_clamp (show n < 2147483648 by omega)]
          have Q2 : ((p_X9_isFrame (ic f) (hp S (up2 I m 0 0) L)).bind fun q137 => if q137.1 = 0 then p_X9_device_29 m q137.2 else (p_X9_in (ic k) 0 7 q137.2).bind fun q138 => if q138.1 = 0 then p_X9_device_29 m q138.2 else (p_X9_in (ic n) 0 4095 q138.2).bind fun q139 => if q139.1 = 0 then (if (tg q139.2 m).1 = 8 then ((p_X9_refused m 2 q139.2).bind fun q151 => some (q151.1, q151.2)) else none) else p_X9_device_52 m (ic f) (ic k) (ic n) q139.2) = p_X9_device_52 m (ic f) (ic k) (ic n) (hp S (up2 I m 0 0) L) := by
            refine Eq.trans (bnd F) ?_
            rw [if_neg (show ¬ bi true = 0 by decide)]
            refine Eq.trans (bnd F2) ?_
            rw [if_neg (show ¬ bi true = 0 by decide)]
            refine Eq.trans (bnd F3) ?_
            rw [if_neg (show ¬ bi true = 0 by decide)]
          rw [Q2]
          obtain ⟨V1, V2, V3, -⟩ := hV.2.2.2.2.2.2.1 hr
          obtain ⟨J0, e0, R0, X0, -⟩ := x_wk (L := L) H hr
          have A := x_backed (L := L) hL R0 V3.1.1 hf
          have Q3 : p_X9_device_52 m (ic f) (ic k) (ic n) (hp S (up2 I m 0 0) L) = (p_X9_isBacked m (ic f) (hp S J0 L)).bind fun q113 => if q113.1 = 0 then (if (tg q113.2 m).1 = 8 then ((p_X9_refused m 5 q113.2).bind fun q122 => some (q122.1, q122.2)) else none) else p_X9_device_70 m (ic f) (ic k) (ic n) q113.2 := by
            unfold p_X9_device_52
            rw [if_pos (t8 _)]
            refine Eq.trans (bnd e0) ?_
            rw [if_pos (t8 _)]
            rfl
          rw [Q3]
          by_cases d : 0 < sH (vS W) f
          · rw [if_pos d]
            rw [decide_eq_true d] at A
            have Q4 : ((p_X9_isBacked m (ic f) (hp S J0 L)).bind fun q113 => if q113.1 = 0 then (if (tg q113.2 m).1 = 8 then ((p_X9_refused m 5 q113.2).bind fun q122 => some (q122.1, q122.2)) else none) else p_X9_device_70 m (ic f) (ic k) (ic n) q113.2) = p_X9_device_70 m (ic f) (ic k) (ic n) (hp S J0 L) := by
              refine Eq.trans (bnd A) ?_
              rw [if_neg (show ¬ bi true = 0 by decide)]
            rw [Q4]
            obtain ⟨J, e1, XJ⟩ := x_rem (L := L) H hr X0
            have XJ9 := XJ
            obtain ⟨p1, w1, g19, g26, g27, g28, g29, gj, gb⟩ := XJ9
            have w2 : RW (up2 J (m + 3) (8 * f + k) (ic n) (m + 3)) (stoW (vS W) f k n) := by rw [up_row]; exact w1.setW (ic n) rfl (by omega)
            have E : up2 J (m + 3) (8 * f + k) (ic n) (m + 3) 145 = ic (sm (vS W)) := w2.mk
            have w3 : RW (up2 (up2 J (m + 3) (8 * f + k) (ic n)) (m + 3) 145 (ic (sbt (sm (vS W)) f)) (m + 3)) (dv1 (vS W) f k n) := by rw [up_row]; exact w2.setmk (ic (sbt (sm (vS W)) f)) rfl
            have g26' : up2 (up2 J (m + 3) (8 * f + k) (ic n)) (m + 3) 145 (ic (sbt (sm (vS W)) f)) m 26 = ic (tP (vT W)) := by rw [up_a (by omega), up_a (by omega)]; exact g26
            obtain ⟨K, e2, w4, f4⟩ := x_dvk (L := L) hL w3 V3.1 g26' hf hk hn
            refine xc_act0 (L := L) (L' := L) (J' := K) H hr XJ w4 (fun j _ => ?_) (fun b q1 q2 => ?_) ?_
            · rw [f4 m (by omega), up_a (by omega), up_a (by omega)]
            · rw [f4 b (by omega)]; exact funext fun j => by rw [up_a q2, up_a q2]
            · intro K2 eK
              have Q5 : p_X9_device_70 m (ic f) (ic k) (ic n) (hp S J0 L) = p_X9_device_153 m (ic (dvN (vS W) f k)) (hp S K L) := by
                refine Eq.trans ?_ (e2 (p_X9_device_153 m))
                unfold p_X9_device_70
                rw [if_pos (t8 _)]
                refine Eq.trans (bnd e1) ?_
                rw [if_pos (t8 _), hp_rR, hL.x, if_pos (show inB (hp S J L) (m + 3) 100 (8 * ic f + ic k) = true by simp (maxSteps := 1000000) (disch := omega) only [↓reduceIte, ↓if_bi0, ↓if_bi1, hp_tg, hp_rI, hp_rR, hp_rL, hp_wI, hp_wL, Option.bind_some, if_11, if_01, bi_and1, i10, i01, bi_t, bi_f, ic_add, mr_4, ml_4, mr_8, ml_8, mr_10, ml_10, ic_add1, ic_sub1, ic_clamp, ic_div, ic_irm, ic_lt0, ic_0lt, ic_eq0, ic_lt, ic_inj, and15, and7, and31, and63, shl1, shr_ok, neg_1, neg_2, neg_3, neg_4, kc_lt0, kc_ic, kc_m2, kc_1, kc_0, i0_add, add_i0, or_i0, z_8, z_4, z_64, z_256, ic_m2, ec_m1, ic_m1, m1_lt0, m2_lt0, m3_lt0, m4_lt0, up_s, if_true, if_false, ne_eq, not_true_eq_false, not_false_eq_true, Bool.false_eq_true, eq_self, or_self, or_false, false_or, and_self, and_true, true_and, ite_self, Nat.reduceEqDiff, Nat.reduceLT, Nat.reduceMod, Nat.reduceMul, Nat.reduceAdd, Nat.reducePow, Nat.reduceDiv, lt_2, lt_3, lt_4, lt_5, lt_6, lt_7, lt_8, lt_10, lt_11, lt_12, lt_15, lt_16, lt_18, lt_20, lt_24, lt_31, lt_32, lt_48, lt_57, lt_59, lt_63, lt_64, lt_74, lt_75, lt_97, lt_122, lt_128, lt_144, lt_145, lt_146, lt_147, lt_155, lt_163, lt_171, lt_179, lt_200, lt_243, lt_244, lt_255, lt_256, lt_732, lt_900, lt_3660, lt_3904, lt_4095, lt_65536, lt_65537, lt_252645135, lt_858993459, lt_1431655765, ↓p_has_b, p_has, ↓p_has9_b, p_has9, ↓p_bit_b, p_bit, ↓p_bit1_b, p_bit1, ↓p_bit0_b, p_bit0, if_inB hL.xt])]
                have c1 : (8 * ic f + ic k).toNatClampNeg = 8 * f + k := by simp (maxSteps := 1000000) (disch := omega) only [↓reduceIte, ↓if_bi0, ↓if_bi1, hp_tg, hp_rI, hp_rR, hp_rL, hp_wI, hp_wL, Option.bind_some, if_11, if_01, bi_and1, i10, i01, bi_t, bi_f, ic_add, mr_4, ml_4, mr_8, ml_8, mr_10, ml_10, ic_add1, ic_sub1, ic_clamp, ic_div, ic_irm, ic_lt0, ic_0lt, ic_eq0, ic_lt, ic_inj, and15, and7, and31, and63, shl1, shr_ok, neg_1, neg_2, neg_3, neg_4, kc_lt0, kc_ic, kc_m2, kc_1, kc_0, i0_add, add_i0, or_i0, z_8, z_4, z_64, z_256, ic_m2, ec_m1, ic_m1, m1_lt0, m2_lt0, m3_lt0, m4_lt0, up_s, if_true, if_false, ne_eq, not_true_eq_false, not_false_eq_true, Bool.false_eq_true, eq_self, or_self, or_false, false_or, and_self, and_true, true_and, ite_self, Nat.reduceEqDiff, Nat.reduceLT, Nat.reduceMod, Nat.reduceMul, Nat.reduceAdd, Nat.reducePow, Nat.reduceDiv, lt_2, lt_3, lt_4, lt_5, lt_6, lt_7, lt_8, lt_10, lt_11, lt_12, lt_15, lt_16, lt_18, lt_20, lt_24, lt_31, lt_32, lt_48, lt_57, lt_59, lt_63, lt_64, lt_74, lt_75, lt_97, lt_122, lt_128, lt_144, lt_145, lt_146, lt_147, lt_155, lt_163, lt_171, lt_179, lt_200, lt_243, lt_244, lt_255, lt_256, lt_732, lt_900, lt_3660, lt_3904, lt_4095, lt_65536, lt_65537, lt_252645135, lt_858993459, lt_1431655765, ↓p_has_b, p_has, ↓p_has9_b, p_has9, ↓p_bit_b, p_bit, ↓p_bit1_b, p_bit1, ↓p_bit0_b, p_bit0]
                show (if (tg (wI (hp S J L) (m + 3) (8 * ic f + ic k).toNatClampNeg (ic n)) m).1 = 8 then _ else none) = _
                rw [c1, hp_wI, if_pos (t8 _), hp_rR, hL.x, if_pos (show inB (hp S (up2 J (m + 3) (8 * f + k) (ic n)) L) (m + 3) 100 145 = true by simp (maxSteps := 1000000) (disch := omega) only [↓reduceIte, ↓if_bi0, ↓if_bi1, hp_tg, hp_rI, hp_rR, hp_rL, hp_wI, hp_wL, Option.bind_some, if_11, if_01, bi_and1, i10, i01, bi_t, bi_f, ic_add, mr_4, ml_4, mr_8, ml_8, mr_10, ml_10, ic_add1, ic_sub1, ic_clamp, ic_div, ic_irm, ic_lt0, ic_0lt, ic_eq0, ic_lt, ic_inj, and15, and7, and31, and63, shl1, shr_ok, neg_1, neg_2, neg_3, neg_4, kc_lt0, kc_ic, kc_m2, kc_1, kc_0, i0_add, add_i0, or_i0, z_8, z_4, z_64, z_256, ic_m2, ec_m1, ic_m1, m1_lt0, m2_lt0, m3_lt0, m4_lt0, up_s, if_true, if_false, ne_eq, not_true_eq_false, not_false_eq_true, Bool.false_eq_true, eq_self, or_self, or_false, false_or, and_self, and_true, true_and, ite_self, Nat.reduceEqDiff, Nat.reduceLT, Nat.reduceMod, Nat.reduceMul, Nat.reduceAdd, Nat.reducePow, Nat.reduceDiv, lt_2, lt_3, lt_4, lt_5, lt_6, lt_7, lt_8, lt_10, lt_11, lt_12, lt_15, lt_16, lt_18, lt_20, lt_24, lt_31, lt_32, lt_48, lt_57, lt_59, lt_63, lt_64, lt_74, lt_75, lt_97, lt_122, lt_128, lt_144, lt_145, lt_146, lt_147, lt_155, lt_163, lt_171, lt_179, lt_200, lt_243, lt_244, lt_255, lt_256, lt_732, lt_900, lt_3660, lt_3904, lt_4095, lt_65536, lt_65537, lt_252645135, lt_858993459, lt_1431655765, ↓p_has_b, p_has, ↓p_has9_b, p_has9, ↓p_bit_b, p_bit, ↓p_bit1_b, p_bit1, ↓p_bit0_b, p_bit0, if_inB hL.xt]), if_pos (show inB (hp S (up2 J (m + 3) (8 * f + k) (ic n)) L) (m + 3) 100 145 = true by simp (maxSteps := 1000000) (disch := omega) only [↓reduceIte, ↓if_bi0, ↓if_bi1, hp_tg, hp_rI, hp_rR, hp_rL, hp_wI, hp_wL, Option.bind_some, if_11, if_01, bi_and1, i10, i01, bi_t, bi_f, ic_add, mr_4, ml_4, mr_8, ml_8, mr_10, ml_10, ic_add1, ic_sub1, ic_clamp, ic_div, ic_irm, ic_lt0, ic_0lt, ic_eq0, ic_lt, ic_inj, and15, and7, and31, and63, shl1, shr_ok, neg_1, neg_2, neg_3, neg_4, kc_lt0, kc_ic, kc_m2, kc_1, kc_0, i0_add, add_i0, or_i0, z_8, z_4, z_64, z_256, ic_m2, ec_m1, ic_m1, m1_lt0, m2_lt0, m3_lt0, m4_lt0, up_s, if_true, if_false, ne_eq, not_true_eq_false, not_false_eq_true, Bool.false_eq_true, eq_self, or_self, or_false, false_or, and_self, and_true, true_and, ite_self, Nat.reduceEqDiff, Nat.reduceLT, Nat.reduceMod, Nat.reduceMul, Nat.reduceAdd, Nat.reducePow, Nat.reduceDiv, lt_2, lt_3, lt_4, lt_5, lt_6, lt_7, lt_8, lt_10, lt_11, lt_12, lt_15, lt_16, lt_18, lt_20, lt_24, lt_31, lt_32, lt_48, lt_57, lt_59, lt_63, lt_64, lt_74, lt_75, lt_97, lt_122, lt_128, lt_144, lt_145, lt_146, lt_147, lt_155, lt_163, lt_171, lt_179, lt_200, lt_243, lt_244, lt_255, lt_256, lt_732, lt_900, lt_3660, lt_3904, lt_4095, lt_65536, lt_65537, lt_252645135, lt_858993459, lt_1431655765, ↓p_has_b, p_has, ↓p_has9_b, p_has9, ↓p_bit_b, p_bit, ↓p_bit1_b, p_bit1, ↓p_bit0_b, p_bit0, if_inB hL.xt])]
                have c2 : ((145 : Int32)).toNatClampNeg = 145 := by decide
                have c3 : rI (hp S (up2 J (m + 3) (8 * f + k) (ic n)) L) (m + 3) 145 ||| (1 : Int32) <<< (ic f &&& 31) = ic (sbt (sm (vS W)) f) := by
                  rw [hp_rI, E, lt_31, and31, show f % 32 = f by omega, shl1 (by omega), ic_or]; rfl
                show (if (tg (wI (hp S (up2 J (m + 3) (8 * f + k) (ic n)) L) (m + 3) ((145 : Int32)).toNatClampNeg (rI (hp S (up2 J (m + 3) (8 * f + k) (ic n)) L) (m + 3) ((145 : Int32)).toNatClampNeg ||| (1 : Int32) <<< (ic f &&& 31))) m).1 = 8 then _ else none) = _
                rw [c2, c3, hp_wI, if_pos (t8 _)]
              rw [Q5]
              simp (maxSteps := 1000000) (disch := omega) only [↓reduceIte, ↓if_bi0, ↓if_bi1, hp_tg, hp_rI, hp_rR, hp_rL, hp_wI, hp_wL, Option.bind_some, if_11, if_01, bi_and1, i10, i01, bi_t, bi_f, ic_add, mr_4, ml_4, mr_8, ml_8, mr_10, ml_10, ic_add1, ic_sub1, ic_clamp, ic_div, ic_irm, ic_lt0, ic_0lt, ic_eq0, ic_lt, ic_inj, and15, and7, and31, and63, shl1, shr_ok, neg_1, neg_2, neg_3, neg_4, kc_lt0, kc_ic, kc_m2, kc_1, kc_0, i0_add, add_i0, or_i0, z_8, z_4, z_64, z_256, ic_m2, ec_m1, ic_m1, m1_lt0, m2_lt0, m3_lt0, m4_lt0, up_s, if_true, if_false, ne_eq, not_true_eq_false, not_false_eq_true, Bool.false_eq_true, eq_self, or_self, or_false, false_or, and_self, and_true, true_and, ite_self, Nat.reduceEqDiff, Nat.reduceLT, Nat.reduceMod, Nat.reduceMul, Nat.reduceAdd, Nat.reducePow, Nat.reduceDiv, lt_2, lt_3, lt_4, lt_5, lt_6, lt_7, lt_8, lt_10, lt_11, lt_12, lt_15, lt_16, lt_18, lt_20, lt_24, lt_31, lt_32, lt_48, lt_57, lt_59, lt_63, lt_64, lt_74, lt_75, lt_97, lt_122, lt_128, lt_144, lt_145, lt_146, lt_147, lt_155, lt_163, lt_171, lt_179, lt_200, lt_243, lt_244, lt_255, lt_256, lt_732, lt_900, lt_3660, lt_3904, lt_4095, lt_65536, lt_65537, lt_252645135, lt_858993459, lt_1431655765, ↓p_has_b, p_has, ↓p_has9_b, p_has9, ↓p_bit_b, p_bit, ↓p_bit1_b, p_bit1, ↓p_bit0_b, p_bit0, p_X9_device_153, hL.t, ↓bnd (eK), eK, ↓x_good_b hL, x_good hL]
          · rw [if_neg d]
            rw [decide_eq_false d] at A
            refine xc_to (L' := L) (e := 5) H X0 (by decide) ?_
            refine Eq.trans (bnd A) ?_
            simp (maxSteps := 1000000) (disch := omega) only [↓reduceIte, ↓if_bi0, ↓if_bi1, hp_tg, hp_rI, hp_rR, hp_rL, hp_wI, hp_wL, Option.bind_some, if_11, if_01, bi_and1, i10, i01, bi_t, bi_f, ic_add, mr_4, ml_4, mr_8, ml_8, mr_10, ml_10, ic_add1, ic_sub1, ic_clamp, ic_div, ic_irm, ic_lt0, ic_0lt, ic_eq0, ic_lt, ic_inj, and15, and7, and31, and63, shl1, shr_ok, neg_1, neg_2, neg_3, neg_4, kc_lt0, kc_ic, kc_m2, kc_1, kc_0, i0_add, add_i0, or_i0, z_8, z_4, z_64, z_256, ic_m2, ec_m1, ic_m1, m1_lt0, m2_lt0, m3_lt0, m4_lt0, up_s, if_true, if_false, ne_eq, not_true_eq_false, not_false_eq_true, Bool.false_eq_true, eq_self, or_self, or_false, false_or, and_self, and_true, true_and, ite_self, Nat.reduceEqDiff, Nat.reduceLT, Nat.reduceMod, Nat.reduceMul, Nat.reduceAdd, Nat.reducePow, Nat.reduceDiv, lt_2, lt_3, lt_4, lt_5, lt_6, lt_7, lt_8, lt_10, lt_11, lt_12, lt_15, lt_16, lt_18, lt_20, lt_24, lt_31, lt_32, lt_48, lt_57, lt_59, lt_63, lt_64, lt_74, lt_75, lt_97, lt_122, lt_128, lt_144, lt_145, lt_146, lt_147, lt_155, lt_163, lt_171, lt_179, lt_200, lt_243, lt_244, lt_255, lt_256, lt_732, lt_900, lt_3660, lt_3904, lt_4095, lt_65536, lt_65537, lt_252645135, lt_858993459, lt_1431655765, ↓p_has_b, p_has, ↓p_has9_b, p_has9, ↓p_bit_b, p_bit, ↓p_bit1_b, p_bit1, ↓p_bit0_b, p_bit0, hL.t, ↓x_refused_b hL, x_refused hL]
end XDV
