/-! ===== sets of unsure words that fit ===== -/
theorem lok_SG {s t : St} (h : SG s t) (v : Nat) (wr us : Bool) : lok t v wr us = lok s v wr us := by
  unfold lok
  rw [rtW_SG h, lfW_SG h, frm_SG h, h.2.1, h.2.2.1]
theorem unt_SG {T : TS} {s t : St} (h : SG s t) : unt T t = unt T s := by
  unfold unt
  exact fs_congr fun i _ _ => by rw [lok_SG h]
def fit (T : TS) (o : Nat) : Bool := (unt T (oth T o)).isNone
def fitM (T : TS) : Nat := msk (fit T) (2 ^ dN T)
theorem tb_msk (p : Nat → Bool) (d k : Nat) : (msk p d).testBit k = (decide (k < d) && p k) := by
  induction d with
  | zero => show (0 : Nat).testBit k = _; rw [Nat.zero_testBit]; rfl
  | succ d ih =>
    rw [msk_succ]
    by_cases c : p d = true
    · rw [if_pos c, Nat.testBit_or, ih, Nat.testBit_two_pow]
      by_cases e : d = k
      · subst e; rw [c]; simp
      · by_cases f : k < d
        · simp [f, e, show k < d + 1 by omega]
        · simp [f, e, show ¬ k < d + 1 by omega]
    · rw [if_neg c, ih]
      by_cases e : d = k
      · subst e; rw [show p d = false by simpa using c]; simp
      · by_cases f : k < d
        · simp [f, show k < d + 1 by omega]
        · simp [f, show ¬ k < d + 1 by omega]
theorem msk_lt (p : Nat → Bool) (d : Nat) : msk p d < 2 ^ d := Nat.lt_pow_two_of_testBit _ fun i hi => by rw [tb_msk, decide_eq_false (by omega)]; rfl
theorem p2_4 {d : Nat} (h : d ≤ 4) : 2 ^ d ≤ 16 := Nat.pow_le_pow_right (by decide) h
theorem fitM_lt {T : TS} (h : TV T) : fitM T < 65536 := Nat.lt_of_lt_of_le (msk_lt _ _) (Nat.pow_le_pow_right (i := 2 ^ dN T) (j := 16) (by decide) (p2_4 h.2.2.2.2.1.1))
section FITS
variable {S : SH} {I : II} {L : LL} {t m a g : Nat} {s : St} {T : TS}
theorem x_wrongSaw (hL : ML S m) (ha : tR S m 3 = a) (hA : MCL S a) (hm : m + 6 < a) (hR : MR I a T) (hV : TV T) {o : Nat} (ho : o < 16) : ∃ I', p_X9_wrongSaw m (ic o) (hp S I L) = some (oc (unt T (oth T o)), hp S I' L) ∧ M3 I I' m ∧ Bg I I' m (tP T) := by
  obtain ⟨I1, e1, r1, f1, b1⟩ := x_asTold (L := L) hL ha hA hm hR hV ho
  obtain ⟨l0, -, -, -, -, -, -, -, ⟨lz, lz'⟩, ⟨ly, ly'⟩, ⟨lh, lh'⟩⟩ := hA
  obtain ⟨hz, hy⟩ := hV.2.2.2.2.2.1
  have hI := ig_oth hV o
  have sg : SG (oth T o) (fresh (oth T o)) := fresh_SG _
  have hI1 : IG (fresh (oth T o)) := hI
  obtain ⟨-, -, -, -, -, -, -, ⟨z7, z8⟩, -⟩ := hR
  refine ⟨I1, ?_, f1, b1⟩
  have fa : ∀ b, a ≤ b → I1 b = I b := fun b hb => f1 b (by omega) (by omega)
  have := lp_first (fun n j => p_X9_wrongSaw_7 n m (ic j) (hp S I1 L)) (zN T) (fun i => decide (hwc (lok (oth T o) (zY T i / 4) ((zY T i % 4).testBit 0) ((zY T i % 4).testBit 1)) ≠ zH T i)) (fun j => some (ic j, hp S I1 L)) (some (m2, hp S I1 L)) (fun n j hj => ?_) (fun n => ?_) (zN T) 0 FU (by omega) (fu_lt (by omega))
  · unfold p_X9_wrongSaw
    simp only [↓reduceIte, ↓if_bi0, hp_tg, hp_rR, hp_rI, hp_wI, eq_self, bi_t, bi_f, i10, if_true, if_false, Bool.false_eq_true, hL.t]
    refine Eq.trans (bnd e1) ?_
    refine Eq.trans this ?_
    show om (unt T (oth T o)) _ _ = _
    cases unt T (oth T o) <;> rfl
  · have hy9 := hy j hj
    have e7 : I1 a 7 = ic (zN T) := by rw [fa a (by omega)]; exact z7
    obtain ⟨w1, w2, w3⟩ := z8 j hj
    rw [← fa (a + 8) (by omega)] at w1
    rw [← fa (a + 9) (by omega)] at w2
    rw [← fa (a + 10) (by omega)] at w3
    have A := x_looks (L := L) hL r1 hI1 (v := zY T j / 4) (by omega) ((zY T j % 4).testBit 0) ((zY T j % 4).testBit 1)
    rw [lok_SG sg] at A
    have hl := lok_lt hI (v := zY T j / 4) (by omega) ((zY T j % 4).testBit 0) ((zY T j % 4).testBit 1)
    have b0 := p_bit9_0 (w := zY T j % 4) (by omega) (hp S I1 L)
    have b9 := p_bit9_1 (w := zY T j % 4) (by omega) (hp S I1 L)
    have hj6 : j < 6 := by omega
    generalize lok (oth T o) (zY T j / 4) ((zY T j % 4).testBit 0) ((zY T j % 4).testBit 1) = k at *
    unfold hwc
    by_cases c : k < 3
    · rw [if_pos c]
      by_cases d : lc k = zH T j
      · rw [decide_eq_false (fun q => q d)]
        rw [← d] at w3
        simp (maxSteps := 1000000) (disch := omega) only [↓reduceIte, ↓if_bi0, ↓if_bi1, hp_tg, hp_rI, hp_rR, hp_rL, hp_wI, hp_wL, Option.bind_some, if_11, if_01, bi_and1, i10, i01, bi_t, bi_f, ic_add, mr_4, ml_4, mr_8, ml_8, mr_10, ml_10, ic_add1, ic_sub1, ic_clamp, ic_div, ic_irm, ic_lt0, ic_0lt, ic_eq0, ic_lt, ic_inj, and15, and7, and31, and63, shl1, shr_ok, neg_1, neg_2, neg_3, neg_4, kc_lt0, kc_ic, kc_m2, kc_1, kc_0, i0_add, add_i0, or_i0, z_8, z_4, z_64, z_256, ic_m2, ec_m1, ic_m1, m1_lt0, m2_lt0, m3_lt0, m4_lt0, up_s, if_true, if_false, ne_eq, not_true_eq_false, not_false_eq_true, Bool.false_eq_true, eq_self, or_self, or_false, false_or, and_self, and_true, true_and, ite_self, Nat.reduceEqDiff, Nat.reduceLT, Nat.reduceMod, Nat.reduceMul, Nat.reduceAdd, Nat.reducePow, Nat.reduceDiv, lt_2, lt_3, lt_4, lt_5, lt_6, lt_7, lt_8, lt_10, lt_11, lt_12, lt_15, lt_16, lt_18, lt_20, lt_24, lt_31, lt_32, lt_48, lt_57, lt_59, lt_63, lt_64, lt_74, lt_75, lt_97, lt_122, lt_128, lt_144, lt_145, lt_146, lt_147, lt_155, lt_163, lt_171, lt_179, lt_200, lt_243, lt_244, lt_255, lt_256, lt_732, lt_900, lt_3660, lt_3904, lt_4095, lt_65536, lt_65537, lt_252645135, lt_858993459, lt_1431655765, ↓p_has_b, p_has, ↓p_has9_b, p_has9, ↓p_bit_b, p_bit, ↓p_bit1_b, p_bit1, ↓p_bit0_b, p_bit0, p_X9_wrongSaw_7, p_X9_wrongSaw_67, hL.t, ha, l0, e7, hj, lz, ly, lh, if_inB lz', if_inB ly', if_inB lh', w1, w2, w3, ↓bnd (b0), b0, ↓bnd (b9), b9, ↓bnd (A), A, lc_lt, c]
      · rw [decide_eq_true d]
        simp (maxSteps := 1000000) (disch := omega) only [↓reduceIte, ↓if_bi0, ↓if_bi1, hp_tg, hp_rI, hp_rR, hp_rL, hp_wI, hp_wL, Option.bind_some, if_11, if_01, bi_and1, i10, i01, bi_t, bi_f, ic_add, mr_4, ml_4, mr_8, ml_8, mr_10, ml_10, ic_add1, ic_sub1, ic_clamp, ic_div, ic_irm, ic_lt0, ic_0lt, ic_eq0, ic_lt, ic_inj, and15, and7, and31, and63, shl1, shr_ok, neg_1, neg_2, neg_3, neg_4, kc_lt0, kc_ic, kc_m2, kc_1, kc_0, i0_add, add_i0, or_i0, z_8, z_4, z_64, z_256, ic_m2, ec_m1, ic_m1, m1_lt0, m2_lt0, m3_lt0, m4_lt0, up_s, if_true, if_false, ne_eq, not_true_eq_false, not_false_eq_true, Bool.false_eq_true, eq_self, or_self, or_false, false_or, and_self, and_true, true_and, ite_self, Nat.reduceEqDiff, Nat.reduceLT, Nat.reduceMod, Nat.reduceMul, Nat.reduceAdd, Nat.reducePow, Nat.reduceDiv, lt_2, lt_3, lt_4, lt_5, lt_6, lt_7, lt_8, lt_10, lt_11, lt_12, lt_15, lt_16, lt_18, lt_20, lt_24, lt_31, lt_32, lt_48, lt_57, lt_59, lt_63, lt_64, lt_74, lt_75, lt_97, lt_122, lt_128, lt_144, lt_145, lt_146, lt_147, lt_155, lt_163, lt_171, lt_179, lt_200, lt_243, lt_244, lt_255, lt_256, lt_732, lt_900, lt_3660, lt_3904, lt_4095, lt_65536, lt_65537, lt_252645135, lt_858993459, lt_1431655765, ↓p_has_b, p_has, ↓p_has9_b, p_has9, ↓p_bit_b, p_bit, ↓p_bit1_b, p_bit1, ↓p_bit0_b, p_bit0, p_X9_wrongSaw_7, p_X9_wrongSaw_67, hL.t, ha, l0, e7, hj, lz, ly, lh, if_inB lz', if_inB ly', if_inB lh', w1, w2, w3, ↓bnd (b0), b0, ↓bnd (b9), b9, ↓bnd (A), A, lc_lt, c, d]
    · rw [if_neg c]
      by_cases d : 0 = zH T j
      · rw [decide_eq_false (fun q => q d)]
        rw [← d] at w3
        simp (maxSteps := 1000000) (disch := omega) only [↓reduceIte, ↓if_bi0, ↓if_bi1, hp_tg, hp_rI, hp_rR, hp_rL, hp_wI, hp_wL, Option.bind_some, if_11, if_01, bi_and1, i10, i01, bi_t, bi_f, ic_add, mr_4, ml_4, mr_8, ml_8, mr_10, ml_10, ic_add1, ic_sub1, ic_clamp, ic_div, ic_irm, ic_lt0, ic_0lt, ic_eq0, ic_lt, ic_inj, and15, and7, and31, and63, shl1, shr_ok, neg_1, neg_2, neg_3, neg_4, kc_lt0, kc_ic, kc_m2, kc_1, kc_0, i0_add, add_i0, or_i0, z_8, z_4, z_64, z_256, ic_m2, ec_m1, ic_m1, m1_lt0, m2_lt0, m3_lt0, m4_lt0, up_s, if_true, if_false, ne_eq, not_true_eq_false, not_false_eq_true, Bool.false_eq_true, eq_self, or_self, or_false, false_or, and_self, and_true, true_and, ite_self, Nat.reduceEqDiff, Nat.reduceLT, Nat.reduceMod, Nat.reduceMul, Nat.reduceAdd, Nat.reducePow, Nat.reduceDiv, lt_2, lt_3, lt_4, lt_5, lt_6, lt_7, lt_8, lt_10, lt_11, lt_12, lt_15, lt_16, lt_18, lt_20, lt_24, lt_31, lt_32, lt_48, lt_57, lt_59, lt_63, lt_64, lt_74, lt_75, lt_97, lt_122, lt_128, lt_144, lt_145, lt_146, lt_147, lt_155, lt_163, lt_171, lt_179, lt_200, lt_243, lt_244, lt_255, lt_256, lt_732, lt_900, lt_3660, lt_3904, lt_4095, lt_65536, lt_65537, lt_252645135, lt_858993459, lt_1431655765, ↓p_has_b, p_has, ↓p_has9_b, p_has9, ↓p_bit_b, p_bit, ↓p_bit1_b, p_bit1, ↓p_bit0_b, p_bit0, p_X9_wrongSaw_7, p_X9_wrongSaw_67, hL.t, ha, l0, e7, hj, lz, ly, lh, if_inB lz', if_inB ly', if_inB lh', w1, w2, w3, ↓bnd (b0), b0, ↓bnd (b9), b9, ↓bnd (A), A, lc_lt, c]
      · rw [decide_eq_true d]
        simp (maxSteps := 1000000) (disch := omega) only [↓reduceIte, ↓if_bi0, ↓if_bi1, hp_tg, hp_rI, hp_rR, hp_rL, hp_wI, hp_wL, Option.bind_some, if_11, if_01, bi_and1, i10, i01, bi_t, bi_f, ic_add, mr_4, ml_4, mr_8, ml_8, mr_10, ml_10, ic_add1, ic_sub1, ic_clamp, ic_div, ic_irm, ic_lt0, ic_0lt, ic_eq0, ic_lt, ic_inj, and15, and7, and31, and63, shl1, shr_ok, neg_1, neg_2, neg_3, neg_4, kc_lt0, kc_ic, kc_m2, kc_1, kc_0, i0_add, add_i0, or_i0, z_8, z_4, z_64, z_256, ic_m2, ec_m1, ic_m1, m1_lt0, m2_lt0, m3_lt0, m4_lt0, up_s, if_true, if_false, ne_eq, not_true_eq_false, not_false_eq_true, Bool.false_eq_true, eq_self, or_self, or_false, false_or, and_self, and_true, true_and, ite_self, Nat.reduceEqDiff, Nat.reduceLT, Nat.reduceMod, Nat.reduceMul, Nat.reduceAdd, Nat.reducePow, Nat.reduceDiv, lt_2, lt_3, lt_4, lt_5, lt_6, lt_7, lt_8, lt_10, lt_11, lt_12, lt_15, lt_16, lt_18, lt_20, lt_24, lt_31, lt_32, lt_48, lt_57, lt_59, lt_63, lt_64, lt_74, lt_75, lt_97, lt_122, lt_128, lt_144, lt_145, lt_146, lt_147, lt_155, lt_163, lt_171, lt_179, lt_200, lt_243, lt_244, lt_255, lt_256, lt_732, lt_900, lt_3660, lt_3904, lt_4095, lt_65536, lt_65537, lt_252645135, lt_858993459, lt_1431655765, ↓p_has_b, p_has, ↓p_has9_b, p_has9, ↓p_bit_b, p_bit, ↓p_bit1_b, p_bit1, ↓p_bit0_b, p_bit0, p_X9_wrongSaw_7, p_X9_wrongSaw_67, hL.t, ha, l0, e7, hj, lz, ly, lh, if_inB lz', if_inB ly', if_inB lh', w1, w2, w3, ↓bnd (b0), b0, ↓bnd (b9), b9, ↓bnd (A), A, lc_lt, c, d]
  · have e7 : I1 a 7 = ic (zN T) := by rw [fa a (by omega)]; exact z7
    simp (maxSteps := 1000000) (disch := omega) only [↓reduceIte, ↓if_bi0, ↓if_bi1, hp_tg, hp_rI, hp_rR, hp_rL, hp_wI, hp_wL, Option.bind_some, if_11, if_01, bi_and1, i10, i01, bi_t, bi_f, ic_add, mr_4, ml_4, mr_8, ml_8, mr_10, ml_10, ic_add1, ic_sub1, ic_clamp, ic_div, ic_irm, ic_lt0, ic_0lt, ic_eq0, ic_lt, ic_inj, and15, and7, and31, and63, shl1, shr_ok, neg_1, neg_2, neg_3, neg_4, kc_lt0, kc_ic, kc_m2, kc_1, kc_0, i0_add, add_i0, or_i0, z_8, z_4, z_64, z_256, ic_m2, ec_m1, ic_m1, m1_lt0, m2_lt0, m3_lt0, m4_lt0, up_s, if_true, if_false, ne_eq, not_true_eq_false, not_false_eq_true, Bool.false_eq_true, eq_self, or_self, or_false, false_or, and_self, and_true, true_and, ite_self, Nat.reduceEqDiff, Nat.reduceLT, Nat.reduceMod, Nat.reduceMul, Nat.reduceAdd, Nat.reducePow, Nat.reduceDiv, lt_2, lt_3, lt_4, lt_5, lt_6, lt_7, lt_8, lt_10, lt_11, lt_12, lt_15, lt_16, lt_18, lt_20, lt_24, lt_31, lt_32, lt_48, lt_57, lt_59, lt_63, lt_64, lt_74, lt_75, lt_97, lt_122, lt_128, lt_144, lt_145, lt_146, lt_147, lt_155, lt_163, lt_171, lt_179, lt_200, lt_243, lt_244, lt_255, lt_256, lt_732, lt_900, lt_3660, lt_3904, lt_4095, lt_65536, lt_65537, lt_252645135, lt_858993459, lt_1431655765, ↓p_has_b, p_has, ↓p_has9_b, p_has9, ↓p_bit_b, p_bit, ↓p_bit1_b, p_bit1, ↓p_bit0_b, p_bit0, p_X9_wrongSaw_7, hL.t, ha, l0, e7, Nat.lt_irrefl]
theorem oc_none_lt {o : Option Nat} (h : ∀ n, o = some n → n < 1000) : (oc o = m2) = (o = none) := by
  cases o with
  | none => exact propext ⟨fun _ => rfl, fun _ => rfl⟩
  | some n =>
    unfold oc
    rw [om_some, ic_m2 (by have := h n rfl; omega)]
    exact propext ⟨fun h => h.elim, fun h => by cases h⟩
/-- the class: which sets fit -/
theorem t_fits (hL : TL S t) (hR : TR I t T) (hV : TV T) (hG : GL S g) (hd : t + 9 < g ∨ g + 2 < t) : ∃ I', p_X6_fittingSets t g (hp S I L) = some (ic (fitM T), hp S I' L) ∧ Fr I I' g (g + 2) := by
  obtain ⟨hd4, hdb⟩ := hV.2.2.2.2.1
  have h16 := p2_4 hd4
  have keepT : ∀ J : II, Fr I J g (g + 2) → TR J t T := by
    intro J f
    obtain ⟨q1, q2⟩ := hR
    refine ⟨q1.fr f (by omega), ?_⟩
    rw [f t (by omega), f (t + 4) (by omega), f (t + 5) (by omega), f (t + 6) (by omega), f (t + 7) (by omega), f (t + 8) (by omega), f (t + 9) (by omega)]
    exact q2
  have d9 := hR.2.2.2.2.2.2.1
  -- one set
  have one : ∀ (J : II) (o n : Nat), o < 16 → Fr I J g (g + 2) → GR J g (tG T) → ∀ k4 : Nat → Nat → Int32 → Int32 → AH → Option (Int32 × AH), ∃ J', p_X6_fittingSets_31 k4 FU t g (ic n) (ic o) 0 (hp S J L) = k4 t g (ic (if fit T o = true then n ||| 2 ^ o else n)) (ic (o + 1)) (hp S J' L) ∧ Fr I J' g (g + 2) := by
    intro J o n ho fJ gJ k4
    have := lp_to (fun x k (c : II) => p_X6_fittingSets_31 k4 x t g (ic n) (ic o) (ic k) (hp S c L)) (dN T) (fun k c => Fr I c g (g + 2) ∧ GR c g (uW (tG T) (dWs T o k))) (fun c => p_X6_fittingSets_94 k4 t g (ic n) (ic o) (hp S c L)) (fun x k c hk hc => ?_) (fun x c hc => ?_) (dN T) 0 FU J (by omega) (fu_lt (by omega)) ⟨fJ, gJ⟩
    · obtain ⟨J', e, fJ', gJ'⟩ := this
      have hT := keepT J' fJ'
      have A := t_untrue (L := L) hL hT hV hG (s := oth T o) gJ' (ig_oth hV o)
      refine ⟨J', e.trans ?_, fJ'⟩
      have hb : ∀ n, unt T (oth T o) = some n → n < 1000 := fun n hn => by have := unt_lt hV hn; omega
      unfold fit
      cases u : unt T (oth T o) with
      | none =>
        rw [u] at A
        simp (maxSteps := 1000000) (disch := omega) only [↓reduceIte, ↓if_bi0, ↓if_bi1, hp_tg, hp_rI, hp_rR, hp_rL, hp_wI, hp_wL, Option.bind_some, if_11, if_01, bi_and1, i10, i01, bi_t, bi_f, ic_add, mr_4, ml_4, mr_8, ml_8, mr_10, ml_10, ic_add1, ic_sub1, ic_clamp, ic_div, ic_irm, ic_lt0, ic_0lt, ic_eq0, ic_lt, ic_inj, and15, and7, and31, and63, shl1, shr_ok, neg_1, neg_2, neg_3, neg_4, kc_lt0, kc_ic, kc_m2, kc_1, kc_0, i0_add, add_i0, or_i0, z_8, z_4, z_64, z_256, ic_m2, ec_m1, ic_m1, m1_lt0, m2_lt0, m3_lt0, m4_lt0, up_s, if_true, if_false, ne_eq, not_true_eq_false, not_false_eq_true, Bool.false_eq_true, eq_self, or_self, or_false, false_or, and_self, and_true, true_and, ite_self, Nat.reduceEqDiff, Nat.reduceLT, Nat.reduceMod, Nat.reduceMul, Nat.reduceAdd, Nat.reducePow, Nat.reduceDiv, lt_2, lt_3, lt_4, lt_5, lt_6, lt_7, lt_8, lt_10, lt_11, lt_12, lt_15, lt_16, lt_18, lt_20, lt_24, lt_31, lt_32, lt_48, lt_57, lt_59, lt_63, lt_64, lt_74, lt_75, lt_97, lt_122, lt_128, lt_144, lt_145, lt_146, lt_147, lt_155, lt_163, lt_171, lt_179, lt_200, lt_243, lt_244, lt_255, lt_256, lt_732, lt_900, lt_3660, lt_3904, lt_4095, lt_65536, lt_65537, lt_252645135, lt_858993459, lt_1431655765, ↓p_has_b, p_has, ↓p_has9_b, p_has9, ↓p_bit_b, p_bit, ↓p_bit1_b, p_bit1, ↓p_bit0_b, p_bit0, p_X6_fittingSets_94, p_X6_fittingSets_108, hL.1, ↓bnd (A), A, oc, om_none, show o % 32 = o by omega, ic_or]
        rfl
      | some j =>
        have hj := hb j u
        rw [u] at A
        simp (maxSteps := 1000000) (disch := omega) only [↓reduceIte, ↓if_bi0, ↓if_bi1, hp_tg, hp_rI, hp_rR, hp_rL, hp_wI, hp_wL, Option.bind_some, if_11, if_01, bi_and1, i10, i01, bi_t, bi_f, ic_add, mr_4, ml_4, mr_8, ml_8, mr_10, ml_10, ic_add1, ic_sub1, ic_clamp, ic_div, ic_irm, ic_lt0, ic_0lt, ic_eq0, ic_lt, ic_inj, and15, and7, and31, and63, shl1, shr_ok, neg_1, neg_2, neg_3, neg_4, kc_lt0, kc_ic, kc_m2, kc_1, kc_0, i0_add, add_i0, or_i0, z_8, z_4, z_64, z_256, ic_m2, ec_m1, ic_m1, m1_lt0, m2_lt0, m3_lt0, m4_lt0, up_s, if_true, if_false, ne_eq, not_true_eq_false, not_false_eq_true, Bool.false_eq_true, eq_self, or_self, or_false, false_or, and_self, and_true, true_and, ite_self, Nat.reduceEqDiff, Nat.reduceLT, Nat.reduceMod, Nat.reduceMul, Nat.reduceAdd, Nat.reducePow, Nat.reduceDiv, lt_2, lt_3, lt_4, lt_5, lt_6, lt_7, lt_8, lt_10, lt_11, lt_12, lt_15, lt_16, lt_18, lt_20, lt_24, lt_31, lt_32, lt_48, lt_57, lt_59, lt_63, lt_64, lt_74, lt_75, lt_97, lt_122, lt_128, lt_144, lt_145, lt_146, lt_147, lt_155, lt_163, lt_171, lt_179, lt_200, lt_243, lt_244, lt_255, lt_256, lt_732, lt_900, lt_3660, lt_3904, lt_4095, lt_65536, lt_65537, lt_252645135, lt_858993459, lt_1431655765, ↓p_has_b, p_has, ↓p_has9_b, p_has9, ↓p_bit_b, p_bit, ↓p_bit1_b, p_bit1, ↓p_bit0_b, p_bit0, p_X6_fittingSets_94, p_X6_fittingSets_108, hL.1, ↓bnd (A), A, oc, om_some]
        rfl
    · obtain ⟨fc, gc⟩ := hc
      have hT := keepT c fc
      have c9 := hT.2.2.2.2.2.2.1.1
      obtain ⟨u1, u2⟩ := hT.2.2.2.2.2.2.1.2 k hk
      obtain ⟨v1, v2⟩ := hdb k hk
      have hk4 : k < 4 := by omega
      have hbp := hb_pow (w := o) (f := k) (by omega) (by omega)
      cases ob : o.testBit k
      · rw [ob] at hbp
        refine ⟨c, ?_, fc, by rw [dWs_succ, ob, if_neg (by decide)]; exact gc⟩
        simp (maxSteps := 1000000) (disch := omega) only [↓reduceIte, ↓if_bi0, ↓if_bi1, hp_tg, hp_rI, hp_rR, hp_rL, hp_wI, hp_wL, Option.bind_some, if_11, if_01, bi_and1, i10, i01, bi_t, bi_f, ic_add, mr_4, ml_4, mr_8, ml_8, mr_10, ml_10, ic_add1, ic_sub1, ic_clamp, ic_div, ic_irm, ic_lt0, ic_0lt, ic_eq0, ic_lt, ic_inj, and15, and7, and31, and63, shl1, shr_ok, neg_1, neg_2, neg_3, neg_4, kc_lt0, kc_ic, kc_m2, kc_1, kc_0, i0_add, add_i0, or_i0, z_8, z_4, z_64, z_256, ic_m2, ec_m1, ic_m1, m1_lt0, m2_lt0, m3_lt0, m4_lt0, up_s, if_true, if_false, ne_eq, not_true_eq_false, not_false_eq_true, Bool.false_eq_true, eq_self, or_self, or_false, false_or, and_self, and_true, true_and, ite_self, Nat.reduceEqDiff, Nat.reduceLT, Nat.reduceMod, Nat.reduceMul, Nat.reduceAdd, Nat.reducePow, Nat.reduceDiv, lt_2, lt_3, lt_4, lt_5, lt_6, lt_7, lt_8, lt_10, lt_11, lt_12, lt_15, lt_16, lt_18, lt_20, lt_24, lt_31, lt_32, lt_48, lt_57, lt_59, lt_63, lt_64, lt_74, lt_75, lt_97, lt_122, lt_128, lt_144, lt_145, lt_146, lt_147, lt_155, lt_163, lt_171, lt_179, lt_200, lt_243, lt_244, lt_255, lt_256, lt_732, lt_900, lt_3660, lt_3904, lt_4095, lt_65536, lt_65537, lt_252645135, lt_858993459, lt_1431655765, ↓p_has_b, p_has, ↓p_has9_b, p_has9, ↓p_bit_b, p_bit, ↓p_bit1_b, p_bit1, ↓p_bit0_b, p_bit0, p_X6_fittingSets_31, p_X6_fittingSets_88, hL.1, c9, hk, hk4, show k % 32 = k by omega, hbp]
      · rw [ob] at hbp
        have W := g_setWord (I := c) (L := L) hG (dS T k / 8) (dS T k % 8) (ic (dD T k))
        rw [show 8 * (dS T k / 8 % 16) + dS T k % 8 % 8 = dS T k by omega] at W
        refine ⟨up2 c (g + 1) (dS T k) (ic (dD T k)), ?_, fc.trans (Fr.up (by omega) (by omega)), ?_⟩
        · simp (maxSteps := 1000000) (disch := omega) only [↓reduceIte, ↓if_bi0, ↓if_bi1, hp_tg, hp_rI, hp_rR, hp_rL, hp_wI, hp_wL, Option.bind_some, if_11, if_01, bi_and1, i10, i01, bi_t, bi_f, ic_add, mr_4, ml_4, mr_8, ml_8, mr_10, ml_10, ic_add1, ic_sub1, ic_clamp, ic_div, ic_irm, ic_lt0, ic_0lt, ic_eq0, ic_lt, ic_inj, and15, and7, and31, and63, shl1, shr_ok, neg_1, neg_2, neg_3, neg_4, kc_lt0, kc_ic, kc_m2, kc_1, kc_0, i0_add, add_i0, or_i0, z_8, z_4, z_64, z_256, ic_m2, ec_m1, ic_m1, m1_lt0, m2_lt0, m3_lt0, m4_lt0, up_s, if_true, if_false, ne_eq, not_true_eq_false, not_false_eq_true, Bool.false_eq_true, eq_self, or_self, or_false, false_or, and_self, and_true, true_and, ite_self, Nat.reduceEqDiff, Nat.reduceLT, Nat.reduceMod, Nat.reduceMul, Nat.reduceAdd, Nat.reducePow, Nat.reduceDiv, lt_2, lt_3, lt_4, lt_5, lt_6, lt_7, lt_8, lt_10, lt_11, lt_12, lt_15, lt_16, lt_18, lt_20, lt_24, lt_31, lt_32, lt_48, lt_57, lt_59, lt_63, lt_64, lt_74, lt_75, lt_97, lt_122, lt_128, lt_144, lt_145, lt_146, lt_147, lt_155, lt_163, lt_171, lt_179, lt_200, lt_243, lt_244, lt_255, lt_256, lt_732, lt_900, lt_3660, lt_3904, lt_4095, lt_65536, lt_65537, lt_252645135, lt_858993459, lt_1431655765, ↓p_has_b, p_has, ↓p_has9_b, p_has9, ↓p_bit_b, p_bit, ↓p_bit1_b, p_bit1, ↓p_bit0_b, p_bit0, p_X6_fittingSets_31, p_X6_fittingSets_88, hL.1, c9, hk, hk4, show k % 32 = k by omega, hbp, hL.2.2.2.2.2.1.1, hL.2.2.2.2.2.2.1.1, if_inB hL.2.2.2.2.2.1.2, if_inB hL.2.2.2.2.2.2.1.2, u1, u2, hG.1, ↓bnd (W), W]
        · rw [dWs_succ, ob, if_pos rfl]
          exact gc.setW (dS T k) (dD T k)
    · obtain ⟨fc, gc⟩ := hc
      have c9 := (keepT c fc).2.2.2.2.2.2.1.1
      simp (maxSteps := 1000000) (disch := omega) only [↓reduceIte, ↓if_bi0, ↓if_bi1, hp_tg, hp_rI, hp_rR, hp_rL, hp_wI, hp_wL, Option.bind_some, if_11, if_01, bi_and1, i10, i01, bi_t, bi_f, ic_add, mr_4, ml_4, mr_8, ml_8, mr_10, ml_10, ic_add1, ic_sub1, ic_clamp, ic_div, ic_irm, ic_lt0, ic_0lt, ic_eq0, ic_lt, ic_inj, and15, and7, and31, and63, shl1, shr_ok, neg_1, neg_2, neg_3, neg_4, kc_lt0, kc_ic, kc_m2, kc_1, kc_0, i0_add, add_i0, or_i0, z_8, z_4, z_64, z_256, ic_m2, ec_m1, ic_m1, m1_lt0, m2_lt0, m3_lt0, m4_lt0, up_s, if_true, if_false, ne_eq, not_true_eq_false, not_false_eq_true, Bool.false_eq_true, eq_self, or_self, or_false, false_or, and_self, and_true, true_and, ite_self, Nat.reduceEqDiff, Nat.reduceLT, Nat.reduceMod, Nat.reduceMul, Nat.reduceAdd, Nat.reducePow, Nat.reduceDiv, lt_2, lt_3, lt_4, lt_5, lt_6, lt_7, lt_8, lt_10, lt_11, lt_12, lt_15, lt_16, lt_18, lt_20, lt_24, lt_31, lt_32, lt_48, lt_57, lt_59, lt_63, lt_64, lt_74, lt_75, lt_97, lt_122, lt_128, lt_144, lt_145, lt_146, lt_147, lt_155, lt_163, lt_171, lt_179, lt_200, lt_243, lt_244, lt_255, lt_256, lt_732, lt_900, lt_3660, lt_3904, lt_4095, lt_65536, lt_65537, lt_252645135, lt_858993459, lt_1431655765, ↓p_has_b, p_has, ↓p_has9_b, p_has9, ↓p_bit_b, p_bit, ↓p_bit1_b, p_bit1, ↓p_bit0_b, p_bit0, p_X6_fittingSets_31, hL.1, c9, Nat.lt_irrefl]
  have := lp_to (fun x k (c : II) => p_X6_fittingSets_4 x t g (ic (msk (fit T) k)) (ic k) (hp S c L)) (2 ^ dN T) (fun k c => Fr I c g (g + 2)) (fun c => some (ic (fitM T), hp S c L)) (fun x k c hk hc => ?_) (fun x c hc => ?_) (2 ^ dN T) 0 FU I (by omega) (fu_lt (by omega)) (Fr.refl _ _ _)
  · exact this
  · have hT := keepT c hc
    have c9 := hT.2.2.2.2.2.2.1.1
    have hk16 : k < 16 := by omega
    have hp2 : 2 ^ dN T < 2147483648 := by omega
    obtain ⟨J, e1, g1, f1⟩ := g_copy (L := L) hG hL.2.2.1 (by omega) hT.1
    obtain ⟨J', e2, f2⟩ := one J k (msk (fit T) k) hk16 (hc.trans f1) g1 (p_X6_fittingSets_4 x)
    refine ⟨J', ?_, f2⟩
    rw [msk_succ]
    show p_X6_fittingSets_4 (x + 1) t g (ic (msk (fit T) k)) (ic k) (hp S c L) = _
    rw [p_X6_fittingSets_4.eq_2]
    simp (maxSteps := 1000000) (disch := omega) only [↓reduceIte, ↓if_bi0, ↓if_bi1, hp_tg, hp_rI, hp_rR, hp_rL, hp_wI, hp_wL, Option.bind_some, if_11, if_01, bi_and1, i10, i01, bi_t, bi_f, ic_add, mr_4, ml_4, mr_8, ml_8, mr_10, ml_10, ic_add1, ic_sub1, ic_clamp, ic_div, ic_irm, ic_lt0, ic_0lt, ic_eq0, ic_lt, ic_inj, and15, and7, and31, and63, shl1, shr_ok, neg_1, neg_2, neg_3, neg_4, kc_lt0, kc_ic, kc_m2, kc_1, kc_0, i0_add, add_i0, or_i0, z_8, z_4, z_64, z_256, ic_m2, ec_m1, ic_m1, m1_lt0, m2_lt0, m3_lt0, m4_lt0, up_s, if_true, if_false, ne_eq, not_true_eq_false, not_false_eq_true, Bool.false_eq_true, eq_self, or_self, or_false, false_or, and_self, and_true, true_and, ite_self, Nat.reduceEqDiff, Nat.reduceLT, Nat.reduceMod, Nat.reduceMul, Nat.reduceAdd, Nat.reducePow, Nat.reduceDiv, lt_2, lt_3, lt_4, lt_5, lt_6, lt_7, lt_8, lt_10, lt_11, lt_12, lt_15, lt_16, lt_18, lt_20, lt_24, lt_31, lt_32, lt_48, lt_57, lt_59, lt_63, lt_64, lt_74, lt_75, lt_97, lt_122, lt_128, lt_144, lt_145, lt_146, lt_147, lt_155, lt_163, lt_171, lt_179, lt_200, lt_243, lt_244, lt_255, lt_256, lt_732, lt_900, lt_3660, lt_3904, lt_4095, lt_65536, lt_65537, lt_252645135, lt_858993459, lt_1431655765, ↓p_has_b, p_has, ↓p_has9_b, p_has9, ↓p_bit_b, p_bit, ↓p_bit1_b, p_bit1, ↓p_bit0_b, p_bit0, -p_X6_fittingSets_31, hL.1, c9, show dN T % 32 = dN T by omega, hk, hk16, hG.1, hL.2.1, ↓bnd (e1), e1, e2]
  · have c9 := (keepT c hc).2.2.2.2.2.2.1.1
    have hp2 : 2 ^ dN T < 2147483648 := by omega
    simp (maxSteps := 1000000) (disch := omega) only [↓reduceIte, ↓if_bi0, ↓if_bi1, hp_tg, hp_rI, hp_rR, hp_rL, hp_wI, hp_wL, Option.bind_some, if_11, if_01, bi_and1, i10, i01, bi_t, bi_f, ic_add, mr_4, ml_4, mr_8, ml_8, mr_10, ml_10, ic_add1, ic_sub1, ic_clamp, ic_div, ic_irm, ic_lt0, ic_0lt, ic_eq0, ic_lt, ic_inj, and15, and7, and31, and63, shl1, shr_ok, neg_1, neg_2, neg_3, neg_4, kc_lt0, kc_ic, kc_m2, kc_1, kc_0, i0_add, add_i0, or_i0, z_8, z_4, z_64, z_256, ic_m2, ec_m1, ic_m1, m1_lt0, m2_lt0, m3_lt0, m4_lt0, up_s, if_true, if_false, ne_eq, not_true_eq_false, not_false_eq_true, Bool.false_eq_true, eq_self, or_self, or_false, false_or, and_self, and_true, true_and, ite_self, Nat.reduceEqDiff, Nat.reduceLT, Nat.reduceMod, Nat.reduceMul, Nat.reduceAdd, Nat.reducePow, Nat.reduceDiv, lt_2, lt_3, lt_4, lt_5, lt_6, lt_7, lt_8, lt_10, lt_11, lt_12, lt_15, lt_16, lt_18, lt_20, lt_24, lt_31, lt_32, lt_48, lt_57, lt_59, lt_63, lt_64, lt_74, lt_75, lt_97, lt_122, lt_128, lt_144, lt_145, lt_146, lt_147, lt_155, lt_163, lt_171, lt_179, lt_200, lt_243, lt_244, lt_255, lt_256, lt_732, lt_900, lt_3660, lt_3904, lt_4095, lt_65536, lt_65537, lt_252645135, lt_858993459, lt_1431655765, ↓p_has_b, p_has, ↓p_has9_b, p_has9, ↓p_bit_b, p_bit, ↓p_bit1_b, p_bit1, ↓p_bit0_b, p_bit0, p_X6_fittingSets_4, p_X6_fittingSets_114, hL.1, c9, show dN T % 32 = dN T by omega, Nat.lt_irrefl]
    rfl
end FITS
