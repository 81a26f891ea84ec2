/-! ===== what a text told ===== -/
abbrev TS : Type := Nat × St × (Nat × (Nat → Nat)) × (Nat × (Nat → Nat) × (Nat → Nat)) × (Nat × (Nat → Nat) × (Nat → Int32)) × Nat × Nat × (Nat → Bool)
def tP (T : TS) : Nat := T.1
def tG (T : TS) : St := T.2.1
def tN (T : TS) : Nat := T.2.2.1.1
def tY (T : TS) : Nat → Nat := T.2.2.1.2
def dN (T : TS) : Nat := T.2.2.2.1.1
def dS (T : TS) : Nat → Nat := T.2.2.2.1.2.1
def dD (T : TS) : Nat → Nat := T.2.2.2.1.2.2
def zN (T : TS) : Nat := T.2.2.2.2.1.1
def zY (T : TS) : Nat → Nat := T.2.2.2.2.1.2.1
def zH (T : TS) : Nat → Int32 := T.2.2.2.2.1.2.2
def hN (T : TS) : Nat := T.2.2.2.2.2.1
def wN (T : TS) : Nat := T.2.2.2.2.2.2.1
def wT (T : TS) : Nat → Bool := T.2.2.2.2.2.2.2
def TV (T : TS) : Prop := tP T ≤ 8 ∧ IG (tG T) ∧ sm (tG T) = 0 ∧ (tN T ≤ 10 ∧ ∀ i, i < tN T → tY T i < 256) ∧ (dN T ≤ 4 ∧ ∀ i, i < dN T → dS T i < 128 ∧ dD T i < 4096) ∧ (zN T ≤ 6 ∧ ∀ i, i < zN T → zY T i < 256) ∧ hN T ≤ 16 ∧ wN T ≤ 24
def TL (S : SH) (t : Nat) : Prop := tT S t = (5, 13) ∧ tR S t 0 = t + 1 ∧ GL S (t + 1) ∧ (tR S t 3 = t + 4 ∧ tT S (t + 4) = (102, 128)) ∧ (tR S t 5 = t + 5 ∧ tT S (t + 5) = (100, 10)) ∧ (tR S t 7 = t + 6 ∧ tT S (t + 6) = (100, 4)) ∧ (tR S t 8 = t + 7 ∧ tT S (t + 7) = (100, 4)) ∧ (tR S t 10 = t + 8 ∧ tT S (t + 8) = (100, 6)) ∧ (tR S t 11 = t + 9 ∧ tT S (t + 9) = (100, 6))
def TR (I : II) (t : Nat) (T : TS) : Prop := GR I (t + 1) (tG T) ∧ I t 1 = ic (tP T) ∧ I t 2 = ic (hN T) ∧ (∀ k, k < 128 → I (t + 4) k = bi (wT T k)) ∧ I t 4 = ic (wN T) ∧ (I t 6 = ic (tN T) ∧ ∀ i, i < tN T → I (t + 5) i = ic (tY T i)) ∧ (I t 9 = ic (dN T) ∧ ∀ i, i < dN T → I (t + 6) i = ic (dS T i) ∧ I (t + 7) i = ic (dD T i)) ∧ (I t 12 = ic (zN T) ∧ ∀ i, i < zN T → I (t + 8) i = ic (zY T i) ∧ I (t + 9) i = zH T i)
def MR (I : II) (a : Nat) (T : TS) : Prop := I a 0 = ic (tP T) ∧ I a 1 = ic (sr (tG T)) ∧ (∃ r, r < 65536 ∧ I a 2 = ic r ∧ ∀ f, f < 16 → r.testBit f = sw (tG T) f) ∧ I a 3 = ic (hN T) ∧ I a 4 = ic (wN T) ∧ (I a 5 = ic (tN T) ∧ ∀ i, i < tN T → I (a + 4) i = ic (tY T i / 4) ∧ I (a + 5) i = ic (tY T i % 4)) ∧ (I a 6 = ic (dN T) ∧ ∀ i, i < dN T → I (a + 6) i = ic (dS T i) ∧ I (a + 7) i = ic (dD T i)) ∧ (I a 7 = ic (zN T) ∧ ∀ i, i < zN T → I (a + 8) i = ic (zY T i / 4) ∧ I (a + 9) i = ic (zY T i % 4) ∧ I (a + 10) i = zH T i) ∧ (∀ f, f < 16 → I (a + 1) f = ic (sH (tG T) f)) ∧ (∀ k, k < 128 → I (a + 2) k = ic (sW (tG T) k)) ∧ (∀ k, k < 128 → I (a + 3) k = bi (wT T k))
/-- some of the unsure words the other ones -/
def dWs (T : TS) (o d : Nat) : Nat → Nat := fo (fun i W => if o.testBit i = true then up1 W (dS T i) (dD T i) else W) d 0 (sW (tG T))
theorem dWs_succ (T : TS) (o d : Nat) : dWs T o (d + 1) = if o.testBit d = true then up1 (dWs T o d) (dS T d) (dD T d) else dWs T o d := by
  unfold dWs
  rw [fo_last, Nat.zero_add]
def oth (T : TS) (o : Nat) : St := uW (tG T) (dWs T o (dN T))
theorem dWs_lt {T : TS} (h : TV T) (o : Nat) : ∀ d, d ≤ dN T → ∀ k, k < 128 → dWs T o d k < 4096 := by
  intro d
  induction d with
  | zero => intro _ k hk; exact h.2.1.1 k hk
  | succ d ih =>
    intro hd k hk
    rw [dWs_succ]
    by_cases c : o.testBit d = true
    · rw [if_pos c]
      by_cases e : k = dS T d
      · subst e; rw [up1_s]; exact (h.2.2.2.2.1.2 d (by omega)).2
      · rw [up1_n e]; exact ih (by omega) k hk
    · rw [if_neg c]; exact ih (by omega) k hk
theorem ig_oth {T : TS} (h : TV T) (o : Nat) : IG (oth T o) := by
  obtain ⟨g1, g2, g3, g4, g5⟩ := h.2.1
  exact ⟨dWs_lt h o _ (Nat.le_refl _), g2, g3, g4, g5⟩
def hwc (n : Nat) : Int32 := if n < 3 then lc n else 0
def unt (T : TS) (s : St) : Option Nat := fs (fun i => decide (hwc (lok s (zY T i / 4) ((zY T i % 4).testBit 0) ((zY T i % 4).testBit 1)) ≠ zH T i)) (zN T) 0
section TOLD
variable {S : SH} {I : II} {L : LL} {t m a g : Nat} {s : St} {T : TS}
theorem unt_lt (hV : TV T) {n : Nat} (h : unt T s = some n) : n < 6 := by have := (fs_some h).2.1; have := hV.2.2.2.2.2.1.1; omega
theorem t_untrue (hL : TL S t) (hR : TR I t T) (hV : TV T) (hG : GL S g) (hg : GR I g s) (hI : IG s) : p_X6_firstUntrue t g (hp S I L) = some (oc (unt T s), hp S I L) := by
  obtain ⟨hz, hy⟩ := hV.2.2.2.2.2.1
  have := lp_first (fun n j => p_X6_firstUntrue_2 n t g (ic j) (hp S I L)) (zN T) (fun i => decide (hwc (lok s (zY T i / 4) ((zY T i % 4).testBit 0) ((zY T i % 4).testBit 1)) ≠ zH T i)) (fun j => some (ic j, hp S I L)) (some (m2, hp S I L)) (fun n j hj => ?_) (fun n => ?_) (zN T) 0 FU (by omega) (fu_lt (by omega))
  · refine Eq.trans this ?_
    show om (unt T s) _ _ = _
    cases unt T s <;> rfl
  · have hy9 := hy j hj
    have A := g_seek (L := L) hG hg hI (v := zY T j / 4) (by omega) ((zY T j % 4).testBit 0) ((zY T j % 4).testBit 1)
    rw [md_of (zY T j % 4) (by omega)] at A
    have hl := lok_lt hI (v := zY T j / 4) (by omega) ((zY T j % 4).testBit 0) ((zY T j % 4).testBit 1)
    have z12 := hR.2.2.2.2.2.2.2.1
    obtain ⟨w1, w2⟩ := hR.2.2.2.2.2.2.2.2 j hj
    have hj6 : j < 6 := by omega
    generalize lok s (zY T j / 4) ((zY T j % 4).testBit 0) ((zY T j % 4).testBit 1) = k at *
    unfold hwc
    by_cases c : k < 3
    · rw [if_pos c]
      by_cases d : lc k = zH T j
      · rw [decide_eq_false (fun q => q d)]
        rw [← d] at w2
        simp (maxSteps := 1000000) (disch := omega) only [↓reduceIte, ↓if_bi0, ↓if_bi1, hp_tg, hp_rI, hp_rR, hp_rL, hp_wI, hp_wL, Option.bind_some, if_11, if_01, bi_and1, i10, i01, bi_t, bi_f, ic_add, mr_4, ml_4, mr_8, ml_8, mr_10, ml_10, ic_add1, ic_sub1, ic_clamp, ic_div, ic_irm, ic_lt0, ic_0lt, ic_eq0, ic_lt, ic_inj, and15, and7, and31, and63, shl1, shr_ok, neg_1, neg_2, neg_3, neg_4, kc_lt0, kc_ic, kc_m2, kc_1, kc_0, i0_add, add_i0, or_i0, z_8, z_4, z_64, z_256, ic_m2, ec_m1, ic_m1, m1_lt0, m2_lt0, m3_lt0, m4_lt0, up_s, if_true, if_false, ne_eq, not_true_eq_false, not_false_eq_true, Bool.false_eq_true, eq_self, or_self, or_false, false_or, and_self, and_true, true_and, ite_self, Nat.reduceEqDiff, Nat.reduceLT, Nat.reduceMod, Nat.reduceMul, Nat.reduceAdd, Nat.reducePow, Nat.reduceDiv, lt_2, lt_3, lt_4, lt_5, lt_6, lt_7, lt_8, lt_10, lt_11, lt_12, lt_15, lt_16, lt_18, lt_20, lt_24, lt_31, lt_32, lt_48, lt_57, lt_59, lt_63, lt_64, lt_74, lt_75, lt_97, lt_122, lt_128, lt_144, lt_145, lt_146, lt_147, lt_155, lt_163, lt_171, lt_179, lt_200, lt_243, lt_244, lt_255, lt_256, lt_732, lt_900, lt_3660, lt_3904, lt_4095, lt_65536, lt_65537, lt_252645135, lt_858993459, lt_1431655765, ↓p_has_b, p_has, ↓p_has9_b, p_has9, ↓p_bit_b, p_bit, ↓p_bit1_b, p_bit1, ↓p_bit0_b, p_bit0, p_X6_firstUntrue_67, p_X6_firstUntrue_61, p_X6_firstUntrue_46, p_X6_firstUntrue_45, p_X6_firstUntrue_2, p_X6_firstUntrue, hL.1, z12, hj, hj6, hL.2.2.2.2.2.2.2.1.1, hL.2.2.2.2.2.2.2.2.1, if_inB hL.2.2.2.2.2.2.2.1.2, if_inB hL.2.2.2.2.2.2.2.2.2, w1, w2, hG.1, ↓bnd (A), A, lc_lt, c]
      · rw [decide_eq_true d]
        simp (maxSteps := 1000000) (disch := omega) only [↓reduceIte, ↓if_bi0, ↓if_bi1, hp_tg, hp_rI, hp_rR, hp_rL, hp_wI, hp_wL, Option.bind_some, if_11, if_01, bi_and1, i10, i01, bi_t, bi_f, ic_add, mr_4, ml_4, mr_8, ml_8, mr_10, ml_10, ic_add1, ic_sub1, ic_clamp, ic_div, ic_irm, ic_lt0, ic_0lt, ic_eq0, ic_lt, ic_inj, and15, and7, and31, and63, shl1, shr_ok, neg_1, neg_2, neg_3, neg_4, kc_lt0, kc_ic, kc_m2, kc_1, kc_0, i0_add, add_i0, or_i0, z_8, z_4, z_64, z_256, ic_m2, ec_m1, ic_m1, m1_lt0, m2_lt0, m3_lt0, m4_lt0, up_s, if_true, if_false, ne_eq, not_true_eq_false, not_false_eq_true, Bool.false_eq_true, eq_self, or_self, or_false, false_or, and_self, and_true, true_and, ite_self, Nat.reduceEqDiff, Nat.reduceLT, Nat.reduceMod, Nat.reduceMul, Nat.reduceAdd, Nat.reducePow, Nat.reduceDiv, lt_2, lt_3, lt_4, lt_5, lt_6, lt_7, lt_8, lt_10, lt_11, lt_12, lt_15, lt_16, lt_18, lt_20, lt_24, lt_31, lt_32, lt_48, lt_57, lt_59, lt_63, lt_64, lt_74, lt_75, lt_97, lt_122, lt_128, lt_144, lt_145, lt_146, lt_147, lt_155, lt_163, lt_171, lt_179, lt_200, lt_243, lt_244, lt_255, lt_256, lt_732, lt_900, lt_3660, lt_3904, lt_4095, lt_65536, lt_65537, lt_252645135, lt_858993459, lt_1431655765, ↓p_has_b, p_has, ↓p_has9_b, p_has9, ↓p_bit_b, p_bit, ↓p_bit1_b, p_bit1, ↓p_bit0_b, p_bit0, p_X6_firstUntrue_67, p_X6_firstUntrue_61, p_X6_firstUntrue_46, p_X6_firstUntrue_45, p_X6_firstUntrue_2, p_X6_firstUntrue, hL.1, z12, hj, hj6, hL.2.2.2.2.2.2.2.1.1, hL.2.2.2.2.2.2.2.2.1, if_inB hL.2.2.2.2.2.2.2.1.2, if_inB hL.2.2.2.2.2.2.2.2.2, w1, w2, hG.1, ↓bnd (A), A, lc_lt, c, d]
    · rw [if_neg c]
      by_cases d : 0 = zH T j
      · rw [decide_eq_false (fun q => q d)]
        rw [← d] at w2
        simp (maxSteps := 1000000) (disch := omega) only [↓reduceIte, ↓if_bi0, ↓if_bi1, hp_tg, hp_rI, hp_rR, hp_rL, hp_wI, hp_wL, Option.bind_some, if_11, if_01, bi_and1, i10, i01, bi_t, bi_f, ic_add, mr_4, ml_4, mr_8, ml_8, mr_10, ml_10, ic_add1, ic_sub1, ic_clamp, ic_div, ic_irm, ic_lt0, ic_0lt, ic_eq0, ic_lt, ic_inj, and15, and7, and31, and63, shl1, shr_ok, neg_1, neg_2, neg_3, neg_4, kc_lt0, kc_ic, kc_m2, kc_1, kc_0, i0_add, add_i0, or_i0, z_8, z_4, z_64, z_256, ic_m2, ec_m1, ic_m1, m1_lt0, m2_lt0, m3_lt0, m4_lt0, up_s, if_true, if_false, ne_eq, not_true_eq_false, not_false_eq_true, Bool.false_eq_true, eq_self, or_self, or_false, false_or, and_self, and_true, true_and, ite_self, Nat.reduceEqDiff, Nat.reduceLT, Nat.reduceMod, Nat.reduceMul, Nat.reduceAdd, Nat.reducePow, Nat.reduceDiv, lt_2, lt_3, lt_4, lt_5, lt_6, lt_7, lt_8, lt_10, lt_11, lt_12, lt_15, lt_16, lt_18, lt_20, lt_24, lt_31, lt_32, lt_48, lt_57, lt_59, lt_63, lt_64, lt_74, lt_75, lt_97, lt_122, lt_128, lt_144, lt_145, lt_146, lt_147, lt_155, lt_163, lt_171, lt_179, lt_200, lt_243, lt_244, lt_255, lt_256, lt_732, lt_900, lt_3660, lt_3904, lt_4095, lt_65536, lt_65537, lt_252645135, lt_858993459, lt_1431655765, ↓p_has_b, p_has, ↓p_has9_b, p_has9, ↓p_bit_b, p_bit, ↓p_bit1_b, p_bit1, ↓p_bit0_b, p_bit0, p_X6_firstUntrue_67, p_X6_firstUntrue_61, p_X6_firstUntrue_46, p_X6_firstUntrue_45, p_X6_firstUntrue_2, p_X6_firstUntrue, hL.1, z12, hj, hj6, hL.2.2.2.2.2.2.2.1.1, hL.2.2.2.2.2.2.2.2.1, if_inB hL.2.2.2.2.2.2.2.1.2, if_inB hL.2.2.2.2.2.2.2.2.2, w1, w2, hG.1, ↓bnd (A), A, lc_lt, c]
      · rw [decide_eq_true d]
        simp (maxSteps := 1000000) (disch := omega) only [↓reduceIte, ↓if_bi0, ↓if_bi1, hp_tg, hp_rI, hp_rR, hp_rL, hp_wI, hp_wL, Option.bind_some, if_11, if_01, bi_and1, i10, i01, bi_t, bi_f, ic_add, mr_4, ml_4, mr_8, ml_8, mr_10, ml_10, ic_add1, ic_sub1, ic_clamp, ic_div, ic_irm, ic_lt0, ic_0lt, ic_eq0, ic_lt, ic_inj, and15, and7, and31, and63, shl1, shr_ok, neg_1, neg_2, neg_3, neg_4, kc_lt0, kc_ic, kc_m2, kc_1, kc_0, i0_add, add_i0, or_i0, z_8, z_4, z_64, z_256, ic_m2, ec_m1, ic_m1, m1_lt0, m2_lt0, m3_lt0, m4_lt0, up_s, if_true, if_false, ne_eq, not_true_eq_false, not_false_eq_true, Bool.false_eq_true, eq_self, or_self, or_false, false_or, and_self, and_true, true_and, ite_self, Nat.reduceEqDiff, Nat.reduceLT, Nat.reduceMod, Nat.reduceMul, Nat.reduceAdd, Nat.reducePow, Nat.reduceDiv, lt_2, lt_3, lt_4, lt_5, lt_6, lt_7, lt_8, lt_10, lt_11, lt_12, lt_15, lt_16, lt_18, lt_20, lt_24, lt_31, lt_32, lt_48, lt_57, lt_59, lt_63, lt_64, lt_74, lt_75, lt_97, lt_122, lt_128, lt_144, lt_145, lt_146, lt_147, lt_155, lt_163, lt_171, lt_179, lt_200, lt_243, lt_244, lt_255, lt_256, lt_732, lt_900, lt_3660, lt_3904, lt_4095, lt_65536, lt_65537, lt_252645135, lt_858993459, lt_1431655765, ↓p_has_b, p_has, ↓p_has9_b, p_has9, ↓p_bit_b, p_bit, ↓p_bit1_b, p_bit1, ↓p_bit0_b, p_bit0, p_X6_firstUntrue_67, p_X6_firstUntrue_61, p_X6_firstUntrue_46, p_X6_firstUntrue_45, p_X6_firstUntrue_2, p_X6_firstUntrue, hL.1, z12, hj, hj6, hL.2.2.2.2.2.2.2.1.1, hL.2.2.2.2.2.2.2.2.1, if_inB hL.2.2.2.2.2.2.2.1.2, if_inB hL.2.2.2.2.2.2.2.2.2, w1, w2, hG.1, ↓bnd (A), A, lc_lt, c, d]
  · have z12 := hR.2.2.2.2.2.2.2.1
    simp (maxSteps := 1000000) (disch := omega) only [↓reduceIte, ↓if_bi0, ↓if_bi1, hp_tg, hp_rI, hp_rR, hp_rL, hp_wI, hp_wL, Option.bind_some, if_11, if_01, bi_and1, i10, i01, bi_t, bi_f, ic_add, mr_4, ml_4, mr_8, ml_8, mr_10, ml_10, ic_add1, ic_sub1, ic_clamp, ic_div, ic_irm, ic_lt0, ic_0lt, ic_eq0, ic_lt, ic_inj, and15, and7, and31, and63, shl1, shr_ok, neg_1, neg_2, neg_3, neg_4, kc_lt0, kc_ic, kc_m2, kc_1, kc_0, i0_add, add_i0, or_i0, z_8, z_4, z_64, z_256, ic_m2, ec_m1, ic_m1, m1_lt0, m2_lt0, m3_lt0, m4_lt0, up_s, if_true, if_false, ne_eq, not_true_eq_false, not_false_eq_true, Bool.false_eq_true, eq_self, or_self, or_false, false_or, and_self, and_true, true_and, ite_self, Nat.reduceEqDiff, Nat.reduceLT, Nat.reduceMod, Nat.reduceMul, Nat.reduceAdd, Nat.reducePow, Nat.reduceDiv, lt_2, lt_3, lt_4, lt_5, lt_6, lt_7, lt_8, lt_10, lt_11, lt_12, lt_15, lt_16, lt_18, lt_20, lt_24, lt_31, lt_32, lt_48, lt_57, lt_59, lt_63, lt_64, lt_74, lt_75, lt_97, lt_122, lt_128, lt_144, lt_145, lt_146, lt_147, lt_155, lt_163, lt_171, lt_179, lt_200, lt_243, lt_244, lt_255, lt_256, lt_732, lt_900, lt_3660, lt_3904, lt_4095, lt_65536, lt_65537, lt_252645135, lt_858993459, lt_1431655765, ↓p_has_b, p_has, ↓p_has9_b, p_has9, ↓p_bit_b, p_bit, ↓p_bit1_b, p_bit1, ↓p_bit0_b, p_bit0, p_X6_firstUntrue_67, p_X6_firstUntrue_61, p_X6_firstUntrue_46, p_X6_firstUntrue_45, p_X6_firstUntrue_2, p_X6_firstUntrue, hL.1, z12, Nat.lt_irrefl]
theorem t_untrue_b (hL : TL S t) (hR : TR I t T) (hV : TV T) (hG : GL S g) (hg : GR I g s) (hI : IG s) {β : Type} (f9 : Int32 × AH → Option β) : (p_X6_firstUntrue t g (hp S I L)).bind f9 = f9 (oc (unt T s), hp S I L) := bnd (by apply t_untrue <;> assumption)
-- the reference: all as told
theorem x_asTold (hL : ML S m) (ha : tR S m 3 = a) (hA : MCL S a) (hm : m + 6 < a) (hR : MR I a T) (hV : TV T) {o : Nat} (ho : o < 16) : ∃ I', p_X9_asTold m (ic o) (hp S I L) = some (hp S I' L) ∧ RW (I' (m + 3)) (fresh (oth T o)) ∧ M3 I I' m ∧ Bg I I' m (tP T) := by
  obtain ⟨r0, r1, ⟨rw9, q1, q2, q3⟩, -, -, -, ⟨r6, r6'⟩, -, rh, rw, -⟩ := hR
  have hAm : MCL S a := hA
  obtain ⟨l0, ⟨lh, lh'⟩, ⟨lw, lw'⟩, -, -, -, ⟨lu, lu'⟩, ⟨lm, lm'⟩, -⟩ := hA
  obtain ⟨hd4, hdb⟩ := hV.2.2.2.2.1
  -- frees and begins
  have s5 : ∀ J : II, (∀ b, b ≠ m + 3 → J b = I b) → (∀ k, k < 128 → J (m + 3) k = ic (dWs T o (dN T) k)) → (∀ f, f < 16 → J (m + 3) (128 + f) = ic (sH (tG T) f)) → J (m + 3) 144 = ic rw9 → J (m + 3) 145 = 0 → J (m + 3) 146 = ic (sr (tG T)) → J (m + 3) 243 = 0 → ∃ I', p_X9_asTold_167 FU m 0 (hp S J L) = some (hp S I' L) ∧ RW (I' (m + 3)) (fresh (oth T o)) ∧ M3 I I' m ∧ Bg I I' m (tP T) := by
    intro J j0 j1 j2 j3 j4 j5 j6
    have := lp_inv (fun n k (c : II) => p_X9_asTold_167 n m (ic k) (hp S c L)) 8 (fun k c => (∀ b, b ≠ m + 3 → c b = I b) ∧ (∀ j, j < 147 ∨ j = 243 → c (m + 3) j = J (m + 3) j) ∧ (∀ n, n < k → c (m + 3) (147 + n) = m2 ∧ c (m + 3) (155 + n) = m2 ∧ c (m + 3) (163 + n) = 0 ∧ c (m + 3) (171 + n) = 0) ∧ ∀ e, e < 8 * k → c (m + 3) (179 + e) = m1) (fun r => ∃ I', r = hp S I' L ∧ RW (I' (m + 3)) (fresh (oth T o)) ∧ M3 I I' m ∧ Bg I I' m (tP T)) (fun n k c hk hc => ?_) (fun n c hc => ?_) 8 0 FU J rfl (fu_lt (by decide)) ⟨j0, fun _ _ => rfl, fun n h => by omega, fun e h => by omega⟩
    · obtain ⟨r, e, I', e2, h⟩ := this
      subst e2
      exact ⟨I', e, h⟩
    · obtain ⟨c0, c1, c2, c3⟩ := hc
      obtain ⟨I', e, f, h9⟩ := x_frees (I := c) (L := L) hL hk
      refine ⟨I', by simp (maxSteps := 1000000) (disch := omega) only [↓reduceIte, ↓if_bi0, ↓if_bi1, hp_tg, hp_rI, hp_rR, hp_rL, hp_wI, hp_wL, Option.bind_some, if_11, if_01, bi_and1, i10, i01, bi_t, bi_f, ic_add, mr_4, ml_4, mr_8, ml_8, mr_10, ml_10, ic_add1, ic_sub1, ic_clamp, ic_div, ic_irm, ic_lt0, ic_0lt, ic_eq0, ic_lt, ic_inj, and15, and7, and31, and63, shl1, shr_ok, neg_1, neg_2, neg_3, neg_4, kc_lt0, kc_ic, kc_m2, kc_1, kc_0, i0_add, add_i0, or_i0, z_8, z_4, z_64, z_256, ic_m2, ec_m1, ic_m1, m1_lt0, m2_lt0, m3_lt0, m4_lt0, up_s, if_true, if_false, ne_eq, not_true_eq_false, not_false_eq_true, Bool.false_eq_true, eq_self, or_self, or_false, false_or, and_self, and_true, true_and, ite_self, Nat.reduceEqDiff, Nat.reduceLT, Nat.reduceMod, Nat.reduceMul, Nat.reduceAdd, Nat.reducePow, Nat.reduceDiv, lt_2, lt_3, lt_4, lt_5, lt_6, lt_7, lt_8, lt_10, lt_11, lt_12, lt_15, lt_16, lt_18, lt_20, lt_24, lt_31, lt_32, lt_48, lt_57, lt_59, lt_63, lt_64, lt_74, lt_75, lt_97, lt_122, lt_128, lt_144, lt_145, lt_146, lt_147, lt_155, lt_163, lt_171, lt_179, lt_200, lt_243, lt_244, lt_255, lt_256, lt_732, lt_900, lt_3660, lt_3904, lt_4095, lt_65536, lt_65537, lt_252645135, lt_858993459, lt_1431655765, ↓p_has_b, p_has, ↓p_has9_b, p_has9, ↓p_bit_b, p_bit, ↓p_bit1_b, p_bit1, ↓p_bit0_b, p_bit0, p_X9_asTold_167, hk, hL.t, ↓bnd (e), e], fun b hb => by rw [f b (by omega), c0 b hb], fun j hj => ?_, fun n hn => ?_, fun e he => ?_⟩
      · rw [h9, if_neg (by omega), if_neg (by omega), if_neg (by omega)]; exact c1 j hj
      · by_cases d : n = k
        · subst d
          rw [h9, h9, h9, h9, if_pos (by omega), if_pos (by omega), if_neg (by omega), if_pos (by omega), if_neg (by omega), if_pos (by omega)]
          exact ⟨rfl, rfl, rfl, rfl⟩
        · rw [h9, h9, h9, h9, if_neg (by omega), if_neg (by omega), if_neg (by omega), if_neg (by omega), if_neg (by omega), if_neg (by omega), if_neg (by omega), if_neg (by omega), if_neg (by omega), if_neg (by omega), if_neg (by omega), if_neg (by omega)]
          exact c2 n (by omega)
      · rw [h9, if_neg (by omega), if_neg (by omega)]
        by_cases d : 8 * k ≤ e
        · rw [if_pos (by omega)]
        · rw [if_neg (by omega)]; exact c3 e (by omega)
    · obtain ⟨c0, c1, c2, c3⟩ := hc
      have B := x_begins (I := c) (L := L) hL ha hAm (by omega) (pl := tP T) (by rw [c0 a (by omega)]; exact r0)
      refine ⟨_, by simp (maxSteps := 1000000) (disch := omega) only [↓reduceIte, ↓if_bi0, ↓if_bi1, hp_tg, hp_rI, hp_rR, hp_rL, hp_wI, hp_wL, Option.bind_some, if_11, if_01, bi_and1, i10, i01, bi_t, bi_f, ic_add, mr_4, ml_4, mr_8, ml_8, mr_10, ml_10, ic_add1, ic_sub1, ic_clamp, ic_div, ic_irm, ic_lt0, ic_0lt, ic_eq0, ic_lt, ic_inj, and15, and7, and31, and63, shl1, shr_ok, neg_1, neg_2, neg_3, neg_4, kc_lt0, kc_ic, kc_m2, kc_1, kc_0, i0_add, add_i0, or_i0, z_8, z_4, z_64, z_256, ic_m2, ec_m1, ic_m1, m1_lt0, m2_lt0, m3_lt0, m4_lt0, up_s, if_true, if_false, ne_eq, not_true_eq_false, not_false_eq_true, Bool.false_eq_true, eq_self, or_self, or_false, false_or, and_self, and_true, true_and, ite_self, Nat.reduceEqDiff, Nat.reduceLT, Nat.reduceMod, Nat.reduceMul, Nat.reduceAdd, Nat.reducePow, Nat.reduceDiv, lt_2, lt_3, lt_4, lt_5, lt_6, lt_7, lt_8, lt_10, lt_11, lt_12, lt_15, lt_16, lt_18, lt_20, lt_24, lt_31, lt_32, lt_48, lt_57, lt_59, lt_63, lt_64, lt_74, lt_75, lt_97, lt_122, lt_128, lt_144, lt_145, lt_146, lt_147, lt_155, lt_163, lt_171, lt_179, lt_200, lt_243, lt_244, lt_255, lt_256, lt_732, lt_900, lt_3660, lt_3904, lt_4095, lt_65536, lt_65537, lt_252645135, lt_858993459, lt_1431655765, ↓p_has_b, p_has, ↓p_has9_b, p_has9, ↓p_bit_b, p_bit, ↓p_bit1_b, p_bit1, ↓p_bit0_b, p_bit0, p_X9_asTold_167, Nat.lt_irrefl, hL.t, ↓bnd (B), B], up2 (up2 (up2 (up2 c m 26 (ic (tP T))) m 27 0) m 28 0) m 29 0, rfl, ?_, ?_, ?_⟩
      · rw [show (up2 (up2 (up2 (up2 c m 26 (ic (tP T))) m 27 0) m 28 0) m 29 0) (m + 3) = c (m + 3) from funext fun j => by rw [up_a (by omega), up_a (by omega), up_a (by omega), up_a (by omega)]]
        refine ⟨fun k hk => by rw [c1 _ (by omega)]; exact j1 k hk, fun f hf => by rw [c1 _ (by omega)]; exact j2 f hf, ⟨rw9, q1, by rw [c1 _ (by omega)]; exact j3, q3⟩, by rw [c1 _ (by omega), j4]; show 0 = ic (sm (tG T)); rw [hV.2.2.1]; rfl, by rw [c1 _ (by omega)]; exact j5, fun n hn => (c2 n hn).1, fun n hn => (c2 n hn).2.1, fun n hn => (c2 n hn).2.2.1, fun n hn => (c2 n hn).2.2.2, fun e he => c3 e he, by rw [c1 _ (by omega)]; exact j6⟩
      · intro b h1 h2; funext j; rw [up_a h1, up_a h1, up_a h1, up_a h1, c0 b h2]
      · have := bg_up c m (tP T)
        refine ⟨this.1, this.2.1, this.2.2.1, this.2.2.2.1, fun j hj => ?_⟩
        rw [this.2.2.2.2 j hj, c0 m (by omega)]
  -- hosts
  have s4 : ∀ J : II, (∀ b, b ≠ m + 3 → J b = I b) → (∀ k, k < 128 → J (m + 3) k = ic (dWs T o (dN T) k)) → (∀ j, 128 ≤ j → j < 244 → J (m + 3) j = 0) → ∃ I', p_X9_asTold_104 FU m 0 (hp S J L) = some (hp S I' L) ∧ RW (I' (m + 3)) (fresh (oth T o)) ∧ M3 I I' m ∧ Bg I I' m (tP T) := by
    intro J j0 j1 j2
    have := lp_inv (fun n k (c : II) => p_X9_asTold_104 n m (ic k) (hp S c L)) 16 (fun k c => (∀ b, b ≠ m + 3 → c b = I b) ∧ (∀ j, j < 128 → c (m + 3) j = J (m + 3) j) ∧ (∀ f, f < k → c (m + 3) (128 + f) = ic (sH (tG T) f)) ∧ ∀ j, 144 ≤ j → j < 244 → c (m + 3) j = 0) (fun r => ∃ I', r = hp S I' L ∧ RW (I' (m + 3)) (fresh (oth T o)) ∧ M3 I I' m ∧ Bg I I' m (tP T)) (fun n k c hk hc => ?_) (fun n c hc => ?_) 16 0 FU J rfl (fu_lt (by decide)) ⟨j0, fun _ _ => rfl, fun n h => by omega, fun e h1 h2 => j2 e (by omega) h2⟩
    · obtain ⟨r, e, I', e2, h⟩ := this
      subst e2
      exact ⟨I', e, h⟩
    · obtain ⟨c0, c1, c2, c3⟩ := hc
      have rd : c (a + 1) k = ic (sH (tG T) k) := by rw [c0 _ (by omega)]; exact rh k hk
      refine ⟨up2 c (m + 3) (128 + k) (ic (sH (tG T) k)), ?_, fun b hb => by funext j; rw [up_a hb, c0 b hb], fun j hj => by rw [up_k (by omega)]; exact c1 j hj, fun f hf => ?_, fun j h1 h2 => by rw [up_k (by omega)]; exact c3 j h1 h2⟩
      · simp (maxSteps := 1000000) (disch := omega) only [↓reduceIte, ↓if_bi0, ↓if_bi1, hp_tg, hp_rI, hp_rR, hp_rL, hp_wI, hp_wL, Option.bind_some, if_11, if_01, bi_and1, i10, i01, bi_t, bi_f, ic_add, mr_4, ml_4, mr_8, ml_8, mr_10, ml_10, ic_add1, ic_sub1, ic_clamp, ic_div, ic_irm, ic_lt0, ic_0lt, ic_eq0, ic_lt, ic_inj, and15, and7, and31, and63, shl1, shr_ok, neg_1, neg_2, neg_3, neg_4, kc_lt0, kc_ic, kc_m2, kc_1, kc_0, i0_add, add_i0, or_i0, z_8, z_4, z_64, z_256, ic_m2, ec_m1, ic_m1, m1_lt0, m2_lt0, m3_lt0, m4_lt0, up_s, if_true, if_false, ne_eq, not_true_eq_false, not_false_eq_true, Bool.false_eq_true, eq_self, or_self, or_false, false_or, and_self, and_true, true_and, ite_self, Nat.reduceEqDiff, Nat.reduceLT, Nat.reduceMod, Nat.reduceMul, Nat.reduceAdd, Nat.reducePow, Nat.reduceDiv, lt_2, lt_3, lt_4, lt_5, lt_6, lt_7, lt_8, lt_10, lt_11, lt_12, lt_15, lt_16, lt_18, lt_20, lt_24, lt_31, lt_32, lt_48, lt_57, lt_59, lt_63, lt_64, lt_74, lt_75, lt_97, lt_122, lt_128, lt_144, lt_145, lt_146, lt_147, lt_155, lt_163, lt_171, lt_179, lt_200, lt_243, lt_244, lt_255, lt_256, lt_732, lt_900, lt_3660, lt_3904, lt_4095, lt_65536, lt_65537, lt_252645135, lt_858993459, lt_1431655765, ↓p_has_b, p_has, ↓p_has9_b, p_has9, ↓p_bit_b, p_bit, ↓p_bit1_b, p_bit1, ↓p_bit0_b, p_bit0, p_X9_asTold_104, hk, hL.t, hL.x, ha, l0, lh, if_inB lh', if_inB hL.xt, rd]
      · rw [up_i]
        by_cases d : f = k
        · rw [if_pos (by omega), d]
        · rw [if_neg (by omega)]; exact c2 f (by omega)
    · obtain ⟨c0, c1, c2, c3⟩ := hc
      have e1 : c a 2 = ic rw9 := by rw [c0 _ (by omega)]; exact q2
      have e2 : c a 1 = ic (sr (tG T)) := by rw [c0 _ (by omega)]; exact r1
      have e2' : up2 c (m + 3) 144 (ic rw9) a 1 = ic (sr (tG T)) := by rw [up_a (by omega)]; exact e2
      obtain ⟨I', e, h⟩ := s5 (up2 (up2 c (m + 3) 144 (ic rw9)) (m + 3) 146 (ic (sr (tG T)))) (fun b hb => by funext j; rw [up_a hb, up_a hb, c0 b hb]) (fun k hk => by rw [up_k (by omega), up_k (by omega), c1 k hk]; exact j1 k hk) (fun f hf => by rw [up_k (by omega), up_k (by omega)]; exact c2 f hf) (by rw [up_k (by omega), up_s]) (by rw [up_k (by omega), up_k (by omega)]; exact c3 145 (by omega) (by omega)) (up_s _ _ _ _) (by rw [up_k (by omega), up_k (by omega)]; exact c3 243 (by omega) (by omega))
      refine ⟨_, ?_, I', rfl, h⟩
      simp (maxSteps := 1000000) (disch := omega) only [↓reduceIte, ↓if_bi0, ↓if_bi1, hp_tg, hp_rI, hp_rR, hp_rL, hp_wI, hp_wL, Option.bind_some, if_11, if_01, bi_and1, i10, i01, bi_t, bi_f, ic_add, mr_4, ml_4, mr_8, ml_8, mr_10, ml_10, ic_add1, ic_sub1, ic_clamp, ic_div, ic_irm, ic_lt0, ic_0lt, ic_eq0, ic_lt, ic_inj, and15, and7, and31, and63, shl1, shr_ok, neg_1, neg_2, neg_3, neg_4, kc_lt0, kc_ic, kc_m2, kc_1, kc_0, i0_add, add_i0, or_i0, z_8, z_4, z_64, z_256, ic_m2, ec_m1, ic_m1, m1_lt0, m2_lt0, m3_lt0, m4_lt0, up_s, if_true, if_false, ne_eq, not_true_eq_false, not_false_eq_true, Bool.false_eq_true, eq_self, or_self, or_false, false_or, and_self, and_true, true_and, ite_self, Nat.reduceEqDiff, Nat.reduceLT, Nat.reduceMod, Nat.reduceMul, Nat.reduceAdd, Nat.reducePow, Nat.reduceDiv, lt_2, lt_3, lt_4, lt_5, lt_6, lt_7, lt_8, lt_10, lt_11, lt_12, lt_15, lt_16, lt_18, lt_20, lt_24, lt_31, lt_32, lt_48, lt_57, lt_59, lt_63, lt_64, lt_74, lt_75, lt_97, lt_122, lt_128, lt_144, lt_145, lt_146, lt_147, lt_155, lt_163, lt_171, lt_179, lt_200, lt_243, lt_244, lt_255, lt_256, lt_732, lt_900, lt_3660, lt_3904, lt_4095, lt_65536, lt_65537, lt_252645135, lt_858993459, lt_1431655765, ↓p_has_b, p_has, ↓p_has9_b, p_has9, ↓p_bit_b, p_bit, ↓p_bit1_b, p_bit1, ↓p_bit0_b, p_bit0, p_X9_asTold_104, Nat.lt_irrefl, hL.t, hL.x, ha, l0, if_inB hL.xt, e1, e2', e]
  -- the unsure
  have s3 : ∀ J : II, (∀ b, b ≠ m + 3 → J b = I b) → (∀ k, k < 128 → J (m + 3) k = ic (sW (tG T) k)) → (∀ j, 128 ≤ j → j < 244 → J (m + 3) j = 0) → ∃ I', p_X9_asTold_54 FU m (ic o) 0 (hp S J L) = some (hp S I' L) ∧ RW (I' (m + 3)) (fresh (oth T o)) ∧ M3 I I' m ∧ Bg I I' m (tP T) := by
    intro J j0 j1 j2
    have := lp_inv (fun n k (c : II) => p_X9_asTold_54 n m (ic o) (ic k) (hp S c L)) (dN T) (fun k c => (∀ b, b ≠ m + 3 → c b = I b) ∧ (∀ j, j < 128 → c (m + 3) j = ic (dWs T o k j)) ∧ ∀ j, 128 ≤ j → j < 244 → c (m + 3) j = 0) (fun r => ∃ I', r = hp S I' L ∧ RW (I' (m + 3)) (fresh (oth T o)) ∧ M3 I I' m ∧ Bg I I' m (tP T)) (fun n k c hk hc => ?_) (fun n c hc => ?_) (dN T) 0 FU J (by omega) (fu_lt (by omega)) ⟨j0, j1, j2⟩
    · obtain ⟨r, e, I', e2, h⟩ := this
      subst e2
      exact ⟨I', e, h⟩
    · obtain ⟨c0, c1, c2⟩ := hc
      have e6 : c a 6 = ic (dN T) := by rw [c0 _ (by omega)]; exact r6
      have u1 : c (a + 6) k = ic (dS T k) := by rw [c0 _ (by omega)]; exact (r6' k hk).1
      have u2 : c (a + 7) k = ic (dD T k) := by rw [c0 _ (by omega)]; exact (r6' k hk).2
      have hb := (hdb k hk).1
      have b9 := p_bit9 (w := o) (f := k) (by omega) (by omega) (hp S c L)
      cases ob : o.testBit k
      · rw [ob] at b9
        refine ⟨c, ?_, c0, fun j hj => by rw [dWs_succ, ob, if_neg (by decide)]; exact c1 j hj, c2⟩
        simp (maxSteps := 1000000) (disch := omega) only [↓reduceIte, ↓if_bi0, ↓if_bi1, hp_tg, hp_rI, hp_rR, hp_rL, hp_wI, hp_wL, Option.bind_some, if_11, if_01, bi_and1, i10, i01, bi_t, bi_f, ic_add, mr_4, ml_4, mr_8, ml_8, mr_10, ml_10, ic_add1, ic_sub1, ic_clamp, ic_div, ic_irm, ic_lt0, ic_0lt, ic_eq0, ic_lt, ic_inj, and15, and7, and31, and63, shl1, shr_ok, neg_1, neg_2, neg_3, neg_4, kc_lt0, kc_ic, kc_m2, kc_1, kc_0, i0_add, add_i0, or_i0, z_8, z_4, z_64, z_256, ic_m2, ec_m1, ic_m1, m1_lt0, m2_lt0, m3_lt0, m4_lt0, up_s, if_true, if_false, ne_eq, not_true_eq_false, not_false_eq_true, Bool.false_eq_true, eq_self, or_self, or_false, false_or, and_self, and_true, true_and, ite_self, Nat.reduceEqDiff, Nat.reduceLT, Nat.reduceMod, Nat.reduceMul, Nat.reduceAdd, Nat.reducePow, Nat.reduceDiv, lt_2, lt_3, lt_4, lt_5, lt_6, lt_7, lt_8, lt_10, lt_11, lt_12, lt_15, lt_16, lt_18, lt_20, lt_24, lt_31, lt_32, lt_48, lt_57, lt_59, lt_63, lt_64, lt_74, lt_75, lt_97, lt_122, lt_128, lt_144, lt_145, lt_146, lt_147, lt_155, lt_163, lt_171, lt_179, lt_200, lt_243, lt_244, lt_255, lt_256, lt_732, lt_900, lt_3660, lt_3904, lt_4095, lt_65536, lt_65537, lt_252645135, lt_858993459, lt_1431655765, ↓p_has_b, p_has, ↓p_has9_b, p_has9, ↓p_bit_b, p_bit, ↓p_bit1_b, p_bit1, ↓p_bit0_b, p_bit0, p_X9_asTold_54, p_X9_asTold_96, hL.t, ha, l0, e6, hk, ↓bnd (b9), b9]
      · rw [ob] at b9
        refine ⟨up2 c (m + 3) (dS T k) (ic (dD T k)), ?_, fun b hb => by funext j; rw [up_a hb, c0 b hb], fun j hj => ?_, fun j h1 h2 => by rw [up_k (by omega)]; exact c2 j h1 h2⟩
        · simp (maxSteps := 1000000) (disch := omega) only [↓reduceIte, ↓if_bi0, ↓if_bi1, hp_tg, hp_rI, hp_rR, hp_rL, hp_wI, hp_wL, Option.bind_some, if_11, if_01, bi_and1, i10, i01, bi_t, bi_f, ic_add, mr_4, ml_4, mr_8, ml_8, mr_10, ml_10, ic_add1, ic_sub1, ic_clamp, ic_div, ic_irm, ic_lt0, ic_0lt, ic_eq0, ic_lt, ic_inj, and15, and7, and31, and63, shl1, shr_ok, neg_1, neg_2, neg_3, neg_4, kc_lt0, kc_ic, kc_m2, kc_1, kc_0, i0_add, add_i0, or_i0, z_8, z_4, z_64, z_256, ic_m2, ec_m1, ic_m1, m1_lt0, m2_lt0, m3_lt0, m4_lt0, up_s, if_true, if_false, ne_eq, not_true_eq_false, not_false_eq_true, Bool.false_eq_true, eq_self, or_self, or_false, false_or, and_self, and_true, true_and, ite_self, Nat.reduceEqDiff, Nat.reduceLT, Nat.reduceMod, Nat.reduceMul, Nat.reduceAdd, Nat.reducePow, Nat.reduceDiv, lt_2, lt_3, lt_4, lt_5, lt_6, lt_7, lt_8, lt_10, lt_11, lt_12, lt_15, lt_16, lt_18, lt_20, lt_24, lt_31, lt_32, lt_48, lt_57, lt_59, lt_63, lt_64, lt_74, lt_75, lt_97, lt_122, lt_128, lt_144, lt_145, lt_146, lt_147, lt_155, lt_163, lt_171, lt_179, lt_200, lt_243, lt_244, lt_255, lt_256, lt_732, lt_900, lt_3660, lt_3904, lt_4095, lt_65536, lt_65537, lt_252645135, lt_858993459, lt_1431655765, ↓p_has_b, p_has, ↓p_has9_b, p_has9, ↓p_bit_b, p_bit, ↓p_bit1_b, p_bit1, ↓p_bit0_b, p_bit0, p_X9_asTold_54, p_X9_asTold_96, hL.t, hL.x, ha, l0, e6, hk, ↓bnd (b9), b9, lu, lm, if_inB lu', if_inB lm', u1, u2, if_inB hL.xt]
        · rw [up_i, dWs_succ, ob, if_pos rfl]
          by_cases d : j = dS T k
          · subst d; rw [if_pos rfl, up1_s]
          · rw [if_neg d, up1_n d]; exact c1 j hj
    · obtain ⟨c0, c1, c2⟩ := hc
      have e6 : c a 6 = ic (dN T) := by rw [c0 _ (by omega)]; exact r6
      obtain ⟨I', e, h⟩ := s4 c c0 c1 c2
      refine ⟨_, ?_, I', rfl, h⟩
      simp (maxSteps := 1000000) (disch := omega) only [↓reduceIte, ↓if_bi0, ↓if_bi1, hp_tg, hp_rI, hp_rR, hp_rL, hp_wI, hp_wL, Option.bind_some, if_11, if_01, bi_and1, i10, i01, bi_t, bi_f, ic_add, mr_4, ml_4, mr_8, ml_8, mr_10, ml_10, ic_add1, ic_sub1, ic_clamp, ic_div, ic_irm, ic_lt0, ic_0lt, ic_eq0, ic_lt, ic_inj, and15, and7, and31, and63, shl1, shr_ok, neg_1, neg_2, neg_3, neg_4, kc_lt0, kc_ic, kc_m2, kc_1, kc_0, i0_add, add_i0, or_i0, z_8, z_4, z_64, z_256, ic_m2, ec_m1, ic_m1, m1_lt0, m2_lt0, m3_lt0, m4_lt0, up_s, if_true, if_false, ne_eq, not_true_eq_false, not_false_eq_true, Bool.false_eq_true, eq_self, or_self, or_false, false_or, and_self, and_true, true_and, ite_self, Nat.reduceEqDiff, Nat.reduceLT, Nat.reduceMod, Nat.reduceMul, Nat.reduceAdd, Nat.reducePow, Nat.reduceDiv, lt_2, lt_3, lt_4, lt_5, lt_6, lt_7, lt_8, lt_10, lt_11, lt_12, lt_15, lt_16, lt_18, lt_20, lt_24, lt_31, lt_32, lt_48, lt_57, lt_59, lt_63, lt_64, lt_74, lt_75, lt_97, lt_122, lt_128, lt_144, lt_145, lt_146, lt_147, lt_155, lt_163, lt_171, lt_179, lt_200, lt_243, lt_244, lt_255, lt_256, lt_732, lt_900, lt_3660, lt_3904, lt_4095, lt_65536, lt_65537, lt_252645135, lt_858993459, lt_1431655765, ↓p_has_b, p_has, ↓p_has9_b, p_has9, ↓p_bit_b, p_bit, ↓p_bit1_b, p_bit1, ↓p_bit0_b, p_bit0, p_X9_asTold_54, Nat.lt_irrefl, hL.t, ha, l0, e6, e]
  -- the words
  have s2 : ∀ J : II, (∀ b, b ≠ m + 3 → J b = I b) → (∀ j, j < 244 → J (m + 3) j = 0) → ∃ I', p_X9_asTold_24 FU m (ic o) 0 (hp S J L) = some (hp S I' L) ∧ RW (I' (m + 3)) (fresh (oth T o)) ∧ M3 I I' m ∧ Bg I I' m (tP T) := by
    intro J j0 j2
    have := lp_inv (fun n k (c : II) => p_X9_asTold_24 n m (ic o) (ic k) (hp S c L)) 128 (fun k c => (∀ b, b ≠ m + 3 → c b = I b) ∧ (∀ j, j < k → c (m + 3) j = ic (sW (tG T) j)) ∧ ∀ j, 128 ≤ j → j < 244 → c (m + 3) j = 0) (fun r => ∃ I', r = hp S I' L ∧ RW (I' (m + 3)) (fresh (oth T o)) ∧ M3 I I' m ∧ Bg I I' m (tP T)) (fun n k c hk hc => ?_) (fun n c hc => ?_) 128 0 FU J rfl (fu_lt (by decide)) ⟨j0, fun j h => by omega, fun j h1 h2 => j2 j h2⟩
    · obtain ⟨r, e, I', e2, h⟩ := this
      subst e2
      exact ⟨I', e, h⟩
    · obtain ⟨c0, c1, c2⟩ := hc
      have rd : c (a + 2) k = ic (sW (tG T) k) := by rw [c0 _ (by omega)]; exact rw k hk
      refine ⟨up2 c (m + 3) k (ic (sW (tG T) k)), ?_, fun b hb => by funext j; rw [up_a hb, c0 b hb], fun j hj => ?_, fun j h1 h2 => by rw [up_k (by omega)]; exact c2 j h1 h2⟩
      · simp (maxSteps := 1000000) (disch := omega) only [↓reduceIte, ↓if_bi0, ↓if_bi1, hp_tg, hp_rI, hp_rR, hp_rL, hp_wI, hp_wL, Option.bind_some, if_11, if_01, bi_and1, i10, i01, bi_t, bi_f, ic_add, mr_4, ml_4, mr_8, ml_8, mr_10, ml_10, ic_add1, ic_sub1, ic_clamp, ic_div, ic_irm, ic_lt0, ic_0lt, ic_eq0, ic_lt, ic_inj, and15, and7, and31, and63, shl1, shr_ok, neg_1, neg_2, neg_3, neg_4, kc_lt0, kc_ic, kc_m2, kc_1, kc_0, i0_add, add_i0, or_i0, z_8, z_4, z_64, z_256, ic_m2, ec_m1, ic_m1, m1_lt0, m2_lt0, m3_lt0, m4_lt0, up_s, if_true, if_false, ne_eq, not_true_eq_false, not_false_eq_true, Bool.false_eq_true, eq_self, or_self, or_false, false_or, and_self, and_true, true_and, ite_self, Nat.reduceEqDiff, Nat.reduceLT, Nat.reduceMod, Nat.reduceMul, Nat.reduceAdd, Nat.reducePow, Nat.reduceDiv, lt_2, lt_3, lt_4, lt_5, lt_6, lt_7, lt_8, lt_10, lt_11, lt_12, lt_15, lt_16, lt_18, lt_20, lt_24, lt_31, lt_32, lt_48, lt_57, lt_59, lt_63, lt_64, lt_74, lt_75, lt_97, lt_122, lt_128, lt_144, lt_145, lt_146, lt_147, lt_155, lt_163, lt_171, lt_179, lt_200, lt_243, lt_244, lt_255, lt_256, lt_732, lt_900, lt_3660, lt_3904, lt_4095, lt_65536, lt_65537, lt_252645135, lt_858993459, lt_1431655765, ↓p_has_b, p_has, ↓p_has9_b, p_has9, ↓p_bit_b, p_bit, ↓p_bit1_b, p_bit1, ↓p_bit0_b, p_bit0, p_X9_asTold_24, hk, hL.t, hL.x, ha, l0, lw, if_inB lw', if_inB hL.xt, rd]
      · rw [up_i]
        by_cases d : j = k
        · rw [if_pos d, d]
        · rw [if_neg d]; exact c1 j (by omega)
    · obtain ⟨c0, c1, c2⟩ := hc
      obtain ⟨I', e, h⟩ := s3 c c0 c1 c2
      refine ⟨_, ?_, I', rfl, h⟩
      simp (maxSteps := 1000000) (disch := omega) only [↓reduceIte, ↓if_bi0, ↓if_bi1, hp_tg, hp_rI, hp_rR, hp_rL, hp_wI, hp_wL, Option.bind_some, if_11, if_01, bi_and1, i10, i01, bi_t, bi_f, ic_add, mr_4, ml_4, mr_8, ml_8, mr_10, ml_10, ic_add1, ic_sub1, ic_clamp, ic_div, ic_irm, ic_lt0, ic_0lt, ic_eq0, ic_lt, ic_inj, and15, and7, and31, and63, shl1, shr_ok, neg_1, neg_2, neg_3, neg_4, kc_lt0, kc_ic, kc_m2, kc_1, kc_0, i0_add, add_i0, or_i0, z_8, z_4, z_64, z_256, ic_m2, ec_m1, ic_m1, m1_lt0, m2_lt0, m3_lt0, m4_lt0, up_s, if_true, if_false, ne_eq, not_true_eq_false, not_false_eq_true, Bool.false_eq_true, eq_self, or_self, or_false, false_or, and_self, and_true, true_and, ite_self, Nat.reduceEqDiff, Nat.reduceLT, Nat.reduceMod, Nat.reduceMul, Nat.reduceAdd, Nat.reducePow, Nat.reduceDiv, lt_2, lt_3, lt_4, lt_5, lt_6, lt_7, lt_8, lt_10, lt_11, lt_12, lt_15, lt_16, lt_18, lt_20, lt_24, lt_31, lt_32, lt_48, lt_57, lt_59, lt_63, lt_64, lt_74, lt_75, lt_97, lt_122, lt_128, lt_144, lt_145, lt_146, lt_147, lt_155, lt_163, lt_171, lt_179, lt_200, lt_243, lt_244, lt_255, lt_256, lt_732, lt_900, lt_3660, lt_3904, lt_4095, lt_65536, lt_65537, lt_252645135, lt_858993459, lt_1431655765, ↓p_has_b, p_has, ↓p_has9_b, p_has9, ↓p_bit_b, p_bit, ↓p_bit1_b, p_bit1, ↓p_bit0_b, p_bit0, p_X9_asTold_24, Nat.lt_irrefl]
      exact e
  have := lp_inv (fun n k (c : II) => p_X9_asTold_2 n m (ic o) (ic k) (hp S c L)) 244 (fun k c => (∀ b, b ≠ m + 3 → c b = I b) ∧ ∀ j, j < k → c (m + 3) j = 0) (fun r => ∃ I', r = hp S I' L ∧ RW (I' (m + 3)) (fresh (oth T o)) ∧ M3 I I' m ∧ Bg I I' m (tP T)) (fun n k c hk hc => ?_) (fun n c hc => ?_) 244 0 FU I rfl (fu_lt (by decide)) ⟨fun _ _ => rfl, fun j h => by omega⟩
  · obtain ⟨r, e, I', e2, h⟩ := this
    subst e2
    exact ⟨I', e, h⟩
  · refine ⟨up2 c (m + 3) k 0, ?_, fun b hb => by funext j; rw [up_a hb, hc.1 b hb], fun j hj => ?_⟩
    · simp (maxSteps := 1000000) (disch := omega) only [↓reduceIte, ↓if_bi0, ↓if_bi1, hp_tg, hp_rI, hp_rR, hp_rL, hp_wI, hp_wL, Option.bind_some, if_11, if_01, bi_and1, i10, i01, bi_t, bi_f, ic_add, mr_4, ml_4, mr_8, ml_8, mr_10, ml_10, ic_add1, ic_sub1, ic_clamp, ic_div, ic_irm, ic_lt0, ic_0lt, ic_eq0, ic_lt, ic_inj, and15, and7, and31, and63, shl1, shr_ok, neg_1, neg_2, neg_3, neg_4, kc_lt0, kc_ic, kc_m2, kc_1, kc_0, i0_add, add_i0, or_i0, z_8, z_4, z_64, z_256, ic_m2, ec_m1, ic_m1, m1_lt0, m2_lt0, m3_lt0, m4_lt0, up_s, if_true, if_false, ne_eq, not_true_eq_false, not_false_eq_true, Bool.false_eq_true, eq_self, or_self, or_false, false_or, and_self, and_true, true_and, ite_self, Nat.reduceEqDiff, Nat.reduceLT, Nat.reduceMod, Nat.reduceMul, Nat.reduceAdd, Nat.reducePow, Nat.reduceDiv, lt_2, lt_3, lt_4, lt_5, lt_6, lt_7, lt_8, lt_10, lt_11, lt_12, lt_15, lt_16, lt_18, lt_20, lt_24, lt_31, lt_32, lt_48, lt_57, lt_59, lt_63, lt_64, lt_74, lt_75, lt_97, lt_122, lt_128, lt_144, lt_145, lt_146, lt_147, lt_155, lt_163, lt_171, lt_179, lt_200, lt_243, lt_244, lt_255, lt_256, lt_732, lt_900, lt_3660, lt_3904, lt_4095, lt_65536, lt_65537, lt_252645135, lt_858993459, lt_1431655765, ↓p_has_b, p_has, ↓p_has9_b, p_has9, ↓p_bit_b, p_bit, ↓p_bit1_b, p_bit1, ↓p_bit0_b, p_bit0, p_X9_asTold_2, hk, hL.t, hL.x, if_inB hL.xt]
    · rw [up_i]
      by_cases d : j = k
      · rw [if_pos d]
      · rw [if_neg d]; exact hc.2 j (by omega)
  · obtain ⟨I', e, h⟩ := s2 c hc.1 hc.2
    refine ⟨_, ?_, I', rfl, h⟩
    simp (maxSteps := 1000000) (disch := omega) only [↓reduceIte, ↓if_bi0, ↓if_bi1, hp_tg, hp_rI, hp_rR, hp_rL, hp_wI, hp_wL, Option.bind_some, if_11, if_01, bi_and1, i10, i01, bi_t, bi_f, ic_add, mr_4, ml_4, mr_8, ml_8, mr_10, ml_10, ic_add1, ic_sub1, ic_clamp, ic_div, ic_irm, ic_lt0, ic_0lt, ic_eq0, ic_lt, ic_inj, and15, and7, and31, and63, shl1, shr_ok, neg_1, neg_2, neg_3, neg_4, kc_lt0, kc_ic, kc_m2, kc_1, kc_0, i0_add, add_i0, or_i0, z_8, z_4, z_64, z_256, ic_m2, ec_m1, ic_m1, m1_lt0, m2_lt0, m3_lt0, m4_lt0, up_s, if_true, if_false, ne_eq, not_true_eq_false, not_false_eq_true, Bool.false_eq_true, eq_self, or_self, or_false, false_or, and_self, and_true, true_and, ite_self, Nat.reduceEqDiff, Nat.reduceLT, Nat.reduceMod, Nat.reduceMul, Nat.reduceAdd, Nat.reducePow, Nat.reduceDiv, lt_2, lt_3, lt_4, lt_5, lt_6, lt_7, lt_8, lt_10, lt_11, lt_12, lt_15, lt_16, lt_18, lt_20, lt_24, lt_31, lt_32, lt_48, lt_57, lt_59, lt_63, lt_64, lt_74, lt_75, lt_97, lt_122, lt_128, lt_144, lt_145, lt_146, lt_147, lt_155, lt_163, lt_171, lt_179, lt_200, lt_243, lt_244, lt_255, lt_256, lt_732, lt_900, lt_3660, lt_3904, lt_4095, lt_65536, lt_65537, lt_252645135, lt_858993459, lt_1431655765, ↓p_has_b, p_has, ↓p_has9_b, p_has9, ↓p_bit_b, p_bit, ↓p_bit1_b, p_bit1, ↓p_bit0_b, p_bit0, p_X9_asTold_2, Nat.lt_irrefl]
    exact e
end TOLD
