/-! ===== one token on: the class and the reference ===== -/
theorem up_cm {α : Type} (f : Nat → Nat → α) {a k j : Nat} (v w : α) (h : k ≠ j) : up2 (up2 f a k v) a j w = up2 (up2 f a j w) a k v := by
  funext c i
  unfold up2
  by_cases h1 : c = a ∧ i = j
  · have h2 : ¬ (c = a ∧ i = k) := fun q => h (q.2.symm.trans h1.2)
    simp only [if_pos h1, if_neg h2]
  · by_cases h2 : c = a ∧ i = k
    · simp only [if_neg h1, if_pos h2]
    · simp only [if_neg h1, if_neg h2]
def CT (I : II) (x : Nat) (k : Nat × Nat × Nat × Nat) : Prop := I x 3 = ic k.1 ∧ I x 4 = ic k.2.1 ∧ I x 5 = ic k.2.2.1 ∧ (k.1 = 2 → I x 6 = ic k.2.2.2)
section ADV
variable {S : SH} {I : II} {L : LL} {x m n p : Nat} {b : Nat → Nat}
theorem fr_le (hp9 : p ≤ n) : p ≤ tFr b n p ∧ tFr b n p ≤ n := by
  have := @rl_le (fun k => decide (b k = 32)) (n - p) p
  unfold tFr
  omega
theorem k_adv (hL : XL S x) (hT : TP I (x + 1) b) (h2 : I x 2 = ic n) (hn : n ≤ 900) (h5 : I x 5 = ic p) (hp9 : p ≤ n) : ∃ I', p_X5_advance x (hp S I L) = some (hp S I' L) ∧ CT I' x (tok b n p) ∧ (∀ j, j < 3 ∨ 6 < j → I' x j = I x j) ∧ ∀ y, y ≠ x → I' y = I y := by
  obtain ⟨f1, f2⟩ := @fr_le n p b hp9
  have A := k_sp (L := L) hL hT h2 hn (n - p) p FU (by omega) (fu_lt (by omega))
  rw [show rl (fun k => decide (b k = 32)) (n - p) p = tFr b n p from rfl] at A
  have e0 : p_X5_advance x (hp S I L) = p_X5_advance_45 x (hp S (up2 I x 4 (ic (tFr b n p))) L) := by
    unfold p_X5_advance
    simp only [↓reduceIte, ↓if_bi0, hp_tg, hp_rR, hp_rI, hp_wI, eq_self, bi_t, bi_f, i10, if_true, if_false, Bool.false_eq_true, hL.1, h5]
    exact A
  rw [e0]
  have tk : tok b n p = if n ≤ tFr b n p then (0, tFr b n p, tFr b n p, 0) else if sml (b (tFr b n p)) = true then (if rl (fun k => sml (b k)) (n - tFr b n p) (tFr b n p) - tFr b n p ≤ 8 then 1 else 4, tFr b n p, rl (fun k => sml (b k)) (n - tFr b n p) (tFr b n p), 0) else if dgt (b (tFr b n p)) = true then (if rl (fun k => dgt (b k)) (n - tFr b n p) (tFr b n p) - tFr b n p ≤ 4 then 2 else 4, tFr b n p, rl (fun k => dgt (b k)) (n - tFr b n p) (tFr b n p), vnm b (tFr b n p) (rl (fun k => dgt (b k)) (n - tFr b n p) (tFr b n p) - tFr b n p)) else (if b (tFr b n p) = 59 then 3 else 4, tFr b n p, tFr b n p + 1, 0) := rfl
  rw [tk]
  clear tk e0 A
  generalize tFr b n p = f at *
  have i4T : ∀ (k : Nat) (v : Int32), TP (up2 (up2 I x 4 (ic f)) x k v) (x + 1) b := fun k v j hj => by rw [up_a (by omega), up_a (by omega)]; exact hT j hj
  have i4 : TP (up2 I x 4 (ic f)) (x + 1) b := fun j hj => by rw [up_a (by omega)]; exact hT j hj
  have i42 : up2 I x 4 (ic f) x 2 = ic n := by rw [up_k (by omega)]; exact h2
  have i52 : up2 (up2 I x 4 (ic f)) x 5 (ic f) x 2 = ic n := by rw [up_k (by omega)]; exact i42
  have i54 : up2 (up2 I x 4 (ic f)) x 5 (ic f) x 4 = ic f := by rw [up_k (by omega), up_s]
  by_cases c1 : n ≤ f
  · rw [if_pos c1]
    have B1 := by5_out (L := L) hL i52 hn (p := f) (by omega) (by omega)
    refine ⟨up2 (up2 (up2 I x 4 (ic f)) x 5 (ic f)) x 3 0, ?_, ⟨up_s _ _ _ _, by rw [up_k (by omega)]; exact i54, by rw [up_k (by omega), up_s], fun h => by cases h⟩, fun j hj => by rw [up_k (by omega), up_k (by omega), up_k (by omega)], fun y hy => funext fun j => by rw [up_a hy, up_a hy, up_a hy]⟩
    have s1 := p_sml5m (hp S (up2 (up2 I x 4 (ic f)) x 5 (ic f)) L)
    have d1 := p_dgt5m (hp S (up2 (up2 I x 4 (ic f)) x 5 (ic f)) L)
    simp (maxSteps := 1000000) (disch := omega) only [↓reduceIte, ↓if_bi0, ↓if_bi1, hp_tg, hp_rI, hp_rR, hp_rL, hp_wI, hp_wL, Option.bind_some, if_11, if_01, bi_and1, i10, i01, bi_t, bi_f, ic_add, mr_4, ml_4, mr_8, ml_8, mr_10, ml_10, ic_add1, ic_sub1, ic_clamp, ic_div, ic_irm, ic_lt0, ic_0lt, ic_eq0, ic_lt, ic_inj, and15, and7, and31, and63, shl1, shr_ok, neg_1, neg_2, neg_3, neg_4, kc_lt0, kc_ic, kc_m2, kc_1, kc_0, i0_add, add_i0, or_i0, z_8, z_4, z_64, z_256, ic_m2, ec_m1, ic_m1, m1_lt0, m2_lt0, m3_lt0, m4_lt0, up_s, if_true, if_false, ne_eq, not_true_eq_false, not_false_eq_true, Bool.false_eq_true, eq_self, or_self, or_false, false_or, and_self, and_true, true_and, ite_self, Nat.reduceEqDiff, Nat.reduceLT, Nat.reduceMod, Nat.reduceMul, Nat.reduceAdd, Nat.reducePow, Nat.reduceDiv, lt_2, lt_3, lt_4, lt_5, lt_6, lt_7, lt_8, lt_10, lt_11, lt_12, lt_15, lt_16, lt_18, lt_20, lt_24, lt_31, lt_32, lt_48, lt_57, lt_59, lt_63, lt_64, lt_74, lt_75, lt_97, lt_122, lt_128, lt_144, lt_145, lt_146, lt_147, lt_155, lt_163, lt_171, lt_179, lt_200, lt_243, lt_244, lt_255, lt_256, lt_732, lt_900, lt_3660, lt_3904, lt_4095, lt_65536, lt_65537, lt_252645135, lt_858993459, lt_1431655765, ↓p_has_b, p_has, ↓p_has9_b, p_has9, ↓p_bit_b, p_bit, ↓p_bit1_b, p_bit1, ↓p_bit0_b, p_bit0, p_X5_advance_45, p_X5_advance_269, hL.1, i54, ↓bnd (B1), B1, ↓bnd (s1), s1, ↓bnd (d1), d1]
  · rw [if_neg c1]
    have B1 := by5_in (L := L) hL (i4T 5 (ic f)) i52 hn (p := f) (by omega)
    have hb := (hT f (by omega)).1
    have s1 := p_sml5 hb (hp S (up2 (up2 I x 4 (ic f)) x 5 (ic f)) L)
    have d1 := p_dgt5 hb (hp S (up2 (up2 I x 4 (ic f)) x 5 (ic f)) L)
    by_cases c2 : sml (b f) = true
    · rw [if_pos c2]
      rw [c2] at s1
      have W := k_sm (L := L) hL i4 i42 hn (n - f) f FU (by omega) (fu_lt (by omega))
      have rb := @rl_le (fun k => sml (b k)) (n - f) f
      generalize rl (fun k => sml (b k)) (n - f) f = t at *
      have e1 : p_X5_advance_45 x (hp S (up2 I x 4 (ic f)) L) = p_X5_advance_107 x (hp S (up2 (up2 I x 4 (ic f)) x 5 (ic t)) L) := by
        simp (maxSteps := 1000000) (disch := omega) only [↓reduceIte, ↓if_bi0, ↓if_bi1, hp_tg, hp_rI, hp_rR, hp_rL, hp_wI, hp_wL, Option.bind_some, if_11, if_01, bi_and1, i10, i01, bi_t, bi_f, ic_add, mr_4, ml_4, mr_8, ml_8, mr_10, ml_10, ic_add1, ic_sub1, ic_clamp, ic_div, ic_irm, ic_lt0, ic_0lt, ic_eq0, ic_lt, ic_inj, and15, and7, and31, and63, shl1, shr_ok, neg_1, neg_2, neg_3, neg_4, kc_lt0, kc_ic, kc_m2, kc_1, kc_0, i0_add, add_i0, or_i0, z_8, z_4, z_64, z_256, ic_m2, ec_m1, ic_m1, m1_lt0, m2_lt0, m3_lt0, m4_lt0, up_s, if_true, if_false, ne_eq, not_true_eq_false, not_false_eq_true, Bool.false_eq_true, eq_self, or_self, or_false, false_or, and_self, and_true, true_and, ite_self, Nat.reduceEqDiff, Nat.reduceLT, Nat.reduceMod, Nat.reduceMul, Nat.reduceAdd, Nat.reducePow, Nat.reduceDiv, lt_2, lt_3, lt_4, lt_5, lt_6, lt_7, lt_8, lt_10, lt_11, lt_12, lt_15, lt_16, lt_18, lt_20, lt_24, lt_31, lt_32, lt_48, lt_57, lt_59, lt_63, lt_64, lt_74, lt_75, lt_97, lt_122, lt_128, lt_144, lt_145, lt_146, lt_147, lt_155, lt_163, lt_171, lt_179, lt_200, lt_243, lt_244, lt_255, lt_256, lt_732, lt_900, lt_3660, lt_3904, lt_4095, lt_65536, lt_65537, lt_252645135, lt_858993459, lt_1431655765, ↓p_has_b, p_has, ↓p_has9_b, p_has9, ↓p_bit_b, p_bit, ↓p_bit1_b, p_bit1, ↓p_bit0_b, p_bit0, p_X5_advance_45, hL.1, i54, ↓bnd (B1), B1, ↓bnd (s1), s1]
        exact W
      rw [e1]
      have j4 : up2 (up2 I x 4 (ic f)) x 5 (ic t) x 4 = ic f := by rw [up_k (by omega), up_s]
      refine ⟨up2 (up2 (up2 I x 4 (ic f)) x 5 (ic t)) x 3 (ic (if t - f ≤ 8 then 1 else 4)), ?_, ⟨up_s _ _ _ _, by rw [up_k (by omega)]; exact j4, by rw [up_k (by omega), up_s], fun h => ?_⟩, fun j hj => by rw [up_k (by omega), up_k (by omega), up_k (by omega)], fun y hy => funext fun j => by rw [up_a hy, up_a hy, up_a hy]⟩
      · by_cases c3 : t - f ≤ 8
        · rw [if_pos c3]; simp (maxSteps := 1000000) (disch := omega) only [↓reduceIte, ↓if_bi0, ↓if_bi1, hp_tg, hp_rI, hp_rR, hp_rL, hp_wI, hp_wL, Option.bind_some, if_11, if_01, bi_and1, i10, i01, bi_t, bi_f, ic_add, mr_4, ml_4, mr_8, ml_8, mr_10, ml_10, ic_add1, ic_sub1, ic_clamp, ic_div, ic_irm, ic_lt0, ic_0lt, ic_eq0, ic_lt, ic_inj, and15, and7, and31, and63, shl1, shr_ok, neg_1, neg_2, neg_3, neg_4, kc_lt0, kc_ic, kc_m2, kc_1, kc_0, i0_add, add_i0, or_i0, z_8, z_4, z_64, z_256, ic_m2, ec_m1, ic_m1, m1_lt0, m2_lt0, m3_lt0, m4_lt0, up_s, if_true, if_false, ne_eq, not_true_eq_false, not_false_eq_true, Bool.false_eq_true, eq_self, or_self, or_false, false_or, and_self, and_true, true_and, ite_self, Nat.reduceEqDiff, Nat.reduceLT, Nat.reduceMod, Nat.reduceMul, Nat.reduceAdd, Nat.reducePow, Nat.reduceDiv, lt_2, lt_3, lt_4, lt_5, lt_6, lt_7, lt_8, lt_10, lt_11, lt_12, lt_15, lt_16, lt_18, lt_20, lt_24, lt_31, lt_32, lt_48, lt_57, lt_59, lt_63, lt_64, lt_74, lt_75, lt_97, lt_122, lt_128, lt_144, lt_145, lt_146, lt_147, lt_155, lt_163, lt_171, lt_179, lt_200, lt_243, lt_244, lt_255, lt_256, lt_732, lt_900, lt_3660, lt_3904, lt_4095, lt_65536, lt_65537, lt_252645135, lt_858993459, lt_1431655765, ↓p_has_b, p_has, ↓p_has9_b, p_has9, ↓p_bit_b, p_bit, ↓p_bit1_b, p_bit1, ↓p_bit0_b, p_bit0, p_X5_advance_107, p_X5_advance_127, p_X5_advance_269, hL.1, j4, ic_sub rb.1, show ¬ 8 < t - f by omega]; rfl
        · rw [if_neg c3]; simp (maxSteps := 1000000) (disch := omega) only [↓reduceIte, ↓if_bi0, ↓if_bi1, hp_tg, hp_rI, hp_rR, hp_rL, hp_wI, hp_wL, Option.bind_some, if_11, if_01, bi_and1, i10, i01, bi_t, bi_f, ic_add, mr_4, ml_4, mr_8, ml_8, mr_10, ml_10, ic_add1, ic_sub1, ic_clamp, ic_div, ic_irm, ic_lt0, ic_0lt, ic_eq0, ic_lt, ic_inj, and15, and7, and31, and63, shl1, shr_ok, neg_1, neg_2, neg_3, neg_4, kc_lt0, kc_ic, kc_m2, kc_1, kc_0, i0_add, add_i0, or_i0, z_8, z_4, z_64, z_256, ic_m2, ec_m1, ic_m1, m1_lt0, m2_lt0, m3_lt0, m4_lt0, up_s, if_true, if_false, ne_eq, not_true_eq_false, not_false_eq_true, Bool.false_eq_true, eq_self, or_self, or_false, false_or, and_self, and_true, true_and, ite_self, Nat.reduceEqDiff, Nat.reduceLT, Nat.reduceMod, Nat.reduceMul, Nat.reduceAdd, Nat.reducePow, Nat.reduceDiv, lt_2, lt_3, lt_4, lt_5, lt_6, lt_7, lt_8, lt_10, lt_11, lt_12, lt_15, lt_16, lt_18, lt_20, lt_24, lt_31, lt_32, lt_48, lt_57, lt_59, lt_63, lt_64, lt_74, lt_75, lt_97, lt_122, lt_128, lt_144, lt_145, lt_146, lt_147, lt_155, lt_163, lt_171, lt_179, lt_200, lt_243, lt_244, lt_255, lt_256, lt_732, lt_900, lt_3660, lt_3904, lt_4095, lt_65536, lt_65537, lt_252645135, lt_858993459, lt_1431655765, ↓p_has_b, p_has, ↓p_has9_b, p_has9, ↓p_bit_b, p_bit, ↓p_bit1_b, p_bit1, ↓p_bit0_b, p_bit0, p_X5_advance_107, p_X5_advance_127, p_X5_advance_269, hL.1, j4, ic_sub rb.1, show 8 < t - f by omega]
      · dsimp only at h
        by_cases c3 : t - f ≤ 8
        · rw [if_pos c3] at h; omega
        · rw [if_neg c3] at h; omega
    · rw [if_neg c2]
      rw [show sml (b f) = false by simpa using c2] at s1
      by_cases c3 : dgt (b f) = true
      · rw [if_pos c3]
        rw [c3] at d1
        have W := k_dg (L := L) hL i4 i42 hn (f0 := f) (n - f) f FU (by omega) (fu_lt (by omega)) (Nat.le_refl _)
        rw [Nat.sub_self, show vnm b f 0 = 0 from rfl] at W
        have rb := @rl_le (fun k => dgt (b k)) (n - f) f
        generalize rl (fun k => dgt (b k)) (n - f) f = t at *
        have e1 : p_X5_advance_45 x (hp S (up2 I x 4 (ic f)) L) = p_X5_advance_206 x (hp S (up2 (up2 (up2 I x 4 (ic f)) x 6 (ic (vnm b f (t - f)))) x 5 (ic t)) L) := by
          simp (maxSteps := 1000000) (disch := omega) only [↓reduceIte, ↓if_bi0, ↓if_bi1, hp_tg, hp_rI, hp_rR, hp_rL, hp_wI, hp_wL, Option.bind_some, if_11, if_01, bi_and1, i10, i01, bi_t, bi_f, ic_add, mr_4, ml_4, mr_8, ml_8, mr_10, ml_10, ic_add1, ic_sub1, ic_clamp, ic_div, ic_irm, ic_lt0, ic_0lt, ic_eq0, ic_lt, ic_inj, and15, and7, and31, and63, shl1, shr_ok, neg_1, neg_2, neg_3, neg_4, kc_lt0, kc_ic, kc_m2, kc_1, kc_0, i0_add, add_i0, or_i0, z_8, z_4, z_64, z_256, ic_m2, ec_m1, ic_m1, m1_lt0, m2_lt0, m3_lt0, m4_lt0, up_s, if_true, if_false, ne_eq, not_true_eq_false, not_false_eq_true, Bool.false_eq_true, eq_self, or_self, or_false, false_or, and_self, and_true, true_and, ite_self, Nat.reduceEqDiff, Nat.reduceLT, Nat.reduceMod, Nat.reduceMul, Nat.reduceAdd, Nat.reducePow, Nat.reduceDiv, lt_2, lt_3, lt_4, lt_5, lt_6, lt_7, lt_8, lt_10, lt_11, lt_12, lt_15, lt_16, lt_18, lt_20, lt_24, lt_31, lt_32, lt_48, lt_57, lt_59, lt_63, lt_64, lt_74, lt_75, lt_97, lt_122, lt_128, lt_144, lt_145, lt_146, lt_147, lt_155, lt_163, lt_171, lt_179, lt_200, lt_243, lt_244, lt_255, lt_256, lt_732, lt_900, lt_3660, lt_3904, lt_4095, lt_65536, lt_65537, lt_252645135, lt_858993459, lt_1431655765, ↓p_has_b, p_has, ↓p_has9_b, p_has9, ↓p_bit_b, p_bit, ↓p_bit1_b, p_bit1, ↓p_bit0_b, p_bit0, p_X5_advance_45, hL.1, i54, ↓bnd (B1), B1, ↓bnd (s1), s1, ↓bnd (d1), d1]
          rw [up_cm _ _ _ (by omega)]
          exact W
        rw [e1]
        have j4 : up2 (up2 (up2 I x 4 (ic f)) x 6 (ic (vnm b f (t - f)))) x 5 (ic t) x 4 = ic f := by rw [up_k (by omega), up_k (by omega), up_s]
        refine ⟨up2 (up2 (up2 (up2 I x 4 (ic f)) x 6 (ic (vnm b f (t - f)))) x 5 (ic t)) x 3 (ic (if t - f ≤ 4 then 2 else 4)), ?_, ⟨up_s _ _ _ _, by rw [up_k (by omega)]; exact j4, by rw [up_k (by omega), up_s], fun _ => by rw [up_k (by omega), up_k (by omega), up_s]⟩, fun j hj => by rw [up_k (by omega), up_k (by omega), up_k (by omega), up_k (by omega)], fun y hy => funext fun j => by rw [up_a hy, up_a hy, up_a hy, up_a hy]⟩
        by_cases c4 : t - f ≤ 4
        · rw [if_pos c4]; simp (maxSteps := 1000000) (disch := omega) only [↓reduceIte, ↓if_bi0, ↓if_bi1, hp_tg, hp_rI, hp_rR, hp_rL, hp_wI, hp_wL, Option.bind_some, if_11, if_01, bi_and1, i10, i01, bi_t, bi_f, ic_add, mr_4, ml_4, mr_8, ml_8, mr_10, ml_10, ic_add1, ic_sub1, ic_clamp, ic_div, ic_irm, ic_lt0, ic_0lt, ic_eq0, ic_lt, ic_inj, and15, and7, and31, and63, shl1, shr_ok, neg_1, neg_2, neg_3, neg_4, kc_lt0, kc_ic, kc_m2, kc_1, kc_0, i0_add, add_i0, or_i0, z_8, z_4, z_64, z_256, ic_m2, ec_m1, ic_m1, m1_lt0, m2_lt0, m3_lt0, m4_lt0, up_s, if_true, if_false, ne_eq, not_true_eq_false, not_false_eq_true, Bool.false_eq_true, eq_self, or_self, or_false, false_or, and_self, and_true, true_and, ite_self, Nat.reduceEqDiff, Nat.reduceLT, Nat.reduceMod, Nat.reduceMul, Nat.reduceAdd, Nat.reducePow, Nat.reduceDiv, lt_2, lt_3, lt_4, lt_5, lt_6, lt_7, lt_8, lt_10, lt_11, lt_12, lt_15, lt_16, lt_18, lt_20, lt_24, lt_31, lt_32, lt_48, lt_57, lt_59, lt_63, lt_64, lt_74, lt_75, lt_97, lt_122, lt_128, lt_144, lt_145, lt_146, lt_147, lt_155, lt_163, lt_171, lt_179, lt_200, lt_243, lt_244, lt_255, lt_256, lt_732, lt_900, lt_3660, lt_3904, lt_4095, lt_65536, lt_65537, lt_252645135, lt_858993459, lt_1431655765, ↓p_has_b, p_has, ↓p_has9_b, p_has9, ↓p_bit_b, p_bit, ↓p_bit1_b, p_bit1, ↓p_bit0_b, p_bit0, p_X5_advance_206, p_X5_advance_225, p_X5_advance_269, hL.1, j4, ic_sub rb.1, show ¬ 4 < t - f by omega]
        · rw [if_neg c4]; simp (maxSteps := 1000000) (disch := omega) only [↓reduceIte, ↓if_bi0, ↓if_bi1, hp_tg, hp_rI, hp_rR, hp_rL, hp_wI, hp_wL, Option.bind_some, if_11, if_01, bi_and1, i10, i01, bi_t, bi_f, ic_add, mr_4, ml_4, mr_8, ml_8, mr_10, ml_10, ic_add1, ic_sub1, ic_clamp, ic_div, ic_irm, ic_lt0, ic_0lt, ic_eq0, ic_lt, ic_inj, and15, and7, and31, and63, shl1, shr_ok, neg_1, neg_2, neg_3, neg_4, kc_lt0, kc_ic, kc_m2, kc_1, kc_0, i0_add, add_i0, or_i0, z_8, z_4, z_64, z_256, ic_m2, ec_m1, ic_m1, m1_lt0, m2_lt0, m3_lt0, m4_lt0, up_s, if_true, if_false, ne_eq, not_true_eq_false, not_false_eq_true, Bool.false_eq_true, eq_self, or_self, or_false, false_or, and_self, and_true, true_and, ite_self, Nat.reduceEqDiff, Nat.reduceLT, Nat.reduceMod, Nat.reduceMul, Nat.reduceAdd, Nat.reducePow, Nat.reduceDiv, lt_2, lt_3, lt_4, lt_5, lt_6, lt_7, lt_8, lt_10, lt_11, lt_12, lt_15, lt_16, lt_18, lt_20, lt_24, lt_31, lt_32, lt_48, lt_57, lt_59, lt_63, lt_64, lt_74, lt_75, lt_97, lt_122, lt_128, lt_144, lt_145, lt_146, lt_147, lt_155, lt_163, lt_171, lt_179, lt_200, lt_243, lt_244, lt_255, lt_256, lt_732, lt_900, lt_3660, lt_3904, lt_4095, lt_65536, lt_65537, lt_252645135, lt_858993459, lt_1431655765, ↓p_has_b, p_has, ↓p_has9_b, p_has9, ↓p_bit_b, p_bit, ↓p_bit1_b, p_bit1, ↓p_bit0_b, p_bit0, p_X5_advance_206, p_X5_advance_225, p_X5_advance_269, hL.1, j4, ic_sub rb.1, show 4 < t - f by omega]
      · rw [if_neg c3]
        rw [show dgt (b f) = false by simpa using c3] at d1
        have k5 : ∀ v : Int32, up2 (up2 (up2 I x 4 (ic f)) x 5 (ic f)) x 3 v x 5 = ic f := fun v => by rw [up_k (by omega), up_s]
        refine ⟨up2 (up2 (up2 (up2 I x 4 (ic f)) x 5 (ic f)) x 3 (ic (if b f = 59 then 3 else 4))) x 5 (ic (f + 1)), ?_, ⟨by rw [up_k (by omega), up_s], by rw [up_k (by omega), up_k (by omega)]; exact i54, up_s _ _ _ _, fun h => ?_⟩, fun j hj => by rw [up_k (by omega), up_k (by omega), up_k (by omega), up_k (by omega)], fun y hy => funext fun j => by rw [up_a hy, up_a hy, up_a hy, up_a hy]⟩
        · by_cases c4 : b f = 59
          · rw [if_pos c4]
            rw [c4] at B1 s1 d1
            have k5 := k5 (ic 3)
            simp (maxSteps := 1000000) (disch := omega) only [↓reduceIte, ↓if_bi0, ↓if_bi1, hp_tg, hp_rI, hp_rR, hp_rL, hp_wI, hp_wL, Option.bind_some, if_11, if_01, bi_and1, i10, i01, bi_t, bi_f, ic_add, mr_4, ml_4, mr_8, ml_8, mr_10, ml_10, ic_add1, ic_sub1, ic_clamp, ic_div, ic_irm, ic_lt0, ic_0lt, ic_eq0, ic_lt, ic_inj, and15, and7, and31, and63, shl1, shr_ok, neg_1, neg_2, neg_3, neg_4, kc_lt0, kc_ic, kc_m2, kc_1, kc_0, i0_add, add_i0, or_i0, z_8, z_4, z_64, z_256, ic_m2, ec_m1, ic_m1, m1_lt0, m2_lt0, m3_lt0, m4_lt0, up_s, if_true, if_false, ne_eq, not_true_eq_false, not_false_eq_true, Bool.false_eq_true, eq_self, or_self, or_false, false_or, and_self, and_true, true_and, ite_self, Nat.reduceEqDiff, Nat.reduceLT, Nat.reduceMod, Nat.reduceMul, Nat.reduceAdd, Nat.reducePow, Nat.reduceDiv, lt_2, lt_3, lt_4, lt_5, lt_6, lt_7, lt_8, lt_10, lt_11, lt_12, lt_15, lt_16, lt_18, lt_20, lt_24, lt_31, lt_32, lt_48, lt_57, lt_59, lt_63, lt_64, lt_74, lt_75, lt_97, lt_122, lt_128, lt_144, lt_145, lt_146, lt_147, lt_155, lt_163, lt_171, lt_179, lt_200, lt_243, lt_244, lt_255, lt_256, lt_732, lt_900, lt_3660, lt_3904, lt_4095, lt_65536, lt_65537, lt_252645135, lt_858993459, lt_1431655765, ↓p_has_b, p_has, ↓p_has9_b, p_has9, ↓p_bit_b, p_bit, ↓p_bit1_b, p_bit1, ↓p_bit0_b, p_bit0, p_X5_advance_45, p_X5_advance_256, p_X5_advance_269, hL.1, i54, ↓bnd (B1), B1, ↓bnd (s1), s1, ↓bnd (d1), d1, c4, k5]
          · rw [if_neg c4]
            have k5 := k5 (ic 4)
            simp (maxSteps := 1000000) (disch := omega) only [↓reduceIte, ↓if_bi0, ↓if_bi1, hp_tg, hp_rI, hp_rR, hp_rL, hp_wI, hp_wL, Option.bind_some, if_11, if_01, bi_and1, i10, i01, bi_t, bi_f, ic_add, mr_4, ml_4, mr_8, ml_8, mr_10, ml_10, ic_add1, ic_sub1, ic_clamp, ic_div, ic_irm, ic_lt0, ic_0lt, ic_eq0, ic_lt, ic_inj, and15, and7, and31, and63, shl1, shr_ok, neg_1, neg_2, neg_3, neg_4, kc_lt0, kc_ic, kc_m2, kc_1, kc_0, i0_add, add_i0, or_i0, z_8, z_4, z_64, z_256, ic_m2, ec_m1, ic_m1, m1_lt0, m2_lt0, m3_lt0, m4_lt0, up_s, if_true, if_false, ne_eq, not_true_eq_false, not_false_eq_true, Bool.false_eq_true, eq_self, or_self, or_false, false_or, and_self, and_true, true_and, ite_self, Nat.reduceEqDiff, Nat.reduceLT, Nat.reduceMod, Nat.reduceMul, Nat.reduceAdd, Nat.reducePow, Nat.reduceDiv, lt_2, lt_3, lt_4, lt_5, lt_6, lt_7, lt_8, lt_10, lt_11, lt_12, lt_15, lt_16, lt_18, lt_20, lt_24, lt_31, lt_32, lt_48, lt_57, lt_59, lt_63, lt_64, lt_74, lt_75, lt_97, lt_122, lt_128, lt_144, lt_145, lt_146, lt_147, lt_155, lt_163, lt_171, lt_179, lt_200, lt_243, lt_244, lt_255, lt_256, lt_732, lt_900, lt_3660, lt_3904, lt_4095, lt_65536, lt_65537, lt_252645135, lt_858993459, lt_1431655765, ↓p_has_b, p_has, ↓p_has9_b, p_has9, ↓p_bit_b, p_bit, ↓p_bit1_b, p_bit1, ↓p_bit0_b, p_bit0, p_X5_advance_45, p_X5_advance_256, p_X5_advance_269, hL.1, i54, ↓bnd (B1), B1, ↓bnd (s1), s1, ↓bnd (d1), d1, c4, k5]
        · dsimp only at h
          by_cases c4 : b f = 59
          · rw [if_pos c4] at h; omega
          · rw [if_neg c4] at h; omega
end ADV
