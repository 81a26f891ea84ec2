/-! ===== runs ===== -/
def rn1 (pl y : Nat) (r : St × Nat × Nat × Nat) : St × Nat × Nat × Nat := ((rch r.1 pl (y / 4) ((y % 4).testBit 0) ((y % 4).testBit 1)).1, r.2.1 + b2 (!(rch r.1 pl (y / 4) ((y % 4).testBit 0) ((y % 4).testBit 1)).2.2.2.2) 1, r.2.2.1 + b2 (decide ((rch r.1 pl (y / 4) ((y % 4).testBit 0) ((y % 4).testBit 1)).2.1 < 3)) 1, r.2.2.2 + (rch r.1 pl (y / 4) ((y % 4).testBit 0) ((y % 4).testBit 1)).2.2.1)
def rnS (s : St) (pl : Nat) (Y : Nat → Nat) (k : Nat) : St × Nat × Nat × Nat := fo (fun i r => rn1 pl (Y i) r) k 0 (s, 0, 0, 0)
theorem rnS_s (s : St) (pl : Nat) (Y : Nat → Nat) (k : Nat) : rnS s pl Y (k + 1) = rn1 pl (Y k) (rnS s pl Y k) := by unfold rnS; rw [fo_last, Nat.zero_add]
theorem b2_1le (b : Bool) : b2 b 1 ≤ 1 := by cases b <;> decide
theorem bi_b2 (b : Bool) : bi b = ic (b2 b 1) := by cases b <;> rfl
def rnT (T : TS) (pl : Nat) : St × Nat × Nat × Nat := rnS (fresh (tG T)) pl (tY T) (tN T)
theorem rn_inv {s : St} {pl : Nat} (hV : Inv s pl) {Y : Nat → Nat} : ∀ {k : Nat}, (∀ i, i < k → Y i < 256) → Inv (rnS s pl Y k).1 pl ∧ sc (rnS s pl Y k).1 ≤ sc s + 2 * k ∧ (rnS s pl Y k).2.1 ≤ k ∧ (rnS s pl Y k).2.2.1 ≤ k ∧ (rnS s pl Y k).2.2.2 ≤ 2 * k := by
  intro k
  induction k with
  | zero => intro _; exact ⟨hV, Nat.le_refl _, Nat.le_refl _, Nat.le_refl _, Nat.le_refl _⟩
  | succ k ih =>
    intro hY
    obtain ⟨a, b, c, d, e⟩ := ih fun i hi => hY i (by omega)
    have hy := hY k (by omega)
    rw [rnS_s]
    obtain ⟨u1, u2, u3, -, -⟩ := inv_rch a (v := Y k / 4) (by omega) ((Y k % 4).testBit 0) ((Y k % 4).testBit 1)
    have x1 := b2_1le (!(rch (rnS s pl Y k).1 pl (Y k / 4) ((Y k % 4).testBit 0) ((Y k % 4).testBit 1)).2.2.2.2)
    have x2 := b2_1le (decide ((rch (rnS s pl Y k).1 pl (Y k / 4) ((Y k % 4).testBit 0) ((Y k % 4).testBit 1)).2.1 < 3))
    unfold rn1
    dsimp only
    exact ⟨u1, by omega, by omega, by omega, by omega⟩
section RUNS
variable {S : SH} {I : II} {L : LL} {t m a p e pl : Nat} {s : St} {T : TS} {r : St × Nat × Nat × Nat}
def KN (I : II) (p pl : Nat) (r : St × Nat × Nat × Nat) : Prop := PR I p r.1 pl ∧ I p 4 = ic r.2.1 ∧ I p 5 = ic r.2.2.1 ∧ I p 7 = ic r.2.2.2
def XN (I : II) (m pl : Nat) (r : St × Nat × Nat × Nat) : Prop := RW (I (m + 3)) r.1 ∧ I m 26 = ic pl ∧ I m 27 = ic r.2.1 ∧ I m 29 = ic r.2.2.1 ∧ I m 28 = ic r.2.2.2
theorem k_step (hL : PL S p) (hK : KN I p pl r) (hV : Inv r.1 pl) (hc : sc r.1 < 1073741000) {y : Nat} (hy : y < 256) : ∃ x I', p_X2_reach p (ic (y / 4)) (ic (y % 4)) (hp S I L) = some (x, hp S I' L) ∧ KN I' p pl (rn1 pl y r) ∧ Fr I I' p (p + 9) := by
  obtain ⟨k0, k4, k5, k7⟩ := hK
  obtain ⟨I', e, h1, f, -, h4, h5, -, h7⟩ := k_reach (L := L) hL k0 hV hc (v := y / 4) (by omega) ((y % 4).testBit 0) ((y % 4).testBit 1)
  rw [md_of (y % 4) (by omega)] at e
  exact ⟨_, I', e, ⟨h1, by rw [h4, k4, bi_b2, ic_add]; rfl, by rw [h5, k5, bi_b2, ic_add]; rfl, by rw [h7, k7, ic_add]; rfl⟩, f⟩
theorem x_step (hL : ML S m) (hK : XN I m pl r) (hV : Inv r.1 pl) (hc : sc r.1 < 1073741000) {y : Nat} (hy : y < 256) : ∃ x I', p_X9_reaches m (ic (y / 4)) (bi ((y % 4).testBit 0)) (bi ((y % 4).testBit 1)) (hp S I L) = some (x, hp S I' L) ∧ XN I' m pl (rn1 pl y r) ∧ M3 I I' m ∧ ∀ j, j < 26 ∨ 31 < j → I' m j = I m j := by
  obtain ⟨k0, k6, k7, k9, k8⟩ := hK
  obtain ⟨I', e, h1, f, h7, h8, h9, -, -, h3⟩ := x_reaches (L := L) hL k0 hV hc k6 (v := y / 4) (by omega) ((y % 4).testBit 0) ((y % 4).testBit 1)
  exact ⟨_, I', e, ⟨h1, by rw [h3 26 (by omega)]; exact k6, by rw [h7, k7, bi_b2, ic_add]; rfl, by rw [h9, k9, bi_b2, ic_add]; rfl, by rw [h8, k8, ic_add]; rfl⟩, f, fun j hj => h3 j (by omega)⟩
theorem TR.frp (h : TR I t T) {J : II} (f : Fr I J p (p + 9)) (hd : t + 9 < p ∨ p + 9 < t) : TR J t T := by
  obtain ⟨q1, q2⟩ := h
  refine ⟨q1.fr f (by omega), ?_⟩
  rw [f t (by omega), f (t + 4) (by omega), f (t + 5) (by omega), f (t + 6) (by omega), f (t + 7) (by omega), f (t + 8) (by omega), f (t + 9) (by omega)]
  exact q2
theorem MR.m3 (h : MR I a T) {J : II} (f : M3 I J m) (hm : m + 6 < a) : MR J a T := by
  unfold MR
  rw [f a (by omega) (by omega), f (a + 1) (by omega) (by omega), f (a + 2) (by omega) (by omega), f (a + 3) (by omega) (by omega), f (a + 4) (by omega) (by omega), f (a + 5) (by omega) (by omega), f (a + 6) (by omega) (by omega), f (a + 7) (by omega) (by omega), f (a + 8) (by omega) (by omega), f (a + 9) (by omega) (by omega), f (a + 10) (by omega) (by omega)]
  exact h
theorem oth0 (T : TS) : oth T 0 = tG T := by
  have : ∀ d, dWs T 0 d = sW (tG T) := by
    intro d
    induction d with
    | zero => rfl
    | succ d ih => rw [dWs_succ, Nat.zero_testBit, if_neg (by decide), ih]
  unfold oth
  rw [this]
  rfl
theorem fresh_sc (s : St) : sc (fresh s) = 0 := rfl
/-- the class: a run of the told steps -/
theorem t_runs {z : Nat} (h0 : tT S e = (6, z)) (h1 : tR S e 1 = t) (h5 : tR S e 5 = p) (hT : TL S t) (hR : TR I t T) (hV : TV T) (hL : PL S p) (hw : ∃ w, w < 256 ∧ I (p + 5) 4 = ic w) (hd : t + 9 < p ∨ p + 9 < t) (h3 : 3 ≤ pl) (h8 : pl ≤ 8) : ∃ I', p_X7_runTold e (ic pl) (hp S I L) = some (hp S I' L) ∧ KN I' p pl (rnT T pl) ∧ Fr I I' p (p + 9) := by
  obtain ⟨hn, hy⟩ := hV.2.2.2.1
  obtain ⟨J, e1, p1, f1, -, j4, j5, -, j7⟩ := k_startAnew (I := I) (L := L) (s := tG T) hL (a := t + 1) (t := pl) hT.2.2.1 (by omega) hw hR.1
  have hF : Inv (fresh (tG T)) pl := inv_fresh hV.2.1 h3 h8
  have := lp_to (fun x k (c : II) => p_X7_runTold_17 x e (ic k) (hp S c L)) (tN T) (fun k c => KN c p pl (rnS (fresh (tG T)) pl (tY T) k) ∧ Fr I c p (p + 9)) (fun c => some (hp S c L)) (fun x k c hk hc => ?_) (fun x c hc => ?_) (tN T) 0 FU J (by omega) (fu_lt (by omega)) ⟨⟨p1, j4, j5, j7⟩, f1⟩
  · obtain ⟨I', e2, k2, f2⟩ := this
    refine ⟨I', ?_, k2, f2⟩
    simp (maxSteps := 1000000) (disch := omega) only [↓reduceIte, ↓if_bi0, ↓if_bi1, hp_tg, hp_rI, hp_rR, hp_rL, hp_wI, hp_wL, Option.bind_some, if_11, if_01, bi_and1, i10, i01, bi_t, bi_f, ic_add, mr_4, ml_4, mr_8, ml_8, mr_10, ml_10, ic_add1, ic_sub1, ic_clamp, ic_div, ic_irm, ic_lt0, ic_0lt, ic_eq0, ic_lt, ic_inj, and15, and7, and31, and63, shl1, shr_ok, neg_1, neg_2, neg_3, neg_4, kc_lt0, kc_ic, kc_m2, kc_1, kc_0, i0_add, add_i0, or_i0, z_8, z_4, z_64, z_256, ic_m2, ec_m1, ic_m1, m1_lt0, m2_lt0, m3_lt0, m4_lt0, up_s, if_true, if_false, ne_eq, not_true_eq_false, not_false_eq_true, Bool.false_eq_true, eq_self, or_self, or_false, false_or, and_self, and_true, true_and, ite_self, Nat.reduceEqDiff, Nat.reduceLT, Nat.reduceMod, Nat.reduceMul, Nat.reduceAdd, Nat.reducePow, Nat.reduceDiv, lt_2, lt_3, lt_4, lt_5, lt_6, lt_7, lt_8, lt_10, lt_11, lt_12, lt_15, lt_16, lt_18, lt_20, lt_24, lt_31, lt_32, lt_48, lt_57, lt_59, lt_63, lt_64, lt_74, lt_75, lt_97, lt_122, lt_128, lt_144, lt_145, lt_146, lt_147, lt_155, lt_163, lt_171, lt_179, lt_200, lt_243, lt_244, lt_255, lt_256, lt_732, lt_900, lt_3660, lt_3904, lt_4095, lt_65536, lt_65537, lt_252645135, lt_858993459, lt_1431655765, ↓p_has_b, p_has, ↓p_has9_b, p_has9, ↓p_bit_b, p_bit, ↓p_bit1_b, p_bit1, ↓p_bit0_b, p_bit0, p_X7_runTold, h0, h1, h5, hT.1, hT.2.1, hL.t, ↓bnd (e1), e1]
    exact e2
  · obtain ⟨kc9, fc⟩ := hc
    have hT9 := hR.frp fc hd
    have c6 := hT9.2.2.2.2.2.1.1
    have ck := hT9.2.2.2.2.2.1.2 k hk
    have hyk := hy k hk
    obtain ⟨a1, a2, -⟩ := rn_inv hF (Y := tY T) (k := k) (fun i hi => hy i (by omega))
    rw [fresh_sc] at a2
    obtain ⟨x9, I', e3, k3, f3⟩ := k_step (L := L) hL kc9 a1 (by omega) hyk
    refine ⟨I', ?_, by rw [rnS_s]; exact k3, fc.trans f3⟩
    simp (maxSteps := 1000000) (disch := omega) only [↓reduceIte, ↓if_bi0, ↓if_bi1, hp_tg, hp_rI, hp_rR, hp_rL, hp_wI, hp_wL, Option.bind_some, if_11, if_01, bi_and1, i10, i01, bi_t, bi_f, ic_add, mr_4, ml_4, mr_8, ml_8, mr_10, ml_10, ic_add1, ic_sub1, ic_clamp, ic_div, ic_irm, ic_lt0, ic_0lt, ic_eq0, ic_lt, ic_inj, and15, and7, and31, and63, shl1, shr_ok, neg_1, neg_2, neg_3, neg_4, kc_lt0, kc_ic, kc_m2, kc_1, kc_0, i0_add, add_i0, or_i0, z_8, z_4, z_64, z_256, ic_m2, ec_m1, ic_m1, m1_lt0, m2_lt0, m3_lt0, m4_lt0, up_s, if_true, if_false, ne_eq, not_true_eq_false, not_false_eq_true, Bool.false_eq_true, eq_self, or_self, or_false, false_or, and_self, and_true, true_and, ite_self, Nat.reduceEqDiff, Nat.reduceLT, Nat.reduceMod, Nat.reduceMul, Nat.reduceAdd, Nat.reducePow, Nat.reduceDiv, lt_2, lt_3, lt_4, lt_5, lt_6, lt_7, lt_8, lt_10, lt_11, lt_12, lt_15, lt_16, lt_18, lt_20, lt_24, lt_31, lt_32, lt_48, lt_57, lt_59, lt_63, lt_64, lt_74, lt_75, lt_97, lt_122, lt_128, lt_144, lt_145, lt_146, lt_147, lt_155, lt_163, lt_171, lt_179, lt_200, lt_243, lt_244, lt_255, lt_256, lt_732, lt_900, lt_3660, lt_3904, lt_4095, lt_65536, lt_65537, lt_252645135, lt_858993459, lt_1431655765, ↓p_has_b, p_has, ↓p_has9_b, p_has9, ↓p_bit_b, p_bit, ↓p_bit1_b, p_bit1, ↓p_bit0_b, p_bit0, p_X7_runTold_17, h0, h1, h5, hT.1, hL.t, c6, hk, show k < 10 by omega, hT.2.2.2.2.1.1, if_inB hT.2.2.2.2.1.2, ck, ↓bnd (e3), e3]
  · have c6 := (hR.frp hc.2 hd).2.2.2.2.2.1.1
    simp (maxSteps := 1000000) (disch := omega) only [↓reduceIte, ↓if_bi0, ↓if_bi1, hp_tg, hp_rI, hp_rR, hp_rL, hp_wI, hp_wL, Option.bind_some, if_11, if_01, bi_and1, i10, i01, bi_t, bi_f, ic_add, mr_4, ml_4, mr_8, ml_8, mr_10, ml_10, ic_add1, ic_sub1, ic_clamp, ic_div, ic_irm, ic_lt0, ic_0lt, ic_eq0, ic_lt, ic_inj, and15, and7, and31, and63, shl1, shr_ok, neg_1, neg_2, neg_3, neg_4, kc_lt0, kc_ic, kc_m2, kc_1, kc_0, i0_add, add_i0, or_i0, z_8, z_4, z_64, z_256, ic_m2, ec_m1, ic_m1, m1_lt0, m2_lt0, m3_lt0, m4_lt0, up_s, if_true, if_false, ne_eq, not_true_eq_false, not_false_eq_true, Bool.false_eq_true, eq_self, or_self, or_false, false_or, and_self, and_true, true_and, ite_self, Nat.reduceEqDiff, Nat.reduceLT, Nat.reduceMod, Nat.reduceMul, Nat.reduceAdd, Nat.reducePow, Nat.reduceDiv, lt_2, lt_3, lt_4, lt_5, lt_6, lt_7, lt_8, lt_10, lt_11, lt_12, lt_15, lt_16, lt_18, lt_20, lt_24, lt_31, lt_32, lt_48, lt_57, lt_59, lt_63, lt_64, lt_74, lt_75, lt_97, lt_122, lt_128, lt_144, lt_145, lt_146, lt_147, lt_155, lt_163, lt_171, lt_179, lt_200, lt_243, lt_244, lt_255, lt_256, lt_732, lt_900, lt_3660, lt_3904, lt_4095, lt_65536, lt_65537, lt_252645135, lt_858993459, lt_1431655765, ↓p_has_b, p_has, ↓p_has9_b, p_has9, ↓p_bit_b, p_bit, ↓p_bit1_b, p_bit1, ↓p_bit0_b, p_bit0, p_X7_runTold_17, p_X7_runTold_70, h0, h1, hT.1, c6, Nat.lt_irrefl]
/-- the reference: a run of the told steps -/
theorem x_runs (hL : ML S m) (ha : tR S m 3 = a) (hA : MCL S a) (hm : m + 6 < a) (hR : MR I a T) (hV : TV T) (h3 : 3 ≤ pl) (h8 : pl ≤ 8) : ∃ I', p_X9_runs m (ic pl) (hp S I L) = some (hp S I' L) ∧ XN I' m pl (rnT T pl) ∧ M3 I I' m ∧ ∀ j, j < 26 ∨ 31 < j → I' m j = I m j := by
  obtain ⟨hn, hy⟩ := hV.2.2.2.1
  obtain ⟨J, e1, p1, f1, -, j7, j8, j9, jj⟩ := x_asTold (L := L) hL ha hA hm hR hV (o := 0) (by omega)
  rw [oth0] at p1
  have hF : Inv (fresh (tG T)) pl := inv_fresh hV.2.1 h3 h8
  have fu1 : M3 I (up2 J m 26 (ic pl)) m := fun b u1 u2 => by rw [show up2 J m 26 (ic pl) b = J b from funext fun j => up_a u1]; exact f1 b u1 u2
  have := lp_to (fun x k (c : II) => p_X9_runs_12 x m (ic k) (hp S c L)) (tN T) (fun k c => XN c m pl (rnS (fresh (tG T)) pl (tY T) k) ∧ M3 I c m ∧ ∀ j, j < 26 ∨ 31 < j → c m j = I m j) (fun c => some (hp S c L)) (fun x k c hk hc => ?_) (fun x c hc => ?_) (tN T) 0 FU (up2 J m 26 (ic pl)) (by omega) (fu_lt (by omega)) ⟨⟨by rw [row_up]; exact p1, up_s _ _ _ _, by rw [up_k (by omega)]; exact j7, by rw [up_k (by omega)]; exact j9, by rw [up_k (by omega)]; exact j8⟩, fu1, fun j hj => by rw [up_k (by omega)]; exact jj j (by omega)⟩
  · obtain ⟨I', e2, k2, f2, g2⟩ := this
    refine ⟨I', ?_, k2, f2, g2⟩
    unfold p_X9_runs
    simp only [↓reduceIte, ↓if_bi0, hp_tg, hp_rR, hp_rI, hp_wI, eq_self, bi_t, bi_f, i10, if_true, if_false, Bool.false_eq_true, hL.t]
    refine Eq.trans (bnd e1) ?_
    simp only [↓reduceIte, ↓if_bi0, hp_tg, hp_rR, hp_rI, hp_wI, eq_self, bi_t, bi_f, i10, if_true, if_false, Bool.false_eq_true, hL.t]
    exact e2
  · obtain ⟨kc9, fc, gc⟩ := hc
    have hM := hR.m3 fc hm
    obtain ⟨c5, ck⟩ := hM.2.2.2.2.2.1
    obtain ⟨ck1, ck2⟩ := ck k hk
    have hyk := hy k hk
    obtain ⟨a1, a2, -⟩ := rn_inv hF (Y := tY T) (k := k) (fun i hi => hy i (by omega))
    rw [fresh_sc] at a2
    obtain ⟨x9, I', e3, k3, f3, g3⟩ := x_step (L := L) hL kc9 a1 (by omega) hyk
    refine ⟨I', ?_, by rw [rnS_s]; exact k3, fun b u1 u2 => by rw [f3 b u1 u2]; exact fc b u1 u2, fun j hj => by rw [g3 j hj]; exact gc j hj⟩
    have b0 := p_bit9_0 (w := tY T k % 4) (by omega) (hp S c L)
    have b9 := p_bit9_1 (w := tY T k % 4) (by omega) (hp S c L)
    have hk10 : k < 10 := by omega
    simp (maxSteps := 1000000) (disch := omega) only [↓reduceIte, ↓if_bi0, ↓if_bi1, hp_tg, hp_rI, hp_rR, hp_rL, hp_wI, hp_wL, Option.bind_some, if_11, if_01, bi_and1, i10, i01, bi_t, bi_f, ic_add, mr_4, ml_4, mr_8, ml_8, mr_10, ml_10, ic_add1, ic_sub1, ic_clamp, ic_div, ic_irm, ic_lt0, ic_0lt, ic_eq0, ic_lt, ic_inj, and15, and7, and31, and63, shl1, shr_ok, neg_1, neg_2, neg_3, neg_4, kc_lt0, kc_ic, kc_m2, kc_1, kc_0, i0_add, add_i0, or_i0, z_8, z_4, z_64, z_256, ic_m2, ec_m1, ic_m1, m1_lt0, m2_lt0, m3_lt0, m4_lt0, up_s, if_true, if_false, ne_eq, not_true_eq_false, not_false_eq_true, Bool.false_eq_true, eq_self, or_self, or_false, false_or, and_self, and_true, true_and, ite_self, Nat.reduceEqDiff, Nat.reduceLT, Nat.reduceMod, Nat.reduceMul, Nat.reduceAdd, Nat.reducePow, Nat.reduceDiv, lt_2, lt_3, lt_4, lt_5, lt_6, lt_7, lt_8, lt_10, lt_11, lt_12, lt_15, lt_16, lt_18, lt_20, lt_24, lt_31, lt_32, lt_48, lt_57, lt_59, lt_63, lt_64, lt_74, lt_75, lt_97, lt_122, lt_128, lt_144, lt_145, lt_146, lt_147, lt_155, lt_163, lt_171, lt_179, lt_200, lt_243, lt_244, lt_255, lt_256, lt_732, lt_900, lt_3660, lt_3904, lt_4095, lt_65536, lt_65537, lt_252645135, lt_858993459, lt_1431655765, ↓p_has_b, p_has, ↓p_has9_b, p_has9, ↓p_bit_b, p_bit, ↓p_bit1_b, p_bit1, ↓p_bit0_b, p_bit0, p_X9_runs_12, hL.t, ha, hA.1, c5, hk, hA.2.2.2.2.1.1, hA.2.2.2.2.2.1.1, if_inB hA.2.2.2.2.1.2, if_inB hA.2.2.2.2.2.1.2, ck1, ck2, ↓bnd (b0), b0, ↓bnd (b9), b9, ↓bnd (e3), e3]
  · have c5 := (hR.m3 hc.2.1 hm).2.2.2.2.2.1.1
    simp (maxSteps := 1000000) (disch := omega) only [↓reduceIte, ↓if_bi0, ↓if_bi1, hp_tg, hp_rI, hp_rR, hp_rL, hp_wI, hp_wL, Option.bind_some, if_11, if_01, bi_and1, i10, i01, bi_t, bi_f, ic_add, mr_4, ml_4, mr_8, ml_8, mr_10, ml_10, ic_add1, ic_sub1, ic_clamp, ic_div, ic_irm, ic_lt0, ic_0lt, ic_eq0, ic_lt, ic_inj, and15, and7, and31, and63, shl1, shr_ok, neg_1, neg_2, neg_3, neg_4, kc_lt0, kc_ic, kc_m2, kc_1, kc_0, i0_add, add_i0, or_i0, z_8, z_4, z_64, z_256, ic_m2, ec_m1, ic_m1, m1_lt0, m2_lt0, m3_lt0, m4_lt0, up_s, if_true, if_false, ne_eq, not_true_eq_false, not_false_eq_true, Bool.false_eq_true, eq_self, or_self, or_false, false_or, and_self, and_true, true_and, ite_self, Nat.reduceEqDiff, Nat.reduceLT, Nat.reduceMod, Nat.reduceMul, Nat.reduceAdd, Nat.reducePow, Nat.reduceDiv, lt_2, lt_3, lt_4, lt_5, lt_6, lt_7, lt_8, lt_10, lt_11, lt_12, lt_15, lt_16, lt_18, lt_20, lt_24, lt_31, lt_32, lt_48, lt_57, lt_59, lt_63, lt_64, lt_74, lt_75, lt_97, lt_122, lt_128, lt_144, lt_145, lt_146, lt_147, lt_155, lt_163, lt_171, lt_179, lt_200, lt_243, lt_244, lt_255, lt_256, lt_732, lt_900, lt_3660, lt_3904, lt_4095, lt_65536, lt_65537, lt_252645135, lt_858993459, lt_1431655765, ↓p_has_b, p_has, ↓p_has9_b, p_has9, ↓p_bit_b, p_bit, ↓p_bit1_b, p_bit1, ↓p_bit0_b, p_bit0, p_X9_runs_12, hL.t, ha, hA.1, c5, Nat.lt_irrefl]
end RUNS
