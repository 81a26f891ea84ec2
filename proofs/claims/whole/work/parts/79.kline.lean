/-! ===== runs, sights, and every line: the class ===== -/
def lR (b : Nat → Nat) (n : Nat) (T : TS) (k1 : TK) : LR :=
  if wf k1 0 63 ≠ 0 then .inl (wf k1 0 63, k1.2.1)
  else om (mo b (nt b n k1)) (.inl (1, (nt b n k1).2.1)) (fun w => .inr (uN T (4 * k1.2.2.2 + w), nt b n (nt b n k1)))
def lS (b : Nat → Nat) (n : Nat) (T : TS) (k1 : TK) : LR :=
  if wf k1 0 63 ≠ 0 then .inl (wf k1 0 63, k1.2.1)
  else om (mo b (nt b n k1)) (.inl (1, (nt b n k1).2.1)) (fun w =>
    if isZ T (4 * k1.2.2.2 + w) = true then .inl (3, (nt b n k1).2.1)
    else if ho b (nt b n (nt b n k1)) = 1 then .inl (1, (nt b n (nt b n k1)).2.1)
    else .inr (uZ T (4 * k1.2.2.2 + w) (ho b (nt b n (nt b n k1))), nt b n (nt b n (nt b n k1))))
def lbg (T : TS) (c d : Nat) (tk : TK) (Z : LR) : LR := if lb T c d ≠ 0 then .inl (lb T c d, tk.2.1) else Z
def ln (b : Nat → Nat) (n : Nat) (T : TS) (tk : TK) : LR :=
  if nm b tk 1 = true then lM b n T tk
  else if nm b tk 4 = true then lbg T (hN T) 16 tk (lH b n T (nt b n tk))
  else if nm b tk 5 = true then lbg T (wN T) 24 tk (lW b n true T (nt b n tk))
  else if nm b tk 6 = true then lbg T (tN T) 10 tk (lR b n T (nt b n tk))
  else if nm b tk 7 = true then lbg T (dN T) 4 tk (lW b n false T (nt b n tk))
  else if nm b tk 8 = true then lbg T (zN T) 6 tk (lS b n T (nt b n tk))
  else .inl (1, tk.2.1)
def PV (T : TS) : Prop := tP T = 0 → hN T = 0 ∧ wN T = 0 ∧ tN T = 0 ∧ dN T = 0 ∧ zN T = 0
def dsp (x t : Nat) (v : Int32) (h : AH) : Option (Int32 × AH) :=
  if swT 1 4 [118, 92, 98, 105, 111] v = 118 then (if (tg h x).1 = 4 then ((p_X5_readsSaw x t h).bind fun q => if q.1 &&& 1 = q.1 then some (q.1, q.2) else none) else none)
  else if swT 1 4 [118, 92, 98, 105, 111] v = 92 then (if (tg h x).1 = 4 then ((p_X5_readsHost x t h).bind fun q => if q.1 &&& 1 = q.1 then some (q.1, q.2) else none) else none)
  else if swT 1 4 [118, 92, 98, 105, 111] v = 98 then (if (tg h x).1 = 4 then ((p_X5_readsWord x t 1 h).bind fun q => if q.1 &&& 1 = q.1 then some (q.1, q.2) else none) else none)
  else if swT 1 4 [118, 92, 98, 105, 111] v = 105 then (if (tg h x).1 = 4 then ((p_X5_readsRun x t h).bind fun q => if q.1 &&& 1 = q.1 then some (q.1, q.2) else none) else none)
  else if swT 1 4 [118, 92, 98, 105, 111] v = 111 then (if (tg h x).1 = 4 then ((p_X5_readsWord x t 0 h).bind fun q => if q.1 &&& 1 = q.1 then some (q.1, q.2) else none) else none)
  else none
section KLINE
variable {S : SH} {I J : II} {L : LL} {x t n : Nat} {b : Nat → Nat} {tk : TK} {T : TS} {o : Option (Int32 × AH)} {r : LR}
theorem ho_c (b : Nat → Nat) (tk : TK) : ho b tk = 1 ∨ (¬ 0 < ho b tk ∧ ho b tk ≠ 1 ∧ tk.1 = 1) := by
  unfold ho
  by_cases c1 : nm b tk 15 = true
  · rw [if_pos c1]; exact Or.inr ⟨by decide, by decide, nm_1 c1⟩
  · rw [if_neg c1]
    by_cases c2 : nm b tk 16 = true
    · rw [if_pos c2]; exact Or.inr ⟨by decide, by decide, nm_1 c2⟩
    · rw [if_neg c2]
      by_cases c3 : nm b tk 17 = true
      · rw [if_pos c3]; exact Or.inr ⟨by decide, by decide, nm_1 c3⟩
      · rw [if_neg c3]
        by_cases c4 : nm b tk 18 = true
        · rw [if_pos c4]; exact Or.inr ⟨by decide, by decide, nm_1 c4⟩
        · rw [if_neg c4]; exact Or.inl rfl
theorem KO.post (h : KO S I L x t b n o r) : KO S I L x t b n (o.bind fun q => if q.1 &&& 1 = q.1 then some (q.1, q.2) else none) r := by
  cases r with
  | inl r =>
    obtain ⟨J, e, h⟩ := h
    exact ⟨J, by rw [e]; exact if_pos (by show (0 : Int32) &&& 1 = 0; decide), h⟩
  | inr r =>
    obtain ⟨J, e, h⟩ := h
    exact ⟨J, by rw [e]; exact if_pos (by show (1 : Int32) &&& 1 = 1; decide), h⟩
theorem KO.xf (f : Xf I J x) (h : KO S J L x t b n o r) : KO S I L x t b n o r := by
  cases r with
  | inl r =>
    obtain ⟨K, e, h1, h2, h3⟩ := h
    exact ⟨K, e, h1, h2, fun j hj => (h3.1 j hj).trans (f.1 j (by omega)), fun y q1 q2 => (h3.2 y q1 q2).trans (f.2 y q1)⟩
  | inr r =>
    obtain ⟨K, e, h1, h2, h4, h5, h3⟩ := h
    exact ⟨K, e, h1, h2, h4.trans (f.1 7 (by omega)), h5.trans (f.1 8 (by omega)), fun j hj => (h3.1 j hj).trans (f.1 j (by omega)), fun y q1 q2 => (h3.2 y q1 q2).trans (f.2 y q1)⟩
theorem step_fr {T : TS} {y : Nat} : Fr I (up2 (up2 I (t + 5) (tN T) (ic y)) t 6 (ic (tN T + 1))) t (t + 9) := (Fr.up (by omega) (by omega)).trans (Fr.up (by omega) (by omega))
theorem k_lR (hL : XL S x) (hT : TL S t) (hx : x + 1 < t) (h : CS I x b n tk) (hR : TR I t T) (hd : tN T < 10) : KO S I L x t b n (p_X5_readsRun x t (hp S I L)) (lR b n T tk) := by
  unfold lR
  have b1 : (1 : Int32) &&& 1 = 1 := by decide
  have b0 : (0 : Int32) &&& 1 = 0 := by decide
  by_cases c1 : wf tk 0 63 ≠ 0
  · rw [if_pos c1]
    have A := k_way1 (L := L) hL h c1
    refine ⟨kF I x (wf tk 0 63) tk.2.1, ?_, kF_7 _ _ _ _, kF_8 _ _ _ _, (Tf.refl I x t).kF _ _⟩
    unfold p_X5_readsRun
    simp only [↓reduceIte, ↓if_bi0, hp_tg, hp_rR, hp_rI, hp_wI, eq_self, bi_t, bi_f, i10, if_true, if_false, Bool.false_eq_true, hL.1]
    refine Eq.trans (bnd A) ?_
    simp (maxSteps := 1000000) (disch := omega) only [↓reduceIte, ↓if_bi0, ↓if_bi1, hp_tg, hp_rI, hp_rR, hp_rL, hp_wI, hp_wL, Option.bind_some, if_11, if_01, bi_and1, i10, i01, bi_t, bi_f, ic_add, mr_4, ml_4, mr_8, ml_8, mr_10, ml_10, ic_add1, ic_sub1, ic_clamp, ic_div, ic_irm, ic_lt0, ic_0lt, ic_eq0, ic_lt, ic_inj, and15, and7, and31, and63, shl1, shr_ok, neg_1, neg_2, neg_3, neg_4, kc_lt0, kc_ic, kc_m2, kc_1, kc_0, i0_add, add_i0, or_i0, z_8, z_4, z_64, z_256, ic_m2, ec_m1, ic_m1, m1_lt0, m2_lt0, m3_lt0, m4_lt0, up_s, if_true, if_false, ne_eq, not_true_eq_false, not_false_eq_true, Bool.false_eq_true, eq_self, or_self, or_false, false_or, and_self, and_true, true_and, ite_self, Nat.reduceEqDiff, Nat.reduceLT, Nat.reduceMod, Nat.reduceMul, Nat.reduceAdd, Nat.reducePow, Nat.reduceDiv, lt_2, lt_3, lt_4, lt_5, lt_6, lt_7, lt_8, lt_10, lt_11, lt_12, lt_15, lt_16, lt_18, lt_20, lt_24, lt_31, lt_32, lt_48, lt_57, lt_59, lt_63, lt_64, lt_74, lt_75, lt_97, lt_122, lt_128, lt_144, lt_145, lt_146, lt_147, lt_155, lt_163, lt_171, lt_179, lt_200, lt_243, lt_244, lt_255, lt_256, lt_732, lt_900, lt_3660, lt_3904, lt_4095, lt_65536, lt_65537, lt_252645135, lt_858993459, lt_1431655765, ↓p_has_b, p_has, ↓p_has9_b, p_has9, ↓p_bit_b, p_bit, ↓p_bit1_b, p_bit1, ↓p_bit0_b, p_bit0, b0]
  · rw [if_neg c1]
    have c1' : wf tk 0 63 = 0 := by omega
    cases hm : mo b (nt b n tk) with
    | none =>
      obtain ⟨I1, A, f1⟩ := k_way2 (L := L) hL h c1' hm
      refine ⟨kF I1 x 1 (nt b n tk).2.1, ?_, kF_7 _ _ _ _, kF_8 _ _ _ _, ((Tf.refl I x t).xf f1).kF _ _⟩
      unfold p_X5_readsRun
      simp only [↓reduceIte, ↓if_bi0, hp_tg, hp_rR, hp_rI, hp_wI, eq_self, bi_t, bi_f, i10, if_true, if_false, Bool.false_eq_true, hL.1]
      refine Eq.trans (bnd A) ?_
      simp (maxSteps := 1000000) (disch := omega) only [↓reduceIte, ↓if_bi0, ↓if_bi1, hp_tg, hp_rI, hp_rR, hp_rL, hp_wI, hp_wL, Option.bind_some, if_11, if_01, bi_and1, i10, i01, bi_t, bi_f, ic_add, mr_4, ml_4, mr_8, ml_8, mr_10, ml_10, ic_add1, ic_sub1, ic_clamp, ic_div, ic_irm, ic_lt0, ic_0lt, ic_eq0, ic_lt, ic_inj, and15, and7, and31, and63, shl1, shr_ok, neg_1, neg_2, neg_3, neg_4, kc_lt0, kc_ic, kc_m2, kc_1, kc_0, i0_add, add_i0, or_i0, z_8, z_4, z_64, z_256, ic_m2, ec_m1, ic_m1, m1_lt0, m2_lt0, m3_lt0, m4_lt0, up_s, if_true, if_false, ne_eq, not_true_eq_false, not_false_eq_true, Bool.false_eq_true, eq_self, or_self, or_false, false_or, and_self, and_true, true_and, ite_self, Nat.reduceEqDiff, Nat.reduceLT, Nat.reduceMod, Nat.reduceMul, Nat.reduceAdd, Nat.reducePow, Nat.reduceDiv, lt_2, lt_3, lt_4, lt_5, lt_6, lt_7, lt_8, lt_10, lt_11, lt_12, lt_15, lt_16, lt_18, lt_20, lt_24, lt_31, lt_32, lt_48, lt_57, lt_59, lt_63, lt_64, lt_74, lt_75, lt_97, lt_122, lt_128, lt_144, lt_145, lt_146, lt_147, lt_155, lt_163, lt_171, lt_179, lt_200, lt_243, lt_244, lt_255, lt_256, lt_732, lt_900, lt_3660, lt_3904, lt_4095, lt_65536, lt_65537, lt_252645135, lt_858993459, lt_1431655765, ↓p_has_b, p_has, ↓p_has9_b, p_has9, ↓p_bit_b, p_bit, ↓p_bit1_b, p_bit1, ↓p_bit0_b, p_bit0, b0]
    | some w =>
      obtain ⟨I1, A, s1, v6, f1⟩ := k_way3 (L := L) hL h c1' hm
      obtain ⟨J2, e2, R2, j2⟩ := t_addStep (L := L) hT (hR.xf f1 hx) hd (4 * tk.2.2.2 + w)
      have f2 : Fr I1 J2 t (t + 9) := by rw [j2]; exact step_fr
      obtain ⟨I3, e3, s3, f3⟩ := k_next (L := L) hL (s1.fr hx f2)
      have q : ∀ j, 6 < j → I3 x j = I x j := fun j hj => by rw [f3.1 j (by omega), f2 x (by omega), f1.1 j (by omega)]
      refine ⟨I3, ?_, s3, R2.xf f3 hx, q 7 (by omega), q 8 (by omega), (((Tf.refl I x t).xf f1).fr hx f2).xf f3⟩
      unfold p_X5_readsRun
      simp only [↓reduceIte, ↓if_bi0, hp_tg, hp_rR, hp_rI, hp_wI, eq_self, bi_t, bi_f, i10, if_true, if_false, Bool.false_eq_true, hL.1]
      refine Eq.trans (bnd A) ?_
      refine Eq.trans (if_neg (by show ¬ (1 : Int32) = 0; decide)) ?_
      simp only [↓reduceIte, ↓if_bi0, hp_tg, hp_rR, hp_rI, hp_wI, eq_self, bi_t, bi_f, i10, if_true, if_false, Bool.false_eq_true, hL.1, hT.1, v6]
      refine Eq.trans (bnd e2) ?_
      simp only [↓reduceIte, ↓if_bi0, hp_tg, hp_rR, hp_rI, hp_wI, eq_self, bi_t, bi_f, i10, if_true, if_false, Bool.false_eq_true, hL.1]
      refine Eq.trans (bnd e3) ?_
      exact if_pos b1
theorem k_lS (hL : XL S x) (hT : TL S t) (hx : x + 1 < t) (h : CS I x b n tk) (hR : TR I t T) (hV : TV T) (hd : zN T < 6) : KO S I L x t b n (p_X5_readsSaw x t (hp S I L)) (lS b n T tk) := by
  unfold lS
  have b1 : (1 : Int32) &&& 1 = 1 := by decide
  have b0 : (0 : Int32) &&& 1 = 0 := by decide
  by_cases c1 : wf tk 0 63 ≠ 0
  · rw [if_pos c1]
    have A := k_way1 (L := L) hL h c1
    refine ⟨kF I x (wf tk 0 63) tk.2.1, ?_, kF_7 _ _ _ _, kF_8 _ _ _ _, (Tf.refl I x t).kF _ _⟩
    unfold p_X5_readsSaw
    simp only [↓reduceIte, ↓if_bi0, hp_tg, hp_rR, hp_rI, hp_wI, eq_self, bi_t, bi_f, i10, if_true, if_false, Bool.false_eq_true, hL.1]
    refine Eq.trans (bnd A) ?_
    simp (maxSteps := 1000000) (disch := omega) only [↓reduceIte, ↓if_bi0, ↓if_bi1, hp_tg, hp_rI, hp_rR, hp_rL, hp_wI, hp_wL, Option.bind_some, if_11, if_01, bi_and1, i10, i01, bi_t, bi_f, ic_add, mr_4, ml_4, mr_8, ml_8, mr_10, ml_10, ic_add1, ic_sub1, ic_clamp, ic_div, ic_irm, ic_lt0, ic_0lt, ic_eq0, ic_lt, ic_inj, and15, and7, and31, and63, shl1, shr_ok, neg_1, neg_2, neg_3, neg_4, kc_lt0, kc_ic, kc_m2, kc_1, kc_0, i0_add, add_i0, or_i0, z_8, z_4, z_64, z_256, ic_m2, ec_m1, ic_m1, m1_lt0, m2_lt0, m3_lt0, m4_lt0, up_s, if_true, if_false, ne_eq, not_true_eq_false, not_false_eq_true, Bool.false_eq_true, eq_self, or_self, or_false, false_or, and_self, and_true, true_and, ite_self, Nat.reduceEqDiff, Nat.reduceLT, Nat.reduceMod, Nat.reduceMul, Nat.reduceAdd, Nat.reducePow, Nat.reduceDiv, lt_2, lt_3, lt_4, lt_5, lt_6, lt_7, lt_8, lt_10, lt_11, lt_12, lt_15, lt_16, lt_18, lt_20, lt_24, lt_31, lt_32, lt_48, lt_57, lt_59, lt_63, lt_64, lt_74, lt_75, lt_97, lt_122, lt_128, lt_144, lt_145, lt_146, lt_147, lt_155, lt_163, lt_171, lt_179, lt_200, lt_243, lt_244, lt_255, lt_256, lt_732, lt_900, lt_3660, lt_3904, lt_4095, lt_65536, lt_65537, lt_252645135, lt_858993459, lt_1431655765, ↓p_has_b, p_has, ↓p_has9_b, p_has9, ↓p_bit_b, p_bit, ↓p_bit1_b, p_bit1, ↓p_bit0_b, p_bit0, b0]
  · rw [if_neg c1]
    have c1' : wf tk 0 63 = 0 := by omega
    have w1 := (wf_2 c1').2.2
    cases hm : mo b (nt b n tk) with
    | none =>
      obtain ⟨I1, A, f1⟩ := k_way2 (L := L) hL h c1' hm
      refine ⟨kF I1 x 1 (nt b n tk).2.1, ?_, kF_7 _ _ _ _, kF_8 _ _ _ _, ((Tf.refl I x t).xf f1).kF _ _⟩
      unfold p_X5_readsSaw
      simp only [↓reduceIte, ↓if_bi0, hp_tg, hp_rR, hp_rI, hp_wI, eq_self, bi_t, bi_f, i10, if_true, if_false, Bool.false_eq_true, hL.1]
      refine Eq.trans (bnd A) ?_
      simp (maxSteps := 1000000) (disch := omega) only [↓reduceIte, ↓if_bi0, ↓if_bi1, hp_tg, hp_rI, hp_rR, hp_rL, hp_wI, hp_wL, Option.bind_some, if_11, if_01, bi_and1, i10, i01, bi_t, bi_f, ic_add, mr_4, ml_4, mr_8, ml_8, mr_10, ml_10, ic_add1, ic_sub1, ic_clamp, ic_div, ic_irm, ic_lt0, ic_0lt, ic_eq0, ic_lt, ic_inj, and15, and7, and31, and63, shl1, shr_ok, neg_1, neg_2, neg_3, neg_4, kc_lt0, kc_ic, kc_m2, kc_1, kc_0, i0_add, add_i0, or_i0, z_8, z_4, z_64, z_256, ic_m2, ec_m1, ic_m1, m1_lt0, m2_lt0, m3_lt0, m4_lt0, up_s, if_true, if_false, ne_eq, not_true_eq_false, not_false_eq_true, Bool.false_eq_true, eq_self, or_self, or_false, false_or, and_self, and_true, true_and, ite_self, Nat.reduceEqDiff, Nat.reduceLT, Nat.reduceMod, Nat.reduceMul, Nat.reduceAdd, Nat.reducePow, Nat.reduceDiv, lt_2, lt_3, lt_4, lt_5, lt_6, lt_7, lt_8, lt_10, lt_11, lt_12, lt_15, lt_16, lt_18, lt_20, lt_24, lt_31, lt_32, lt_48, lt_57, lt_59, lt_63, lt_64, lt_74, lt_75, lt_97, lt_122, lt_128, lt_144, lt_145, lt_146, lt_147, lt_155, lt_163, lt_171, lt_179, lt_200, lt_243, lt_244, lt_255, lt_256, lt_732, lt_900, lt_3660, lt_3904, lt_4095, lt_65536, lt_65537, lt_252645135, lt_858993459, lt_1431655765, ↓p_has_b, p_has, ↓p_has9_b, p_has9, ↓p_bit_b, p_bit, ↓p_bit1_b, p_bit1, ↓p_bit0_b, p_bit0, b0]
    | some w =>
      obtain ⟨I1, A, s1, v6, f1⟩ := k_way3 (L := L) hL h c1' hm
      have w4 := (mo_lt hm).1
      have R1 := hR.xf f1 hx
      have t1 := (Tf.refl I x t).xf f1
      rw [om_some]
      generalize nt b n tk = k2 at *
      have g0 : p_X5_readsSaw x t (hp S I L) = p_X5_readsSaw_9 x t (hp S I1 L) := by
        unfold p_X5_readsSaw
        simp only [↓reduceIte, ↓if_bi0, hp_tg, hp_rR, hp_rI, hp_wI, eq_self, bi_t, bi_f, i10, if_true, if_false, Bool.false_eq_true, hL.1]
        refine Eq.trans (bnd A) ?_
        refine Eq.trans (if_neg (by show ¬ (1 : Int32) = 0; decide)) ?_
        rfl
      rw [g0]
      clear g0
      have Si := t_sighted (L := L) hT R1 hV (y := 4 * tk.2.2.2 + w) (by omega)
      by_cases c3 : isZ T (4 * tk.2.2.2 + w) = true
      · rw [if_pos c3]
        rw [c3] at Si
        have F := s1.fails (L := L) hL 3
        refine ⟨kF I1 x 3 k2.2.1, ?_, kF_7 _ _ _ _, kF_8 _ _ _ _, t1.kF _ _⟩
        unfold p_X5_readsSaw_9
        simp only [↓reduceIte, ↓if_bi0, hp_tg, hp_rR, hp_rI, hp_wI, eq_self, bi_t, bi_f, i10, if_true, if_false, Bool.false_eq_true, hL.1, hT.1, v6]
        refine Eq.trans (bnd Si) ?_
        simp (maxSteps := 1000000) (disch := omega) only [↓reduceIte, ↓if_bi0, ↓if_bi1, hp_tg, hp_rI, hp_rR, hp_rL, hp_wI, hp_wL, Option.bind_some, if_11, if_01, bi_and1, i10, i01, bi_t, bi_f, ic_add, mr_4, ml_4, mr_8, ml_8, mr_10, ml_10, ic_add1, ic_sub1, ic_clamp, ic_div, ic_irm, ic_lt0, ic_0lt, ic_eq0, ic_lt, ic_inj, and15, and7, and31, and63, shl1, shr_ok, neg_1, neg_2, neg_3, neg_4, kc_lt0, kc_ic, kc_m2, kc_1, kc_0, i0_add, add_i0, or_i0, z_8, z_4, z_64, z_256, ic_m2, ec_m1, ic_m1, m1_lt0, m2_lt0, m3_lt0, m4_lt0, up_s, if_true, if_false, ne_eq, not_true_eq_false, not_false_eq_true, Bool.false_eq_true, eq_self, or_self, or_false, false_or, and_self, and_true, true_and, ite_self, Nat.reduceEqDiff, Nat.reduceLT, Nat.reduceMod, Nat.reduceMul, Nat.reduceAdd, Nat.reducePow, Nat.reduceDiv, lt_2, lt_3, lt_4, lt_5, lt_6, lt_7, lt_8, lt_10, lt_11, lt_12, lt_15, lt_16, lt_18, lt_20, lt_24, lt_31, lt_32, lt_48, lt_57, lt_59, lt_63, lt_64, lt_74, lt_75, lt_97, lt_122, lt_128, lt_144, lt_145, lt_146, lt_147, lt_155, lt_163, lt_171, lt_179, lt_200, lt_243, lt_244, lt_255, lt_256, lt_732, lt_900, lt_3660, lt_3904, lt_4095, lt_65536, lt_65537, lt_252645135, lt_858993459, lt_1431655765, ↓p_has_b, p_has, ↓p_has9_b, p_has9, ↓p_bit_b, p_bit, ↓p_bit1_b, p_bit1, ↓p_bit0_b, p_bit0, hL.1, ↓bnd (F), F, b0]
      · rw [if_neg c3]
        rw [show isZ T (4 * tk.2.2.2 + w) = false by simpa using c3] at Si
        have g1 : p_X5_readsSaw_9 x t (hp S I1 L) = p_X5_readsSaw_28 x t (ic (4 * tk.2.2.2 + w)) (hp S I1 L) := by
          unfold p_X5_readsSaw_9
          simp only [↓reduceIte, ↓if_bi0, hp_tg, hp_rR, hp_rI, hp_wI, eq_self, bi_t, bi_f, i10, if_true, if_false, Bool.false_eq_true, hL.1, hT.1, v6]
          refine Eq.trans (bnd Si) ?_
          refine Eq.trans (if_pos (by rfl)) ?_
          unfold p_X5_readsSaw_28
          simp only [↓reduceIte, ↓if_bi0, hp_tg, hp_rR, hp_rI, hp_wI, eq_self, bi_t, bi_f, i10, if_true, if_false, Bool.false_eq_true, hL.1]
        rw [g1]
        clear g1
        obtain ⟨I2, e2, s2, f2⟩ := k_next (L := L) hL s1
        have t2 := t1.xf f2
        have R2 := R1.xf f2 hx
        generalize nt b n k2 = k3 at *
        have H := k_how (L := L) hL s2
        rcases ho_c b k3 with c4 | ⟨c4, c5, -⟩
        · rw [if_pos c4]
          rw [c4] at H
          have F := s2.fails (L := L) hL 1
          rw [show ic 1 = 1 from rfl] at F
          refine ⟨kF I2 x 1 k3.2.1, ?_, kF_7 _ _ _ _, kF_8 _ _ _ _, t2.kF _ _⟩
          unfold p_X5_readsSaw_28
          simp only [↓reduceIte, ↓if_bi0, hp_tg, hp_rR, hp_rI, hp_wI, eq_self, bi_t, bi_f, i10, if_true, if_false, Bool.false_eq_true, hL.1]
          refine Eq.trans (bnd e2) ?_
          simp only [↓reduceIte, ↓if_bi0, hp_tg, hp_rR, hp_rI, hp_wI, eq_self, bi_t, bi_f, i10, if_true, if_false, Bool.false_eq_true, hL.1]
          refine Eq.trans (bnd H) ?_
          refine Eq.trans (if_pos (by show (0 : Int32) < 1; decide)) ?_
          simp (maxSteps := 1000000) (disch := omega) only [↓reduceIte, ↓if_bi0, ↓if_bi1, hp_tg, hp_rI, hp_rR, hp_rL, hp_wI, hp_wL, Option.bind_some, if_11, if_01, bi_and1, i10, i01, bi_t, bi_f, ic_add, mr_4, ml_4, mr_8, ml_8, mr_10, ml_10, ic_add1, ic_sub1, ic_clamp, ic_div, ic_irm, ic_lt0, ic_0lt, ic_eq0, ic_lt, ic_inj, and15, and7, and31, and63, shl1, shr_ok, neg_1, neg_2, neg_3, neg_4, kc_lt0, kc_ic, kc_m2, kc_1, kc_0, i0_add, add_i0, or_i0, z_8, z_4, z_64, z_256, ic_m2, ec_m1, ic_m1, m1_lt0, m2_lt0, m3_lt0, m4_lt0, up_s, if_true, if_false, ne_eq, not_true_eq_false, not_false_eq_true, Bool.false_eq_true, eq_self, or_self, or_false, false_or, and_self, and_true, true_and, ite_self, Nat.reduceEqDiff, Nat.reduceLT, Nat.reduceMod, Nat.reduceMul, Nat.reduceAdd, Nat.reducePow, Nat.reduceDiv, lt_2, lt_3, lt_4, lt_5, lt_6, lt_7, lt_8, lt_10, lt_11, lt_12, lt_15, lt_16, lt_18, lt_20, lt_24, lt_31, lt_32, lt_48, lt_57, lt_59, lt_63, lt_64, lt_74, lt_75, lt_97, lt_122, lt_128, lt_144, lt_145, lt_146, lt_147, lt_155, lt_163, lt_171, lt_179, lt_200, lt_243, lt_244, lt_255, lt_256, lt_732, lt_900, lt_3660, lt_3904, lt_4095, lt_65536, lt_65537, lt_252645135, lt_858993459, lt_1431655765, ↓p_has_b, p_has, ↓p_has9_b, p_has9, ↓p_bit_b, p_bit, ↓p_bit1_b, p_bit1, ↓p_bit0_b, p_bit0, hL.1, ↓bnd (F), F, b0]
        · rw [if_neg c5]
          obtain ⟨J3, e3, R3, f3⟩ := t_addSight (L := L) hT R2 hd (4 * tk.2.2.2 + w) (ho b k3)
          obtain ⟨I4, e4, s4, f4⟩ := k_next (L := L) hL (s2.fr hx f3)
          have q : ∀ j, 6 < j → I4 x j = I x j := fun j hj => by rw [f4.1 j (by omega), f3 x (by omega), f2.1 j (by omega), f1.1 j (by omega)]
          refine ⟨I4, ?_, s4, R3.xf f4 hx, q 7 (by omega), q 8 (by omega), (t2.fr hx f3).xf f4⟩
          unfold p_X5_readsSaw_28
          simp only [↓reduceIte, ↓if_bi0, hp_tg, hp_rR, hp_rI, hp_wI, eq_self, bi_t, bi_f, i10, if_true, if_false, Bool.false_eq_true, hL.1]
          refine Eq.trans (bnd e2) ?_
          simp only [↓reduceIte, ↓if_bi0, hp_tg, hp_rR, hp_rI, hp_wI, eq_self, bi_t, bi_f, i10, if_true, if_false, Bool.false_eq_true, hL.1]
          refine Eq.trans (bnd H) ?_
          refine Eq.trans (if_neg c4) ?_
          simp only [↓reduceIte, ↓if_bi0, hp_tg, hp_rR, hp_rI, hp_wI, eq_self, bi_t, bi_f, i10, if_true, if_false, Bool.false_eq_true, hL.1, hT.1]
          refine Eq.trans (bnd e3) ?_
          simp only [↓reduceIte, ↓if_bi0, hp_tg, hp_rR, hp_rI, hp_wI, eq_self, bi_t, bi_f, i10, if_true, if_false, Bool.false_eq_true, hL.1]
          refine Eq.trans (bnd e4) ?_
          exact if_pos b1
-- a line of a sort
theorem k_lg (hL : XL S x) (hT : TL S t) (hx : x + 1 < t) (h : CS I x b n tk) (hR : TR I t T) (h8 : tP T ≤ 8) {s c d : Nat} {Z : LR} (h0 : 0 < s) (h5 : s < 6) (hs : ls b tk = s)
    (Fu : p_X5_isFull t (ic s) (hp S I L) = some (bi (decide (c = d)), hp S I L)) (hP : tP T = 0 → c ≠ d)
    (G : ∀ I2, CS I2 x b n (nt b n tk) → TR I2 t T → c ≠ d → KO S I2 L x t b n (dsp x t (ic s) (hp S I2 L)) Z) :
    KO S I L x t b n (p_X5_readsLine_15 x t (hp S I L)) (lbg T c d tk Z) := by
  have Q := k_sort (L := L) hL h
  rw [hs] at Q
  have r1 : I t 1 = ic (tP T) := hR.2.1
  have b0 : (0 : Int32) &&& 1 = 0 := by decide
  have g0 : p_X5_readsLine_15 x t (hp S I L) = p_X5_readsLine_30 x t (ic s) (hp S I L) := by
    unfold p_X5_readsLine_15
    simp only [↓reduceIte, ↓if_bi0, hp_tg, hp_rR, hp_rI, hp_wI, eq_self, bi_t, bi_f, i10, if_true, if_false, Bool.false_eq_true, hL.1]
    refine Eq.trans (bnd Q) ?_
    refine Eq.trans (if_neg (by show ¬ ic s = 0; rw [ic_eq0 (by omega)]; omega)) ?_
    rfl
  rw [g0]
  clear g0
  unfold lbg lb
  by_cases z : tP T = 0
  · rw [if_neg (hP z), if_pos z, if_pos (by omega)]
    rw [z, ic_zero] at r1
    have F := h.fails (L := L) hL 6
    refine ⟨kF I x 6 tk.2.1, ?_, kF_7 _ _ _ _, kF_8 _ _ _ _, (Tf.refl I x t).kF _ _⟩
    unfold p_X5_readsLine_30
    simp only [↓reduceIte, ↓if_bi0, hp_tg, hp_rR, hp_rI, hp_wI, eq_self, bi_t, bi_f, i10, if_true, if_false, Bool.false_eq_true, hL.1, hT.1, r1]
    refine Eq.trans (bnd F) ?_
    exact if_pos b0
  · have g1 : p_X5_readsLine_30 x t (ic s) (hp S I L) = p_X5_readsLine_44 x t (ic s) (hp S I L) := by
      unfold p_X5_readsLine_30
      simp only [↓reduceIte, ↓if_bi0, hp_tg, hp_rR, hp_rI, hp_wI, eq_self, bi_t, bi_f, i10, if_true, if_false, Bool.false_eq_true, hL.1, hT.1, r1]
      refine Eq.trans (if_neg (by rw [ic_eq0 (by omega)]; exact z)) ?_
      unfold p_X5_readsLine_44
      simp only [↓reduceIte, ↓if_bi0, hp_tg, hp_rR, hp_rI, hp_wI, eq_self, bi_t, bi_f, i10, if_true, if_false, Bool.false_eq_true, hL.1]
    rw [g1]
    clear g1
    by_cases e : c = d
    · rw [if_pos e, if_pos (by omega)]
      rw [decide_eq_true e] at Fu
      have F := h.fails (L := L) hL 5
      refine ⟨kF I x 5 tk.2.1, ?_, kF_7 _ _ _ _, kF_8 _ _ _ _, (Tf.refl I x t).kF _ _⟩
      unfold p_X5_readsLine_44
      refine Eq.trans (bnd Fu) ?_
      refine Eq.trans (if_neg (by show ¬ bi true = 0; decide)) ?_
      simp only [↓reduceIte, ↓if_bi0, hp_tg, hp_rR, hp_rI, hp_wI, eq_self, bi_t, bi_f, i10, if_true, if_false, Bool.false_eq_true, hL.1]
      refine Eq.trans (bnd F) ?_
      exact if_pos b0
    · rw [if_neg e, if_neg z, if_neg (by omega)]
      rw [decide_eq_false e] at Fu
      obtain ⟨I2, e2, s2, f2⟩ := k_next (L := L) hL h
      have K := (G I2 s2 (hR.xf f2 hx) e).xf f2
      have g2 : p_X5_readsLine_44 x t (ic s) (hp S I L) = dsp x t (ic s) (hp S I2 L) := by
        unfold p_X5_readsLine_44
        refine Eq.trans (bnd Fu) ?_
        refine Eq.trans (if_pos (by rfl)) ?_
        simp only [↓reduceIte, ↓if_bi0, hp_tg, hp_rR, hp_rI, hp_wI, eq_self, bi_t, bi_f, i10, if_true, if_false, Bool.false_eq_true, hL.1]
        refine Eq.trans (bnd e2) ?_
        rfl
      rw [g2]
      exact K
theorem k_ln (hL : XL S x) (hT : TL S t) (hx : x + 1 < t) (h : CS I x b n tk) (hR : TR I t T) (hV : TV T) (hP : PV T) : KO S I L x t b n (p_X5_readsLine x t (hp S I L)) (ln b n T tk) := by
  unfold ln
  have A1 := h.nm (L := L) hL (k := 1) (by omega) (by omega)
  by_cases c1 : nm b tk 1 = true
  · rw [if_pos c1]
    rw [c1] at A1
    have K := (k_lM (L := L) hL hT hx h hR hV.1).post
    have g : p_X5_readsLine x t (hp S I L) = (p_X5_readsMachine x t (hp S I L)).bind fun q => if q.1 &&& 1 = q.1 then some (q.1, q.2) else none := by
      unfold p_X5_readsLine
      simp only [↓reduceIte, ↓if_bi0, hp_tg, hp_rR, hp_rI, hp_wI, eq_self, bi_t, bi_f, i10, if_true, if_false, Bool.false_eq_true, hL.1]
      refine Eq.trans (bnd A1) ?_
      refine Eq.trans (if_neg (by show ¬ bi true = 0; decide)) ?_
      simp only [↓reduceIte, ↓if_bi0, hp_tg, hp_rR, hp_rI, hp_wI, eq_self, bi_t, bi_f, i10, if_true, if_false, Bool.false_eq_true, hL.1]
    rw [g]
    exact K
  · rw [if_neg c1]
    rw [show nm b tk 1 = false by simpa using c1] at A1
    have g : p_X5_readsLine x t (hp S I L) = p_X5_readsLine_15 x t (hp S I L) := by
      unfold p_X5_readsLine
      simp only [↓reduceIte, ↓if_bi0, hp_tg, hp_rR, hp_rI, hp_wI, eq_self, bi_t, bi_f, i10, if_true, if_false, Bool.false_eq_true, hL.1]
      refine Eq.trans (bnd A1) ?_
      refine Eq.trans (if_pos (by rfl)) ?_
      rfl
    rw [g]
    clear g
    have d1 : swT 1 4 [118, 92, 98, 105, 111] (ic 1) = 92 := by decide
    have d2 : swT 1 4 [118, 92, 98, 105, 111] (ic 2) = 98 := by decide
    have d3 : swT 1 4 [118, 92, 98, 105, 111] (ic 3) = 105 := by decide
    have d4 : swT 1 4 [118, 92, 98, 105, 111] (ic 4) = 111 := by decide
    have d5 : swT 1 4 [118, 92, 98, 105, 111] (ic 5) = 118 := by decide
    have hL1 := hL.1
    by_cases c4 : nm b tk 4 = true
    · rw [if_pos c4]
      refine k_lg hL hT hx h hR hV.1 (s := 1) (by omega) (by omega) (by unfold ls; rw [if_pos c4]) (t_full1 hT hR hV) (fun q => by rw [(hP q).1]; omega) (fun I2 s2 R2 e => ?_)
      have K := (k_lH (L := L) hL hT hx s2 R2 hV).post
      unfold dsp
      rw [d1, if_neg (by omega), if_pos rfl, if_pos (by exact hL1)]
      exact K
    · rw [if_neg c4]
      by_cases c5 : nm b tk 5 = true
      · rw [if_pos c5]
        refine k_lg hL hT hx h hR hV.1 (s := 2) (by omega) (by omega) (by unfold ls; rw [if_neg c4, if_pos c5]) (t_full2 hT hR hV) (fun q => by rw [(hP q).2.1]; omega) (fun I2 s2 R2 e => ?_)
        have K := (k_lW (L := L) hL hT hx s2 R2 hV true (fun q => by cases q)).post
        unfold dsp
        rw [d2, if_neg (by omega), if_neg (by omega), if_pos rfl, if_pos (by exact hL1)]
        exact K
      · rw [if_neg c5]
        by_cases c6 : nm b tk 6 = true
        · rw [if_pos c6]
          have hq := hV.2.2.2.1.1
          refine k_lg hL hT hx h hR hV.1 (s := 3) (by omega) (by omega) (by unfold ls; rw [if_neg c4, if_neg c5, if_pos c6]) (t_full3 hT hR hV) (fun q => by rw [(hP q).2.2.1]; omega) (fun I2 s2 R2 e => ?_)
          have K := (k_lR (L := L) hL hT hx s2 R2 (by omega)).post
          unfold dsp
          rw [d3, if_neg (by omega), if_neg (by omega), if_neg (by omega), if_pos rfl, if_pos (by exact hL1)]
          exact K
        · rw [if_neg c6]
          by_cases c7 : nm b tk 7 = true
          · rw [if_pos c7]
            have hq := hV.2.2.2.2.1.1
            refine k_lg hL hT hx h hR hV.1 (s := 4) (by omega) (by omega) (by unfold ls; rw [if_neg c4, if_neg c5, if_neg c6, if_pos c7]) (t_full4 hT hR hV) (fun q => by rw [(hP q).2.2.2.1]; omega) (fun I2 s2 R2 e => ?_)
            have K := (k_lW (L := L) hL hT hx s2 R2 hV false (fun q => by omega)).post
            unfold dsp
            rw [d4, if_neg (by omega), if_neg (by omega), if_neg (by omega), if_neg (by omega), if_pos rfl, if_pos (by exact hL1)]
            exact K
          · rw [if_neg c7]
            by_cases c8 : nm b tk 8 = true
            · rw [if_pos c8]
              have hq := hV.2.2.2.2.2.1.1
              refine k_lg hL hT hx h hR hV.1 (s := 5) (by omega) (by omega) (by unfold ls; rw [if_neg c4, if_neg c5, if_neg c6, if_neg c7, if_pos c8]) (t_full5 hT hR hV) (fun q => by rw [(hP q).2.2.2.2]; omega) (fun I2 s2 R2 e => ?_)
              have K := (k_lS (L := L) hL hT hx s2 R2 hV (by omega)).post
              unfold dsp
              rw [d5, if_pos rfl, if_pos (by exact hL1)]
              exact K
            · rw [if_neg c8]
              have Q := k_sort (L := L) hL h
              rw [show ls b tk = 0 by unfold ls; rw [if_neg c4, if_neg c5, if_neg c6, if_neg c7, if_neg c8], ic_zero] at Q
              have F := h.fails (L := L) hL 1
              rw [show ic 1 = 1 from rfl] at F
              refine ⟨kF I x 1 tk.2.1, ?_, kF_7 _ _ _ _, kF_8 _ _ _ _, (Tf.refl I x t).kF _ _⟩
              unfold p_X5_readsLine_15
              simp only [↓reduceIte, ↓if_bi0, hp_tg, hp_rR, hp_rI, hp_wI, eq_self, bi_t, bi_f, i10, if_true, if_false, Bool.false_eq_true, hL.1]
              refine Eq.trans (bnd Q) ?_
              refine Eq.trans (if_pos (by rfl)) ?_
              simp only [↓reduceIte, ↓if_bi0, hp_tg, hp_rR, hp_rI, hp_wI, eq_self, bi_t, bi_f, i10, if_true, if_false, Bool.false_eq_true, hL.1]
              refine Eq.trans (bnd F) ?_
              exact if_pos (by show (0 : Int32) &&& 1 = 0; decide)
end KLINE
