/-! ===== the class: tables made on need, faults, accesses ===== -/
def PL (S : SH) (p : Nat) : Prop := tT S p = (1, 8) ∧ tR S p 0 = p + 1 ∧ tR S p 1 = p + 2 ∧ tR S p 2 = p + 5 ∧ GL S (p + 2) ∧ QL S (p + 5) ∧ tT S (p + 1) = (3, 2) ∧ tR S (p + 1) 0 = p + 2 ∧ tR S (p + 1) 1 = p + 5
def PR (I : II) (p : Nat) (s : St) (pl : Nat) : Prop := GR I (p + 2) s ∧ QR I (p + 5) s pl
section REACH
variable {S : SH} {I : II} {L : LL} {p pl : Nat} {s : St}
theorem PL.t (h : PL S p) : tT S p = (1, 8) := h.1
theorem PL.g (h : PL S p) : tR S p 1 = p + 2 := h.2.2.1
theorem PL.q (h : PL S p) : tR S p 2 = p + 5 := h.2.2.2.1
theorem PL.G (h : PL S p) : GL S (p + 2) := h.2.2.2.2.1
theorem PL.Q (h : PL S p) : QL S (p + 5) := h.2.2.2.2.2.1
theorem PL.gt (h : PL S p) : tT S (p + 2) = (0, 5) := h.G.1
theorem PL.qt (h : PL S p) : tT S (p + 5) = (2, 7) := h.Q.1
theorem PR.fr {I' : II} (h : PR I p s pl) {lo hi : Nat} (f : Fr I I' lo hi) (hd : p + 9 < lo ∨ hi < p + 2) : PR I' p s pl := ⟨h.1.fr f (by omega), h.2.fr f (by omega)⟩
theorem k_66 (hL : PL S p) (hR : PR I p s pl) {n k o : Nat} (hV : Inv (mkT s n k o) pl) (hn : n < 8) (hk : k ≤ 2) (ho : o < 16) : ∃ I', p_X2_tableOf_66 p (ic k) (ic o) (ic n) (hp S I L) = some (ic n, hp S I' L) ∧ PR I' p (mk2 s n k o) pl ∧ Fr I I' (p + 5) (p + 9) := by
  obtain ⟨I1, e1, q1, f1⟩ := q_make (L := L) hL.Q hR.2 k o hn
  unfold mk2
  by_cases c : k = 2
  · rw [if_pos c]
    subst c
    refine ⟨I1, ?_, ⟨hR.1.fr f1 (by omega), q1⟩, f1⟩
    simp (maxSteps := 1000000) (disch := omega) only [↓reduceIte, ↓if_bi0, ↓if_bi1, hp_tg, hp_rI, hp_rR, hp_rL, hp_wI, hp_wL, Option.bind_some, if_11, if_01, bi_and1, i10, i01, bi_t, bi_f, ic_add, mr_4, ml_4, mr_8, ml_8, mr_10, ml_10, ic_add1, ic_sub1, ic_clamp, ic_div, ic_irm, ic_lt0, ic_0lt, ic_eq0, ic_lt, ic_inj, and15, and7, and31, and63, shl1, shr_ok, neg_1, neg_2, neg_3, neg_4, kc_lt0, kc_ic, kc_m2, kc_1, kc_0, i0_add, add_i0, or_i0, z_8, z_4, z_64, z_256, ic_m2, ec_m1, ic_m1, m1_lt0, m2_lt0, m3_lt0, m4_lt0, up_s, if_true, if_false, ne_eq, not_true_eq_false, not_false_eq_true, Bool.false_eq_true, eq_self, or_self, or_false, false_or, and_self, and_true, true_and, ite_self, Nat.reduceEqDiff, Nat.reduceLT, Nat.reduceMod, Nat.reduceMul, Nat.reduceAdd, Nat.reducePow, Nat.reduceDiv, lt_2, lt_3, lt_4, lt_5, lt_6, lt_7, lt_8, lt_10, lt_11, lt_12, lt_15, lt_16, lt_18, lt_20, lt_24, lt_31, lt_32, lt_48, lt_57, lt_59, lt_63, lt_64, lt_74, lt_75, lt_97, lt_122, lt_128, lt_144, lt_145, lt_146, lt_147, lt_155, lt_163, lt_171, lt_179, lt_200, lt_243, lt_244, lt_255, lt_256, lt_732, lt_900, lt_3660, lt_3904, lt_4095, lt_65536, lt_65537, lt_252645135, lt_858993459, lt_1431655765, ↓p_has_b, p_has, ↓p_has9_b, p_has9, ↓p_bit_b, p_bit, ↓p_bit1_b, p_bit1, ↓p_bit0_b, p_bit0, p_X2_tableOf_66, p_X2_tableOf_91, hL.t, hL.q, hL.qt, ↓bnd (e1), e1]
  · rw [if_neg c]
    obtain ⟨I2, e2, q2, f2⟩ := q_takeWrite (L := L) hL.Q q1 hV (f := o) (by omega)
    refine ⟨I2, ?_, ⟨(hR.1.fr f1 (by omega)).fr f2 (by omega), q2⟩, f1.trans f2⟩
    simp (maxSteps := 1000000) (disch := omega) only [↓reduceIte, ↓if_bi0, ↓if_bi1, hp_tg, hp_rI, hp_rR, hp_rL, hp_wI, hp_wL, Option.bind_some, if_11, if_01, bi_and1, i10, i01, bi_t, bi_f, ic_add, mr_4, ml_4, mr_8, ml_8, mr_10, ml_10, ic_add1, ic_sub1, ic_clamp, ic_div, ic_irm, ic_lt0, ic_0lt, ic_eq0, ic_lt, ic_inj, and15, and7, and31, and63, shl1, shr_ok, neg_1, neg_2, neg_3, neg_4, kc_lt0, kc_ic, kc_m2, kc_1, kc_0, i0_add, add_i0, or_i0, z_8, z_4, z_64, z_256, ic_m2, ec_m1, ic_m1, m1_lt0, m2_lt0, m3_lt0, m4_lt0, up_s, if_true, if_false, ne_eq, not_true_eq_false, not_false_eq_true, Bool.false_eq_true, eq_self, or_self, or_false, false_or, and_self, and_true, true_and, ite_self, Nat.reduceEqDiff, Nat.reduceLT, Nat.reduceMod, Nat.reduceMul, Nat.reduceAdd, Nat.reducePow, Nat.reduceDiv, lt_2, lt_3, lt_4, lt_5, lt_6, lt_7, lt_8, lt_10, lt_11, lt_12, lt_15, lt_16, lt_18, lt_20, lt_24, lt_31, lt_32, lt_48, lt_57, lt_59, lt_63, lt_64, lt_74, lt_75, lt_97, lt_122, lt_128, lt_144, lt_145, lt_146, lt_147, lt_155, lt_163, lt_171, lt_179, lt_200, lt_243, lt_244, lt_255, lt_256, lt_732, lt_900, lt_3660, lt_3904, lt_4095, lt_65536, lt_65537, lt_252645135, lt_858993459, lt_1431655765, ↓p_has_b, p_has, ↓p_has9_b, p_has9, ↓p_bit_b, p_bit, ↓p_bit1_b, p_bit1, ↓p_bit0_b, p_bit0, p_X2_tableOf_66, p_X2_tableOf_91, hL.t, hL.q, hL.qt, ↓bnd (e1), e1, c, ↓bnd (e2), e2]
theorem k_tableOf (hL : PL S p) (hR : PR I p s pl) (hV : Inv s pl) (hc : sc s < 1073741824) {k o : Nat} (hk : k ≤ 2) (ho : o < 16) : ∃ I', p_X2_tableOf p (ic k) (ic o) (hp S I L) = some (ic (need s pl k o).1, hp S I' L) ∧ PR I' p (need s pl k o).2.1 pl ∧ Fr I I' p (p + 9) ∧ I' p 7 = I p 7 + ic (need s pl k o).2.2 ∧ ∀ j, j ≠ 7 → I' p j = I p j := by
  have h16 := hV.1.2.2.2.2
  have h8 := hV.2.1.1.2
  have F := q_find (L := L) hL.Q hR.2 hV (k := k) (o := o) (by omega) (by omega)
  have T4 := hR.1.2.2.2.2
  unfold need
  cases e : fnd s k o with
  | some n =>
    have hn := (fnd_some e).1
    rw [e] at F
    refine ⟨I, ?_, hR, Fr.refl _ _ _, by rw [om_some]; show I p 7 = I p 7 + 0; rw [add_i0], fun _ _ => rfl⟩
    simp (maxSteps := 1000000) (disch := omega) only [↓reduceIte, ↓if_bi0, ↓if_bi1, hp_tg, hp_rI, hp_rR, hp_rL, hp_wI, hp_wL, Option.bind_some, if_11, if_01, bi_and1, i10, i01, bi_t, bi_f, ic_add, mr_4, ml_4, mr_8, ml_8, mr_10, ml_10, ic_add1, ic_sub1, ic_clamp, ic_div, ic_irm, ic_lt0, ic_0lt, ic_eq0, ic_lt, ic_inj, and15, and7, and31, and63, shl1, shr_ok, neg_1, neg_2, neg_3, neg_4, kc_lt0, kc_ic, kc_m2, kc_1, kc_0, i0_add, add_i0, or_i0, z_8, z_4, z_64, z_256, ic_m2, ec_m1, ic_m1, m1_lt0, m2_lt0, m3_lt0, m4_lt0, up_s, if_true, if_false, ne_eq, not_true_eq_false, not_false_eq_true, Bool.false_eq_true, eq_self, or_self, or_false, false_or, and_self, and_true, true_and, ite_self, Nat.reduceEqDiff, Nat.reduceLT, Nat.reduceMod, Nat.reduceMul, Nat.reduceAdd, Nat.reducePow, Nat.reduceDiv, lt_2, lt_3, lt_4, lt_5, lt_6, lt_7, lt_8, lt_10, lt_11, lt_12, lt_15, lt_16, lt_18, lt_20, lt_24, lt_31, lt_32, lt_48, lt_57, lt_59, lt_63, lt_64, lt_74, lt_75, lt_97, lt_122, lt_128, lt_144, lt_145, lt_146, lt_147, lt_155, lt_163, lt_171, lt_179, lt_200, lt_243, lt_244, lt_255, lt_256, lt_732, lt_900, lt_3660, lt_3904, lt_4095, lt_65536, lt_65537, lt_252645135, lt_858993459, lt_1431655765, ↓p_has_b, p_has, ↓p_has9_b, p_has9, ↓p_bit_b, p_bit, ↓p_bit1_b, p_bit1, ↓p_bit0_b, p_bit0, p_X2_tableOf, hL.t, hL.q, hL.qt, ↓bnd (F), F, oc, om_some]
  | none =>
    rw [e] at F
    have A := q_freeAt0 (L := L) hL.Q hR.2 hV
    rw [om_none]
    cases e2 : fre s pl with
    | some n =>
      obtain ⟨hn, h0, -⟩ := fre_some e2
      rw [e2] at A
      obtain ⟨I1, e3, r3, f3⟩ := k_66 (L := L) hL hR (inv_mkT hV hn h0 hk ho e) (by omega) hk ho
      rw [om_some]
      refine ⟨I1, ?_, r3, f3.wide (by omega) (by omega), by rw [f3 p (by omega)]; show I p 7 = I p 7 + 0; rw [add_i0], fun j _ => by rw [f3 p (by omega)]⟩
      simp (maxSteps := 1000000) (disch := omega) only [↓reduceIte, ↓if_bi0, ↓if_bi1, hp_tg, hp_rI, hp_rR, hp_rL, hp_wI, hp_wL, Option.bind_some, if_11, if_01, bi_and1, i10, i01, bi_t, bi_f, ic_add, mr_4, ml_4, mr_8, ml_8, mr_10, ml_10, ic_add1, ic_sub1, ic_clamp, ic_div, ic_irm, ic_lt0, ic_0lt, ic_eq0, ic_lt, ic_inj, and15, and7, and31, and63, shl1, shr_ok, neg_1, neg_2, neg_3, neg_4, kc_lt0, kc_ic, kc_m2, kc_1, kc_0, i0_add, add_i0, or_i0, z_8, z_4, z_64, z_256, ic_m2, ec_m1, ic_m1, m1_lt0, m2_lt0, m3_lt0, m4_lt0, up_s, if_true, if_false, ne_eq, not_true_eq_false, not_false_eq_true, Bool.false_eq_true, eq_self, or_self, or_false, false_or, and_self, and_true, true_and, ite_self, Nat.reduceEqDiff, Nat.reduceLT, Nat.reduceMod, Nat.reduceMul, Nat.reduceAdd, Nat.reducePow, Nat.reduceDiv, lt_2, lt_3, lt_4, lt_5, lt_6, lt_7, lt_8, lt_10, lt_11, lt_12, lt_15, lt_16, lt_18, lt_20, lt_24, lt_31, lt_32, lt_48, lt_57, lt_59, lt_63, lt_64, lt_74, lt_75, lt_97, lt_122, lt_128, lt_144, lt_145, lt_146, lt_147, lt_155, lt_163, lt_171, lt_179, lt_200, lt_243, lt_244, lt_255, lt_256, lt_732, lt_900, lt_3660, lt_3904, lt_4095, lt_65536, lt_65537, lt_252645135, lt_858993459, lt_1431655765, ↓p_has_b, p_has, ↓p_has9_b, p_has9, ↓p_bit_b, p_bit, ↓p_bit1_b, p_bit1, ↓p_bit0_b, p_bit0, p_X2_tableOf, hL.t, hL.q, hL.qt, ↓bnd (F), F, oc, om_none, om_some, ↓bnd (A), A, e3]
    | none =>
      rw [e2] at A
      obtain ⟨n, e3, h1, h2, h3⟩ := old_some hV e2
      have O := q_oldest (L := L) hL.Q hR.2 hV hc
      rw [e3] at O
      obtain ⟨I1, e4, q4, f4⟩ := q_drop (L := L) hL.Q hR.2 hV (n := n) (by omega)
      have R1 : PR (up2 I1 p 7 (I1 p 7 + 1)) p (drp s n) pl := ⟨((hR.1.fr f4 (by omega)).sg (drp_SG s n)).fr (Fr.up (Nat.le_refl p) (Nat.le_refl p)) (by omega), q4.fr (Fr.up (Nat.le_refl p) (Nat.le_refl p)) (by omega)⟩
      obtain ⟨I2, e5, r5, f5⟩ := k_66 (L := L) hL R1 (inv_mkT (inv_drp hV (by omega)) h1 (up1_s _ _ _) hk ho (fnd_drp e)) (by omega) hk ho
      rw [om_none, e3, om_some]
      refine ⟨I2, ?_, r5, ((f4.wide (by omega) (by omega)).trans (Fr.up (by omega) (by omega))).trans (f5.wide (by omega) (by omega)), ?_, fun j hj => ?_⟩
      · simp (maxSteps := 1000000) (disch := omega) only [↓reduceIte, ↓if_bi0, ↓if_bi1, hp_tg, hp_rI, hp_rR, hp_rL, hp_wI, hp_wL, Option.bind_some, if_11, if_01, bi_and1, i10, i01, bi_t, bi_f, ic_add, mr_4, ml_4, mr_8, ml_8, mr_10, ml_10, ic_add1, ic_sub1, ic_clamp, ic_div, ic_irm, ic_lt0, ic_0lt, ic_eq0, ic_lt, ic_inj, and15, and7, and31, and63, shl1, shr_ok, neg_1, neg_2, neg_3, neg_4, kc_lt0, kc_ic, kc_m2, kc_1, kc_0, i0_add, add_i0, or_i0, z_8, z_4, z_64, z_256, ic_m2, ec_m1, ic_m1, m1_lt0, m2_lt0, m3_lt0, m4_lt0, up_s, if_true, if_false, ne_eq, not_true_eq_false, not_false_eq_true, Bool.false_eq_true, eq_self, or_self, or_false, false_or, and_self, and_true, true_and, ite_self, Nat.reduceEqDiff, Nat.reduceLT, Nat.reduceMod, Nat.reduceMul, Nat.reduceAdd, Nat.reducePow, Nat.reduceDiv, lt_2, lt_3, lt_4, lt_5, lt_6, lt_7, lt_8, lt_10, lt_11, lt_12, lt_15, lt_16, lt_18, lt_20, lt_24, lt_31, lt_32, lt_48, lt_57, lt_59, lt_63, lt_64, lt_74, lt_75, lt_97, lt_122, lt_128, lt_144, lt_145, lt_146, lt_147, lt_155, lt_163, lt_171, lt_179, lt_200, lt_243, lt_244, lt_255, lt_256, lt_732, lt_900, lt_3660, lt_3904, lt_4095, lt_65536, lt_65537, lt_252645135, lt_858993459, lt_1431655765, ↓p_has_b, p_has, ↓p_has9_b, p_has9, ↓p_bit_b, p_bit, ↓p_bit1_b, p_bit1, ↓p_bit0_b, p_bit0, p_X2_tableOf, hL.t, hL.q, hL.g, hL.gt, hL.qt, ↓bnd (F), F, oc, om_none, om_some, ↓bnd (A), A, T4, ↓bnd (O), O, ↓bnd (e4), e4, e5]
      · rw [f5 p (by omega), up_s, f4 p (by omega)]; rfl
      · rw [f5 p (by omega), up_k hj, f4 p (by omega)]
theorem k_table0 (hL : PL S p) (hR : PR I p s pl) (hV : Inv s pl) (hc : sc s < 1073741824) : ∃ I', p_X2_tableOf p 0 (ic (sr s)) (hp S I L) = some (ic (fl1 s pl).1, hp S I' L) ∧ PR I' p (fl1 s pl).2.1 pl ∧ Fr I I' p (p + 9) ∧ I' p 7 = I p 7 + ic (fl1 s pl).2.2 ∧ ∀ j, j ≠ 7 → I' p j = I p j := k_tableOf hL hR hV hc (k := 0) (by omega) hV.1.2.2.2.2
theorem k_table1 (hL : PL S p) (hR : PR I p s pl) (hV : Inv s pl) (hc : sc s < 1073741824) {o : Nat} (ho : o < 16) : ∃ I', p_X2_tableOf p 1 (ic o) (hp S I L) = some (ic (need s pl 1 o).1, hp S I' L) ∧ PR I' p (need s pl 1 o).2.1 pl ∧ Fr I I' p (p + 9) ∧ I' p 7 = I p 7 + ic (need s pl 1 o).2.2 ∧ ∀ j, j ≠ 7 → I' p j = I p j := k_tableOf hL hR hV hc (k := 1) (by omega) ho
-- the end of a fault, from behind
theorem f191 (hL : PL S p) {v lo w f : Nat} (l5 y : Bool) (hw : w < 4096) (hlo : lo < 8) : p_X2_fill_191 p (ic v) (bi l5) (ic lo) (ic w) (ic f) (bi y) (hp S I L) = some (hp S (up2 I (p + 9) (8 * lo + v % 8) (ic (4 * f + b2 y 2 + b2 (l5 || w.testBit 2) 1))) L) := by
  cases l5 <;> cases y <;> cases e : w.testBit 2 <;> simp (maxSteps := 1000000) (disch := omega) only [↓reduceIte, ↓if_bi0, ↓if_bi1, hp_tg, hp_rI, hp_rR, hp_rL, hp_wI, hp_wL, Option.bind_some, if_11, if_01, bi_and1, i10, i01, bi_t, bi_f, ic_add, mr_4, ml_4, mr_8, ml_8, mr_10, ml_10, ic_add1, ic_sub1, ic_clamp, ic_div, ic_irm, ic_lt0, ic_0lt, ic_eq0, ic_lt, ic_inj, and15, and7, and31, and63, shl1, shr_ok, neg_1, neg_2, neg_3, neg_4, kc_lt0, kc_ic, kc_m2, kc_1, kc_0, i0_add, add_i0, or_i0, z_8, z_4, z_64, z_256, ic_m2, ec_m1, ic_m1, m1_lt0, m2_lt0, m3_lt0, m4_lt0, up_s, if_true, if_false, ne_eq, not_true_eq_false, not_false_eq_true, Bool.false_eq_true, eq_self, or_self, or_false, false_or, and_self, and_true, true_and, ite_self, Nat.reduceEqDiff, Nat.reduceLT, Nat.reduceMod, Nat.reduceMul, Nat.reduceAdd, Nat.reducePow, Nat.reduceDiv, lt_2, lt_3, lt_4, lt_5, lt_6, lt_7, lt_8, lt_10, lt_11, lt_12, lt_15, lt_16, lt_18, lt_20, lt_24, lt_31, lt_32, lt_48, lt_57, lt_59, lt_63, lt_64, lt_74, lt_75, lt_97, lt_122, lt_128, lt_144, lt_145, lt_146, lt_147, lt_155, lt_163, lt_171, lt_179, lt_200, lt_243, lt_244, lt_255, lt_256, lt_732, lt_900, lt_3660, lt_3904, lt_4095, lt_65536, lt_65537, lt_252645135, lt_858993459, lt_1431655765, ↓p_has_b, p_has, ↓p_has9_b, p_has9, ↓p_bit_b, p_bit, ↓p_bit1_b, p_bit1, ↓p_bit0_b, p_bit0, p_X2_fill_191, p_X2_fill_218, p_X2_fill_223, hL.t, hL.q, hL.qt, hb4 hw, e, ↓q_tell_b hL.Q, q_tell hL.Q, Nat.mod_eq_of_lt hlo, b2_t, b2_f, Bool.or_self, Bool.or_false, Bool.or_true, Bool.false_or, Bool.true_or, Nat.add_assoc]
theorem f191_b (hL : PL S p) {v lo w f : Nat} (l5 y : Bool) (hw : w < 4096) (hlo : lo < 8) {β : Type} (f9 : AH → Option β) : (p_X2_fill_191 p (ic v) (bi l5) (ic lo) (ic w) (ic f) (bi y) (hp S I L)).bind f9 = f9 (hp S (up2 I (p + 9) (8 * lo + v % 8) (ic (4 * f + b2 y 2 + b2 (l5 || w.testBit 2) 1))) L) := bnd (by apply f191 <;> assumption)
theorem f191_0 (hL : PL S p) {v lo w f : Nat} (l5 : Bool) (hw : w < 4096) (hlo : lo < 8) : p_X2_fill_191 p (ic v) (bi l5) (ic lo) (ic w) (ic f) 0 (hp S I L) = some (hp S (up2 I (p + 9) (8 * lo + v % 8) (ic (4 * f + b2 false 2 + b2 (l5 || w.testBit 2) 1))) L) := f191 hL l5 false hw hlo
theorem f191_0_b (hL : PL S p) {v lo w f : Nat} (l5 : Bool) (hw : w < 4096) (hlo : lo < 8) {β : Type} (f9 : AH → Option β) : (p_X2_fill_191 p (ic v) (bi l5) (ic lo) (ic w) (ic f) 0 (hp S I L)).bind f9 = f9 (hp S (up2 I (p + 9) (8 * lo + v % 8) (ic (4 * f + b2 false 2 + b2 (l5 || w.testBit 2) 1))) L) := bnd (by apply f191_0 <;> assumption)
theorem f191_1 (hL : PL S p) {v lo w f : Nat} (l5 : Bool) (hw : w < 4096) (hlo : lo < 8) : p_X2_fill_191 p (ic v) (bi l5) (ic lo) (ic w) (ic f) 1 (hp S I L) = some (hp S (up2 I (p + 9) (8 * lo + v % 8) (ic (4 * f + b2 true 2 + b2 (l5 || w.testBit 2) 1))) L) := f191 hL l5 true hw hlo
theorem f191_1_b (hL : PL S p) {v lo w f : Nat} (l5 : Bool) (hw : w < 4096) (hlo : lo < 8) {β : Type} (f9 : AH → Option β) : (p_X2_fill_191 p (ic v) (bi l5) (ic lo) (ic w) (ic f) 1 (hp S I L)).bind f9 = f9 (hp S (up2 I (p + 9) (8 * lo + v % 8) (ic (4 * f + b2 true 2 + b2 (l5 || w.testBit 2) 1))) L) := bnd (by apply f191_1 <;> assumption)
theorem f150 (hL : PL S p) (hR : PR I p s pl) (hV : Inv s pl) {v lo w f : Nat} (l5 : Bool) (hw : w < 4096) (hlo : lo < 8) (hf : f < 16) : p_X2_fill_150 p (ic v) (bi l5) (ic lo) (ic w) (ic f) (hp S I L) = some (hp S (up2 I (p + 9) (8 * lo + v % 8) (ic (4 * f + b2 (sw s f && (sm s).testBit f && !wat s f) 2 + b2 (l5 || w.testBit 2) 1))) L) := by
  have A := g_writable (L := L) hL.G hR.1 hV.1 hf
  have B := g_marked (L := L) hL.G hR.1 hV.1 hf
  have C := q_watches (L := L) hL.Q hR.2 hV (f := f) (by omega)
  cases a : sw s f <;> cases b : (sm s).testBit f <;> cases c : wat s f <;> rw [a] at A <;> rw [b] at B <;> rw [c] at C <;> simp (maxSteps := 1000000) (disch := omega) only [↓reduceIte, ↓if_bi0, ↓if_bi1, hp_tg, hp_rI, hp_rR, hp_rL, hp_wI, hp_wL, Option.bind_some, if_11, if_01, bi_and1, i10, i01, bi_t, bi_f, ic_add, mr_4, ml_4, mr_8, ml_8, mr_10, ml_10, ic_add1, ic_sub1, ic_clamp, ic_div, ic_irm, ic_lt0, ic_0lt, ic_eq0, ic_lt, ic_inj, and15, and7, and31, and63, shl1, shr_ok, neg_1, neg_2, neg_3, neg_4, kc_lt0, kc_ic, kc_m2, kc_1, kc_0, i0_add, add_i0, or_i0, z_8, z_4, z_64, z_256, ic_m2, ec_m1, ic_m1, m1_lt0, m2_lt0, m3_lt0, m4_lt0, up_s, if_true, if_false, ne_eq, not_true_eq_false, not_false_eq_true, Bool.false_eq_true, eq_self, or_self, or_false, false_or, and_self, and_true, true_and, ite_self, Nat.reduceEqDiff, Nat.reduceLT, Nat.reduceMod, Nat.reduceMul, Nat.reduceAdd, Nat.reducePow, Nat.reduceDiv, lt_2, lt_3, lt_4, lt_5, lt_6, lt_7, lt_8, lt_10, lt_11, lt_12, lt_15, lt_16, lt_18, lt_20, lt_24, lt_31, lt_32, lt_48, lt_57, lt_59, lt_63, lt_64, lt_74, lt_75, lt_97, lt_122, lt_128, lt_144, lt_145, lt_146, lt_147, lt_155, lt_163, lt_171, lt_179, lt_200, lt_243, lt_244, lt_255, lt_256, lt_732, lt_900, lt_3660, lt_3904, lt_4095, lt_65536, lt_65537, lt_252645135, lt_858993459, lt_1431655765, ↓p_has_b, p_has, ↓p_has9_b, p_has9, ↓p_bit_b, p_bit, ↓p_bit1_b, p_bit1, ↓p_bit0_b, p_bit0, p_X2_fill_150, p_X2_fill_190, hL.t, hL.g, hL.q, hL.gt, hL.qt, ↓bnd (A), A, ↓bnd (B), B, ↓bnd (C), C, ↓f191_0_b hL l5 hw hlo, f191_0 hL l5 hw hlo, ↓f191_1_b hL l5 hw hlo, f191_1 hL l5 hw hlo, Bool.and_self, Bool.and_true, Bool.and_false, Bool.not_false, Bool.not_true]
theorem f150_b (hL : PL S p) (hR : PR I p s pl) (hV : Inv s pl) {v lo w f : Nat} (l5 : Bool) (hw : w < 4096) (hlo : lo < 8) (hf : f < 16) {β : Type} (f9 : AH → Option β) : (p_X2_fill_150 p (ic v) (bi l5) (ic lo) (ic w) (ic f) (hp S I L)).bind f9 = f9 (hp S (up2 I (p + 9) (8 * lo + v % 8) (ic (4 * f + b2 (sw s f && (sm s).testBit f && !wat s f) 2 + b2 (l5 || w.testBit 2) 1))) L) := bnd (by apply f150 <;> assumption)
theorem f107 (hL : PL S p) (hR : PR I p s pl) (hV : Inv s pl) {v r lo : Nat} (y : Bool) (hv : v < 64) (hr : r < 8) (hlo : lo < 8)
    (hR4 : PR (up2 I (p + 9) (8 * r + v / 8) (ic (4 * lo + b2 y 2 + b2 ((rtW s v).testBit 2) 1))) p (ue s (up1 (se s) (8 * r + v / 8) (4 * lo + b2 y 2 + b2 ((rtW s v).testBit 2) 1 + 1))) pl) (hV4 : Inv (ue s (up1 (se s) (8 * r + v / 8) (4 * lo + b2 y 2 + b2 ((rtW s v).testBit 2) 1 + 1))) pl) :
    p_X2_fill_107 p (ic v) (ic (rtW s v)) (bi ((rtW s v).testBit 5)) (ic lo) (bi y) (ic lo) (ic (v / 8)) (ic r) (p + 5) (hp S I L) = some (hp S (up2 (up2 I (p + 9) (8 * r + v / 8) (ic (4 * lo + b2 y 2 + b2 ((rtW s v).testBit 2) 1))) (p + 9) (8 * lo + v % 8) (ic (en2 s v))) L) := by
  have h1 := rt_lt hV.1 hv
  have h2 := lst_lt hV.1 hv
  have h3 := frm_lt hV.1 hv
  have A : p_X1_lastWord (p + 2) (ic v) (hp S (up2 I (p + 9) (8 * r + v / 8) (ic (4 * lo + b2 y 2 + b2 ((rtW s v).testBit 2) 1))) L) = some (ic (lst s v), hp S (up2 I (p + 9) (8 * r + v / 8) (ic (4 * lo + b2 y 2 + b2 ((rtW s v).testBit 2) 1))) L) := g_last (L := L) hL.G hR4.1 hV4.1 hv
  have B : p_X1_frameTold (p + 2) (ic v) (hp S (up2 I (p + 9) (8 * r + v / 8) (ic (4 * lo + b2 y 2 + b2 ((rtW s v).testBit 2) 1))) L) = some (ic (frm s v), hp S (up2 I (p + 9) (8 * r + v / 8) (ic (4 * lo + b2 y 2 + b2 ((rtW s v).testBit 2) 1))) L) := g_frame (L := L) hL.G hR4.1 hV4.1 hv
  have C : p_X2_fill_150 p (ic v) (bi ((rtW s v).testBit 5)) (ic lo) (ic (lst s v)) (ic (frm s v)) (hp S (up2 I (p + 9) (8 * r + v / 8) (ic (4 * lo + b2 y 2 + b2 ((rtW s v).testBit 2) 1))) L) = _ := f150 (L := L) (lo := lo) (v := v) hL hR4 hV4 ((rtW s v).testBit 5) h2 hlo h3
  have D := q_tell (I := I) (L := L) (n := r) (i := v / 8) (w := lo) hL.Q (bi y) (bi ((rtW s v).testBit 2))
  have E : (4 * lo + (if bi y = 0 then 0 else 2) + (if bi ((rtW s v).testBit 2) = 0 then 0 else 1)) = 4 * lo + b2 y 2 + b2 ((rtW s v).testBit 2) 1 := by cases y <;> cases (rtW s v).testBit 2 <;> rfl
  rw [E, show 8 * (r % 8) + v / 8 % 8 = 8 * r + v / 8 by omega] at D
  have W : wat (ue s (up1 (se s) (8 * r + v / 8) (4 * lo + b2 y 2 + b2 ((rtW s v).testBit 2) 1 + 1))) (frm s v) = wat s (frm s v) := rfl
  rw [W] at C
  have Z := f191_0 (I := up2 I (p + 9) (8 * r + v / 8) (ic (4 * lo + b2 y 2 + b2 ((rtW s v).testBit 2) 1))) (L := L) (v := v) (f := frm s v) hL ((rtW s v).testBit 5) h2 hlo
  unfold en2
  simp (maxSteps := 1000000) (disch := omega) only [↓reduceIte, ↓if_bi0, ↓if_bi1, hp_tg, hp_rI, hp_rR, hp_rL, hp_wI, hp_wL, Option.bind_some, if_11, if_01, bi_and1, i10, i01, bi_t, bi_f, ic_add, mr_4, ml_4, mr_8, ml_8, mr_10, ml_10, ic_add1, ic_sub1, ic_clamp, ic_div, ic_irm, ic_lt0, ic_0lt, ic_eq0, ic_lt, ic_inj, and15, and7, and31, and63, shl1, shr_ok, neg_1, neg_2, neg_3, neg_4, kc_lt0, kc_ic, kc_m2, kc_1, kc_0, i0_add, add_i0, or_i0, z_8, z_4, z_64, z_256, ic_m2, ec_m1, ic_m1, m1_lt0, m2_lt0, m3_lt0, m4_lt0, up_s, if_true, if_false, ne_eq, not_true_eq_false, not_false_eq_true, Bool.false_eq_true, eq_self, or_self, or_false, false_or, and_self, and_true, true_and, ite_self, Nat.reduceEqDiff, Nat.reduceLT, Nat.reduceMod, Nat.reduceMul, Nat.reduceAdd, Nat.reducePow, Nat.reduceDiv, lt_2, lt_3, lt_4, lt_5, lt_6, lt_7, lt_8, lt_10, lt_11, lt_12, lt_15, lt_16, lt_18, lt_20, lt_24, lt_31, lt_32, lt_48, lt_57, lt_59, lt_63, lt_64, lt_74, lt_75, lt_97, lt_122, lt_128, lt_144, lt_145, lt_146, lt_147, lt_155, lt_163, lt_171, lt_179, lt_200, lt_243, lt_244, lt_255, lt_256, lt_732, lt_900, lt_3660, lt_3904, lt_4095, lt_65536, lt_65537, lt_252645135, lt_858993459, lt_1431655765, ↓p_has_b, p_has, ↓p_has9_b, p_has9, ↓p_bit_b, p_bit, ↓p_bit1_b, p_bit1, ↓p_bit0_b, p_bit0, p_X2_fill_107, p_X2_fill_190, hL.t, hL.g, hL.gt, hL.qt, hb4 h1, ↓bnd (D), D, ↓bnd (A), A, ↓bnd (B), B, hb18 h2, Z, C, swue, smue]
  generalize (rtW s v).testBit 5 = t5
  generalize ((lst s v).testBit 1 && (lst s v).testBit 4) = l14
  cases t5 <;> cases l14 <;> rfl
theorem f66 (hL : PL S p) (hR : PR I p s pl) (hV : Inv s pl) {v r lo : Nat} (hv : v < 64) (hr : r < 8) (hlo : lo < 8) (hk1 : sk s r = 1) (hk2 : 2 ≤ sk s lo) :
    p_X2_fill_66 p (ic v) (ic (rtW s v)) (bi ((rtW s v).testBit 5)) (ic r) (ic lo) (hp S I L) = some (hp S (up2 (up2 I (p + 9) (8 * r + v / 8) (ic (en1 s v lo))) (p + 9) (8 * lo + v % 8) (ic (en2 s v))) L) := by
  have h1 := rt_lt hV.1 hv
  have key : ∀ y : Bool, p_X2_fill_107 p (ic v) (ic (rtW s v)) (bi ((rtW s v).testBit 5)) (ic lo) (bi y) (ic lo) (ic (v / 8)) (ic r) (p + 5) (hp S I L) = some (hp S (up2 (up2 I (p + 9) (8 * r + v / 8) (ic (4 * lo + b2 y 2 + b2 ((rtW s v).testBit 2) 1))) (p + 9) (8 * lo + v % 8) (ic (en2 s v))) L) := by
    intro y
    have q4 : (4 * lo + b2 y 2 + b2 ((rtW s v).testBit 2) 1) / 4 = lo := by
      have := b2_le y 2
      have := b2_le ((rtW s v).testBit 2) 1
      omega
    have qa : (8 * r + v / 8) / 8 = r := by omega
    refine f107 hL hR hV y hv hr hlo ⟨(hR.1.fr (Fr.up (Nat.le_refl (p + 9)) (Nat.le_refl (p + 9))) (by omega)).sg ⟨rfl, rfl, rfl, rfl, rfl⟩, hR.2.put _ rfl (by omega)⟩ (inv_put hV (by omega) ?_ ?_ ?_)
    · rw [qa, hk1]; omega
    · intro _; rw [q4]; exact ⟨hlo, hk2⟩
    · rw [qa, hk1]; omega
  have k0 := key false
  have k1 := key true
  rw [bi_f] at k0
  rw [bi_t] at k1
  simp (maxSteps := 1000000) (disch := omega) only [↓reduceIte, ↓if_bi0, ↓if_bi1, hp_tg, hp_rI, hp_rR, hp_rL, hp_wI, hp_wL, Option.bind_some, if_11, if_01, bi_and1, i10, i01, bi_t, bi_f, ic_add, mr_4, ml_4, mr_8, ml_8, mr_10, ml_10, ic_add1, ic_sub1, ic_clamp, ic_div, ic_irm, ic_lt0, ic_0lt, ic_eq0, ic_lt, ic_inj, and15, and7, and31, and63, shl1, shr_ok, neg_1, neg_2, neg_3, neg_4, kc_lt0, kc_ic, kc_m2, kc_1, kc_0, i0_add, add_i0, or_i0, z_8, z_4, z_64, z_256, ic_m2, ec_m1, ic_m1, m1_lt0, m2_lt0, m3_lt0, m4_lt0, up_s, if_true, if_false, ne_eq, not_true_eq_false, not_false_eq_true, Bool.false_eq_true, eq_self, or_self, or_false, false_or, and_self, and_true, true_and, ite_self, Nat.reduceEqDiff, Nat.reduceLT, Nat.reduceMod, Nat.reduceMul, Nat.reduceAdd, Nat.reducePow, Nat.reduceDiv, lt_2, lt_3, lt_4, lt_5, lt_6, lt_7, lt_8, lt_10, lt_11, lt_12, lt_15, lt_16, lt_18, lt_20, lt_24, lt_31, lt_32, lt_48, lt_57, lt_59, lt_63, lt_64, lt_74, lt_75, lt_97, lt_122, lt_128, lt_144, lt_145, lt_146, lt_147, lt_155, lt_163, lt_171, lt_179, lt_200, lt_243, lt_244, lt_255, lt_256, lt_732, lt_900, lt_3660, lt_3904, lt_4095, lt_65536, lt_65537, lt_252645135, lt_858993459, lt_1431655765, ↓p_has_b, p_has, ↓p_has9_b, p_has9, ↓p_bit_b, p_bit, ↓p_bit1_b, p_bit1, ↓p_bit0_b, p_bit0, p_X2_fill_66, p_X2_fill_106, p_X2_fill_102, hL.t, hL.q, hb2 h1, hb16 h1, k0, k1]
  unfold en1
  generalize (rtW s v).testBit 5 = t5
  generalize (rtW s v).testBit 1 = t1
  generalize (rtW s v).testBit 4 = t4
  cases t5 <;> cases t1 <;> cases t4 <;> rfl
theorem note_sr (s : St) (v : Nat) (wr : Bool) : sr (note s v wr) = sr s := rfl
/-- a fault that is done -/
theorem k_fill (hL : PL S p) (hR : PR I p s pl) (hV : Inv s pl) (hc : sc s < 1073741000) {v : Nat} (hv : v < 64) (wr us : Bool) (hh : 0 < sH s (frm s v)) : ∃ I', p_X2_fill p (ic v) (ic (md wr us)) (hp S I L) = some (hp S I' L) ∧ PR I' p (fil (note s v wr) pl v).1 pl ∧ Fr I I' p (p + 9) ∧ I' p 7 = I p 7 + ic (fil (note s v wr) pl v).2.1 ∧ ∀ j, j ≠ 7 → I' p j = I p j := by
  obtain ⟨I1, e1, r1, f1⟩ := g_note (L := L) hL.G hR.1 hV.1 hv wr us
  have V1 := inv_note hV hv wr
  have R1 : PR I1 p (note s v wr) pl := ⟨r1, hR.2.fr f1 (by omega)⟩
  have c1 : sc (note s v wr) < 1073741000 := hc
  have h1 := rt_lt V1.1 hv
  have U1 := g_upper (L := L) hL.G R1.1 V1.1 hv
  obtain ⟨I2, e2, r2, f2, d2, o2⟩ := k_table0 (L := L) hL R1 V1 (by omega)
  have A := inv_need V1 (k := 0) (o := sr (note s v wr)) (by omega) V1.1.2.2.2.2
  rw [show need (note s v wr) pl 0 (sr (note s v wr)) = fl1 (note s v wr) pl from rfl] at A
  obtain ⟨a1, a2, a3, a4, a5, a6, a7, a8⟩ := A
  obtain ⟨b1, b2', b3, b4, b5, b6, b7⟩ := inv_fl2 a1 hv
  have T4 : I1 (p + 2) 4 = ic (sr (note s v wr)) := R1.1.2.2.2.2
  have rtE : rtW (fl1 (note s v wr) pl).2.1 v = rtW (note s v wr) v := rtW_SG a5 v
  -- the second table
  have second : ∃ I3, p_X2_fill p (ic v) (ic (md wr us)) (hp S I L) = p_X2_fill_66 p (ic v) (ic (rtW (note s v wr) v)) (bi ((rtW (note s v wr) v).testBit 5)) (ic (fl1 (note s v wr) pl).1) (ic (fl2 (fl1 (note s v wr) pl).2.1 pl v).1) (hp S I3 L) ∧ PR I3 p (fl2 (fl1 (note s v wr) pl).2.1 pl v).2.1 pl ∧ Fr I2 I3 p (p + 9) ∧ I3 p 7 = I2 p 7 + ic (fl2 (fl1 (note s v wr) pl).2.1 pl v).2.2 ∧ ∀ j, j ≠ 7 → I3 p j = I2 p j := by
    unfold fl2
    rw [rtE]
    cases t5 : (rtW (note s v wr) v).testBit 5
    · obtain ⟨I3, e3, r3, f3, d3, o3⟩ := k_table1 (L := L) hL r2 a1 (by omega) (o := rtW (note s v wr) v / 256) (by omega)
      refine ⟨I3, ?_, r3, f3, d3, o3⟩
      simp (maxSteps := 1000000) (disch := omega) only [↓reduceIte, ↓if_bi0, ↓if_bi1, hp_tg, hp_rI, hp_rR, hp_rL, hp_wI, hp_wL, Option.bind_some, if_11, if_01, bi_and1, i10, i01, bi_t, bi_f, ic_add, mr_4, ml_4, mr_8, ml_8, mr_10, ml_10, ic_add1, ic_sub1, ic_clamp, ic_div, ic_irm, ic_lt0, ic_0lt, ic_eq0, ic_lt, ic_inj, and15, and7, and31, and63, shl1, shr_ok, neg_1, neg_2, neg_3, neg_4, kc_lt0, kc_ic, kc_m2, kc_1, kc_0, i0_add, add_i0, or_i0, z_8, z_4, z_64, z_256, ic_m2, ec_m1, ic_m1, m1_lt0, m2_lt0, m3_lt0, m4_lt0, up_s, if_true, if_false, ne_eq, not_true_eq_false, not_false_eq_true, Bool.false_eq_true, eq_self, or_self, or_false, false_or, and_self, and_true, true_and, ite_self, Nat.reduceEqDiff, Nat.reduceLT, Nat.reduceMod, Nat.reduceMul, Nat.reduceAdd, Nat.reducePow, Nat.reduceDiv, lt_2, lt_3, lt_4, lt_5, lt_6, lt_7, lt_8, lt_10, lt_11, lt_12, lt_15, lt_16, lt_18, lt_20, lt_24, lt_31, lt_32, lt_48, lt_57, lt_59, lt_63, lt_64, lt_74, lt_75, lt_97, lt_122, lt_128, lt_144, lt_145, lt_146, lt_147, lt_155, lt_163, lt_171, lt_179, lt_200, lt_243, lt_244, lt_255, lt_256, lt_732, lt_900, lt_3660, lt_3904, lt_4095, lt_65536, lt_65537, lt_252645135, lt_858993459, lt_1431655765, ↓p_has_b, p_has, ↓p_has9_b, p_has9, ↓p_bit_b, p_bit, ↓p_bit1_b, p_bit1, ↓p_bit0_b, p_bit0, p_X2_fill, hL.t, hL.g, hL.gt, ↓bnd (e1), e1, ↓bnd (U1), U1, hb32 h1, t5, T4, ↓bnd (e2), e2, ↓p_frameIn_b h1, p_frameIn h1, ↓bnd (e3), e3]
    · obtain ⟨I3, e3, r3, f3, d3, o3⟩ := k_tableOf (L := L) hL r2 a1 (by omega) (k := 2) (o := lg8 (rtW (note s v wr) v)) (by omega) (by have := lg8_le (rtW (note s v wr) v); omega)
      refine ⟨I3, ?_, r3, f3, d3, o3⟩
      simp (maxSteps := 1000000) (disch := omega) only [↓reduceIte, ↓if_bi0, ↓if_bi1, hp_tg, hp_rI, hp_rR, hp_rL, hp_wI, hp_wL, Option.bind_some, if_11, if_01, bi_and1, i10, i01, bi_t, bi_f, ic_add, mr_4, ml_4, mr_8, ml_8, mr_10, ml_10, ic_add1, ic_sub1, ic_clamp, ic_div, ic_irm, ic_lt0, ic_0lt, ic_eq0, ic_lt, ic_inj, and15, and7, and31, and63, shl1, shr_ok, neg_1, neg_2, neg_3, neg_4, kc_lt0, kc_ic, kc_m2, kc_1, kc_0, i0_add, add_i0, or_i0, z_8, z_4, z_64, z_256, ic_m2, ec_m1, ic_m1, m1_lt0, m2_lt0, m3_lt0, m4_lt0, up_s, if_true, if_false, ne_eq, not_true_eq_false, not_false_eq_true, Bool.false_eq_true, eq_self, or_self, or_false, false_or, and_self, and_true, true_and, ite_self, Nat.reduceEqDiff, Nat.reduceLT, Nat.reduceMod, Nat.reduceMul, Nat.reduceAdd, Nat.reducePow, Nat.reduceDiv, lt_2, lt_3, lt_4, lt_5, lt_6, lt_7, lt_8, lt_10, lt_11, lt_12, lt_15, lt_16, lt_18, lt_20, lt_24, lt_31, lt_32, lt_48, lt_57, lt_59, lt_63, lt_64, lt_74, lt_75, lt_97, lt_122, lt_128, lt_144, lt_145, lt_146, lt_147, lt_155, lt_163, lt_171, lt_179, lt_200, lt_243, lt_244, lt_255, lt_256, lt_732, lt_900, lt_3660, lt_3904, lt_4095, lt_65536, lt_65537, lt_252645135, lt_858993459, lt_1431655765, ↓p_has_b, p_has, ↓p_has9_b, p_has9, ↓p_bit_b, p_bit, ↓p_bit1_b, p_bit1, ↓p_bit0_b, p_bit0, p_X2_fill, hL.t, hL.g, hL.gt, ↓bnd (e1), e1, ↓bnd (U1), U1, hb32 h1, t5, T4, ↓bnd (e2), e2, ↓p_firstOfLarge_b h1, p_firstOfLarge h1, ↓bnd (e3), e3]
  obtain ⟨I3, e3, r3, f3, d3, o3⟩ := second
  have g3 : SG (note s v wr) (fl2 (fl1 (note s v wr) pl).2.1 pl v).2.1 := a5.trans b4
  have rtF : rtW (fl2 (fl1 (note s v wr) pl).2.1 pl v).2.1 v = rtW (note s v wr) v := rtW_SG g3 v
  have k1 := b7 (fl1 (note s v wr) pl).1 a2 a3 (by rw [a5.2.2.2.2]; exact a4)
  have Z := f66 (L := L) hL r3 b1 hv a2 b2' k1.1 b3
  rw [rtF] at Z
  have en1E : en1 (fl2 (fl1 (note s v wr) pl).2.1 pl v).2.1 v (fl2 (fl1 (note s v wr) pl).2.1 pl v).1 = en1 (note s v wr) v (fl2 (fl1 (note s v wr) pl).2.1 pl v).1 := by unfold en1; rw [rtF]
  rw [en1E] at Z
  refine ⟨_, e3.trans Z, ⟨?_, ?_⟩, ((((f1.wide (by omega) (by omega)).trans f2).trans f3).trans (Fr.up (by omega) (by omega))).trans (Fr.up (by omega) (by omega)), ?_, fun j hj => ?_⟩
  · exact ((r3.1.fr (Fr.up (Nat.le_refl (p + 9)) (Nat.le_refl (p + 9))) (by omega)).fr (Fr.up (Nat.le_refl (p + 9)) (Nat.le_refl (p + 9))) (by omega)).sg ⟨rfl, rfl, rfl, rfl, rfl⟩
  · exact (r3.2.put _ (kc_succ _).symm (by omega)).put _ (kc_succ _).symm (by omega)
  · rw [up_a (by omega), up_a (by omega), d3, d2, f1 p (by omega)]
    show I p 7 + ic (fl1 (note s v wr) pl).2.2 + ic (fl2 (fl1 (note s v wr) pl).2.1 pl v).2.2 = I p 7 + ic ((fl1 (note s v wr) pl).2.2 + (fl2 (fl1 (note s v wr) pl).2.1 pl v).2.2)
    rw [← ic_add, Int32.add_assoc]
  · rw [up_a (by omega), up_a (by omega), o3 j hj, o2 j hj, f1 p (by omega)]
theorem hit_some (hV : Inv s pl) {v a : Nat} {wr us : Bool} (hv : v < 64) (h : hit s v wr us = some a) : a < 64 ∧ se s a ≠ 0 ∧ (se s a - 1) / 4 < 16 ∧ 0 < sH s ((se s a - 1) / 4) := by
  unfold hit at h
  by_cases c : upe s v = 0
  · rw [if_pos c] at h; cases h
  · rw [if_neg c] at h
    obtain ⟨u1, u2⟩ := upe_4 hV hv c
    by_cases d : se s (8 * ((upe s v - 1) / 4) + v % 8) = 0
    · rw [if_pos d] at h; cases h
    · rw [if_neg d] at h
      by_cases e : hok (upe s v - 1) (se s (8 * ((upe s v - 1) / 4) + v % 8) - 1) wr us = true
      · rw [if_pos e] at h
        cases h
        have := (hV.2.2 (8 * ((upe s v - 1) / 4) + v % 8) (by omega) d).2.2
        rw [show (8 * ((upe s v - 1) / 4) + v % 8) / 8 = (upe s v - 1) / 4 by omega] at this
        exact ⟨by omega, d, this u2⟩
      · rw [if_neg e] at h; cases h
def hhw (s : St) (v : Nat) (wr us : Bool) : Nat := om (hit s v wr us) 0 (fun a => sH s ((se s a - 1) / 4))
theorem k_hw (hL : PL S p) (hR : PR I p s pl) (hV : Inv s pl) {v : Nat} (hv : v < 64) (wr us : Bool) : p_X2_hostByHardware p (ic v) (ic (md wr us)) (hp S I L) = some (kc (hhw s v wr us), hp S I L) := by
  have A := q_hit (L := L) hL.Q hR.2 hV hv wr us
  have T4 := hR.1.2.2.2.2
  unfold hen at A
  unfold hhw
  cases e : hit s v wr us with
  | none =>
    rw [e, om_none] at A
    simp (maxSteps := 1000000) (disch := omega) only [↓reduceIte, ↓if_bi0, ↓if_bi1, hp_tg, hp_rI, hp_rR, hp_rL, hp_wI, hp_wL, Option.bind_some, if_11, if_01, bi_and1, i10, i01, bi_t, bi_f, ic_add, mr_4, ml_4, mr_8, ml_8, mr_10, ml_10, ic_add1, ic_sub1, ic_clamp, ic_div, ic_irm, ic_lt0, ic_0lt, ic_eq0, ic_lt, ic_inj, and15, and7, and31, and63, shl1, shr_ok, neg_1, neg_2, neg_3, neg_4, kc_lt0, kc_ic, kc_m2, kc_1, kc_0, i0_add, add_i0, or_i0, z_8, z_4, z_64, z_256, ic_m2, ec_m1, ic_m1, m1_lt0, m2_lt0, m3_lt0, m4_lt0, up_s, if_true, if_false, ne_eq, not_true_eq_false, not_false_eq_true, Bool.false_eq_true, eq_self, or_self, or_false, false_or, and_self, and_true, true_and, ite_self, Nat.reduceEqDiff, Nat.reduceLT, Nat.reduceMod, Nat.reduceMul, Nat.reduceAdd, Nat.reducePow, Nat.reduceDiv, lt_2, lt_3, lt_4, lt_5, lt_6, lt_7, lt_8, lt_10, lt_11, lt_12, lt_15, lt_16, lt_18, lt_20, lt_24, lt_31, lt_32, lt_48, lt_57, lt_59, lt_63, lt_64, lt_74, lt_75, lt_97, lt_122, lt_128, lt_144, lt_145, lt_146, lt_147, lt_155, lt_163, lt_171, lt_179, lt_200, lt_243, lt_244, lt_255, lt_256, lt_732, lt_900, lt_3660, lt_3904, lt_4095, lt_65536, lt_65537, lt_252645135, lt_858993459, lt_1431655765, ↓p_has_b, p_has, ↓p_has9_b, p_has9, ↓p_bit_b, p_bit, ↓p_bit1_b, p_bit1, ↓p_bit0_b, p_bit0, p_X2_hostByHardware_36, p_X2_hostByHardware_34, p_X2_hostByHardware, hL.t, hL.g, hL.gt, hL.q, hL.qt, T4, ↓bnd (A), A, om_none, kc_zero]
  | some a =>
    rw [e, om_some] at A
    obtain ⟨h1, h2, h3, h4⟩ := hit_some hV hv e
    have h64 := hV.e64 h1
    rw [kc_pos (show 0 < se s a by omega)] at A
    simp (maxSteps := 1000000) (disch := omega) only [↓reduceIte, ↓if_bi0, ↓if_bi1, hp_tg, hp_rI, hp_rR, hp_rL, hp_wI, hp_wL, Option.bind_some, if_11, if_01, bi_and1, i10, i01, bi_t, bi_f, ic_add, mr_4, ml_4, mr_8, ml_8, mr_10, ml_10, ic_add1, ic_sub1, ic_clamp, ic_div, ic_irm, ic_lt0, ic_0lt, ic_eq0, ic_lt, ic_inj, and15, and7, and31, and63, shl1, shr_ok, neg_1, neg_2, neg_3, neg_4, kc_lt0, kc_ic, kc_m2, kc_1, kc_0, i0_add, add_i0, or_i0, z_8, z_4, z_64, z_256, ic_m2, ec_m1, ic_m1, m1_lt0, m2_lt0, m3_lt0, m4_lt0, up_s, if_true, if_false, ne_eq, not_true_eq_false, not_false_eq_true, Bool.false_eq_true, eq_self, or_self, or_false, false_or, and_self, and_true, true_and, ite_self, Nat.reduceEqDiff, Nat.reduceLT, Nat.reduceMod, Nat.reduceMul, Nat.reduceAdd, Nat.reducePow, Nat.reduceDiv, lt_2, lt_3, lt_4, lt_5, lt_6, lt_7, lt_8, lt_10, lt_11, lt_12, lt_15, lt_16, lt_18, lt_20, lt_24, lt_31, lt_32, lt_48, lt_57, lt_59, lt_63, lt_64, lt_74, lt_75, lt_97, lt_122, lt_128, lt_144, lt_145, lt_146, lt_147, lt_155, lt_163, lt_171, lt_179, lt_200, lt_243, lt_244, lt_255, lt_256, lt_732, lt_900, lt_3660, lt_3904, lt_4095, lt_65536, lt_65537, lt_252645135, lt_858993459, lt_1431655765, ↓p_has_b, p_has, ↓p_has9_b, p_has9, ↓p_bit_b, p_bit, ↓p_bit1_b, p_bit1, ↓p_bit0_b, p_bit0, p_X2_hostByHardware_36, p_X2_hostByHardware_34, p_X2_hostByHardware, hL.t, hL.g, hL.gt, hL.q, hL.qt, T4, ↓bnd (A), A, om_some, ↓g_host_b hL.G hR.1 h3, g_host hL.G hR.1 h3]
theorem k_hw_b (hL : PL S p) (hR : PR I p s pl) (hV : Inv s pl) {v : Nat} (hv : v < 64) (wr us : Bool) {β : Type} (f9 : Int32 × AH → Option β) : (p_X2_hostByHardware p (ic v) (ic (md wr us)) (hp S I L)).bind f9 = f9 (kc (hhw s v wr us), hp S I L) := bnd (by apply k_hw <;> assumption)
theorem lok_host {v : Nat} {wr us : Bool} (h : 3 ≤ lok s v wr us) : 0 < sH s (frm s v) := by
  unfold lok at h
  by_cases a : sH s (frm s v) = 0
  · rw [if_pos a] at h
    revert h
    repeat' split
    all_goals omega
  · omega
/-- an access -/
theorem k_reach (hL : PL S p) (hR : PR I p s pl) (hV : Inv s pl) (hc : sc s < 1073741000) {v : Nat} (hv : v < 64) (wr us : Bool) : ∃ I', p_X2_reach p (ic v) (ic (md wr us)) (hp S I L) = some (lc (rch s pl v wr us).2.1, hp S I' L) ∧ PR I' p (rch s pl v wr us).1 pl ∧ Fr I I' p (p + 9) ∧ I' p 3 = I p 3 + bi (rch s pl v wr us).2.2.2.2 ∧ I' p 4 = I p 4 + bi (!(rch s pl v wr us).2.2.2.2) ∧ I' p 5 = I p 5 + bi (decide ((rch s pl v wr us).2.1 < 3)) ∧ I' p 6 = I p 6 ∧ I' p 7 = I p 7 + ic (rch s pl v wr us).2.2.1 := by
  have A := k_hw (L := L) hL hR hV hv wr us
  have hfr := frm_lt hV.1 hv
  unfold hhw at A
  unfold rch
  cases e : hit s v wr us with
  | some a =>
    rw [e, om_some] at A
    obtain ⟨h1, h2, h3, h4⟩ := hit_some hV hv e
    have h5 := hV.1.2.1 _ h3
    rw [kc_pos h4] at A
    refine ⟨up2 I p 3 (I p 3 + 1), ?_, hR.fr (Fr.up (Nat.le_refl p) (Nat.le_refl p)) (by omega), Fr.up (by omega) (by omega), ?_, ?_, ?_, ?_, ?_⟩
    · simp (maxSteps := 1000000) (disch := omega) only [↓reduceIte, ↓if_bi0, ↓if_bi1, hp_tg, hp_rI, hp_rR, hp_rL, hp_wI, hp_wL, Option.bind_some, if_11, if_01, bi_and1, i10, i01, bi_t, bi_f, ic_add, mr_4, ml_4, mr_8, ml_8, mr_10, ml_10, ic_add1, ic_sub1, ic_clamp, ic_div, ic_irm, ic_lt0, ic_0lt, ic_eq0, ic_lt, ic_inj, and15, and7, and31, and63, shl1, shr_ok, neg_1, neg_2, neg_3, neg_4, kc_lt0, kc_ic, kc_m2, kc_1, kc_0, i0_add, add_i0, or_i0, z_8, z_4, z_64, z_256, ic_m2, ec_m1, ic_m1, m1_lt0, m2_lt0, m3_lt0, m4_lt0, up_s, if_true, if_false, ne_eq, not_true_eq_false, not_false_eq_true, Bool.false_eq_true, eq_self, or_self, or_false, false_or, and_self, and_true, true_and, ite_self, Nat.reduceEqDiff, Nat.reduceLT, Nat.reduceMod, Nat.reduceMul, Nat.reduceAdd, Nat.reducePow, Nat.reduceDiv, lt_2, lt_3, lt_4, lt_5, lt_6, lt_7, lt_8, lt_10, lt_11, lt_12, lt_15, lt_16, lt_18, lt_20, lt_24, lt_31, lt_32, lt_48, lt_57, lt_59, lt_63, lt_64, lt_74, lt_75, lt_97, lt_122, lt_128, lt_144, lt_145, lt_146, lt_147, lt_155, lt_163, lt_171, lt_179, lt_200, lt_243, lt_244, lt_255, lt_256, lt_732, lt_900, lt_3660, lt_3904, lt_4095, lt_65536, lt_65537, lt_252645135, lt_858993459, lt_1431655765, ↓p_has_b, p_has, ↓p_has9_b, p_has9, ↓p_bit_b, p_bit, ↓p_bit1_b, p_bit1, ↓p_bit0_b, p_bit0, p_X2_reach_62, p_X2_reach_23, p_X2_reach, hL.t, ↓bnd (A), A, om_some]
      rw [lc_host h4, kc_pos h4]
    · rw [up_s]; rfl
    · rw [up_k (by omega)]; exact (add_i0 _).symm
    · rw [up_k (by omega), om_some, decide_eq_false (by show ¬ sH s ((se s a - 1) / 4) + 2 < 3; omega)]; exact (add_i0 _).symm
    · rw [up_k (by omega)]
    · rw [up_k (by omega)]; exact (add_i0 _).symm
  | none =>
    rw [e, om_none] at A
    have R1 : PR (up2 I p 4 (I p 4 + 1)) p s pl := hR.fr (Fr.up (Nat.le_refl p) (Nat.le_refl p)) (by omega)
    have K := g_seek (L := L) hL.G R1.1 hV.1 hv wr us
    have hl := lok_lt hV.1 hv wr us
    rw [om_none]
    by_cases c : lok s v wr us < 3
    · simp only [if_pos c]
      refine ⟨up2 (up2 I p 4 (I p 4 + 1)) p 5 (I p 5 + 1), ?_, R1.fr (Fr.up (Nat.le_refl p) (Nat.le_refl p)) (by omega), (Fr.up (by omega) (by omega)).trans (Fr.up (by omega) (by omega)), ?_, ?_, ?_, ?_, ?_⟩
      · simp (maxSteps := 1000000) (disch := omega) only [↓reduceIte, ↓if_bi0, ↓if_bi1, hp_tg, hp_rI, hp_rR, hp_rL, hp_wI, hp_wL, Option.bind_some, if_11, if_01, bi_and1, i10, i01, bi_t, bi_f, ic_add, mr_4, ml_4, mr_8, ml_8, mr_10, ml_10, ic_add1, ic_sub1, ic_clamp, ic_div, ic_irm, ic_lt0, ic_0lt, ic_eq0, ic_lt, ic_inj, and15, and7, and31, and63, shl1, shr_ok, neg_1, neg_2, neg_3, neg_4, kc_lt0, kc_ic, kc_m2, kc_1, kc_0, i0_add, add_i0, or_i0, z_8, z_4, z_64, z_256, ic_m2, ec_m1, ic_m1, m1_lt0, m2_lt0, m3_lt0, m4_lt0, up_s, if_true, if_false, ne_eq, not_true_eq_false, not_false_eq_true, Bool.false_eq_true, eq_self, or_self, or_false, false_or, and_self, and_true, true_and, ite_self, Nat.reduceEqDiff, Nat.reduceLT, Nat.reduceMod, Nat.reduceMul, Nat.reduceAdd, Nat.reducePow, Nat.reduceDiv, lt_2, lt_3, lt_4, lt_5, lt_6, lt_7, lt_8, lt_10, lt_11, lt_12, lt_15, lt_16, lt_18, lt_20, lt_24, lt_31, lt_32, lt_48, lt_57, lt_59, lt_63, lt_64, lt_74, lt_75, lt_97, lt_122, lt_128, lt_144, lt_145, lt_146, lt_147, lt_155, lt_163, lt_171, lt_179, lt_200, lt_243, lt_244, lt_255, lt_256, lt_732, lt_900, lt_3660, lt_3904, lt_4095, lt_65536, lt_65537, lt_252645135, lt_858993459, lt_1431655765, ↓p_has_b, p_has, ↓p_has9_b, p_has9, ↓p_bit_b, p_bit, ↓p_bit1_b, p_bit1, ↓p_bit0_b, p_bit0, p_X2_reach_62, p_X2_reach_23, p_X2_reach, hL.t, hL.g, hL.gt, ↓bnd (A), A, kc_zero, ↓bnd (K), K, lc_lt, c]
        rw [up_k (by omega)]
      · rw [up_k (by omega), up_k (by omega)]; exact (add_i0 _).symm
      · rw [up_k (by omega), up_s]; rfl
      · rw [up_s, decide_eq_true c]; rfl
      · rw [up_k (by omega), up_k (by omega)]
      · rw [up_k (by omega), up_k (by omega)]; exact (add_i0 _).symm
    · simp only [if_neg c]
      obtain ⟨I2, e2, r2, f2, d2, o2⟩ := k_fill (L := L) hL R1 hV hc hv wr us (lok_host (wr := wr) (us := us) (by omega))
      refine ⟨I2, ?_, r2, (Fr.up (by omega) (by omega)).trans f2, ?_, ?_, ?_, ?_, ?_⟩
      · simp (maxSteps := 1000000) (disch := omega) only [↓reduceIte, ↓if_bi0, ↓if_bi1, hp_tg, hp_rI, hp_rR, hp_rL, hp_wI, hp_wL, Option.bind_some, if_11, if_01, bi_and1, i10, i01, bi_t, bi_f, ic_add, mr_4, ml_4, mr_8, ml_8, mr_10, ml_10, ic_add1, ic_sub1, ic_clamp, ic_div, ic_irm, ic_lt0, ic_0lt, ic_eq0, ic_lt, ic_inj, and15, and7, and31, and63, shl1, shr_ok, neg_1, neg_2, neg_3, neg_4, kc_lt0, kc_ic, kc_m2, kc_1, kc_0, i0_add, add_i0, or_i0, z_8, z_4, z_64, z_256, ic_m2, ec_m1, ic_m1, m1_lt0, m2_lt0, m3_lt0, m4_lt0, up_s, if_true, if_false, ne_eq, not_true_eq_false, not_false_eq_true, Bool.false_eq_true, eq_self, or_self, or_false, false_or, and_self, and_true, true_and, ite_self, Nat.reduceEqDiff, Nat.reduceLT, Nat.reduceMod, Nat.reduceMul, Nat.reduceAdd, Nat.reducePow, Nat.reduceDiv, lt_2, lt_3, lt_4, lt_5, lt_6, lt_7, lt_8, lt_10, lt_11, lt_12, lt_15, lt_16, lt_18, lt_20, lt_24, lt_31, lt_32, lt_48, lt_57, lt_59, lt_63, lt_64, lt_74, lt_75, lt_97, lt_122, lt_128, lt_144, lt_145, lt_146, lt_147, lt_155, lt_163, lt_171, lt_179, lt_200, lt_243, lt_244, lt_255, lt_256, lt_732, lt_900, lt_3660, lt_3904, lt_4095, lt_65536, lt_65537, lt_252645135, lt_858993459, lt_1431655765, ↓p_has_b, p_has, ↓p_has9_b, p_has9, ↓p_bit_b, p_bit, ↓p_bit1_b, p_bit1, ↓p_bit0_b, p_bit0, p_X2_reach_62, p_X2_reach_23, p_X2_reach, hL.t, hL.g, hL.gt, ↓bnd (A), A, kc_zero, ↓bnd (K), K, lc_lt, c, ↓bnd (e2), e2]
      · rw [o2 3 (by omega), up_k (by omega)]; exact (add_i0 _).symm
      · rw [o2 4 (by omega), up_s]; rfl
      · rw [o2 5 (by omega), up_k (by omega), decide_eq_false c]; exact (add_i0 _).symm
      · rw [o2 6 (by omega), up_k (by omega)]
      · rw [d2, up_k (by omega)]
end REACH
