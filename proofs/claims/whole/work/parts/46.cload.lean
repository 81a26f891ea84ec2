/-! ===== the class: a root loaded; copies, starts ===== -/
theorem bc_d : ∀ w, w < 256 → ∀ h : AH, p_J6_bitCount_0f7a4 (ic w) h = some (ic (cnt (fun n => w.testBit n) 8), h) := by
  have key : ∀ w, w < 256 → (fun (x0 : Int32) => let x101 := x0 - (((x0.toUInt32 >>> (((1 : Int32)) &&& 31).toUInt32).toInt32) &&& ((1431655765 : Int32))); let x102 := (x101 &&& ((858993459 : Int32))) + (((x101.toUInt32 >>> (((2 : Int32)) &&& 31).toUInt32).toInt32) &&& ((858993459 : Int32))); let x103 := (x102 + ((x102.toUInt32 >>> (((4 : Int32)) &&& 31).toUInt32).toInt32)) &&& ((252645135 : Int32)); let x104 := x103 + ((x103.toUInt32 >>> (((8 : Int32)) &&& 31).toUInt32).toInt32); let x105 := x104 + ((x104.toUInt32 >>> (((16 : Int32)) &&& 31).toUInt32).toInt32); (x105 &&& ((63 : Int32)))) (ic w) = ic (cnt (fun n => w.testBit n) 8) := by decide +kernel
  intro w hw h
  exact congrArg (fun x => some (x, h)) (key w hw)
theorem bb_and : ∀ e, e < 64 → ∀ u wd : Bool, (4 * (e / 4) + b2 (e.testBit 1 && wd) 2 + b2 (e.testBit 0 && u) 1) = (if wd = true then (if u = true then e else if e.testBit 0 = true then e - 1 else e) else (if (if u = true then e else if e.testBit 0 = true then e - 1 else e).testBit 1 = true then (if u = true then e else if e.testBit 0 = true then e - 1 else e) - 2 else (if u = true then e else if e.testBit 0 = true then e - 1 else e))) := by decide +kernel
section CLOAD
variable {S : SH} {I : II} {L : LL} {p pl : Nat} {s : St}
theorem SG.symm {s t : St} (a : SG s t) : SG t s := ⟨a.1.symm, a.2.1.symm, a.2.2.1.symm, a.2.2.2.1.symm, a.2.2.2.2.symm⟩
theorem ue_SG (s : St) (f : Nat → Nat) : SG s (ue s f) := ⟨sWue s f, sHue s f, swue s f, smue s f, srue s f⟩
theorem uu_SG (s : St) (f : Nat → Bool) : SG s (uu s f) := ⟨sWuu s f, sHuu s f, swuu s f, smuu s f, sruu s f⟩
theorem pe_SG (s : St) (f : Nat → Nat) (k : Nat) : SG s (pe s f k) := ue_SG s _
theorem pe_pe (s : St) (f : Nat → Nat) (k j : Nat) : SG (pe s f k) (pe s f j) := (pe_SG s f k).symm.trans (pe_SG s f j)
theorem QR.uu0 {q : Nat} (h : QR I q s pl) : QR (up2 I q 4 0) q (uu s (fun _ => false)) pl := by
  obtain ⟨h1, h2, h3, h4, -, h8, h9⟩ := h
  refine ⟨fun n hn => ?_, fun n hn => ?_, fun n hn => ?_, fun a ha => ?_, ⟨0, by omega, up_s _ _ _ _, fun n hn => ?_⟩, ?_, ?_⟩
  · rw [up_a (by omega)]; exact h1 n hn
  · rw [up_a (by omega)]; exact h2 n hn
  · rw [up_a (by omega)]; exact h3 n hn
  · rw [up_a (by omega)]; exact h4 a ha
  · rw [Nat.zero_testBit]; rfl
  · rw [up_k (by omega)]; exact h8
  · rw [up_k (by omega)]; exact h9
theorem bbA_ur (s : St) (f : Nat) : bbA (ur s f) = bbA s := rfl
theorem su_pe (s : St) (f : Nat → Nat) (k n : Nat) : su (pe s f k) n = su s n := by unfold pe; rw [suue]
theorem q_owner {q : Nat} (hL : QL S q) (hR : QR I q s pl) {n : Nat} (hn : n < 8) : p_X3_ownerOf q (ic n) (hp S I L) = some (kc (so s n), hp S I L) := by
  simp (maxSteps := 1000000) (disch := omega) only [↓reduceIte, ↓if_bi0, ↓if_bi1, hp_tg, hp_rI, hp_rR, hp_rL, hp_wI, hp_wL, Option.bind_some, if_11, if_01, bi_and1, i10, i01, bi_t, bi_f, ic_add, mr_4, ml_4, mr_8, ml_8, mr_10, ml_10, ic_add1, ic_sub1, ic_clamp, ic_div, ic_irm, ic_lt0, ic_0lt, ic_eq0, ic_lt, ic_inj, and15, and7, and31, and63, shl1, shr_ok, neg_1, neg_2, neg_3, neg_4, kc_lt0, kc_ic, kc_m2, kc_1, kc_0, i0_add, add_i0, or_i0, z_8, z_4, z_64, z_256, ic_m2, ec_m1, ic_m1, m1_lt0, m2_lt0, m3_lt0, m4_lt0, up_s, if_true, if_false, ne_eq, not_true_eq_false, not_false_eq_true, Bool.false_eq_true, eq_self, or_self, or_false, false_or, and_self, and_true, true_and, ite_self, Nat.reduceEqDiff, Nat.reduceLT, Nat.reduceMod, Nat.reduceMul, Nat.reduceAdd, Nat.reducePow, Nat.reduceDiv, lt_2, lt_3, lt_4, lt_5, lt_6, lt_7, lt_8, lt_10, lt_11, lt_12, lt_15, lt_16, lt_18, lt_20, lt_24, lt_31, lt_32, lt_48, lt_57, lt_59, lt_63, lt_64, lt_74, lt_75, lt_97, lt_122, lt_128, lt_144, lt_145, lt_146, lt_147, lt_155, lt_163, lt_171, lt_179, lt_200, lt_243, lt_244, lt_255, lt_256, lt_732, lt_900, lt_3660, lt_3904, lt_4095, lt_65536, lt_65537, lt_252645135, lt_858993459, lt_1431655765, ↓p_has_b, p_has, ↓p_has9_b, p_has9, ↓p_bit_b, p_bit, ↓p_bit1_b, p_bit1, ↓p_bit0_b, p_bit0, p_X3_ownerOf, hL.t, hL.o, show n % 8 = n by omega, if_inB hL.ot, hR.o]
theorem q_owner_b {q : Nat} (hL : QL S q) (hR : QR I q s pl) {n : Nat} (hn : n < 8) {β : Type} (f9 : Int32 × AH → Option β) : (p_X3_ownerOf q (ic n) (hp S I L)).bind f9 = f9 (kc (so s n), hp S I L) := bnd (by apply q_owner <;> assumption)
theorem k_bring (hL : PL S p) {J : II} {n : Nat} (hn : n < 8) (hV : Inv s pl) (hu : su s n = true) (hR : PR J p (pe s (bbA s) (8 * n)) pl) : ∃ I', p_X2_bringBack p (ic n) (hp S J L) = some (hp S I' L) ∧ PR I' p (pe s (bbA s) (8 * (n + 1))) pl ∧ Fr J I' (p + 5) (p + 9) := by
  have hk : sk s n ≠ 0 := fun e => by have := (hV.2.1.2.2.2.1 n hn e).2.2; rw [hu] at this; cases this
  have ho := hV.2.1.2.2.1 n hn hk
  have := lp_inv (fun k i (c : II) => p_X2_bringBack_2 k p (ic n) (ic i) (hp S c L)) 8
    (fun i c => PR c p (pe s (bbA s) (8 * n + i)) pl ∧ Fr J c (p + 5) (p + 9))
    (fun r => ∃ I', r = hp S I' L ∧ PR I' p (pe s (bbA s) (8 * (n + 1))) pl ∧ Fr J I' (p + 5) (p + 9)) (fun m i c hi hc => ?_) (fun m c hc => ?_) 8 0 FU J rfl (fu_lt (by decide)) ⟨hR, Fr.refl _ _ _⟩
  · obtain ⟨r, e, I', e2, h⟩ := this
    subst e2
    exact ⟨I', e, h⟩
  · obtain ⟨hQ, hF⟩ := hc
    have ha : 8 * n + i < 64 := by omega
    have hlt : ic i < (8 : Int32) := by show ic i < ic 8; rw [ic_lt (by omega) (by omega)]; exact hi
    have h64 := hV.e64 ha
    have E := q_entry (L := L) hL.Q hQ.2 n i
    rw [show 8 * (n % 8) + i % 8 = 8 * n + i by omega, pe_at] at E
    have O : p_X3_ownerOf (p + 5) (ic n) (hp S c L) = some (ic (so s n - 1), hp S c L) := by rw [← kc_pos (show 0 < so s n by omega)]; exact q_owner (L := L) hL.Q hQ.2 hn
    have W : p_X1_wordAt (p + 2) (ic (so s n - 1)) (ic i) (hp S c L) = some (ic (sW s (8 * ((so s n - 1) % 16) + i % 8)), hp S c L) := g_wordAt (L := L) hL.G hQ.1 (so s n - 1) i
    rw [show 8 * ((so s n - 1) % 16) + i % 8 = 8 * (so s n - 1) + i by omega] at W
    have hw : sW s (8 * (so s n - 1) + i) < 4096 := hV.1.1 _ (by omega)
    have hbb : bbA s (8 * n + i) = bbE s (se s (8 * n + i)) (sW s (8 * (so s n - 1) + i)) := by
      unfold bbA
      rw [show (8 * n + i) / 8 = n by omega, show (8 * n + i) % 8 = i by omega, hu, if_pos rfl]
    generalize hwE : sW s (8 * (so s n - 1) + i) = w at W hw hbb
    by_cases c0 : se s (8 * n + i) = 0
    · refine ⟨c, ?_, ⟨hQ.1.sg (pe_pe s (bbA s) _ _), hQ.2.pe2 (by rw [hbb, c0]; rfl)⟩, hF⟩
      rw [c0] at E
      show p_X2_bringBack_2 (m + 1) p (ic n) (ic i) (hp S c L) = _
      rw [p_X2_bringBack_2.eq_2, if_pos hlt]
      simp only [↓reduceIte, ↓if_bi0, hp_tg, hp_rR, hp_rI, hp_wI, eq_self, bi_t, bi_f, i10, if_true, if_false, Bool.false_eq_true, hL.t, hL.g, hL.gt, hL.q, hL.qt]
      refine Eq.trans (bnd E) ?_
      simp only [↓reduceIte, ↓if_bi0, hp_tg, hp_rR, hp_rI, hp_wI, eq_self, bi_t, bi_f, i10, if_true, if_false, Bool.false_eq_true, hL.t, hL.g, hL.gt, hL.q, hL.qt]
      refine Eq.trans (bnd O) ?_
      simp only [↓reduceIte, ↓if_bi0, hp_tg, hp_rR, hp_rI, hp_wI, eq_self, bi_t, bi_f, i10, if_true, if_false, Bool.false_eq_true, hL.t, hL.g, hL.gt, hL.q, hL.qt]
      refine Eq.trans (bnd W) ?_
      simp (maxSteps := 1000000) (disch := omega) only [↓reduceIte, ↓if_bi0, ↓if_bi1, hp_tg, hp_rI, hp_rR, hp_rL, hp_wI, hp_wL, Option.bind_some, if_11, if_01, bi_and1, i10, i01, bi_t, bi_f, ic_add, mr_4, ml_4, mr_8, ml_8, mr_10, ml_10, ic_add1, ic_sub1, ic_clamp, ic_div, ic_irm, ic_lt0, ic_0lt, ic_eq0, ic_lt, ic_inj, and15, and7, and31, and63, shl1, shr_ok, neg_1, neg_2, neg_3, neg_4, kc_lt0, kc_ic, kc_m2, kc_1, kc_0, i0_add, add_i0, or_i0, z_8, z_4, z_64, z_256, ic_m2, ec_m1, ic_m1, m1_lt0, m2_lt0, m3_lt0, m4_lt0, up_s, if_true, if_false, ne_eq, not_true_eq_false, not_false_eq_true, Bool.false_eq_true, eq_self, or_self, or_false, false_or, and_self, and_true, true_and, ite_self, Nat.reduceEqDiff, Nat.reduceLT, Nat.reduceMod, Nat.reduceMul, Nat.reduceAdd, Nat.reducePow, Nat.reduceDiv, lt_2, lt_3, lt_4, lt_5, lt_6, lt_7, lt_8, lt_10, lt_11, lt_12, lt_15, lt_16, lt_18, lt_20, lt_24, lt_31, lt_32, lt_48, lt_57, lt_59, lt_63, lt_64, lt_74, lt_75, lt_97, lt_122, lt_128, lt_144, lt_145, lt_146, lt_147, lt_155, lt_163, lt_171, lt_179, lt_200, lt_243, lt_244, lt_255, lt_256, lt_732, lt_900, lt_3660, lt_3904, lt_4095, lt_65536, lt_65537, lt_252645135, lt_858993459, lt_1431655765, ↓p_has_b, p_has, ↓p_has9_b, p_has9, ↓p_bit_b, p_bit, ↓p_bit1_b, p_bit1, ↓p_bit0_b, p_bit0, p_X2_bringBack_141, p_X2_bringBack_63, p_X2_bringBack_123, p_X2_bringBack_122, p_X2_bringBack_99, p_X2_bringBack_98, hL.t, hL.g, hL.gt, hL.q, hL.qt, kc_zero]
    · rw [kc_pos (by omega)] at E
      have he : se s (8 * n + i) - 1 < 64 := by omega
      by_cases d : w.testBit 0 = true ∧ w / 256 = (se s (8 * n + i) - 1) / 4
      · have T : ∀ x y : Bool, p_X3_tell (p + 5) (ic n) (ic i) (ic ((se s (8 * n + i) - 1) / 4)) (bi x) (bi y) (hp S c L) = some (hp S (up2 c (p + 9) (8 * n + i) (ic (4 * ((se s (8 * n + i) - 1) / 4) + b2 x 2 + b2 y 1))) L) := by
          intro x y
          have t := q_tell (I := c) (L := L) (n := n) (i := i) (w := (se s (8 * n + i) - 1) / 4) hL.Q (bi x) (bi y)
          rw [show 8 * (n % 8) + i % 8 = 8 * n + i by omega] at t
          rw [t]
          cases x <;> cases y <;> rfl
        have T00 := T false false
        have T01 := T false true
        have T10 := T true false
        have T11 := T true true
        simp only [bi_f, bi_t] at T00 T01 T10 T11
        refine ⟨up2 c (p + 9) (8 * n + i) (ic (4 * ((se s (8 * n + i) - 1) / 4) + b2 ((se s (8 * n + i) - 1).testBit 1 && (w.testBit 1 && w.testBit 4)) 2 + b2 ((se s (8 * n + i) - 1).testBit 0 && w.testBit 2) 1)), ?_, ⟨(hQ.1.fr (Fr.up (lo := p + 9) (hi := p + 9) (by omega) (by omega)) (by omega)).sg (pe_pe s (bbA s) _ _), hQ.2.pe1 _ (by rw [hbb]; unfold bbE; rw [if_neg c0, if_pos d, kc_succ]) ha⟩, hF.trans (Fr.up (by omega) (by omega))⟩
        have d2 := d.2
        show p_X2_bringBack_2 (m + 1) p (ic n) (ic i) (hp S c L) = _
        rw [p_X2_bringBack_2.eq_2, if_pos hlt]
        simp only [↓reduceIte, ↓if_bi0, hp_tg, hp_rR, hp_rI, hp_wI, eq_self, bi_t, bi_f, i10, if_true, if_false, Bool.false_eq_true, hL.t, hL.g, hL.gt, hL.q, hL.qt]
        refine Eq.trans (bnd E) ?_
        simp only [↓reduceIte, ↓if_bi0, hp_tg, hp_rR, hp_rI, hp_wI, eq_self, bi_t, bi_f, i10, if_true, if_false, Bool.false_eq_true, hL.t, hL.g, hL.gt, hL.q, hL.qt]
        refine Eq.trans (bnd O) ?_
        simp only [↓reduceIte, ↓if_bi0, hp_tg, hp_rR, hp_rI, hp_wI, eq_self, bi_t, bi_f, i10, if_true, if_false, Bool.false_eq_true, hL.t, hL.g, hL.gt, hL.q, hL.qt]
        refine Eq.trans (bnd W) ?_
        simp (maxSteps := 1000000) (disch := omega) only [↓reduceIte, ↓if_bi0, ↓if_bi1, hp_tg, hp_rI, hp_rR, hp_rL, hp_wI, hp_wL, Option.bind_some, if_11, if_01, bi_and1, i10, i01, bi_t, bi_f, ic_add, mr_4, ml_4, mr_8, ml_8, mr_10, ml_10, ic_add1, ic_sub1, ic_clamp, ic_div, ic_irm, ic_lt0, ic_0lt, ic_eq0, ic_lt, ic_inj, and15, and7, and31, and63, shl1, shr_ok, neg_1, neg_2, neg_3, neg_4, kc_lt0, kc_ic, kc_m2, kc_1, kc_0, i0_add, add_i0, or_i0, z_8, z_4, z_64, z_256, ic_m2, ec_m1, ic_m1, m1_lt0, m2_lt0, m3_lt0, m4_lt0, up_s, if_true, if_false, ne_eq, not_true_eq_false, not_false_eq_true, Bool.false_eq_true, eq_self, or_self, or_false, false_or, and_self, and_true, true_and, ite_self, Nat.reduceEqDiff, Nat.reduceLT, Nat.reduceMod, Nat.reduceMul, Nat.reduceAdd, Nat.reducePow, Nat.reduceDiv, lt_2, lt_3, lt_4, lt_5, lt_6, lt_7, lt_8, lt_10, lt_11, lt_12, lt_15, lt_16, lt_18, lt_20, lt_24, lt_31, lt_32, lt_48, lt_57, lt_59, lt_63, lt_64, lt_74, lt_75, lt_97, lt_122, lt_128, lt_144, lt_145, lt_146, lt_147, lt_155, lt_163, lt_171, lt_179, lt_200, lt_243, lt_244, lt_255, lt_256, lt_732, lt_900, lt_3660, lt_3904, lt_4095, lt_65536, lt_65537, lt_252645135, lt_858993459, lt_1431655765, ↓p_has_b, p_has, ↓p_has9_b, p_has9, ↓p_bit_b, p_bit, ↓p_bit1_b, p_bit1, ↓p_bit0_b, p_bit0, p_X2_bringBack_141, p_X2_bringBack_63, p_X2_bringBack_123, p_X2_bringBack_122, p_X2_bringBack_99, p_X2_bringBack_98, hL.t, hL.g, hL.gt, hL.q, hL.qt, hb1 hw, d.1, ↓p_frameIn_b hw, p_frameIn hw, d2, hb2, hb1, hb4 hw, hb18 hw, ↓bnd (T00), T00, ↓bnd (T01), T01, ↓bnd (T10), T10, ↓bnd (T11), T11]
        generalize (se s (8 * n + i) - 1).testBit 1 = e1
        generalize (se s (8 * n + i) - 1).testBit 0 = e0
        generalize (w.testBit 1 && w.testBit 4) = wd
        generalize w.testBit 2 = wu
        cases e1 <;> cases e0 <;> cases wd <;> cases wu <;> rfl
      · have V := q_remove (L := L) hL.Q hQ.2 n i (by rw [show 8 * (n % 8) + i % 8 = 8 * n + i by omega, pe_at]; exact h64)
        rw [show 8 * (n % 8) + i % 8 = 8 * n + i by omega] at V
        refine ⟨up2 c (p + 9) (8 * n + i) m2, ?_, ⟨(hQ.1.fr (Fr.up (lo := p + 9) (hi := p + 9) (by omega) (by omega)) (by omega)).sg (pe_pe s (bbA s) _ _), hQ.2.pe1 _ (by rw [hbb]; unfold bbE; rw [if_neg c0, if_neg d]; rfl) ha⟩, hF.trans (Fr.up (by omega) (by omega))⟩
        by_cases d0 : w.testBit 0 = true
        · have d2 : ¬ w / 256 = (se s (8 * n + i) - 1) / 4 := fun q => d ⟨d0, q⟩
          show p_X2_bringBack_2 (m + 1) p (ic n) (ic i) (hp S c L) = _
          rw [p_X2_bringBack_2.eq_2, if_pos hlt]
          simp only [↓reduceIte, ↓if_bi0, hp_tg, hp_rR, hp_rI, hp_wI, eq_self, bi_t, bi_f, i10, if_true, if_false, Bool.false_eq_true, hL.t, hL.g, hL.gt, hL.q, hL.qt]
          refine Eq.trans (bnd E) ?_
          simp only [↓reduceIte, ↓if_bi0, hp_tg, hp_rR, hp_rI, hp_wI, eq_self, bi_t, bi_f, i10, if_true, if_false, Bool.false_eq_true, hL.t, hL.g, hL.gt, hL.q, hL.qt]
          refine Eq.trans (bnd O) ?_
          simp only [↓reduceIte, ↓if_bi0, hp_tg, hp_rR, hp_rI, hp_wI, eq_self, bi_t, bi_f, i10, if_true, if_false, Bool.false_eq_true, hL.t, hL.g, hL.gt, hL.q, hL.qt]
          refine Eq.trans (bnd W) ?_
          simp (maxSteps := 1000000) (disch := omega) only [↓reduceIte, ↓if_bi0, ↓if_bi1, hp_tg, hp_rI, hp_rR, hp_rL, hp_wI, hp_wL, Option.bind_some, if_11, if_01, bi_and1, i10, i01, bi_t, bi_f, ic_add, mr_4, ml_4, mr_8, ml_8, mr_10, ml_10, ic_add1, ic_sub1, ic_clamp, ic_div, ic_irm, ic_lt0, ic_0lt, ic_eq0, ic_lt, ic_inj, and15, and7, and31, and63, shl1, shr_ok, neg_1, neg_2, neg_3, neg_4, kc_lt0, kc_ic, kc_m2, kc_1, kc_0, i0_add, add_i0, or_i0, z_8, z_4, z_64, z_256, ic_m2, ec_m1, ic_m1, m1_lt0, m2_lt0, m3_lt0, m4_lt0, up_s, if_true, if_false, ne_eq, not_true_eq_false, not_false_eq_true, Bool.false_eq_true, eq_self, or_self, or_false, false_or, and_self, and_true, true_and, ite_self, Nat.reduceEqDiff, Nat.reduceLT, Nat.reduceMod, Nat.reduceMul, Nat.reduceAdd, Nat.reducePow, Nat.reduceDiv, lt_2, lt_3, lt_4, lt_5, lt_6, lt_7, lt_8, lt_10, lt_11, lt_12, lt_15, lt_16, lt_18, lt_20, lt_24, lt_31, lt_32, lt_48, lt_57, lt_59, lt_63, lt_64, lt_74, lt_75, lt_97, lt_122, lt_128, lt_144, lt_145, lt_146, lt_147, lt_155, lt_163, lt_171, lt_179, lt_200, lt_243, lt_244, lt_255, lt_256, lt_732, lt_900, lt_3660, lt_3904, lt_4095, lt_65536, lt_65537, lt_252645135, lt_858993459, lt_1431655765, ↓p_has_b, p_has, ↓p_has9_b, p_has9, ↓p_bit_b, p_bit, ↓p_bit1_b, p_bit1, ↓p_bit0_b, p_bit0, p_X2_bringBack_141, p_X2_bringBack_63, p_X2_bringBack_123, p_X2_bringBack_122, p_X2_bringBack_99, p_X2_bringBack_98, hL.t, hL.g, hL.gt, hL.q, hL.qt, hb1 hw, d0, ↓p_frameIn_b hw, p_frameIn hw, d2, ↓bnd (V), V]
        · rw [Bool.not_eq_true] at d0
          show p_X2_bringBack_2 (m + 1) p (ic n) (ic i) (hp S c L) = _
          rw [p_X2_bringBack_2.eq_2, if_pos hlt]
          simp only [↓reduceIte, ↓if_bi0, hp_tg, hp_rR, hp_rI, hp_wI, eq_self, bi_t, bi_f, i10, if_true, if_false, Bool.false_eq_true, hL.t, hL.g, hL.gt, hL.q, hL.qt]
          refine Eq.trans (bnd E) ?_
          simp only [↓reduceIte, ↓if_bi0, hp_tg, hp_rR, hp_rI, hp_wI, eq_self, bi_t, bi_f, i10, if_true, if_false, Bool.false_eq_true, hL.t, hL.g, hL.gt, hL.q, hL.qt]
          refine Eq.trans (bnd O) ?_
          simp only [↓reduceIte, ↓if_bi0, hp_tg, hp_rR, hp_rI, hp_wI, eq_self, bi_t, bi_f, i10, if_true, if_false, Bool.false_eq_true, hL.t, hL.g, hL.gt, hL.q, hL.qt]
          refine Eq.trans (bnd W) ?_
          simp (maxSteps := 1000000) (disch := omega) only [↓reduceIte, ↓if_bi0, ↓if_bi1, hp_tg, hp_rI, hp_rR, hp_rL, hp_wI, hp_wL, Option.bind_some, if_11, if_01, bi_and1, i10, i01, bi_t, bi_f, ic_add, mr_4, ml_4, mr_8, ml_8, mr_10, ml_10, ic_add1, ic_sub1, ic_clamp, ic_div, ic_irm, ic_lt0, ic_0lt, ic_eq0, ic_lt, ic_inj, and15, and7, and31, and63, shl1, shr_ok, neg_1, neg_2, neg_3, neg_4, kc_lt0, kc_ic, kc_m2, kc_1, kc_0, i0_add, add_i0, or_i0, z_8, z_4, z_64, z_256, ic_m2, ec_m1, ic_m1, m1_lt0, m2_lt0, m3_lt0, m4_lt0, up_s, if_true, if_false, ne_eq, not_true_eq_false, not_false_eq_true, Bool.false_eq_true, eq_self, or_self, or_false, false_or, and_self, and_true, true_and, ite_self, Nat.reduceEqDiff, Nat.reduceLT, Nat.reduceMod, Nat.reduceMul, Nat.reduceAdd, Nat.reducePow, Nat.reduceDiv, lt_2, lt_3, lt_4, lt_5, lt_6, lt_7, lt_8, lt_10, lt_11, lt_12, lt_15, lt_16, lt_18, lt_20, lt_24, lt_31, lt_32, lt_48, lt_57, lt_59, lt_63, lt_64, lt_74, lt_75, lt_97, lt_122, lt_128, lt_144, lt_145, lt_146, lt_147, lt_155, lt_163, lt_171, lt_179, lt_200, lt_243, lt_244, lt_255, lt_256, lt_732, lt_900, lt_3660, lt_3904, lt_4095, lt_65536, lt_65537, lt_252645135, lt_858993459, lt_1431655765, ↓p_has_b, p_has, ↓p_has9_b, p_has9, ↓p_bit_b, p_bit, ↓p_bit1_b, p_bit1, ↓p_bit0_b, p_bit0, p_X2_bringBack_141, p_X2_bringBack_63, p_X2_bringBack_123, p_X2_bringBack_122, p_X2_bringBack_99, p_X2_bringBack_98, hL.t, hL.g, hL.gt, hL.q, hL.qt, hb1 hw, d0, ↓bnd (V), V]
  · obtain ⟨hQ, hF⟩ := hc
    exact ⟨_, by simp (maxSteps := 1000000) (disch := omega) only [↓reduceIte, ↓if_bi0, ↓if_bi1, hp_tg, hp_rI, hp_rR, hp_rL, hp_wI, hp_wL, Option.bind_some, if_11, if_01, bi_and1, i10, i01, bi_t, bi_f, ic_add, mr_4, ml_4, mr_8, ml_8, mr_10, ml_10, ic_add1, ic_sub1, ic_clamp, ic_div, ic_irm, ic_lt0, ic_0lt, ic_eq0, ic_lt, ic_inj, and15, and7, and31, and63, shl1, shr_ok, neg_1, neg_2, neg_3, neg_4, kc_lt0, kc_ic, kc_m2, kc_1, kc_0, i0_add, add_i0, or_i0, z_8, z_4, z_64, z_256, ic_m2, ec_m1, ic_m1, m1_lt0, m2_lt0, m3_lt0, m4_lt0, up_s, if_true, if_false, ne_eq, not_true_eq_false, not_false_eq_true, Bool.false_eq_true, eq_self, or_self, or_false, false_or, and_self, and_true, true_and, ite_self, Nat.reduceEqDiff, Nat.reduceLT, Nat.reduceMod, Nat.reduceMul, Nat.reduceAdd, Nat.reducePow, Nat.reduceDiv, lt_2, lt_3, lt_4, lt_5, lt_6, lt_7, lt_8, lt_10, lt_11, lt_12, lt_15, lt_16, lt_18, lt_20, lt_24, lt_31, lt_32, lt_48, lt_57, lt_59, lt_63, lt_64, lt_74, lt_75, lt_97, lt_122, lt_128, lt_144, lt_145, lt_146, lt_147, lt_155, lt_163, lt_171, lt_179, lt_200, lt_243, lt_244, lt_255, lt_256, lt_732, lt_900, lt_3660, lt_3904, lt_4095, lt_65536, lt_65537, lt_252645135, lt_858993459, lt_1431655765, ↓p_has_b, p_has, ↓p_has9_b, p_has9, ↓p_bit_b, p_bit, ↓p_bit1_b, p_bit1, ↓p_bit0_b, p_bit0, p_X2_bringBack_147, p_X2_bringBack_141, p_X2_bringBack_63, p_X2_bringBack_123, p_X2_bringBack_122, p_X2_bringBack_99, p_X2_bringBack_98, p_X2_bringBack_76, p_X2_bringBack_43, p_X2_bringBack_2, p_X2_bringBack, Nat.lt_irrefl], c, rfl, hQ, hF⟩
theorem pe_skip (s : St) (n : Nat) (h : su s n = false) {I : II} (hR : PR I p (pe s (bbA s) (8 * n)) pl) : PR I p (pe s (bbA s) (8 * (n + 1))) pl := by
  refine ⟨hR.1.sg (pe_pe s (bbA s) _ _), hR.2.ent (fun a ha => ?_) ((e5_pe s _ _).trans (e5_pe s _ _).symm)⟩
  rw [se_pe, se_pe]
  by_cases c : a < 8 * n
  · rw [if_pos c, if_pos (by omega)]
  · rw [if_neg c]
    by_cases d : a < 8 * (n + 1)
    · rw [if_pos d]
      unfold bbA
      rw [show a / 8 = n by omega, h, if_neg (by decide)]
    · rw [if_neg d]
theorem cnt_tb {w : Nat} {f : Nat → Bool} (h : ∀ n, n < 8 → w.testBit n = f n) : cnt (fun n => w.testBit n) 8 = cnt f 8 := cnt_congr h
/-- a root loaded -/
theorem k_takeRoot (hL : PL S p) (hR : PR I p s pl) (hV : Inv s pl) {f : Nat} (hf : f < 16) : ∃ I', p_X2_takeRoot p (ic f) (hp S I L) = some (ic (cnt (su s) 8), hp S I' L) ∧ PR I' p (loa s f) pl ∧ Fr I I' (p + 2) (p + 9) := by
  obtain ⟨w, w1, w2, w3⟩ := hR.2.2.2.2.2.1
  have V1 := inv_ur hV hf
  have R1 : PR (up2 I (p + 2) 4 (ic f)) p (ur s f) pl := ⟨hR.1.setR f, hR.2.fr (Fr.up (lo := p + 2) (hi := p + 2) (by omega) (by omega)) (by omega)⟩
  have i54 : up2 I (p + 2) 4 (ic f) (p + 5) 4 = ic w := by rw [up_a (by omega)]; exact w2
  have BC := bc_d w w1 (hp S (up2 I (p + 2) 4 (ic f)) L)
  rw [cnt_tb w3] at BC
  -- the frames
  have last : ∀ J : II, PR J p (ld1 s f) pl → Fr I J (p + 2) (p + 9) → ∃ I', p_X2_takeRoot_59 FU p (ic (cnt (su s) 8)) 0 (hp S J L) = some (ic (cnt (su s) 8), hp S I' L) ∧ PR I' p (loa s f) pl ∧ Fr I I' (p + 2) (p + 9) := by
    intro J rJ fJ
    have := lp_inv (fun n k (c : II) => p_X2_takeRoot_59 n p (ic (cnt (su s) 8)) (ic k) (hp S c L)) 16 (fun k c => PR c p (ldW (ld1 s f) k) pl ∧ Fr I c (p + 2) (p + 9)) (fun r => ∃ I', r = (ic (cnt (su s) 8), hp S I' L) ∧ PR I' p (loa s f) pl ∧ Fr I I' (p + 2) (p + 9)) (fun n k c hk hc => ?_) (fun n c hc => ?_) 16 0 FU J rfl (fu_lt (by decide)) ⟨rJ, fJ⟩
    · obtain ⟨r, e, I', e2, h⟩ := this
      subst e2
      exact ⟨I', e, h⟩
    · obtain ⟨rc, fc⟩ := hc
      have Vk := inv_ldW (inv_ld1 hV hf) k
      have A := q_watches (L := L) hL.Q rc.2 Vk (f := k) (by omega)
      rw [ldW_succ]
      cases d : wat (ldW (ld1 s f) k) k
      · rw [d] at A
        refine ⟨c, ?_, rc, fc⟩
        simp (maxSteps := 1000000) (disch := omega) only [↓reduceIte, ↓if_bi0, ↓if_bi1, hp_tg, hp_rI, hp_rR, hp_rL, hp_wI, hp_wL, Option.bind_some, if_11, if_01, bi_and1, i10, i01, bi_t, bi_f, ic_add, mr_4, ml_4, mr_8, ml_8, mr_10, ml_10, ic_add1, ic_sub1, ic_clamp, ic_div, ic_irm, ic_lt0, ic_0lt, ic_eq0, ic_lt, ic_inj, and15, and7, and31, and63, shl1, shr_ok, neg_1, neg_2, neg_3, neg_4, kc_lt0, kc_ic, kc_m2, kc_1, kc_0, i0_add, add_i0, or_i0, z_8, z_4, z_64, z_256, ic_m2, ec_m1, ic_m1, m1_lt0, m2_lt0, m3_lt0, m4_lt0, up_s, if_true, if_false, ne_eq, not_true_eq_false, not_false_eq_true, Bool.false_eq_true, eq_self, or_self, or_false, false_or, and_self, and_true, true_and, ite_self, Nat.reduceEqDiff, Nat.reduceLT, Nat.reduceMod, Nat.reduceMul, Nat.reduceAdd, Nat.reducePow, Nat.reduceDiv, lt_2, lt_3, lt_4, lt_5, lt_6, lt_7, lt_8, lt_10, lt_11, lt_12, lt_15, lt_16, lt_18, lt_20, lt_24, lt_31, lt_32, lt_48, lt_57, lt_59, lt_63, lt_64, lt_74, lt_75, lt_97, lt_122, lt_128, lt_144, lt_145, lt_146, lt_147, lt_155, lt_163, lt_171, lt_179, lt_200, lt_243, lt_244, lt_255, lt_256, lt_732, lt_900, lt_3660, lt_3904, lt_4095, lt_65536, lt_65537, lt_252645135, lt_858993459, lt_1431655765, ↓p_has_b, p_has, ↓p_has9_b, p_has9, ↓p_bit_b, p_bit, ↓p_bit1_b, p_bit1, ↓p_bit0_b, p_bit0, p_X2_takeRoot_91, p_X2_takeRoot_85, p_X2_takeRoot_59, p_X2_takeRoot_49, p_X2_takeRoot_43, p_X2_takeRoot_21, p_X2_takeRoot, hL.t, hL.q, hL.qt, hk, ↓bnd (A), A]
      · rw [d] at A
        obtain ⟨I2, e2, q2, f2⟩ := q_takeWrite (L := L) hL.Q rc.2 Vk (f := k) (by omega)
        refine ⟨I2, ?_, ⟨(rc.1.fr f2 (by omega)).sg (ue_SG _ _), q2⟩, fc.trans (f2.wide (by omega) (by omega))⟩
        simp (maxSteps := 1000000) (disch := omega) only [↓reduceIte, ↓if_bi0, ↓if_bi1, hp_tg, hp_rI, hp_rR, hp_rL, hp_wI, hp_wL, Option.bind_some, if_11, if_01, bi_and1, i10, i01, bi_t, bi_f, ic_add, mr_4, ml_4, mr_8, ml_8, mr_10, ml_10, ic_add1, ic_sub1, ic_clamp, ic_div, ic_irm, ic_lt0, ic_0lt, ic_eq0, ic_lt, ic_inj, and15, and7, and31, and63, shl1, shr_ok, neg_1, neg_2, neg_3, neg_4, kc_lt0, kc_ic, kc_m2, kc_1, kc_0, i0_add, add_i0, or_i0, z_8, z_4, z_64, z_256, ic_m2, ec_m1, ic_m1, m1_lt0, m2_lt0, m3_lt0, m4_lt0, up_s, if_true, if_false, ne_eq, not_true_eq_false, not_false_eq_true, Bool.false_eq_true, eq_self, or_self, or_false, false_or, and_self, and_true, true_and, ite_self, Nat.reduceEqDiff, Nat.reduceLT, Nat.reduceMod, Nat.reduceMul, Nat.reduceAdd, Nat.reducePow, Nat.reduceDiv, lt_2, lt_3, lt_4, lt_5, lt_6, lt_7, lt_8, lt_10, lt_11, lt_12, lt_15, lt_16, lt_18, lt_20, lt_24, lt_31, lt_32, lt_48, lt_57, lt_59, lt_63, lt_64, lt_74, lt_75, lt_97, lt_122, lt_128, lt_144, lt_145, lt_146, lt_147, lt_155, lt_163, lt_171, lt_179, lt_200, lt_243, lt_244, lt_255, lt_256, lt_732, lt_900, lt_3660, lt_3904, lt_4095, lt_65536, lt_65537, lt_252645135, lt_858993459, lt_1431655765, ↓p_has_b, p_has, ↓p_has9_b, p_has9, ↓p_bit_b, p_bit, ↓p_bit1_b, p_bit1, ↓p_bit0_b, p_bit0, p_X2_takeRoot_91, p_X2_takeRoot_85, p_X2_takeRoot_59, p_X2_takeRoot_49, p_X2_takeRoot_43, p_X2_takeRoot_21, p_X2_takeRoot, hL.t, hL.q, hL.qt, hk, ↓bnd (A), A, ↓bnd (e2), e2]
    · exact ⟨_, by simp (maxSteps := 1000000) (disch := omega) only [↓reduceIte, ↓if_bi0, ↓if_bi1, hp_tg, hp_rI, hp_rR, hp_rL, hp_wI, hp_wL, Option.bind_some, if_11, if_01, bi_and1, i10, i01, bi_t, bi_f, ic_add, mr_4, ml_4, mr_8, ml_8, mr_10, ml_10, ic_add1, ic_sub1, ic_clamp, ic_div, ic_irm, ic_lt0, ic_0lt, ic_eq0, ic_lt, ic_inj, and15, and7, and31, and63, shl1, shr_ok, neg_1, neg_2, neg_3, neg_4, kc_lt0, kc_ic, kc_m2, kc_1, kc_0, i0_add, add_i0, or_i0, z_8, z_4, z_64, z_256, ic_m2, ec_m1, ic_m1, m1_lt0, m2_lt0, m3_lt0, m4_lt0, up_s, if_true, if_false, ne_eq, not_true_eq_false, not_false_eq_true, Bool.false_eq_true, eq_self, or_self, or_false, false_or, and_self, and_true, true_and, ite_self, Nat.reduceEqDiff, Nat.reduceLT, Nat.reduceMod, Nat.reduceMul, Nat.reduceAdd, Nat.reducePow, Nat.reduceDiv, lt_2, lt_3, lt_4, lt_5, lt_6, lt_7, lt_8, lt_10, lt_11, lt_12, lt_15, lt_16, lt_18, lt_20, lt_24, lt_31, lt_32, lt_48, lt_57, lt_59, lt_63, lt_64, lt_74, lt_75, lt_97, lt_122, lt_128, lt_144, lt_145, lt_146, lt_147, lt_155, lt_163, lt_171, lt_179, lt_200, lt_243, lt_244, lt_255, lt_256, lt_732, lt_900, lt_3660, lt_3904, lt_4095, lt_65536, lt_65537, lt_252645135, lt_858993459, lt_1431655765, ↓p_has_b, p_has, ↓p_has9_b, p_has9, ↓p_bit_b, p_bit, ↓p_bit1_b, p_bit1, ↓p_bit0_b, p_bit0, p_X2_takeRoot_91, p_X2_takeRoot_85, p_X2_takeRoot_59, p_X2_takeRoot_49, p_X2_takeRoot_43, p_X2_takeRoot_21, p_X2_takeRoot, Nat.lt_irrefl], c, rfl, hc⟩
  have mid := lp_inv (fun n k (c : II) => p_X2_takeRoot_21 n p (ic (cnt (su s) 8)) (ic k) (hp S c L)) 8 (fun k c => PR c p (pe (ur s f) (bbA (ur s f)) (8 * k)) pl ∧ Fr I c (p + 2) (p + 9)) (fun r => ∃ I', r = (ic (cnt (su s) 8), hp S I' L) ∧ PR I' p (loa s f) pl ∧ Fr I I' (p + 2) (p + 9)) (fun n k c hk hc => ?_) (fun n c hc => ?_) 8 0 FU (up2 I (p + 2) 4 (ic f)) rfl (fu_lt (by decide)) ⟨⟨R1.1.sg (pe_SG _ _ _), R1.2.pe0 _⟩, Fr.up (by omega) (by omega)⟩
  · obtain ⟨r, e, I', e2, h⟩ := mid
    subst e2
    refine ⟨I', ?_, h⟩
    unfold p_X2_takeRoot
    simp only [↓reduceIte, ↓if_bi0, hp_tg, hp_rR, hp_rI, hp_wI, eq_self, bi_t, bi_f, i10, if_true, if_false, Bool.false_eq_true, hL.t, hL.g, hL.gt, hL.q, hL.qt, i54]
    refine Eq.trans (bnd BC) ?_
    exact e
  · obtain ⟨rc, fc⟩ := hc
    have A := q_astray (L := L) hL.Q rc.2 hk
    rw [su_pe, suur] at A
    cases d : su s k
    · rw [d] at A
      refine ⟨c, ?_, pe_skip (ur s f) k d rc, fc⟩
      simp (maxSteps := 1000000) (disch := omega) only [↓reduceIte, ↓if_bi0, ↓if_bi1, hp_tg, hp_rI, hp_rR, hp_rL, hp_wI, hp_wL, Option.bind_some, if_11, if_01, bi_and1, i10, i01, bi_t, bi_f, ic_add, mr_4, ml_4, mr_8, ml_8, mr_10, ml_10, ic_add1, ic_sub1, ic_clamp, ic_div, ic_irm, ic_lt0, ic_0lt, ic_eq0, ic_lt, ic_inj, and15, and7, and31, and63, shl1, shr_ok, neg_1, neg_2, neg_3, neg_4, kc_lt0, kc_ic, kc_m2, kc_1, kc_0, i0_add, add_i0, or_i0, z_8, z_4, z_64, z_256, ic_m2, ec_m1, ic_m1, m1_lt0, m2_lt0, m3_lt0, m4_lt0, up_s, if_true, if_false, ne_eq, not_true_eq_false, not_false_eq_true, Bool.false_eq_true, eq_self, or_self, or_false, false_or, and_self, and_true, true_and, ite_self, Nat.reduceEqDiff, Nat.reduceLT, Nat.reduceMod, Nat.reduceMul, Nat.reduceAdd, Nat.reducePow, Nat.reduceDiv, lt_2, lt_3, lt_4, lt_5, lt_6, lt_7, lt_8, lt_10, lt_11, lt_12, lt_15, lt_16, lt_18, lt_20, lt_24, lt_31, lt_32, lt_48, lt_57, lt_59, lt_63, lt_64, lt_74, lt_75, lt_97, lt_122, lt_128, lt_144, lt_145, lt_146, lt_147, lt_155, lt_163, lt_171, lt_179, lt_200, lt_243, lt_244, lt_255, lt_256, lt_732, lt_900, lt_3660, lt_3904, lt_4095, lt_65536, lt_65537, lt_252645135, lt_858993459, lt_1431655765, ↓p_has_b, p_has, ↓p_has9_b, p_has9, ↓p_bit_b, p_bit, ↓p_bit1_b, p_bit1, ↓p_bit0_b, p_bit0, p_X2_takeRoot_21, p_X2_takeRoot_43, hL.t, hL.q, hL.qt, hk, ↓bnd (A), A]
    · rw [d] at A
      obtain ⟨I2, e2, r2, f2⟩ := k_bring (L := L) hL hk V1 d rc
      refine ⟨I2, ?_, r2, fc.trans (f2.wide (by omega) (by omega))⟩
      simp (maxSteps := 1000000) (disch := omega) only [↓reduceIte, ↓if_bi0, ↓if_bi1, hp_tg, hp_rI, hp_rR, hp_rL, hp_wI, hp_wL, Option.bind_some, if_11, if_01, bi_and1, i10, i01, bi_t, bi_f, ic_add, mr_4, ml_4, mr_8, ml_8, mr_10, ml_10, ic_add1, ic_sub1, ic_clamp, ic_div, ic_irm, ic_lt0, ic_0lt, ic_eq0, ic_lt, ic_inj, and15, and7, and31, and63, shl1, shr_ok, neg_1, neg_2, neg_3, neg_4, kc_lt0, kc_ic, kc_m2, kc_1, kc_0, i0_add, add_i0, or_i0, z_8, z_4, z_64, z_256, ic_m2, ec_m1, ic_m1, m1_lt0, m2_lt0, m3_lt0, m4_lt0, up_s, if_true, if_false, ne_eq, not_true_eq_false, not_false_eq_true, Bool.false_eq_true, eq_self, or_self, or_false, false_or, and_self, and_true, true_and, ite_self, Nat.reduceEqDiff, Nat.reduceLT, Nat.reduceMod, Nat.reduceMul, Nat.reduceAdd, Nat.reducePow, Nat.reduceDiv, lt_2, lt_3, lt_4, lt_5, lt_6, lt_7, lt_8, lt_10, lt_11, lt_12, lt_15, lt_16, lt_18, lt_20, lt_24, lt_31, lt_32, lt_48, lt_57, lt_59, lt_63, lt_64, lt_74, lt_75, lt_97, lt_122, lt_128, lt_144, lt_145, lt_146, lt_147, lt_155, lt_163, lt_171, lt_179, lt_200, lt_243, lt_244, lt_255, lt_256, lt_732, lt_900, lt_3660, lt_3904, lt_4095, lt_65536, lt_65537, lt_252645135, lt_858993459, lt_1431655765, ↓p_has_b, p_has, ↓p_has9_b, p_has9, ↓p_bit_b, p_bit, ↓p_bit1_b, p_bit1, ↓p_bit0_b, p_bit0, p_X2_takeRoot_21, p_X2_takeRoot_43, hL.t, hL.q, hL.qt, hk, ↓bnd (A), A, ↓bnd (e2), e2]
  · obtain ⟨rc, fc⟩ := hc
    have r9 : QR c (p + 5) (ue (ur s f) (bbA (ur s f))) pl := rc.2.pe9
    rw [bbA_ur] at r9
    have rJ : PR (up2 c (p + 5) 4 0) p (ld1 s f) pl := ⟨(rc.1.fr (Fr.up (lo := p + 5) (hi := p + 5) (by omega) (by omega)) (by omega)).sg ((pe_SG _ _ _).symm.trans ((ue_SG (ur s f) (bbA s)).trans (uu_SG _ _))), r9.uu0⟩
    obtain ⟨I', e, h⟩ := last _ rJ (fc.trans (Fr.up (by omega) (by omega)))
    refine ⟨_, ?_, I', rfl, h⟩
    simp (maxSteps := 1000000) (disch := omega) only [↓reduceIte, ↓if_bi0, ↓if_bi1, hp_tg, hp_rI, hp_rR, hp_rL, hp_wI, hp_wL, Option.bind_some, if_11, if_01, bi_and1, i10, i01, bi_t, bi_f, ic_add, mr_4, ml_4, mr_8, ml_8, mr_10, ml_10, ic_add1, ic_sub1, ic_clamp, ic_div, ic_irm, ic_lt0, ic_0lt, ic_eq0, ic_lt, ic_inj, and15, and7, and31, and63, shl1, shr_ok, neg_1, neg_2, neg_3, neg_4, kc_lt0, kc_ic, kc_m2, kc_1, kc_0, i0_add, add_i0, or_i0, z_8, z_4, z_64, z_256, ic_m2, ec_m1, ic_m1, m1_lt0, m2_lt0, m3_lt0, m4_lt0, up_s, if_true, if_false, ne_eq, not_true_eq_false, not_false_eq_true, Bool.false_eq_true, eq_self, or_self, or_false, false_or, and_self, and_true, true_and, ite_self, Nat.reduceEqDiff, Nat.reduceLT, Nat.reduceMod, Nat.reduceMul, Nat.reduceAdd, Nat.reducePow, Nat.reduceDiv, lt_2, lt_3, lt_4, lt_5, lt_6, lt_7, lt_8, lt_10, lt_11, lt_12, lt_15, lt_16, lt_18, lt_20, lt_24, lt_31, lt_32, lt_48, lt_57, lt_59, lt_63, lt_64, lt_74, lt_75, lt_97, lt_122, lt_128, lt_144, lt_145, lt_146, lt_147, lt_155, lt_163, lt_171, lt_179, lt_200, lt_243, lt_244, lt_255, lt_256, lt_732, lt_900, lt_3660, lt_3904, lt_4095, lt_65536, lt_65537, lt_252645135, lt_858993459, lt_1431655765, ↓p_has_b, p_has, ↓p_has9_b, p_has9, ↓p_bit_b, p_bit, ↓p_bit1_b, p_bit1, ↓p_bit0_b, p_bit0, p_X2_takeRoot_21, Nat.lt_irrefl, hL.t, hL.q, hL.qt, e]
end CLOAD
