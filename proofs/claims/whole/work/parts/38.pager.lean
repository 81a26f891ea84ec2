/-! ===== the class: a scene in motion ===== -/
section POOLX
variable {S : SH} {I : II} {L : LL} {q pl : Nat} {s : St}
theorem QR.vac {I' : II} (h : QR I q s pl) {n : Nat} (hn : n < 8) (h1 : ∀ j, I' (q + 1) j = if j = n then m2 else I (q + 1) j) (h2 : ∀ j, I' (q + 2) j = if j = n then m2 else I (q + 2) j) (h3 : ∀ j, I' (q + 3) j = if j = n then 0 else I (q + 3) j) (h4 : ∀ j, j < 64 → I' (q + 4) j = if j / 8 = n then m2 else I (q + 4) j) (h5 : I' q 4 = I q 4 &&& (ic (2 ^ n) ^^^ m1)) (h6 : ∀ j, j ≠ 4 → I' q j = I q j) : QR I' q (uu (ub (uo (uk (ue s (fun a => if a / 8 = n then 0 else se s a)) (up1 (sk s) n 0)) (up1 (so s) n 0)) (up1 (sb s) n 0)) (up1 (su s) n false)) pl := by
  obtain ⟨r1, r2, r3, r4, ⟨w, r5, r6, r7⟩, r8, r9⟩ := h
  refine ⟨fun j hj => ?_, fun j hj => ?_, fun j hj => ?_, fun a ha => ?_, ⟨cbt w n, cbt_lt (n := 8) r5, ?_, fun j hj => ?_⟩, ?_, ?_⟩
  · rw [h1]; show _ = kc (up1 (sk s) n 0 j)
    by_cases c : j = n
    · subst c; rw [if_pos rfl, up1_s]; rfl
    · rw [if_neg c, up1_n c]; exact r1 j hj
  · rw [h2]; show _ = kc (up1 (so s) n 0 j)
    by_cases c : j = n
    · subst c; rw [if_pos rfl, up1_s]; rfl
    · rw [if_neg c, up1_n c]; exact r2 j hj
  · rw [h3]; show _ = ic (up1 (sb s) n 0 j)
    by_cases c : j = n
    · subst c; rw [if_pos rfl, up1_s]; rfl
    · rw [if_neg c, up1_n c]; exact r3 j hj
  · rw [h4 a ha]; show _ = kc (if a / 8 = n then 0 else se s a)
    by_cases c : a / 8 = n
    · rw [if_pos c, if_pos c]; rfl
    · rw [if_neg c, if_neg c]; exact r4 a ha
  · rw [h5, r6, ic_cbt]
  · rw [tb_cbt (by omega), r7 j hj]
    show _ = up1 (su s) n false j
    by_cases c : j = n
    · subst c; rw [up1_s]; simp
    · rw [up1_n c]; simp [show ¬ n = j from fun e => c e.symm]
  · rw [h6 5 (by decide)]; exact r8
  · rw [h6 6 (by decide)]; exact r9
theorem q_drop (hL : QL S q) (hR : QR I q s pl) (hV : Inv s pl) {n : Nat} (hn : n < 8) : ∃ I', p_X3_drop q (ic n) (hp S I L) = some (hp S I' L) ∧ QR I' q (drp s n) pl ∧ Fr I I' q (q + 4) := by
  have := lp_inv (fun k j (c : II) => p_X3_drop_2 k q (ic n) (ic j) (hp S c L)) 64
    (fun k c => QR c q (pe s (fun a => if isR s a n = true then 0 else se s a) k) pl ∧ Fr I c q (q + 4))
    (fun r => ∃ I', r = hp S I' L ∧ QR I' q (drp s n) pl ∧ Fr I I' q (q + 4)) (fun m k J hk hc => ?_) (fun m J hc => ?_) 64 0 FU I rfl (fu_lt (by decide)) ⟨hR.pe0 _, Fr.refl _ _ _⟩
  · obtain ⟨r, e, I', e2, h⟩ := this
    subst e2
    exact ⟨I', e, h⟩
  · obtain ⟨hQ, hF⟩ := hc
    have h1 := hV.k3 (n := k / 8) (by omega)
    have h2 := hV.e64 hk
    have hm := q_isRoot (L := L) hL hQ hk (f := n) h1 (by rw [pe_at]; exact h2) (by omega)
    rw [pe_isR] at hm
    by_cases e : isR s k n = true
    · refine ⟨up2 J (q + 4) k m2, ?_, hQ.pe1 _ (by rw [if_pos e]; rfl) hk, hF.trans (Fr.up (by omega) (by omega))⟩
      simp (maxSteps := 1000000) (disch := omega) only [↓reduceIte, ↓if_bi0, ↓if_bi1, hp_tg, hp_rI, hp_rR, hp_rL, hp_wI, hp_wL, Option.bind_some, if_11, if_01, bi_and1, i10, i01, bi_t, bi_f, ic_add, mr_4, ml_4, mr_8, ml_8, mr_10, ml_10, ic_add1, ic_sub1, ic_clamp, ic_div, ic_irm, ic_lt0, ic_0lt, ic_eq0, ic_lt, ic_inj, and15, and7, and31, and63, shl1, shr_ok, neg_1, neg_2, neg_3, neg_4, kc_lt0, kc_ic, kc_m2, kc_1, kc_0, i0_add, add_i0, or_i0, z_8, z_4, z_64, z_256, ic_m2, ec_m1, ic_m1, m1_lt0, m2_lt0, m3_lt0, m4_lt0, up_s, if_true, if_false, ne_eq, not_true_eq_false, not_false_eq_true, Bool.false_eq_true, eq_self, or_self, or_false, false_or, and_self, and_true, true_and, ite_self, Nat.reduceEqDiff, Nat.reduceLT, Nat.reduceMod, Nat.reduceMul, Nat.reduceAdd, Nat.reducePow, Nat.reduceDiv, lt_2, lt_3, lt_4, lt_5, lt_6, lt_7, lt_8, lt_10, lt_11, lt_12, lt_15, lt_16, lt_18, lt_20, lt_24, lt_31, lt_32, lt_48, lt_57, lt_59, lt_63, lt_64, lt_74, lt_75, lt_97, lt_122, lt_128, lt_144, lt_145, lt_146, lt_147, lt_155, lt_163, lt_171, lt_179, lt_200, lt_243, lt_244, lt_255, lt_256, lt_732, lt_900, lt_3660, lt_3904, lt_4095, lt_65536, lt_65537, lt_252645135, lt_858993459, lt_1431655765, ↓p_has_b, p_has, ↓p_has9_b, p_has9, ↓p_bit_b, p_bit, ↓p_bit1_b, p_bit1, ↓p_bit0_b, p_bit0, p_X3_drop_31, p_X3_drop_25, p_X3_drop_2, p_X3_drop, hL.t, hL.e, hk, ↓bnd (hm), hm, e, if_inB hL.et]
    · refine ⟨J, ?_, hQ.pe2 (if_neg e), hF⟩
      rw [Bool.not_eq_true] at e
      simp (maxSteps := 1000000) (disch := omega) only [↓reduceIte, ↓if_bi0, ↓if_bi1, hp_tg, hp_rI, hp_rR, hp_rL, hp_wI, hp_wL, Option.bind_some, if_11, if_01, bi_and1, i10, i01, bi_t, bi_f, ic_add, mr_4, ml_4, mr_8, ml_8, mr_10, ml_10, ic_add1, ic_sub1, ic_clamp, ic_div, ic_irm, ic_lt0, ic_0lt, ic_eq0, ic_lt, ic_inj, and15, and7, and31, and63, shl1, shr_ok, neg_1, neg_2, neg_3, neg_4, kc_lt0, kc_ic, kc_m2, kc_1, kc_0, i0_add, add_i0, or_i0, z_8, z_4, z_64, z_256, ic_m2, ec_m1, ic_m1, m1_lt0, m2_lt0, m3_lt0, m4_lt0, up_s, if_true, if_false, ne_eq, not_true_eq_false, not_false_eq_true, Bool.false_eq_true, eq_self, or_self, or_false, false_or, and_self, and_true, true_and, ite_self, Nat.reduceEqDiff, Nat.reduceLT, Nat.reduceMod, Nat.reduceMul, Nat.reduceAdd, Nat.reducePow, Nat.reduceDiv, lt_2, lt_3, lt_4, lt_5, lt_6, lt_7, lt_8, lt_10, lt_11, lt_12, lt_15, lt_16, lt_18, lt_20, lt_24, lt_31, lt_32, lt_48, lt_57, lt_59, lt_63, lt_64, lt_74, lt_75, lt_97, lt_122, lt_128, lt_144, lt_145, lt_146, lt_147, lt_155, lt_163, lt_171, lt_179, lt_200, lt_243, lt_244, lt_255, lt_256, lt_732, lt_900, lt_3660, lt_3904, lt_4095, lt_65536, lt_65537, lt_252645135, lt_858993459, lt_1431655765, ↓p_has_b, p_has, ↓p_has9_b, p_has9, ↓p_bit_b, p_bit, ↓p_bit1_b, p_bit1, ↓p_bit0_b, p_bit0, p_X3_drop_31, p_X3_drop_25, p_X3_drop_2, p_X3_drop, hL.t, hL.e, hk, ↓bnd (hm), hm, e]
  · obtain ⟨hQ, hF⟩ := hc
    obtain ⟨I', e, f, h1, h2, h3, h4, h5, h6⟩ := q_vacate (I := J) (L := L) hL hn
    refine ⟨_, by simp (maxSteps := 1000000) (disch := omega) only [↓reduceIte, ↓if_bi0, ↓if_bi1, hp_tg, hp_rI, hp_rR, hp_rL, hp_wI, hp_wL, Option.bind_some, if_11, if_01, bi_and1, i10, i01, bi_t, bi_f, ic_add, mr_4, ml_4, mr_8, ml_8, mr_10, ml_10, ic_add1, ic_sub1, ic_clamp, ic_div, ic_irm, ic_lt0, ic_0lt, ic_eq0, ic_lt, ic_inj, and15, and7, and31, and63, shl1, shr_ok, neg_1, neg_2, neg_3, neg_4, kc_lt0, kc_ic, kc_m2, kc_1, kc_0, i0_add, add_i0, or_i0, z_8, z_4, z_64, z_256, ic_m2, ec_m1, ic_m1, m1_lt0, m2_lt0, m3_lt0, m4_lt0, up_s, if_true, if_false, ne_eq, not_true_eq_false, not_false_eq_true, Bool.false_eq_true, eq_self, or_self, or_false, false_or, and_self, and_true, true_and, ite_self, Nat.reduceEqDiff, Nat.reduceLT, Nat.reduceMod, Nat.reduceMul, Nat.reduceAdd, Nat.reducePow, Nat.reduceDiv, lt_2, lt_3, lt_4, lt_5, lt_6, lt_7, lt_8, lt_10, lt_11, lt_12, lt_15, lt_16, lt_18, lt_20, lt_24, lt_31, lt_32, lt_48, lt_57, lt_59, lt_63, lt_64, lt_74, lt_75, lt_97, lt_122, lt_128, lt_144, lt_145, lt_146, lt_147, lt_155, lt_163, lt_171, lt_179, lt_200, lt_243, lt_244, lt_255, lt_256, lt_732, lt_900, lt_3660, lt_3904, lt_4095, lt_65536, lt_65537, lt_252645135, lt_858993459, lt_1431655765, ↓p_has_b, p_has, ↓p_has9_b, p_has9, ↓p_bit_b, p_bit, ↓p_bit1_b, p_bit1, ↓p_bit0_b, p_bit0, p_X3_drop_31, p_X3_drop_25, p_X3_drop_2, p_X3_drop, -p_X3_vacate, Nat.lt_irrefl, hL.t, ↓bnd (e), e], I', rfl, ?_, hF.trans f⟩
    refine (hQ.pe9.vac hn h1 h2 h3 h4 h5 h6).ent (fun a ha => ?_) (by unfold E5 drp; simp only [skuu, skub, skuo, skuk, skue, souu, soub, souo, souk, soue, sbuu, sbub, sbuo, sbuk, sbue, suuu, suub, suuo, suuk, suue, scuu, scub, scuo, scuk, scue, and_self])
    unfold drp
    simp only [seuu, seub, seuo, seuk, seue]
    by_cases c : a / 8 = n
    · simp [c]
    · simp [c]
theorem q_make (hL : QL S q) (hR : QR I q s pl) (k o : Nat) {n : Nat} (hn : n < 8) : ∃ I', p_X3_make q (ic n) (ic k) (ic o) (hp S I L) = some (hp S I' L) ∧ QR I' q (mkT s n k o) pl ∧ Fr I I' q (q + 4) := by
  refine ⟨up2 (up2 (up2 (up2 I q 6 (ic (sc s + 1))) (q + 1) n (ic k)) (q + 2) n (ic o)) (q + 3) n (ic (sc s + 1)), ?_, ?_, (((Fr.up (by omega) (by omega)).trans (Fr.up (by omega) (by omega))).trans (Fr.up (by omega) (by omega))).trans (Fr.up (by omega) (by omega))⟩
  · simp (maxSteps := 1000000) (disch := omega) only [↓reduceIte, ↓if_bi0, ↓if_bi1, hp_tg, hp_rI, hp_rR, hp_rL, hp_wI, hp_wL, Option.bind_some, if_11, if_01, bi_and1, i10, i01, bi_t, bi_f, ic_add, mr_4, ml_4, mr_8, ml_8, mr_10, ml_10, ic_add1, ic_sub1, ic_clamp, ic_div, ic_irm, ic_lt0, ic_0lt, ic_eq0, ic_lt, ic_inj, and15, and7, and31, and63, shl1, shr_ok, neg_1, neg_2, neg_3, neg_4, kc_lt0, kc_ic, kc_m2, kc_1, kc_0, i0_add, add_i0, or_i0, z_8, z_4, z_64, z_256, ic_m2, ec_m1, ic_m1, m1_lt0, m2_lt0, m3_lt0, m4_lt0, up_s, if_true, if_false, ne_eq, not_true_eq_false, not_false_eq_true, Bool.false_eq_true, eq_self, or_self, or_false, false_or, and_self, and_true, true_and, ite_self, Nat.reduceEqDiff, Nat.reduceLT, Nat.reduceMod, Nat.reduceMul, Nat.reduceAdd, Nat.reducePow, Nat.reduceDiv, lt_2, lt_3, lt_4, lt_5, lt_6, lt_7, lt_8, lt_10, lt_11, lt_12, lt_15, lt_16, lt_18, lt_20, lt_24, lt_31, lt_32, lt_48, lt_57, lt_59, lt_63, lt_64, lt_74, lt_75, lt_97, lt_122, lt_128, lt_144, lt_145, lt_146, lt_147, lt_155, lt_163, lt_171, lt_179, lt_200, lt_243, lt_244, lt_255, lt_256, lt_732, lt_900, lt_3660, lt_3904, lt_4095, lt_65536, lt_65537, lt_252645135, lt_858993459, lt_1431655765, ↓p_has_b, p_has, ↓p_has9_b, p_has9, ↓p_bit_b, p_bit, ↓p_bit1_b, p_bit1, ↓p_bit0_b, p_bit0, p_X3_make, hL.t, hL.k, hL.o, hL.b, hR.2.2.2.2.2.2]
    rw [show n % 8 = n by omega]
    simp (maxSteps := 1000000) (disch := omega) only [↓reduceIte, ↓if_bi0, ↓if_bi1, hp_tg, hp_rI, hp_rR, hp_rL, hp_wI, hp_wL, Option.bind_some, if_11, if_01, bi_and1, i10, i01, bi_t, bi_f, ic_add, mr_4, ml_4, mr_8, ml_8, mr_10, ml_10, ic_add1, ic_sub1, ic_clamp, ic_div, ic_irm, ic_lt0, ic_0lt, ic_eq0, ic_lt, ic_inj, and15, and7, and31, and63, shl1, shr_ok, neg_1, neg_2, neg_3, neg_4, kc_lt0, kc_ic, kc_m2, kc_1, kc_0, i0_add, add_i0, or_i0, z_8, z_4, z_64, z_256, ic_m2, ec_m1, ic_m1, m1_lt0, m2_lt0, m3_lt0, m4_lt0, up_s, if_true, if_false, ne_eq, not_true_eq_false, not_false_eq_true, Bool.false_eq_true, eq_self, or_self, or_false, false_or, and_self, and_true, true_and, ite_self, Nat.reduceEqDiff, Nat.reduceLT, Nat.reduceMod, Nat.reduceMul, Nat.reduceAdd, Nat.reducePow, Nat.reduceDiv, lt_2, lt_3, lt_4, lt_5, lt_6, lt_7, lt_8, lt_10, lt_11, lt_12, lt_15, lt_16, lt_18, lt_20, lt_24, lt_31, lt_32, lt_48, lt_57, lt_59, lt_63, lt_64, lt_74, lt_75, lt_97, lt_122, lt_128, lt_144, lt_145, lt_146, lt_147, lt_155, lt_163, lt_171, lt_179, lt_200, lt_243, lt_244, lt_255, lt_256, lt_732, lt_900, lt_3660, lt_3904, lt_4095, lt_65536, lt_65537, lt_252645135, lt_858993459, lt_1431655765, ↓p_has_b, p_has, ↓p_has9_b, p_has9, ↓p_bit_b, p_bit, ↓p_bit1_b, p_bit1, ↓p_bit0_b, p_bit0, if_inB hL.kt, if_inB hL.ot, if_inB hL.bt]
    rw [up_a (by omega), up_a (by omega), up_s]
  · obtain ⟨r1, r2, r3, r4, ⟨w, r5, r6, r7⟩, r8, r9⟩ := hR
    refine ⟨fun j hj => ?_, fun j hj => ?_, fun j hj => ?_, fun a ha => ?_, ⟨w, r5, ?_, r7⟩, ?_, ?_⟩
    · rw [up_a (by omega), up_a (by omega), up_i, up_a (by omega)]
      show _ = kc (up1 (sk s) n (k + 1) j)
      by_cases c : j = n
      · subst c; rw [if_pos rfl, up1_s, kc_succ]
      · rw [if_neg c, up1_n c]; exact r1 j hj
    · rw [up_a (by omega), up_i, up_a (by omega), up_a (by omega)]
      show _ = kc (up1 (so s) n (o + 1) j)
      by_cases c : j = n
      · subst c; rw [if_pos rfl, up1_s, kc_succ]
      · rw [if_neg c, up1_n c]; exact r2 j hj
    · rw [up_i, up_a (by omega), up_a (by omega), up_a (by omega)]
      show _ = ic (up1 (sb s) n (sc s + 1) j)
      by_cases c : j = n
      · subst c; rw [if_pos rfl, up1_s]
      · rw [if_neg c, up1_n c]; exact r3 j hj
    · rw [up_a (by omega), up_a (by omega), up_a (by omega), up_a (by omega)]; exact r4 a ha
    · rw [up_a (by omega), up_a (by omega), up_a (by omega), up_k (by omega)]; exact r6
    · rw [up_a (by omega), up_a (by omega), up_a (by omega), up_k (by omega)]; exact r8
    · rw [up_a (by omega), up_a (by omega), up_a (by omega), up_s]; rfl
theorem q_tell (hL : QL S q) {n i w : Nat} (x y : Int32) : p_X3_tell q (ic n) (ic i) (ic w) x y (hp S I L) = some (hp S (up2 I (q + 4) (8 * (n % 8) + i % 8) (ic (4 * w + (if x = 0 then 0 else 2) + (if y = 0 then 0 else 1)))) L) := by
  by_cases a : x = 0 <;> by_cases b : y = 0 <;> simp (maxSteps := 1000000) (disch := omega) only [↓reduceIte, ↓if_bi0, ↓if_bi1, hp_tg, hp_rI, hp_rR, hp_rL, hp_wI, hp_wL, Option.bind_some, if_11, if_01, bi_and1, i10, i01, bi_t, bi_f, ic_add, mr_4, ml_4, mr_8, ml_8, mr_10, ml_10, ic_add1, ic_sub1, ic_clamp, ic_div, ic_irm, ic_lt0, ic_0lt, ic_eq0, ic_lt, ic_inj, and15, and7, and31, and63, shl1, shr_ok, neg_1, neg_2, neg_3, neg_4, kc_lt0, kc_ic, kc_m2, kc_1, kc_0, i0_add, add_i0, or_i0, z_8, z_4, z_64, z_256, ic_m2, ec_m1, ic_m1, m1_lt0, m2_lt0, m3_lt0, m4_lt0, up_s, if_true, if_false, ne_eq, not_true_eq_false, not_false_eq_true, Bool.false_eq_true, eq_self, or_self, or_false, false_or, and_self, and_true, true_and, ite_self, Nat.reduceEqDiff, Nat.reduceLT, Nat.reduceMod, Nat.reduceMul, Nat.reduceAdd, Nat.reducePow, Nat.reduceDiv, lt_2, lt_3, lt_4, lt_5, lt_6, lt_7, lt_8, lt_10, lt_11, lt_12, lt_15, lt_16, lt_18, lt_20, lt_24, lt_31, lt_32, lt_48, lt_57, lt_59, lt_63, lt_64, lt_74, lt_75, lt_97, lt_122, lt_128, lt_144, lt_145, lt_146, lt_147, lt_155, lt_163, lt_171, lt_179, lt_200, lt_243, lt_244, lt_255, lt_256, lt_732, lt_900, lt_3660, lt_3904, lt_4095, lt_65536, lt_65537, lt_252645135, lt_858993459, lt_1431655765, ↓p_has_b, p_has, ↓p_has9_b, p_has9, ↓p_bit_b, p_bit, ↓p_bit1_b, p_bit1, ↓p_bit0_b, p_bit0, p_X3_tell_33, p_X3_tell_32, p_X3_tell_22, p_X3_tell_21, p_X3_tell, p_X3_spot, hL.t, hL.e, if_inB hL.et, a, b, Nat.add_zero]
theorem q_tell_b (hL : QL S q) {n i w : Nat} (x y : Int32) {β : Type} (f9 : AH → Option β) : (p_X3_tell q (ic n) (ic i) (ic w) x y (hp S I L)).bind f9 = f9 (hp S (up2 I (q + 4) (8 * (n % 8) + i % 8) (ic (4 * w + (if x = 0 then 0 else 2) + (if y = 0 then 0 else 1)))) L) := bnd (by apply q_tell <;> assumption)
theorem q_remove (hL : QL S q) (hR : QR I q s pl) (n i : Nat) (he : se s (8 * (n % 8) + i % 8) ≤ 64) : p_X3_remove q (ic n) (ic i) (hp S I L) = some (bi (decide (se s (8 * (n % 8) + i % 8) ≠ 0)), hp S (up2 I (q + 4) (8 * (n % 8) + i % 8) m2) L) := by
  simp (maxSteps := 1000000) (disch := omega) only [↓reduceIte, ↓if_bi0, ↓if_bi1, hp_tg, hp_rI, hp_rR, hp_rL, hp_wI, hp_wL, Option.bind_some, if_11, if_01, bi_and1, i10, i01, bi_t, bi_f, ic_add, mr_4, ml_4, mr_8, ml_8, mr_10, ml_10, ic_add1, ic_sub1, ic_clamp, ic_div, ic_irm, ic_lt0, ic_0lt, ic_eq0, ic_lt, ic_inj, and15, and7, and31, and63, shl1, shr_ok, neg_1, neg_2, neg_3, neg_4, kc_lt0, kc_ic, kc_m2, kc_1, kc_0, i0_add, add_i0, or_i0, z_8, z_4, z_64, z_256, ic_m2, ec_m1, ic_m1, m1_lt0, m2_lt0, m3_lt0, m4_lt0, up_s, if_true, if_false, ne_eq, not_true_eq_false, not_false_eq_true, Bool.false_eq_true, eq_self, or_self, or_false, false_or, and_self, and_true, true_and, ite_self, Nat.reduceEqDiff, Nat.reduceLT, Nat.reduceMod, Nat.reduceMul, Nat.reduceAdd, Nat.reducePow, Nat.reduceDiv, lt_2, lt_3, lt_4, lt_5, lt_6, lt_7, lt_8, lt_10, lt_11, lt_12, lt_15, lt_16, lt_18, lt_20, lt_24, lt_31, lt_32, lt_48, lt_57, lt_59, lt_63, lt_64, lt_74, lt_75, lt_97, lt_122, lt_128, lt_144, lt_145, lt_146, lt_147, lt_155, lt_163, lt_171, lt_179, lt_200, lt_243, lt_244, lt_255, lt_256, lt_732, lt_900, lt_3660, lt_3904, lt_4095, lt_65536, lt_65537, lt_252645135, lt_858993459, lt_1431655765, ↓p_has_b, p_has, ↓p_has9_b, p_has9, ↓p_bit_b, p_bit, ↓p_bit1_b, p_bit1, ↓p_bit0_b, p_bit0, p_X3_remove_20, p_X3_remove_19, p_X3_remove, p_X3_spot, hL.t, hL.e, if_inB hL.et, hR.e]
  by_cases c : se s (8 * (n % 8) + i % 8) = 0
  · simp (maxSteps := 1000000) (disch := omega) only [↓reduceIte, ↓if_bi0, ↓if_bi1, hp_tg, hp_rI, hp_rR, hp_rL, hp_wI, hp_wL, Option.bind_some, if_11, if_01, bi_and1, i10, i01, bi_t, bi_f, ic_add, mr_4, ml_4, mr_8, ml_8, mr_10, ml_10, ic_add1, ic_sub1, ic_clamp, ic_div, ic_irm, ic_lt0, ic_0lt, ic_eq0, ic_lt, ic_inj, and15, and7, and31, and63, shl1, shr_ok, neg_1, neg_2, neg_3, neg_4, kc_lt0, kc_ic, kc_m2, kc_1, kc_0, i0_add, add_i0, or_i0, z_8, z_4, z_64, z_256, ic_m2, ec_m1, ic_m1, m1_lt0, m2_lt0, m3_lt0, m4_lt0, up_s, if_true, if_false, ne_eq, not_true_eq_false, not_false_eq_true, Bool.false_eq_true, eq_self, or_self, or_false, false_or, and_self, and_true, true_and, ite_self, Nat.reduceEqDiff, Nat.reduceLT, Nat.reduceMod, Nat.reduceMul, Nat.reduceAdd, Nat.reducePow, Nat.reduceDiv, lt_2, lt_3, lt_4, lt_5, lt_6, lt_7, lt_8, lt_10, lt_11, lt_12, lt_15, lt_16, lt_18, lt_20, lt_24, lt_31, lt_32, lt_48, lt_57, lt_59, lt_63, lt_64, lt_74, lt_75, lt_97, lt_122, lt_128, lt_144, lt_145, lt_146, lt_147, lt_155, lt_163, lt_171, lt_179, lt_200, lt_243, lt_244, lt_255, lt_256, lt_732, lt_900, lt_3660, lt_3904, lt_4095, lt_65536, lt_65537, lt_252645135, lt_858993459, lt_1431655765, ↓p_has_b, p_has, ↓p_has9_b, p_has9, ↓p_bit_b, p_bit, ↓p_bit1_b, p_bit1, ↓p_bit0_b, p_bit0, c, if_inB hL.et, hL.t, hL.e]; simp [bi]
  · simp (maxSteps := 1000000) (disch := omega) only [↓reduceIte, ↓if_bi0, ↓if_bi1, hp_tg, hp_rI, hp_rR, hp_rL, hp_wI, hp_wL, Option.bind_some, if_11, if_01, bi_and1, i10, i01, bi_t, bi_f, ic_add, mr_4, ml_4, mr_8, ml_8, mr_10, ml_10, ic_add1, ic_sub1, ic_clamp, ic_div, ic_irm, ic_lt0, ic_0lt, ic_eq0, ic_lt, ic_inj, and15, and7, and31, and63, shl1, shr_ok, neg_1, neg_2, neg_3, neg_4, kc_lt0, kc_ic, kc_m2, kc_1, kc_0, i0_add, add_i0, or_i0, z_8, z_4, z_64, z_256, ic_m2, ec_m1, ic_m1, m1_lt0, m2_lt0, m3_lt0, m4_lt0, up_s, if_true, if_false, ne_eq, not_true_eq_false, not_false_eq_true, Bool.false_eq_true, eq_self, or_self, or_false, false_or, and_self, and_true, true_and, ite_self, Nat.reduceEqDiff, Nat.reduceLT, Nat.reduceMod, Nat.reduceMul, Nat.reduceAdd, Nat.reducePow, Nat.reduceDiv, lt_2, lt_3, lt_4, lt_5, lt_6, lt_7, lt_8, lt_10, lt_11, lt_12, lt_15, lt_16, lt_18, lt_20, lt_24, lt_31, lt_32, lt_48, lt_57, lt_59, lt_63, lt_64, lt_74, lt_75, lt_97, lt_122, lt_128, lt_144, lt_145, lt_146, lt_147, lt_155, lt_163, lt_171, lt_179, lt_200, lt_243, lt_244, lt_255, lt_256, lt_732, lt_900, lt_3660, lt_3904, lt_4095, lt_65536, lt_65537, lt_252645135, lt_858993459, lt_1431655765, ↓p_has_b, p_has, ↓p_has9_b, p_has9, ↓p_bit_b, p_bit, ↓p_bit1_b, p_bit1, ↓p_bit0_b, p_bit0, c, if_inB hL.et, hL.t, hL.e]; simp [bi]
theorem q_remove_b (hL : QL S q) (hR : QR I q s pl) (n i : Nat) (he : se s (8 * (n % 8) + i % 8) ≤ 64) {β : Type} (f9 : Int32 × AH → Option β) : (p_X3_remove q (ic n) (ic i) (hp S I L)).bind f9 = f9 (bi (decide (se s (8 * (n % 8) + i % 8) ≠ 0)), hp S (up2 I (q + 4) (8 * (n % 8) + i % 8) m2) L) := bnd (by apply q_remove <;> assumption)
end POOLX
