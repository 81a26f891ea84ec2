/-! ===== device, unmap, give, protect, clean: the reference ===== -/
section XAC
variable {S : SH} {I J J' : II} {L L' : LL} {m a c e pl : Nat} {W : WD} {s : St}
theorem x_takes (hL : ML S m) (hR : RW (J (m + 3)) s) (he : ∀ a, a < 64 → se s a ≤ 64) (o : Option Nat) (ho : ∀ n, o = some n → n < 8) {i : Nat} (hi : i < 8) : ∃ K, p_X9_takesEntry m (od o) (ic i) (hp S J L) = some (ic (tkN s o i), hp S K L) ∧ RW (K (m + 3)) (tke s o i) ∧ Fr J K (m + 3) (m + 3) := by
  cases o with
  | none =>
    refine ⟨J, ?_, hR, Fr.refl _ _ _⟩
    simp (maxSteps := 1000000) (disch := omega) only [↓reduceIte, ↓if_bi0, ↓if_bi1, hp_tg, hp_rI, hp_rR, hp_rL, hp_wI, hp_wL, Option.bind_some, if_11, if_01, bi_and1, i10, i01, bi_t, bi_f, ic_add, mr_4, ml_4, mr_8, ml_8, mr_10, ml_10, ic_add1, ic_sub1, ic_clamp, ic_div, ic_irm, ic_lt0, ic_0lt, ic_eq0, ic_lt, ic_inj, and15, and7, and31, and63, shl1, shr_ok, neg_1, neg_2, neg_3, neg_4, kc_lt0, kc_ic, kc_m2, kc_1, kc_0, i0_add, add_i0, or_i0, z_8, z_4, z_64, z_256, ic_m2, ec_m1, ic_m1, m1_lt0, m2_lt0, m3_lt0, m4_lt0, up_s, if_true, if_false, ne_eq, not_true_eq_false, not_false_eq_true, Bool.false_eq_true, eq_self, or_self, or_false, false_or, and_self, and_true, true_and, ite_self, Nat.reduceEqDiff, Nat.reduceLT, Nat.reduceMod, Nat.reduceMul, Nat.reduceAdd, Nat.reducePow, Nat.reduceDiv, lt_2, lt_3, lt_4, lt_5, lt_6, lt_7, lt_8, lt_10, lt_11, lt_12, lt_15, lt_16, lt_18, lt_20, lt_24, lt_31, lt_32, lt_48, lt_57, lt_59, lt_63, lt_64, lt_74, lt_75, lt_97, lt_122, lt_128, lt_144, lt_145, lt_146, lt_147, lt_155, lt_163, lt_171, lt_179, lt_200, lt_243, lt_244, lt_255, lt_256, lt_732, lt_900, lt_3660, lt_3904, lt_4095, lt_65536, lt_65537, lt_252645135, lt_858993459, lt_1431655765, ↓p_has_b, p_has, ↓p_has9_b, p_has9, ↓p_bit_b, p_bit, ↓p_bit1_b, p_bit1, ↓p_bit0_b, p_bit0, show od none = m1 from rfl, p_X9_takesEntry, p_X9_takesEntry_24]
    rfl
  | some n =>
    have hn := ho n rfl
    have h64 := he (8 * n + i) (by omega)
    have E : J (m + 3) (179 + 8 * n + i) = ec (se s (8 * n + i)) := by rw [Nat.add_assoc]; exact hR.e _ (by omega)
    rw [show od (some n) = ic n from rfl]
    by_cases d : se s (8 * n + i) = 0
    · refine ⟨J, ?_, ?_, Fr.refl _ _ _⟩
      · rw [d, ec_zero] at E
        rw [show tkN s (some n) i = 0 by show b2 (decide _) 1 = 0; rw [decide_eq_false (fun q => q d)]; rfl]
        simp (maxSteps := 1000000) (disch := omega) only [↓reduceIte, ↓if_bi0, ↓if_bi1, hp_tg, hp_rI, hp_rR, hp_rL, hp_wI, hp_wL, Option.bind_some, if_11, if_01, bi_and1, i10, i01, bi_t, bi_f, ic_add, mr_4, ml_4, mr_8, ml_8, mr_10, ml_10, ic_add1, ic_sub1, ic_clamp, ic_div, ic_irm, ic_lt0, ic_0lt, ic_eq0, ic_lt, ic_inj, and15, and7, and31, and63, shl1, shr_ok, neg_1, neg_2, neg_3, neg_4, kc_lt0, kc_ic, kc_m2, kc_1, kc_0, i0_add, add_i0, or_i0, z_8, z_4, z_64, z_256, ic_m2, ec_m1, ic_m1, m1_lt0, m2_lt0, m3_lt0, m4_lt0, up_s, if_true, if_false, ne_eq, not_true_eq_false, not_false_eq_true, Bool.false_eq_true, eq_self, or_self, or_false, false_or, and_self, and_true, true_and, ite_self, Nat.reduceEqDiff, Nat.reduceLT, Nat.reduceMod, Nat.reduceMul, Nat.reduceAdd, Nat.reducePow, Nat.reduceDiv, lt_2, lt_3, lt_4, lt_5, lt_6, lt_7, lt_8, lt_10, lt_11, lt_12, lt_15, lt_16, lt_18, lt_20, lt_24, lt_31, lt_32, lt_48, lt_57, lt_59, lt_63, lt_64, lt_74, lt_75, lt_97, lt_122, lt_128, lt_144, lt_145, lt_146, lt_147, lt_155, lt_163, lt_171, lt_179, lt_200, lt_243, lt_244, lt_255, lt_256, lt_732, lt_900, lt_3660, lt_3904, lt_4095, lt_65536, lt_65537, lt_252645135, lt_858993459, lt_1431655765, ↓p_has_b, p_has, ↓p_has9_b, p_has9, ↓p_bit_b, p_bit, ↓p_bit1_b, p_bit1, ↓p_bit0_b, p_bit0, p_X9_takesEntry, p_X9_takesEntry_24, hL.t, hL.x, if_inB hL.xt, E]
        rfl
      · refine hR.toue fun b hb => ?_
        show _ = if b = 8 * n + i then 0 else se s b
        by_cases e : b = 8 * n + i
        · rw [if_pos e, e, d]
        · rw [if_neg e]
    · refine ⟨up2 J (m + 3) (179 + 8 * n + i) m1, ?_, ?_, Fr.up (by omega) (by omega)⟩
      · rw [ec_pos (by omega)] at E
        rw [show tkN s (some n) i = 1 by show b2 (decide _) 1 = 1; rw [decide_eq_true d]; rfl]
        simp (maxSteps := 1000000) (disch := omega) only [↓reduceIte, ↓if_bi0, ↓if_bi1, hp_tg, hp_rI, hp_rR, hp_rL, hp_wI, hp_wL, Option.bind_some, if_11, if_01, bi_and1, i10, i01, bi_t, bi_f, ic_add, mr_4, ml_4, mr_8, ml_8, mr_10, ml_10, ic_add1, ic_sub1, ic_clamp, ic_div, ic_irm, ic_lt0, ic_0lt, ic_eq0, ic_lt, ic_inj, and15, and7, and31, and63, shl1, shr_ok, neg_1, neg_2, neg_3, neg_4, kc_lt0, kc_ic, kc_m2, kc_1, kc_0, i0_add, add_i0, or_i0, z_8, z_4, z_64, z_256, ic_m2, ec_m1, ic_m1, m1_lt0, m2_lt0, m3_lt0, m4_lt0, up_s, if_true, if_false, ne_eq, not_true_eq_false, not_false_eq_true, Bool.false_eq_true, eq_self, or_self, or_false, false_or, and_self, and_true, true_and, ite_self, Nat.reduceEqDiff, Nat.reduceLT, Nat.reduceMod, Nat.reduceMul, Nat.reduceAdd, Nat.reducePow, Nat.reduceDiv, lt_2, lt_3, lt_4, lt_5, lt_6, lt_7, lt_8, lt_10, lt_11, lt_12, lt_15, lt_16, lt_18, lt_20, lt_24, lt_31, lt_32, lt_48, lt_57, lt_59, lt_63, lt_64, lt_74, lt_75, lt_97, lt_122, lt_128, lt_144, lt_145, lt_146, lt_147, lt_155, lt_163, lt_171, lt_179, lt_200, lt_243, lt_244, lt_255, lt_256, lt_732, lt_900, lt_3660, lt_3904, lt_4095, lt_65536, lt_65537, lt_252645135, lt_858993459, lt_1431655765, ↓p_has_b, p_has, ↓p_has9_b, p_has9, ↓p_bit_b, p_bit, ↓p_bit1_b, p_bit1, ↓p_bit0_b, p_bit0, p_X9_takesEntry, p_X9_takesEntry_24, hL.t, hL.x, if_inB hL.xt, E]
        rfl
      · have := hR.sete (i := 8 * n + i) (e := 0) m1 rfl (by omega)
        rw [up_row, Nat.add_assoc]
        exact this
theorem x_un80 (hL : ML S m) (hR : RW (J (m + 3)) s) (hk3 : ∀ n, n < 8 → sk s n ≤ 3) (he9 : ∀ a, a < 64 → se s a ≤ 64) {f : Nat} (hf : f < 1000) : ∃ K, p_X9_unmap_80 FU m (ic f) 0 (ic 179) (hp S J L) = p_X9_unmap_115 m (ic (cnt (fun a => isM s a f) 64)) (hp S K L) ∧ RW (K (m + 3)) (rmM s f) ∧ Fr J K (m + 3) (m + 3) := by
  have := lp_to (fun n k (c : Nat × II) => p_X9_unmap_80 n m (ic f) (ic c.1) (ic (179 + k)) (hp S c.2 L)) 64
    (fun k c => c.1 = cnt (fun a => isM s a f) k ∧ RW (c.2 (m + 3)) (pe s (fun a => if isM s a f = true then 0 else se s a) k) ∧ Fr J c.2 (m + 3) (m + 3))
    (fun c => p_X9_unmap_115 m (ic c.1) (hp S c.2 L)) (fun n k c hk hc => ?_) (fun n c hc => ?_) 64 0 FU (0, J) rfl (fu_lt (by decide)) ⟨rfl, hR.pe0 _, Fr.refl _ _ _⟩
  · obtain ⟨⟨c, K⟩, e, h1, h2, h3⟩ := this
    dsimp only at h1
    subst h1
    exact ⟨K, e, h2.pe9, h3⟩
  · obtain ⟨c, K⟩ := c
    obtain ⟨rfl, hQ, hF⟩ := hc
    dsimp only at hQ hF
    have h1 := hk3 (k / 8) (by omega)
    have h2 := he9 k hk
    have hk9 : 179 + k < 243 := by omega
    have hm := x_isMap (L := L) hL hQ hk (f := f) h1 (by rw [pe_at]; exact h2) hf
    rw [pe_isM] at hm
    have hs : cnt (fun a => isM s a f) (k + 1) = if isM s k f = true then cnt (fun a => isM s a f) k + 1 else cnt (fun a => isM s a f) k := cnt_succ _ _
    cases e : isM s k f
    · rw [e] at hm
      refine ⟨(cnt (fun a => isM s a f) k, K), ?_, by rw [hs, if_neg (by rw [e]; decide)], hQ.pe2 (if_neg (by rw [e]; decide)), hF⟩
      dsimp only
      conv => lhs; unfold p_X9_unmap_80
      simp (maxSteps := 1000000) (disch := omega) only [↓reduceIte, ↓if_bi0, ↓if_bi1, hp_tg, hp_rI, hp_rR, hp_rL, hp_wI, hp_wL, Option.bind_some, if_11, if_01, bi_and1, i10, i01, bi_t, bi_f, ic_add, mr_4, ml_4, mr_8, ml_8, mr_10, ml_10, ic_add1, ic_sub1, ic_clamp, ic_div, ic_irm, ic_lt0, ic_0lt, ic_eq0, ic_lt, ic_inj, and15, and7, and31, and63, shl1, shr_ok, neg_1, neg_2, neg_3, neg_4, kc_lt0, kc_ic, kc_m2, kc_1, kc_0, i0_add, add_i0, or_i0, z_8, z_4, z_64, z_256, ic_m2, ec_m1, ic_m1, m1_lt0, m2_lt0, m3_lt0, m4_lt0, up_s, if_true, if_false, ne_eq, not_true_eq_false, not_false_eq_true, Bool.false_eq_true, eq_self, or_self, or_false, false_or, and_self, and_true, true_and, ite_self, Nat.reduceEqDiff, Nat.reduceLT, Nat.reduceMod, Nat.reduceMul, Nat.reduceAdd, Nat.reducePow, Nat.reduceDiv, lt_2, lt_3, lt_4, lt_5, lt_6, lt_7, lt_8, lt_10, lt_11, lt_12, lt_15, lt_16, lt_18, lt_20, lt_24, lt_31, lt_32, lt_48, lt_57, lt_59, lt_63, lt_64, lt_74, lt_75, lt_97, lt_122, lt_128, lt_144, lt_145, lt_146, lt_147, lt_155, lt_163, lt_171, lt_179, lt_200, lt_243, lt_244, lt_255, lt_256, lt_732, lt_900, lt_3660, lt_3904, lt_4095, lt_65536, lt_65537, lt_252645135, lt_858993459, lt_1431655765, ↓p_has_b, p_has, ↓p_has9_b, p_has9, ↓p_bit_b, p_bit, ↓p_bit1_b, p_bit1, ↓p_bit0_b, p_bit0, p_X9_unmap_109, hL.t, hk9, ↓bnd (hm), hm, Nat.add_assoc]
    · rw [e] at hm
      refine ⟨(cnt (fun a => isM s a f) k + 1, up2 K (m + 3) (179 + k) m1), ?_, by rw [hs, if_pos e], ?_, hF.trans (Fr.up (by omega) (by omega))⟩
      · dsimp only
        conv => lhs; unfold p_X9_unmap_80
        simp (maxSteps := 1000000) (disch := omega) only [↓reduceIte, ↓if_bi0, ↓if_bi1, hp_tg, hp_rI, hp_rR, hp_rL, hp_wI, hp_wL, Option.bind_some, if_11, if_01, bi_and1, i10, i01, bi_t, bi_f, ic_add, mr_4, ml_4, mr_8, ml_8, mr_10, ml_10, ic_add1, ic_sub1, ic_clamp, ic_div, ic_irm, ic_lt0, ic_0lt, ic_eq0, ic_lt, ic_inj, and15, and7, and31, and63, shl1, shr_ok, neg_1, neg_2, neg_3, neg_4, kc_lt0, kc_ic, kc_m2, kc_1, kc_0, i0_add, add_i0, or_i0, z_8, z_4, z_64, z_256, ic_m2, ec_m1, ic_m1, m1_lt0, m2_lt0, m3_lt0, m4_lt0, up_s, if_true, if_false, ne_eq, not_true_eq_false, not_false_eq_true, Bool.false_eq_true, eq_self, or_self, or_false, false_or, and_self, and_true, true_and, ite_self, Nat.reduceEqDiff, Nat.reduceLT, Nat.reduceMod, Nat.reduceMul, Nat.reduceAdd, Nat.reducePow, Nat.reduceDiv, lt_2, lt_3, lt_4, lt_5, lt_6, lt_7, lt_8, lt_10, lt_11, lt_12, lt_15, lt_16, lt_18, lt_20, lt_24, lt_31, lt_32, lt_48, lt_57, lt_59, lt_63, lt_64, lt_74, lt_75, lt_97, lt_122, lt_128, lt_144, lt_145, lt_146, lt_147, lt_155, lt_163, lt_171, lt_179, lt_200, lt_243, lt_244, lt_255, lt_256, lt_732, lt_900, lt_3660, lt_3904, lt_4095, lt_65536, lt_65537, lt_252645135, lt_858993459, lt_1431655765, ↓p_has_b, p_has, ↓p_has9_b, p_has9, ↓p_bit_b, p_bit, ↓p_bit1_b, p_bit1, ↓p_bit0_b, p_bit0, p_X9_unmap_109, hL.t, hL.x, hk9, ↓bnd (hm), hm, if_inB hL.xt, Nat.add_assoc]
      · show RW ((up2 K (m + 3) (179 + k) m1) (m + 3)) _
        rw [up_row]
        refine hQ.pe1 _ ?_ hk
        rw [if_pos e]
        rfl
  · obtain ⟨c, K⟩ := c
    dsimp only
    conv => lhs; unfold p_X9_unmap_80
    rw [if_neg (show ¬ ic (179 + 64) < 243 by decide)]
    rfl
/-- the tail: laid back, and an answer -/
theorem x_115 (hL : ML S m) {K K2 : II} (r : Int32) (e : (p_X9_remains m (hp S K L)) = some (hp S K2 L)) :
    p_X9_unmap_115 m r (hp S K L) = some (r, hp S (up2 (up2 K2 m 1 0) m 2 m1) L) := by
  simp (maxSteps := 1000000) (disch := omega) only [↓reduceIte, ↓if_bi0, ↓if_bi1, hp_tg, hp_rI, hp_rR, hp_rL, hp_wI, hp_wL, Option.bind_some, if_11, if_01, bi_and1, i10, i01, bi_t, bi_f, ic_add, mr_4, ml_4, mr_8, ml_8, mr_10, ml_10, ic_add1, ic_sub1, ic_clamp, ic_div, ic_irm, ic_lt0, ic_0lt, ic_eq0, ic_lt, ic_inj, and15, and7, and31, and63, shl1, shr_ok, neg_1, neg_2, neg_3, neg_4, kc_lt0, kc_ic, kc_m2, kc_1, kc_0, i0_add, add_i0, or_i0, z_8, z_4, z_64, z_256, ic_m2, ec_m1, ic_m1, m1_lt0, m2_lt0, m3_lt0, m4_lt0, up_s, if_true, if_false, ne_eq, not_true_eq_false, not_false_eq_true, Bool.false_eq_true, eq_self, or_self, or_false, false_or, and_self, and_true, true_and, ite_self, Nat.reduceEqDiff, Nat.reduceLT, Nat.reduceMod, Nat.reduceMul, Nat.reduceAdd, Nat.reducePow, Nat.reduceDiv, lt_2, lt_3, lt_4, lt_5, lt_6, lt_7, lt_8, lt_10, lt_11, lt_12, lt_15, lt_16, lt_18, lt_20, lt_24, lt_31, lt_32, lt_48, lt_57, lt_59, lt_63, lt_64, lt_74, lt_75, lt_97, lt_122, lt_128, lt_144, lt_145, lt_146, lt_147, lt_155, lt_163, lt_171, lt_179, lt_200, lt_243, lt_244, lt_255, lt_256, lt_732, lt_900, lt_3660, lt_3904, lt_4095, lt_65536, lt_65537, lt_252645135, lt_858993459, lt_1431655765, ↓p_has_b, p_has, ↓p_has9_b, p_has9, ↓p_bit_b, p_bit, ↓p_bit1_b, p_bit1, ↓p_bit0_b, p_bit0, p_X9_unmap_115, hL.t, ↓bnd (e), e, ↓x_good_b hL, x_good hL]
theorem inv_uw0 {f : Nat} (h : Inv s pl) : Inv (uw s (up1 (sw s) f false)) pl := by
  refine inv_uw h fun k hk hw => ?_
  by_cases e : k = f
  · subst e; rw [up1_s] at hw; cases hw
  · rw [up1_n e] at hw; exact h.1.2.2.1 k hk hw
theorem cbt_g {w f : Nat} (hw : w < 65536) {g : Nat → Bool} (hg : ∀ k, k < 16 → w.testBit k = g k) : ∀ k, k < 16 → (cbt w f).testBit k = up1 g f false k := by
  intro k hk
  rw [tb_cbt (by omega), hg k hk]
  by_cases e : k = f
  · subst e; rw [up1_s, decide_eq_true rfl]; cases g k <;> rfl
  · rw [up1_n e, decide_eq_false (fun q => e q.symm)]; cases g k <;> rfl
theorem xc_unmap (H : XH S I m a W c) (v : Int32) : XC S I m a (p_X9_unmap m v (hp S I L)) (unW W v) := by
  have H9 := H
  have a0 := H.a0
  obtain ⟨hL, hm, hM, hX, hV⟩ := H9
  unfold unW
  cases hr : vR W
  · have lm := hM.2 hr
    rw [ok_ff, if_neg (by decide)]
    refine xc_no1 (L' := L) H (Xq.z I m) ?_
    simp (maxSteps := 1000000) (disch := omega) only [↓reduceIte, ↓if_bi0, ↓if_bi1, hp_tg, hp_rI, hp_rR, hp_rL, hp_wI, hp_wL, Option.bind_some, if_11, if_01, bi_and1, i10, i01, bi_t, bi_f, ic_add, mr_4, ml_4, mr_8, ml_8, mr_10, ml_10, ic_add1, ic_sub1, ic_clamp, ic_div, ic_irm, ic_lt0, ic_0lt, ic_eq0, ic_lt, ic_inj, and15, and7, and31, and63, shl1, shr_ok, neg_1, neg_2, neg_3, neg_4, kc_lt0, kc_ic, kc_m2, kc_1, kc_0, i0_add, add_i0, or_i0, z_8, z_4, z_64, z_256, ic_m2, ec_m1, ic_m1, m1_lt0, m2_lt0, m3_lt0, m4_lt0, up_s, if_true, if_false, ne_eq, not_true_eq_false, not_false_eq_true, Bool.false_eq_true, eq_self, or_self, or_false, false_or, and_self, and_true, true_and, ite_self, Nat.reduceEqDiff, Nat.reduceLT, Nat.reduceMod, Nat.reduceMul, Nat.reduceAdd, Nat.reducePow, Nat.reduceDiv, lt_2, lt_3, lt_4, lt_5, lt_6, lt_7, lt_8, lt_10, lt_11, lt_12, lt_15, lt_16, lt_18, lt_20, lt_24, lt_31, lt_32, lt_48, lt_57, lt_59, lt_63, lt_64, lt_74, lt_75, lt_97, lt_122, lt_128, lt_144, lt_145, lt_146, lt_147, lt_155, lt_163, lt_171, lt_179, lt_200, lt_243, lt_244, lt_255, lt_256, lt_732, lt_900, lt_3660, lt_3904, lt_4095, lt_65536, lt_65537, lt_252645135, lt_858993459, lt_1431655765, ↓p_has_b, p_has, ↓p_has9_b, p_has9, ↓p_bit_b, p_bit, ↓p_bit1_b, p_bit1, ↓p_bit0_b, p_bit0, p_X9_unmap, p_X9_unmap_19, hL.t, lm, ↓x_refused_b hL, x_refused hL]
  · have lm := (hM.y hr).1
    have F := x_isFrame v (hp S (up2 I m 0 0) L)
    cases z : ok true 16 v
    · rw [z] at F
      rw [if_neg (by decide)]
      refine xc_no1 (L' := L) H (Xq.z I m) ?_
      simp (maxSteps := 1000000) (disch := omega) only [↓reduceIte, ↓if_bi0, ↓if_bi1, hp_tg, hp_rI, hp_rR, hp_rL, hp_wI, hp_wL, Option.bind_some, if_11, if_01, bi_and1, i10, i01, bi_t, bi_f, ic_add, mr_4, ml_4, mr_8, ml_8, mr_10, ml_10, ic_add1, ic_sub1, ic_clamp, ic_div, ic_irm, ic_lt0, ic_0lt, ic_eq0, ic_lt, ic_inj, and15, and7, and31, and63, shl1, shr_ok, neg_1, neg_2, neg_3, neg_4, kc_lt0, kc_ic, kc_m2, kc_1, kc_0, i0_add, add_i0, or_i0, z_8, z_4, z_64, z_256, ic_m2, ec_m1, ic_m1, m1_lt0, m2_lt0, m3_lt0, m4_lt0, up_s, if_true, if_false, ne_eq, not_true_eq_false, not_false_eq_true, Bool.false_eq_true, eq_self, or_self, or_false, false_or, and_self, and_true, true_and, ite_self, Nat.reduceEqDiff, Nat.reduceLT, Nat.reduceMod, Nat.reduceMul, Nat.reduceAdd, Nat.reducePow, Nat.reduceDiv, lt_2, lt_3, lt_4, lt_5, lt_6, lt_7, lt_8, lt_10, lt_11, lt_12, lt_15, lt_16, lt_18, lt_20, lt_24, lt_31, lt_32, lt_48, lt_57, lt_59, lt_63, lt_64, lt_74, lt_75, lt_97, lt_122, lt_128, lt_144, lt_145, lt_146, lt_147, lt_155, lt_163, lt_171, lt_179, lt_200, lt_243, lt_244, lt_255, lt_256, lt_732, lt_900, lt_3660, lt_3904, lt_4095, lt_65536, lt_65537, lt_252645135, lt_858993459, lt_1431655765, ↓p_has_b, p_has, ↓p_has9_b, p_has9, ↓p_bit_b, p_bit, ↓p_bit1_b, p_bit1, ↓p_bit0_b, p_bit0, p_X9_unmap, p_X9_unmap_19, hL.t, lm, a0, ↓bnd (F), F, ↓x_refused_b hL, x_refused hL]
    · rw [z] at F
      rw [if_pos rfl]
      obtain ⟨-, f, hf, rfl⟩ := ok_t (by omega) z
      rw [ic_clamp (show f < 2147483648 by omega)]
      obtain ⟨V1, V2, V3, -⟩ := hV.2.2.2.2.2.2.1 hr
      obtain ⟨J0, e0, R0, X0, -⟩ := x_wk (L := L) H hr
      have A := x_backed (L := L) hL R0 V3.1.1 hf
      by_cases d : 0 < sH (vS W) f
      · rw [if_pos d]
        rw [decide_eq_true d] at A
        obtain ⟨J, e1, XJ⟩ := x_rem (L := L) H hr X0
        have XJ9 := XJ
        obtain ⟨p1, w1, g19, g26, g27, g28, g29, gj, gb⟩ := XJ9
        obtain ⟨w, hw, hw2, hw3⟩ := w1.w
        have w2 : RW (up2 J (m + 3) (128 + f) 0 (m + 3)) (uH (vS W) (up1 (sH (vS W)) f 0)) := by rw [up_row]; exact w1.setH 0 rfl hf
        have E : up2 J (m + 3) (128 + f) 0 (m + 3) 144 = ic w := by rw [up_k (by omega)]; exact hw2
        have w3 : RW (up2 (up2 J (m + 3) (128 + f) 0) (m + 3) 144 (ic (cbt w f)) (m + 3)) (uw (uH (vS W) (up1 (sH (vS W)) f 0)) (up1 (sw (vS W)) f false)) := by rw [up_row]; exact w2.setw (ic (cbt w f)) rfl (cbt_lt (n := 16) hw) (cbt_g hw hw3)
        obtain ⟨K, e2, w4, f4⟩ := x_un80 (L := L) hL w3 (fun n hn => V3.1.k3 hn) (fun b hb => V3.1.e64 hb) (f := f) (by omega)
        refine xc_act0 (L := L) (L' := L) (J' := K) H hr XJ w4 (fun j _ => ?_) (fun b q1 q2 => ?_) ?_
        · rw [f4 m (by omega), up_a (by omega), up_a (by omega)]
        · rw [f4 b (by omega)]; exact funext fun j => by rw [up_a q2, up_a q2]
        · intro K2 eK
          refine Eq.trans ?_ (e2.trans (x_115 hL _ eK))
          simp (maxSteps := 1000000) (disch := omega) only [↓reduceIte, ↓if_bi0, ↓if_bi1, hp_tg, hp_rI, hp_rR, hp_rL, hp_wI, hp_wL, Option.bind_some, if_11, if_01, bi_and1, i10, i01, bi_t, bi_f, ic_add, mr_4, ml_4, mr_8, ml_8, mr_10, ml_10, ic_add1, ic_sub1, ic_clamp, ic_div, ic_irm, ic_lt0, ic_0lt, ic_eq0, ic_lt, ic_inj, and15, and7, and31, and63, shl1, shr_ok, neg_1, neg_2, neg_3, neg_4, kc_lt0, kc_ic, kc_m2, kc_1, kc_0, i0_add, add_i0, or_i0, z_8, z_4, z_64, z_256, ic_m2, ec_m1, ic_m1, m1_lt0, m2_lt0, m3_lt0, m4_lt0, up_s, if_true, if_false, ne_eq, not_true_eq_false, not_false_eq_true, Bool.false_eq_true, eq_self, or_self, or_false, false_or, and_self, and_true, true_and, ite_self, Nat.reduceEqDiff, Nat.reduceLT, Nat.reduceMod, Nat.reduceMul, Nat.reduceAdd, Nat.reducePow, Nat.reduceDiv, lt_2, lt_3, lt_4, lt_5, lt_6, lt_7, lt_8, lt_10, lt_11, lt_12, lt_15, lt_16, lt_18, lt_20, lt_24, lt_31, lt_32, lt_48, lt_57, lt_59, lt_63, lt_64, lt_74, lt_75, lt_97, lt_122, lt_128, lt_144, lt_145, lt_146, lt_147, lt_155, lt_163, lt_171, lt_179, lt_200, lt_243, lt_244, lt_255, lt_256, lt_732, lt_900, lt_3660, lt_3904, lt_4095, lt_65536, lt_65537, lt_252645135, lt_858993459, lt_1431655765, ↓p_has_b, p_has, ↓p_has9_b, p_has9, ↓p_bit_b, p_bit, ↓p_bit1_b, p_bit1, ↓p_bit0_b, p_bit0, p_X9_unmap, hL.t, lm, a0, ↓bnd (F), F, ↓bnd (e0), e0, ↓bnd (A), A, ↓bnd (e1), e1, hL.x, if_inB hL.xt, E, show f % 32 = f by omega, ic_cbt]
      · rw [if_neg d]
        rw [decide_eq_false d] at A
        refine xc_to (L' := L) (e := 5) H X0 (by decide) ?_
        simp (maxSteps := 1000000) (disch := omega) only [↓reduceIte, ↓if_bi0, ↓if_bi1, hp_tg, hp_rI, hp_rR, hp_rL, hp_wI, hp_wL, Option.bind_some, if_11, if_01, bi_and1, i10, i01, bi_t, bi_f, ic_add, mr_4, ml_4, mr_8, ml_8, mr_10, ml_10, ic_add1, ic_sub1, ic_clamp, ic_div, ic_irm, ic_lt0, ic_0lt, ic_eq0, ic_lt, ic_inj, and15, and7, and31, and63, shl1, shr_ok, neg_1, neg_2, neg_3, neg_4, kc_lt0, kc_ic, kc_m2, kc_1, kc_0, i0_add, add_i0, or_i0, z_8, z_4, z_64, z_256, ic_m2, ec_m1, ic_m1, m1_lt0, m2_lt0, m3_lt0, m4_lt0, up_s, if_true, if_false, ne_eq, not_true_eq_false, not_false_eq_true, Bool.false_eq_true, eq_self, or_self, or_false, false_or, and_self, and_true, true_and, ite_self, Nat.reduceEqDiff, Nat.reduceLT, Nat.reduceMod, Nat.reduceMul, Nat.reduceAdd, Nat.reducePow, Nat.reduceDiv, lt_2, lt_3, lt_4, lt_5, lt_6, lt_7, lt_8, lt_10, lt_11, lt_12, lt_15, lt_16, lt_18, lt_20, lt_24, lt_31, lt_32, lt_48, lt_57, lt_59, lt_63, lt_64, lt_74, lt_75, lt_97, lt_122, lt_128, lt_144, lt_145, lt_146, lt_147, lt_155, lt_163, lt_171, lt_179, lt_200, lt_243, lt_244, lt_255, lt_256, lt_732, lt_900, lt_3660, lt_3904, lt_4095, lt_65536, lt_65537, lt_252645135, lt_858993459, lt_1431655765, ↓p_has_b, p_has, ↓p_has9_b, p_has9, ↓p_bit_b, p_bit, ↓p_bit1_b, p_bit1, ↓p_bit0_b, p_bit0, p_X9_unmap, hL.t, lm, a0, ↓bnd (F), F, ↓bnd (e0), e0, ↓bnd (A), A, ↓x_refused_b hL, x_refused hL]
theorem xc_protect (H : XH S I m a W c) (v : Int32) : XC S I m a (p_X9_protect m v (hp S I L)) (prW W v) := by
  have H9 := H
  have a0 := H.a0
  obtain ⟨hL, hm, hM, hX, hV⟩ := H9
  unfold prW
  cases hr : vR W
  · have lm := hM.2 hr
    rw [ok_ff, if_neg (by decide)]
    refine xc_no1 (L' := L) H (Xq.z I m) ?_
    simp (maxSteps := 1000000) (disch := omega) only [↓reduceIte, ↓if_bi0, ↓if_bi1, hp_tg, hp_rI, hp_rR, hp_rL, hp_wI, hp_wL, Option.bind_some, if_11, if_01, bi_and1, i10, i01, bi_t, bi_f, ic_add, mr_4, ml_4, mr_8, ml_8, mr_10, ml_10, ic_add1, ic_sub1, ic_clamp, ic_div, ic_irm, ic_lt0, ic_0lt, ic_eq0, ic_lt, ic_inj, and15, and7, and31, and63, shl1, shr_ok, neg_1, neg_2, neg_3, neg_4, kc_lt0, kc_ic, kc_m2, kc_1, kc_0, i0_add, add_i0, or_i0, z_8, z_4, z_64, z_256, ic_m2, ec_m1, ic_m1, m1_lt0, m2_lt0, m3_lt0, m4_lt0, up_s, if_true, if_false, ne_eq, not_true_eq_false, not_false_eq_true, Bool.false_eq_true, eq_self, or_self, or_false, false_or, and_self, and_true, true_and, ite_self, Nat.reduceEqDiff, Nat.reduceLT, Nat.reduceMod, Nat.reduceMul, Nat.reduceAdd, Nat.reducePow, Nat.reduceDiv, lt_2, lt_3, lt_4, lt_5, lt_6, lt_7, lt_8, lt_10, lt_11, lt_12, lt_15, lt_16, lt_18, lt_20, lt_24, lt_31, lt_32, lt_48, lt_57, lt_59, lt_63, lt_64, lt_74, lt_75, lt_97, lt_122, lt_128, lt_144, lt_145, lt_146, lt_147, lt_155, lt_163, lt_171, lt_179, lt_200, lt_243, lt_244, lt_255, lt_256, lt_732, lt_900, lt_3660, lt_3904, lt_4095, lt_65536, lt_65537, lt_252645135, lt_858993459, lt_1431655765, ↓p_has_b, p_has, ↓p_has9_b, p_has9, ↓p_bit_b, p_bit, ↓p_bit1_b, p_bit1, ↓p_bit0_b, p_bit0, p_X9_protect, p_X9_protect_19, hL.t, lm, ↓x_refused_b hL, x_refused hL]
  · have lm := (hM.y hr).1
    have F := x_isFrame v (hp S (up2 I m 0 0) L)
    cases z : ok true 16 v
    · rw [z] at F
      rw [if_neg (by decide)]
      refine xc_no1 (L' := L) H (Xq.z I m) ?_
      simp (maxSteps := 1000000) (disch := omega) only [↓reduceIte, ↓if_bi0, ↓if_bi1, hp_tg, hp_rI, hp_rR, hp_rL, hp_wI, hp_wL, Option.bind_some, if_11, if_01, bi_and1, i10, i01, bi_t, bi_f, ic_add, mr_4, ml_4, mr_8, ml_8, mr_10, ml_10, ic_add1, ic_sub1, ic_clamp, ic_div, ic_irm, ic_lt0, ic_0lt, ic_eq0, ic_lt, ic_inj, and15, and7, and31, and63, shl1, shr_ok, neg_1, neg_2, neg_3, neg_4, kc_lt0, kc_ic, kc_m2, kc_1, kc_0, i0_add, add_i0, or_i0, z_8, z_4, z_64, z_256, ic_m2, ec_m1, ic_m1, m1_lt0, m2_lt0, m3_lt0, m4_lt0, up_s, if_true, if_false, ne_eq, not_true_eq_false, not_false_eq_true, Bool.false_eq_true, eq_self, or_self, or_false, false_or, and_self, and_true, true_and, ite_self, Nat.reduceEqDiff, Nat.reduceLT, Nat.reduceMod, Nat.reduceMul, Nat.reduceAdd, Nat.reducePow, Nat.reduceDiv, lt_2, lt_3, lt_4, lt_5, lt_6, lt_7, lt_8, lt_10, lt_11, lt_12, lt_15, lt_16, lt_18, lt_20, lt_24, lt_31, lt_32, lt_48, lt_57, lt_59, lt_63, lt_64, lt_74, lt_75, lt_97, lt_122, lt_128, lt_144, lt_145, lt_146, lt_147, lt_155, lt_163, lt_171, lt_179, lt_200, lt_243, lt_244, lt_255, lt_256, lt_732, lt_900, lt_3660, lt_3904, lt_4095, lt_65536, lt_65537, lt_252645135, lt_858993459, lt_1431655765, ↓p_has_b, p_has, ↓p_has9_b, p_has9, ↓p_bit_b, p_bit, ↓p_bit1_b, p_bit1, ↓p_bit0_b, p_bit0, p_X9_protect, p_X9_protect_19, hL.t, lm, a0, ↓bnd (F), F, ↓x_refused_b hL, x_refused hL]
    · rw [z] at F
      rw [if_pos rfl]
      obtain ⟨-, f, hf, rfl⟩ := ok_t (by omega) z
      rw [ic_clamp (show f < 2147483648 by omega)]
      obtain ⟨V1, V2, V3, -⟩ := hV.2.2.2.2.2.2.1 hr
      obtain ⟨J0, e0, R0, X0, -⟩ := x_wk (L := L) H hr
      have A := x_rw (L := L) hL R0 V3.1.1 hf
      cases d : sw (vS W) f
      · rw [if_neg (by decide)]
        rw [d] at A
        refine xc_to (L' := L) (e := 5) H X0 (by decide) ?_
        simp (maxSteps := 1000000) (disch := omega) only [↓reduceIte, ↓if_bi0, ↓if_bi1, hp_tg, hp_rI, hp_rR, hp_rL, hp_wI, hp_wL, Option.bind_some, if_11, if_01, bi_and1, i10, i01, bi_t, bi_f, ic_add, mr_4, ml_4, mr_8, ml_8, mr_10, ml_10, ic_add1, ic_sub1, ic_clamp, ic_div, ic_irm, ic_lt0, ic_0lt, ic_eq0, ic_lt, ic_inj, and15, and7, and31, and63, shl1, shr_ok, neg_1, neg_2, neg_3, neg_4, kc_lt0, kc_ic, kc_m2, kc_1, kc_0, i0_add, add_i0, or_i0, z_8, z_4, z_64, z_256, ic_m2, ec_m1, ic_m1, m1_lt0, m2_lt0, m3_lt0, m4_lt0, up_s, if_true, if_false, ne_eq, not_true_eq_false, not_false_eq_true, Bool.false_eq_true, eq_self, or_self, or_false, false_or, and_self, and_true, true_and, ite_self, Nat.reduceEqDiff, Nat.reduceLT, Nat.reduceMod, Nat.reduceMul, Nat.reduceAdd, Nat.reducePow, Nat.reduceDiv, lt_2, lt_3, lt_4, lt_5, lt_6, lt_7, lt_8, lt_10, lt_11, lt_12, lt_15, lt_16, lt_18, lt_20, lt_24, lt_31, lt_32, lt_48, lt_57, lt_59, lt_63, lt_64, lt_74, lt_75, lt_97, lt_122, lt_128, lt_144, lt_145, lt_146, lt_147, lt_155, lt_163, lt_171, lt_179, lt_200, lt_243, lt_244, lt_255, lt_256, lt_732, lt_900, lt_3660, lt_3904, lt_4095, lt_65536, lt_65537, lt_252645135, lt_858993459, lt_1431655765, ↓p_has_b, p_has, ↓p_has9_b, p_has9, ↓p_bit_b, p_bit, ↓p_bit1_b, p_bit1, ↓p_bit0_b, p_bit0, p_X9_protect, hL.t, lm, a0, ↓bnd (F), F, ↓bnd (e0), e0, ↓bnd (A), A, ↓x_refused_b hL, x_refused hL]
      · rw [if_pos rfl]
        rw [d] at A
        obtain ⟨J, e1, XJ⟩ := x_rem (L := L) H hr X0
        have XJ9 := XJ
        obtain ⟨p1, w1, g19, g26, g27, g28, g29, gj, gb⟩ := XJ9
        obtain ⟨w, hw, hw2, hw3⟩ := w1.w
        have w3 : RW (up2 J (m + 3) 144 (ic (cbt w f)) (m + 3)) (uw (vS W) (up1 (sw (vS W)) f false)) := by rw [up_row]; exact w1.setw (ic (cbt w f)) rfl (cbt_lt (n := 16) hw) (cbt_g hw hw3)
        obtain ⟨K, e2, w4, f4⟩ := x_losesW (L := L) hL w3 (inv_uw0 V3.1) (f := f) (by omega)
        refine xc_act0 (L := L) (L' := L) (J' := K) H hr XJ w4 (fun j _ => ?_) (fun b q1 q2 => ?_) ?_
        · rw [f4 m (by omega), up_a (by omega)]
        · rw [f4 b (by omega)]; exact funext fun j => up_a q2
        · intro K2 eK
          have e3 : p_X9_losesW m (ic f) (hp S (up2 J (m + 3) 144 (ic (cbt w f))) L) = some (ic (cnt (fun a => isMW (vS W) a f) 64), hp S K L) := e2
          simp (maxSteps := 1000000) (disch := omega) only [↓reduceIte, ↓if_bi0, ↓if_bi1, hp_tg, hp_rI, hp_rR, hp_rL, hp_wI, hp_wL, Option.bind_some, if_11, if_01, bi_and1, i10, i01, bi_t, bi_f, ic_add, mr_4, ml_4, mr_8, ml_8, mr_10, ml_10, ic_add1, ic_sub1, ic_clamp, ic_div, ic_irm, ic_lt0, ic_0lt, ic_eq0, ic_lt, ic_inj, and15, and7, and31, and63, shl1, shr_ok, neg_1, neg_2, neg_3, neg_4, kc_lt0, kc_ic, kc_m2, kc_1, kc_0, i0_add, add_i0, or_i0, z_8, z_4, z_64, z_256, ic_m2, ec_m1, ic_m1, m1_lt0, m2_lt0, m3_lt0, m4_lt0, up_s, if_true, if_false, ne_eq, not_true_eq_false, not_false_eq_true, Bool.false_eq_true, eq_self, or_self, or_false, false_or, and_self, and_true, true_and, ite_self, Nat.reduceEqDiff, Nat.reduceLT, Nat.reduceMod, Nat.reduceMul, Nat.reduceAdd, Nat.reducePow, Nat.reduceDiv, lt_2, lt_3, lt_4, lt_5, lt_6, lt_7, lt_8, lt_10, lt_11, lt_12, lt_15, lt_16, lt_18, lt_20, lt_24, lt_31, lt_32, lt_48, lt_57, lt_59, lt_63, lt_64, lt_74, lt_75, lt_97, lt_122, lt_128, lt_144, lt_145, lt_146, lt_147, lt_155, lt_163, lt_171, lt_179, lt_200, lt_243, lt_244, lt_255, lt_256, lt_732, lt_900, lt_3660, lt_3904, lt_4095, lt_65536, lt_65537, lt_252645135, lt_858993459, lt_1431655765, ↓p_has_b, p_has, ↓p_has9_b, p_has9, ↓p_bit_b, p_bit, ↓p_bit1_b, p_bit1, ↓p_bit0_b, p_bit0, p_X9_protect, hL.t, lm, a0, ↓bnd (F), F, ↓bnd (e0), e0, ↓bnd (A), A, ↓bnd (e1), e1, hL.x, if_inB hL.xt, hw2, show f % 32 = f by omega, ic_cbt, ↓bnd (e3), e3, ↓bnd (eK), eK, ↓x_good_b hL, x_good hL]
theorem xc_clean (H : XH S I m a W c) (v : Int32) : XC S I m a (p_X9_clean m v (hp S I L)) (clW W v) := by
  have H9 := H
  have a0 := H.a0
  obtain ⟨hL, hm, hM, hX, hV⟩ := H9
  unfold clW
  cases hr : vR W
  · have lm := hM.2 hr
    rw [ok_ff, if_neg (by decide)]
    refine xc_no1 (L' := L) H (Xq.z I m) ?_
    simp (maxSteps := 1000000) (disch := omega) only [↓reduceIte, ↓if_bi0, ↓if_bi1, hp_tg, hp_rI, hp_rR, hp_rL, hp_wI, hp_wL, Option.bind_some, if_11, if_01, bi_and1, i10, i01, bi_t, bi_f, ic_add, mr_4, ml_4, mr_8, ml_8, mr_10, ml_10, ic_add1, ic_sub1, ic_clamp, ic_div, ic_irm, ic_lt0, ic_0lt, ic_eq0, ic_lt, ic_inj, and15, and7, and31, and63, shl1, shr_ok, neg_1, neg_2, neg_3, neg_4, kc_lt0, kc_ic, kc_m2, kc_1, kc_0, i0_add, add_i0, or_i0, z_8, z_4, z_64, z_256, ic_m2, ec_m1, ic_m1, m1_lt0, m2_lt0, m3_lt0, m4_lt0, up_s, if_true, if_false, ne_eq, not_true_eq_false, not_false_eq_true, Bool.false_eq_true, eq_self, or_self, or_false, false_or, and_self, and_true, true_and, ite_self, Nat.reduceEqDiff, Nat.reduceLT, Nat.reduceMod, Nat.reduceMul, Nat.reduceAdd, Nat.reducePow, Nat.reduceDiv, lt_2, lt_3, lt_4, lt_5, lt_6, lt_7, lt_8, lt_10, lt_11, lt_12, lt_15, lt_16, lt_18, lt_20, lt_24, lt_31, lt_32, lt_48, lt_57, lt_59, lt_63, lt_64, lt_74, lt_75, lt_97, lt_122, lt_128, lt_144, lt_145, lt_146, lt_147, lt_155, lt_163, lt_171, lt_179, lt_200, lt_243, lt_244, lt_255, lt_256, lt_732, lt_900, lt_3660, lt_3904, lt_4095, lt_65536, lt_65537, lt_252645135, lt_858993459, lt_1431655765, ↓p_has_b, p_has, ↓p_has9_b, p_has9, ↓p_bit_b, p_bit, ↓p_bit1_b, p_bit1, ↓p_bit0_b, p_bit0, p_X9_clean, p_X9_clean_19, hL.t, lm, ↓x_refused_b hL, x_refused hL]
  · have lm := (hM.y hr).1
    have F := x_isFrame v (hp S (up2 I m 0 0) L)
    cases z : ok true 16 v
    · rw [z] at F
      rw [if_neg (by decide)]
      refine xc_no1 (L' := L) H (Xq.z I m) ?_
      simp (maxSteps := 1000000) (disch := omega) only [↓reduceIte, ↓if_bi0, ↓if_bi1, hp_tg, hp_rI, hp_rR, hp_rL, hp_wI, hp_wL, Option.bind_some, if_11, if_01, bi_and1, i10, i01, bi_t, bi_f, ic_add, mr_4, ml_4, mr_8, ml_8, mr_10, ml_10, ic_add1, ic_sub1, ic_clamp, ic_div, ic_irm, ic_lt0, ic_0lt, ic_eq0, ic_lt, ic_inj, and15, and7, and31, and63, shl1, shr_ok, neg_1, neg_2, neg_3, neg_4, kc_lt0, kc_ic, kc_m2, kc_1, kc_0, i0_add, add_i0, or_i0, z_8, z_4, z_64, z_256, ic_m2, ec_m1, ic_m1, m1_lt0, m2_lt0, m3_lt0, m4_lt0, up_s, if_true, if_false, ne_eq, not_true_eq_false, not_false_eq_true, Bool.false_eq_true, eq_self, or_self, or_false, false_or, and_self, and_true, true_and, ite_self, Nat.reduceEqDiff, Nat.reduceLT, Nat.reduceMod, Nat.reduceMul, Nat.reduceAdd, Nat.reducePow, Nat.reduceDiv, lt_2, lt_3, lt_4, lt_5, lt_6, lt_7, lt_8, lt_10, lt_11, lt_12, lt_15, lt_16, lt_18, lt_20, lt_24, lt_31, lt_32, lt_48, lt_57, lt_59, lt_63, lt_64, lt_74, lt_75, lt_97, lt_122, lt_128, lt_144, lt_145, lt_146, lt_147, lt_155, lt_163, lt_171, lt_179, lt_200, lt_243, lt_244, lt_255, lt_256, lt_732, lt_900, lt_3660, lt_3904, lt_4095, lt_65536, lt_65537, lt_252645135, lt_858993459, lt_1431655765, ↓p_has_b, p_has, ↓p_has9_b, p_has9, ↓p_bit_b, p_bit, ↓p_bit1_b, p_bit1, ↓p_bit0_b, p_bit0, p_X9_clean, p_X9_clean_19, hL.t, lm, a0, ↓bnd (F), F, ↓x_refused_b hL, x_refused hL]
    · rw [z] at F
      rw [if_pos rfl]
      obtain ⟨-, f, hf, rfl⟩ := ok_t (by omega) z
      rw [ic_clamp (show f < 2147483648 by omega)]
      obtain ⟨V1, V2, V3, -⟩ := hV.2.2.2.2.2.2.1 hr
      obtain ⟨J, e1, XJ⟩ := x_rem (L := L) H hr (Xq.z I m)
      have XJ9 := XJ
      obtain ⟨p1, w1, g19, g26, g27, g28, g29, gj, gb⟩ := XJ9
      have hmk := V3.1.1.2.2.2.1
      have E := w1.mk
      have w3 : RW (up2 J (m + 3) 145 (ic (cbt (sm (vS W)) f)) (m + 3)) (um (vS W) (cbt (sm (vS W)) f)) := by rw [up_row]; exact w1.setmk (ic (cbt (sm (vS W)) f)) rfl
      obtain ⟨K, e2, w4, f4⟩ := x_losesW (L := L) hL w3 (inv_um V3.1 (cbt_lt (n := 16) hmk)) (f := f) (by omega)
      have Bt := p_bit9 (w := sm (vS W)) (f := f) (by omega) (by omega) (hp S J L)
      refine xc_act0 (L := L) (L' := L) (J' := K) H hr XJ w4 (fun j _ => ?_) (fun b q1 q2 => ?_) ?_
      · rw [f4 m (by omega), up_a (by omega)]
      · rw [f4 b (by omega)]; exact funext fun j => up_a q2
      · intro K2 eK
        cases hb : (sm (vS W)).testBit f
        · rw [hb] at Bt
          simp (maxSteps := 1000000) (disch := omega) only [↓reduceIte, ↓if_bi0, ↓if_bi1, hp_tg, hp_rI, hp_rR, hp_rL, hp_wI, hp_wL, Option.bind_some, if_11, if_01, bi_and1, i10, i01, bi_t, bi_f, ic_add, mr_4, ml_4, mr_8, ml_8, mr_10, ml_10, ic_add1, ic_sub1, ic_clamp, ic_div, ic_irm, ic_lt0, ic_0lt, ic_eq0, ic_lt, ic_inj, and15, and7, and31, and63, shl1, shr_ok, neg_1, neg_2, neg_3, neg_4, kc_lt0, kc_ic, kc_m2, kc_1, kc_0, i0_add, add_i0, or_i0, z_8, z_4, z_64, z_256, ic_m2, ec_m1, ic_m1, m1_lt0, m2_lt0, m3_lt0, m4_lt0, up_s, if_true, if_false, ne_eq, not_true_eq_false, not_false_eq_true, Bool.false_eq_true, eq_self, or_self, or_false, false_or, and_self, and_true, true_and, ite_self, Nat.reduceEqDiff, Nat.reduceLT, Nat.reduceMod, Nat.reduceMul, Nat.reduceAdd, Nat.reducePow, Nat.reduceDiv, lt_2, lt_3, lt_4, lt_5, lt_6, lt_7, lt_8, lt_10, lt_11, lt_12, lt_15, lt_16, lt_18, lt_20, lt_24, lt_31, lt_32, lt_48, lt_57, lt_59, lt_63, lt_64, lt_74, lt_75, lt_97, lt_122, lt_128, lt_144, lt_145, lt_146, lt_147, lt_155, lt_163, lt_171, lt_179, lt_200, lt_243, lt_244, lt_255, lt_256, lt_732, lt_900, lt_3660, lt_3904, lt_4095, lt_65536, lt_65537, lt_252645135, lt_858993459, lt_1431655765, ↓p_has_b, p_has, ↓p_has9_b, p_has9, ↓p_bit_b, p_bit, ↓p_bit1_b, p_bit1, ↓p_bit0_b, p_bit0, p_X9_clean, p_X9_clean_49, hL.t, lm, a0, ↓bnd (F), F, ↓bnd (e1), e1, hL.x, if_inB hL.xt, E, ↓bnd (Bt), Bt, show f % 32 = f by omega, ic_cbt, ↓bnd (e2), e2, ↓bnd (eK), eK, ↓x_good_b hL, x_good hL]
        · rw [hb] at Bt
          simp (maxSteps := 1000000) (disch := omega) only [↓reduceIte, ↓if_bi0, ↓if_bi1, hp_tg, hp_rI, hp_rR, hp_rL, hp_wI, hp_wL, Option.bind_some, if_11, if_01, bi_and1, i10, i01, bi_t, bi_f, ic_add, mr_4, ml_4, mr_8, ml_8, mr_10, ml_10, ic_add1, ic_sub1, ic_clamp, ic_div, ic_irm, ic_lt0, ic_0lt, ic_eq0, ic_lt, ic_inj, and15, and7, and31, and63, shl1, shr_ok, neg_1, neg_2, neg_3, neg_4, kc_lt0, kc_ic, kc_m2, kc_1, kc_0, i0_add, add_i0, or_i0, z_8, z_4, z_64, z_256, ic_m2, ec_m1, ic_m1, m1_lt0, m2_lt0, m3_lt0, m4_lt0, up_s, if_true, if_false, ne_eq, not_true_eq_false, not_false_eq_true, Bool.false_eq_true, eq_self, or_self, or_false, false_or, and_self, and_true, true_and, ite_self, Nat.reduceEqDiff, Nat.reduceLT, Nat.reduceMod, Nat.reduceMul, Nat.reduceAdd, Nat.reducePow, Nat.reduceDiv, lt_2, lt_3, lt_4, lt_5, lt_6, lt_7, lt_8, lt_10, lt_11, lt_12, lt_15, lt_16, lt_18, lt_20, lt_24, lt_31, lt_32, lt_48, lt_57, lt_59, lt_63, lt_64, lt_74, lt_75, lt_97, lt_122, lt_128, lt_144, lt_145, lt_146, lt_147, lt_155, lt_163, lt_171, lt_179, lt_200, lt_243, lt_244, lt_255, lt_256, lt_732, lt_900, lt_3660, lt_3904, lt_4095, lt_65536, lt_65537, lt_252645135, lt_858993459, lt_1431655765, ↓p_has_b, p_has, ↓p_has9_b, p_has9, ↓p_bit_b, p_bit, ↓p_bit1_b, p_bit1, ↓p_bit0_b, p_bit0, p_X9_clean, p_X9_clean_49, hL.t, lm, a0, ↓bnd (F), F, ↓bnd (e1), e1, hL.x, if_inB hL.xt, E, ↓bnd (Bt), Bt, show f % 32 = f by omega, ic_cbt, ↓bnd (e2), e2, ↓bnd (eK), eK, ↓x_good_b hL, x_good hL]
end XAC
