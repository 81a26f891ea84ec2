/-! ===== states of the two readers ===== -/
abbrev TK : Type := Nat × Nat × Nat × Nat
def nt (b : Nat → Nat) (n : Nat) (tk : TK) : TK := tok b n tk.2.2.1
def CS (I : II) (x : Nat) (b : Nat → Nat) (n : Nat) (tk : TK) : Prop := I x 2 = ic n ∧ TP I (x + 1) b ∧ CT I x tk ∧ TKV b n tk ∧ n ≤ 900
def RS (I : II) (L : LL) (m : Nat) (b : Nat → Nat) (n : Nat) (tk : TK) : Prop := I m 7 = ic n ∧ TP I (m + 1) b ∧ RT I L m b tk ∧ TKV b n tk ∧ n ≤ 900
def Xf (I I' : II) (x : Nat) : Prop := (∀ j, j < 3 ∨ 6 < j → I' x j = I x j) ∧ ∀ y, y ≠ x → I' y = I y
def Yf (I I' : II) (m : Nat) : Prop := (∀ j, j < 8 ∨ 11 < j → I' m j = I m j) ∧ ∀ y, y ≠ m → I' y = I y
section NXT
variable {S : SH} {I I' I2 : II} {L : LL} {x m n a c : Nat} {b : Nat → Nat} {tk : TK}
theorem Xf.refl (I : II) (x : Nat) : Xf I I x := ⟨fun _ _ => rfl, fun _ _ => rfl⟩
theorem Yf.refl (I : II) (m : Nat) : Yf I I m := ⟨fun _ _ => rfl, fun _ _ => rfl⟩
theorem Xf.trans (h : Xf I I' x) (g : Xf I' I2 x) : Xf I I2 x := ⟨fun j hj => (g.1 j hj).trans (h.1 j hj), fun y hy => (g.2 y hy).trans (h.2 y hy)⟩
theorem Yf.trans (h : Yf I I' m) (g : Yf I' I2 m) : Yf I I2 m := ⟨fun j hj => (g.1 j hj).trans (h.1 j hj), fun y hy => (g.2 y hy).trans (h.2 y hy)⟩
theorem k_next (hL : XL S x) (h : CS I x b n tk) : ∃ I', p_X5_advance x (hp S I L) = some (hp S I' L) ∧ CS I' x b n (nt b n tk) ∧ Xf I I' x := by
  obtain ⟨h2, hT, hC, hK, hn⟩ := h
  obtain ⟨I', e, c9, f1, f2⟩ := k_adv (L := L) hL hT h2 hn hC.2.2.1 hK.2.2.1
  exact ⟨I', e, ⟨by rw [f1 2 (by omega)]; exact h2, fun k hk => by rw [f2 (x + 1) (by omega)]; exact hT k hk, c9, tok_ok hK.2.2.1, hn⟩, f1, f2⟩
theorem x_next (hL : ML S m) (h : RS I L m b n tk) (h4 : tk.1 ≠ 4) : ∃ I' L', p_X9_goesOn m (hp S I L) = some (hp S I' L') ∧ RS I' L' m b n (nt b n tk) ∧ Yf I I' m := by
  obtain ⟨h2, hT, hC, hK, hn⟩ := h
  obtain ⟨I', L', e, c9, f1, f2⟩ := x_goes (L := L) hL hT h2 hn (hC.2.2.1 h4) hK.2.2.1 hC.1 (srt_5 _)
  exact ⟨I', L', e, ⟨by rw [f1 7 (by omega)]; exact h2, fun k hk => by rw [f2 (m + 1) (by omega)]; exact hT k hk, c9, tok_ok hK.2.2.1, hn⟩, f1, f2⟩
theorem CS.nm (hL : XL S x) (h : CS I x b n tk) {k : Nat} (h0 : 0 < k) (hk : k < 19) :
    p_X5_isName x k (hp S I L) = some (bi (nm b tk k), hp S I L) := k_name hL h.2.1 h.2.2.1 h.2.2.2.1 h.2.2.2.2 h0 hk
theorem RS.nm (hL : ML S m) (h : RS I L m b n tk) {k : Nat} (h0 : 0 < k) (hk : k < 19) :
    p_X9_isWord m k (hp S I L) = some (bi (nm b tk k), hp S I L) := x_word hL h.2.2.1 h.2.2.2.1 h0 hk
theorem CS.wh0 (hL : XL S x) (h : CS I x b n tk) (ha : a < 5000) (hc : c < 5000) (hw : wf tk a c = 0) :
    p_X5_isWhole x (ic a) (ic c) (hp S I L) = some (1, hp S I L) := k_whole0 hL h.2.2.1 h.2.2.2.1 h.2.2.2.2 ha hc hw
theorem CS.wh1 (hL : XL S x) (h : CS I x b n tk) (ha : a < 5000) (hc : c < 5000) (hw : wf tk a c ≠ 0) :
    p_X5_isWhole x (ic a) (ic c) (hp S I L) = some (0, hp S (kF I x (wf tk a c) tk.2.1) L) := k_whole1 hL h.2.2.1 h.2.2.2.1 h.2.2.2.2 ha hc hw
theorem RS.wh0 (hL : ML S m) (h : RS I L m b n tk) (ha : a < 5000) (hc : c < 5000) (hw : wf tk a c = 0) :
    p_X9_wholeAt m (ic a) (ic c) (hp S I L) = some (ic tk.2.2.2, hp S I L) := x_whole0 hL h.2.2.1 h.2.2.2.1 h.2.2.2.2 ha hc hw
theorem RS.wh1 (hL : ML S m) (h : RS I L m b n tk) (ha : a < 5000) (hc : c < 5000) (hw : wf tk a c ≠ 0) :
    p_X9_wholeAt m (ic a) (ic c) (hp S I L) = some (ic a, hp S (xF I m (wf tk a c) tk.2.1) L) := x_whole1 hL h.2.2.1 h.2.2.2.1 h.2.2.2.2 ha hc hw
theorem RS.flaw (hL : ML S m) (h : RS I L m b n tk) (v : Nat) :
    p_X9_flaw m (ic v) (hp S I L) = some (hp S (xF I m v tk.2.1) L) := x_flaw hL h.2.2.1.1 (srt_5 _) h.2.2.1.2.1 (ic v)
theorem CS.fails (hL : XL S x) (h : CS I x b n tk) (v : Nat) :
    p_X5_fails x (ic v) (hp S I L) = some (0, hp S (kF I x v tk.2.1) L) := k_fails hL h.2.2.1.2.1 (ic v)
theorem xF_9 (I : II) (m v f : Nat) : xF I m v f m 9 = ic 5 := up_s _ _ _ _
theorem wf_2 (h : wf tk a c = 0) : tk.1 = 2 ∧ a ≤ tk.2.2.2 ∧ tk.2.2.2 ≤ c := by
  unfold wf at h
  by_cases t : tk.1 = 2
  · rw [if_pos t] at h
    by_cases r : a ≤ tk.2.2.2 ∧ tk.2.2.2 ≤ c
    · exact ⟨t, r⟩
    · rw [if_neg r] at h; omega
  · rw [if_neg t] at h; omega
theorem x_nd1 (hL : ML S m) (h : RS I L m b n tk) {k : Nat} (h0 : 0 < k) (hk : k < 19) (hq : nm b tk k = true) : ∃ I' L', p_X9_needs m k (hp S I L) = some (hp S I' L') ∧ RS I' L' m b n (nt b n tk) ∧ Yf I I' m := by
  have A := h.nm hL h0 hk
  obtain ⟨I', L', e, r, f⟩ := x_next hL h (by rw [nm_1 hq]; decide)
  rw [hq] at A
  refine ⟨I', L', ?_, r, f⟩
  simp (maxSteps := 1000000) (disch := omega) only [↓reduceIte, ↓if_bi0, ↓if_bi1, hp_tg, hp_rI, hp_rR, hp_rL, hp_wI, hp_wL, Option.bind_some, if_11, if_01, bi_and1, i10, i01, bi_t, bi_f, ic_add, mr_4, ml_4, mr_8, ml_8, mr_10, ml_10, ic_add1, ic_sub1, ic_clamp, ic_div, ic_irm, ic_lt0, ic_0lt, ic_eq0, ic_lt, ic_inj, and15, and7, and31, and63, shl1, shr_ok, neg_1, neg_2, neg_3, neg_4, kc_lt0, kc_ic, kc_m2, kc_1, kc_0, i0_add, add_i0, or_i0, z_8, z_4, z_64, z_256, ic_m2, ec_m1, ic_m1, m1_lt0, m2_lt0, m3_lt0, m4_lt0, up_s, if_true, if_false, ne_eq, not_true_eq_false, not_false_eq_true, Bool.false_eq_true, eq_self, or_self, or_false, false_or, and_self, and_true, true_and, ite_self, Nat.reduceEqDiff, Nat.reduceLT, Nat.reduceMod, Nat.reduceMul, Nat.reduceAdd, Nat.reducePow, Nat.reduceDiv, lt_2, lt_3, lt_4, lt_5, lt_6, lt_7, lt_8, lt_10, lt_11, lt_12, lt_15, lt_16, lt_18, lt_20, lt_24, lt_31, lt_32, lt_48, lt_57, lt_59, lt_63, lt_64, lt_74, lt_75, lt_97, lt_122, lt_128, lt_144, lt_145, lt_146, lt_147, lt_155, lt_163, lt_171, lt_179, lt_200, lt_243, lt_244, lt_255, lt_256, lt_732, lt_900, lt_3660, lt_3904, lt_4095, lt_65536, lt_65537, lt_252645135, lt_858993459, lt_1431655765, ↓p_has_b, p_has, ↓p_has9_b, p_has9, ↓p_bit_b, p_bit, ↓p_bit1_b, p_bit1, ↓p_bit0_b, p_bit0, p_X9_needs, p_X9_needs_13, hL.t, ↓bnd (A), A, ↓bnd (e), e]
theorem x_nd0 (hL : ML S m) (h : RS I L m b n tk) {k : Nat} (h0 : 0 < k) (hk : k < 19) (hq : nm b tk k = false) : p_X9_needs m k (hp S I L) = some (hp S (xF I m 1 tk.2.1) L) := by
  have A := h.nm hL h0 hk
  rw [hq] at A
  have F := h.flaw hL 1
  rw [show ic 1 = 1 from rfl] at F
  have G := x_goes0 (L := L) hL (xF_9 I m 1 tk.2.1)
  simp (maxSteps := 1000000) (disch := omega) only [↓reduceIte, ↓if_bi0, ↓if_bi1, hp_tg, hp_rI, hp_rR, hp_rL, hp_wI, hp_wL, Option.bind_some, if_11, if_01, bi_and1, i10, i01, bi_t, bi_f, ic_add, mr_4, ml_4, mr_8, ml_8, mr_10, ml_10, ic_add1, ic_sub1, ic_clamp, ic_div, ic_irm, ic_lt0, ic_0lt, ic_eq0, ic_lt, ic_inj, and15, and7, and31, and63, shl1, shr_ok, neg_1, neg_2, neg_3, neg_4, kc_lt0, kc_ic, kc_m2, kc_1, kc_0, i0_add, add_i0, or_i0, z_8, z_4, z_64, z_256, ic_m2, ec_m1, ic_m1, m1_lt0, m2_lt0, m3_lt0, m4_lt0, up_s, if_true, if_false, ne_eq, not_true_eq_false, not_false_eq_true, Bool.false_eq_true, eq_self, or_self, or_false, false_or, and_self, and_true, true_and, ite_self, Nat.reduceEqDiff, Nat.reduceLT, Nat.reduceMod, Nat.reduceMul, Nat.reduceAdd, Nat.reducePow, Nat.reduceDiv, lt_2, lt_3, lt_4, lt_5, lt_6, lt_7, lt_8, lt_10, lt_11, lt_12, lt_15, lt_16, lt_18, lt_20, lt_24, lt_31, lt_32, lt_48, lt_57, lt_59, lt_63, lt_64, lt_74, lt_75, lt_97, lt_122, lt_128, lt_144, lt_145, lt_146, lt_147, lt_155, lt_163, lt_171, lt_179, lt_200, lt_243, lt_244, lt_255, lt_256, lt_732, lt_900, lt_3660, lt_3904, lt_4095, lt_65536, lt_65537, lt_252645135, lt_858993459, lt_1431655765, ↓p_has_b, p_has, ↓p_has9_b, p_has9, ↓p_bit_b, p_bit, ↓p_bit1_b, p_bit1, ↓p_bit0_b, p_bit0, p_X9_needs, p_X9_needs_13, hL.t, ↓bnd (A), A, ↓bnd (F), F, ↓bnd (G), G]
theorem x_nd0_b (hL : ML S m) (h : RS I L m b n tk) {k : Nat} (h0 : 0 < k) (hk : k < 19) (hq : nm b tk k = false) {β : Type} (f9 : AH → Option β) : (p_X9_needs m k (hp S I L)).bind f9 = f9 (hp S (xF I m 1 tk.2.1) L) := bnd (by apply x_nd0 <;> assumption)
theorem x_nd5 (hL : ML S m) (h5 : I m 9 = ic 5) (k : Nat) : p_X9_needs m k (hp S I L) = some (hp S I L) := by
  have A := x_word5 (L := L) hL h5 k
  have F := x_flaw5 (L := L) hL h5 1
  have G := x_goes0 (L := L) hL h5
  simp (maxSteps := 1000000) (disch := omega) only [↓reduceIte, ↓if_bi0, ↓if_bi1, hp_tg, hp_rI, hp_rR, hp_rL, hp_wI, hp_wL, Option.bind_some, if_11, if_01, bi_and1, i10, i01, bi_t, bi_f, ic_add, mr_4, ml_4, mr_8, ml_8, mr_10, ml_10, ic_add1, ic_sub1, ic_clamp, ic_div, ic_irm, ic_lt0, ic_0lt, ic_eq0, ic_lt, ic_inj, and15, and7, and31, and63, shl1, shr_ok, neg_1, neg_2, neg_3, neg_4, kc_lt0, kc_ic, kc_m2, kc_1, kc_0, i0_add, add_i0, or_i0, z_8, z_4, z_64, z_256, ic_m2, ec_m1, ic_m1, m1_lt0, m2_lt0, m3_lt0, m4_lt0, up_s, if_true, if_false, ne_eq, not_true_eq_false, not_false_eq_true, Bool.false_eq_true, eq_self, or_self, or_false, false_or, and_self, and_true, true_and, ite_self, Nat.reduceEqDiff, Nat.reduceLT, Nat.reduceMod, Nat.reduceMul, Nat.reduceAdd, Nat.reducePow, Nat.reduceDiv, lt_2, lt_3, lt_4, lt_5, lt_6, lt_7, lt_8, lt_10, lt_11, lt_12, lt_15, lt_16, lt_18, lt_20, lt_24, lt_31, lt_32, lt_48, lt_57, lt_59, lt_63, lt_64, lt_74, lt_75, lt_97, lt_122, lt_128, lt_144, lt_145, lt_146, lt_147, lt_155, lt_163, lt_171, lt_179, lt_200, lt_243, lt_244, lt_255, lt_256, lt_732, lt_900, lt_3660, lt_3904, lt_4095, lt_65536, lt_65537, lt_252645135, lt_858993459, lt_1431655765, ↓p_has_b, p_has, ↓p_has9_b, p_has9, ↓p_bit_b, p_bit, ↓p_bit1_b, p_bit1, ↓p_bit0_b, p_bit0, p_X9_needs, p_X9_needs_13, hL.t, ↓bnd (A), A, ↓bnd (F), F, ↓bnd (G), G]
theorem x_nd5_b (hL : ML S m) (h5 : I m 9 = ic 5) (k : Nat) {β : Type} (f9 : AH → Option β) : (p_X9_needs m k (hp S I L)).bind f9 = f9 (hp S I L) := bnd (by apply x_nd5 <;> assumption)
theorem x_rwh0 (hL : ML S m) (h : RS I L m b n tk) (ha : a < 5000) (hc : c < 5000) (hw : wf tk a c = 0) : ∃ I' L', p_X9_readWhole m (ic a) (ic c) (hp S I L) = some (ic tk.2.2.2, hp S I' L') ∧ RS I' L' m b n (nt b n tk) ∧ Yf I I' m := by
  have A := h.wh0 hL ha hc hw
  obtain ⟨I', L', e, r, f⟩ := x_next hL h (by rw [(wf_2 hw).1]; decide)
  refine ⟨I', L', ?_, r, f⟩
  simp (maxSteps := 1000000) (disch := omega) only [↓reduceIte, ↓if_bi0, ↓if_bi1, hp_tg, hp_rI, hp_rR, hp_rL, hp_wI, hp_wL, Option.bind_some, if_11, if_01, bi_and1, i10, i01, bi_t, bi_f, ic_add, mr_4, ml_4, mr_8, ml_8, mr_10, ml_10, ic_add1, ic_sub1, ic_clamp, ic_div, ic_irm, ic_lt0, ic_0lt, ic_eq0, ic_lt, ic_inj, and15, and7, and31, and63, shl1, shr_ok, neg_1, neg_2, neg_3, neg_4, kc_lt0, kc_ic, kc_m2, kc_1, kc_0, i0_add, add_i0, or_i0, z_8, z_4, z_64, z_256, ic_m2, ec_m1, ic_m1, m1_lt0, m2_lt0, m3_lt0, m4_lt0, up_s, if_true, if_false, ne_eq, not_true_eq_false, not_false_eq_true, Bool.false_eq_true, eq_self, or_self, or_false, false_or, and_self, and_true, true_and, ite_self, Nat.reduceEqDiff, Nat.reduceLT, Nat.reduceMod, Nat.reduceMul, Nat.reduceAdd, Nat.reducePow, Nat.reduceDiv, lt_2, lt_3, lt_4, lt_5, lt_6, lt_7, lt_8, lt_10, lt_11, lt_12, lt_15, lt_16, lt_18, lt_20, lt_24, lt_31, lt_32, lt_48, lt_57, lt_59, lt_63, lt_64, lt_74, lt_75, lt_97, lt_122, lt_128, lt_144, lt_145, lt_146, lt_147, lt_155, lt_163, lt_171, lt_179, lt_200, lt_243, lt_244, lt_255, lt_256, lt_732, lt_900, lt_3660, lt_3904, lt_4095, lt_65536, lt_65537, lt_252645135, lt_858993459, lt_1431655765, ↓p_has_b, p_has, ↓p_has9_b, p_has9, ↓p_bit_b, p_bit, ↓p_bit1_b, p_bit1, ↓p_bit0_b, p_bit0, p_X9_readWhole, hL.t, ↓bnd (A), A, ↓bnd (e), e]
theorem x_rwh1 (hL : ML S m) (h : RS I L m b n tk) (ha : a < 5000) (hc : c < 5000) (hw : wf tk a c ≠ 0) : p_X9_readWhole m (ic a) (ic c) (hp S I L) = some (ic a, hp S (xF I m (wf tk a c) tk.2.1) L) := by
  have A := h.wh1 hL ha hc hw
  have G := x_goes0 (L := L) hL (xF_9 I m (wf tk a c) tk.2.1)
  simp (maxSteps := 1000000) (disch := omega) only [↓reduceIte, ↓if_bi0, ↓if_bi1, hp_tg, hp_rI, hp_rR, hp_rL, hp_wI, hp_wL, Option.bind_some, if_11, if_01, bi_and1, i10, i01, bi_t, bi_f, ic_add, mr_4, ml_4, mr_8, ml_8, mr_10, ml_10, ic_add1, ic_sub1, ic_clamp, ic_div, ic_irm, ic_lt0, ic_0lt, ic_eq0, ic_lt, ic_inj, and15, and7, and31, and63, shl1, shr_ok, neg_1, neg_2, neg_3, neg_4, kc_lt0, kc_ic, kc_m2, kc_1, kc_0, i0_add, add_i0, or_i0, z_8, z_4, z_64, z_256, ic_m2, ec_m1, ic_m1, m1_lt0, m2_lt0, m3_lt0, m4_lt0, up_s, if_true, if_false, ne_eq, not_true_eq_false, not_false_eq_true, Bool.false_eq_true, eq_self, or_self, or_false, false_or, and_self, and_true, true_and, ite_self, Nat.reduceEqDiff, Nat.reduceLT, Nat.reduceMod, Nat.reduceMul, Nat.reduceAdd, Nat.reducePow, Nat.reduceDiv, lt_2, lt_3, lt_4, lt_5, lt_6, lt_7, lt_8, lt_10, lt_11, lt_12, lt_15, lt_16, lt_18, lt_20, lt_24, lt_31, lt_32, lt_48, lt_57, lt_59, lt_63, lt_64, lt_74, lt_75, lt_97, lt_122, lt_128, lt_144, lt_145, lt_146, lt_147, lt_155, lt_163, lt_171, lt_179, lt_200, lt_243, lt_244, lt_255, lt_256, lt_732, lt_900, lt_3660, lt_3904, lt_4095, lt_65536, lt_65537, lt_252645135, lt_858993459, lt_1431655765, ↓p_has_b, p_has, ↓p_has9_b, p_has9, ↓p_bit_b, p_bit, ↓p_bit1_b, p_bit1, ↓p_bit0_b, p_bit0, p_X9_readWhole, hL.t, ↓bnd (A), A, ↓bnd (G), G]
theorem x_rwh1_b (hL : ML S m) (h : RS I L m b n tk) (ha : a < 5000) (hc : c < 5000) (hw : wf tk a c ≠ 0) {β : Type} (f9 : Int32 × AH → Option β) : (p_X9_readWhole m (ic a) (ic c) (hp S I L)).bind f9 = f9 (ic a, hp S (xF I m (wf tk a c) tk.2.1) L) := bnd (by apply x_rwh1 <;> assumption)
theorem x_rwh5 (hL : ML S m) (h5 : I m 9 = ic 5) (a c : Int32) : p_X9_readWhole m a c (hp S I L) = some (a, hp S I L) := by
  have A := x_whole5 (L := L) hL h5 a c
  have G := x_goes0 (L := L) hL h5
  simp (maxSteps := 1000000) (disch := omega) only [↓reduceIte, ↓if_bi0, ↓if_bi1, hp_tg, hp_rI, hp_rR, hp_rL, hp_wI, hp_wL, Option.bind_some, if_11, if_01, bi_and1, i10, i01, bi_t, bi_f, ic_add, mr_4, ml_4, mr_8, ml_8, mr_10, ml_10, ic_add1, ic_sub1, ic_clamp, ic_div, ic_irm, ic_lt0, ic_0lt, ic_eq0, ic_lt, ic_inj, and15, and7, and31, and63, shl1, shr_ok, neg_1, neg_2, neg_3, neg_4, kc_lt0, kc_ic, kc_m2, kc_1, kc_0, i0_add, add_i0, or_i0, z_8, z_4, z_64, z_256, ic_m2, ec_m1, ic_m1, m1_lt0, m2_lt0, m3_lt0, m4_lt0, up_s, if_true, if_false, ne_eq, not_true_eq_false, not_false_eq_true, Bool.false_eq_true, eq_self, or_self, or_false, false_or, and_self, and_true, true_and, ite_self, Nat.reduceEqDiff, Nat.reduceLT, Nat.reduceMod, Nat.reduceMul, Nat.reduceAdd, Nat.reducePow, Nat.reduceDiv, lt_2, lt_3, lt_4, lt_5, lt_6, lt_7, lt_8, lt_10, lt_11, lt_12, lt_15, lt_16, lt_18, lt_20, lt_24, lt_31, lt_32, lt_48, lt_57, lt_59, lt_63, lt_64, lt_74, lt_75, lt_97, lt_122, lt_128, lt_144, lt_145, lt_146, lt_147, lt_155, lt_163, lt_171, lt_179, lt_200, lt_243, lt_244, lt_255, lt_256, lt_732, lt_900, lt_3660, lt_3904, lt_4095, lt_65536, lt_65537, lt_252645135, lt_858993459, lt_1431655765, ↓p_has_b, p_has, ↓p_has9_b, p_has9, ↓p_bit_b, p_bit, ↓p_bit1_b, p_bit1, ↓p_bit0_b, p_bit0, p_X9_readWhole, hL.t, ↓bnd (A), A, ↓bnd (G), G]
theorem x_rwh5_b (hL : ML S m) (h5 : I m 9 = ic 5) (a c : Int32) {β : Type} (f9 : Int32 × AH → Option β) : (p_X9_readWhole m a c (hp S I L)).bind f9 = f9 (a, hp S I L) := bnd (by apply x_rwh5 <;> assumption)
end NXT
