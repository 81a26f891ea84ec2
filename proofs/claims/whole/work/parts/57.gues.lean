/-! ===== class Guesses, and what the reference asks ===== -/
theorem fo_cut {α : Type} (g : Nat → α → α) {d e : Nat} (s : α) (h : d ≤ e) (hz : ∀ k s, d ≤ k → k < e → g k s = s) : fo g e 0 s = fo g d 0 s := by
  have : ∀ x, d + x ≤ e → fo g (d + x) 0 s = fo g d 0 s := by
    intro x
    induction x with
    | zero => intro _; rfl
    | succ x ih => intro h9; rw [show d + (x + 1) = d + x + 1 by omega, fo_last, Nat.zero_add, hz _ _ (by omega) (by omega)]; exact ih (by omega)
  have h9 := this (e - d) (by omega)
  rw [show d + (e - d) = e by omega] at h9
  exact h9
theorem fo_fit {α : Type} (g : Nat → α → α) {T : TS} (hV : TV T) (s : α) : fo (fun o n => if (fitM T).testBit o = true then g o n else n) 16 0 s = fo (fun o n => if fit T o = true then g o n else n) (2 ^ dN T) 0 s := by
  rw [fo_cut _ s (p2_4 hV.2.2.2.2.1.1) (fun k s h1 h2 => by unfold fitM; rw [tb_msk, decide_eq_false (by omega)]; rfl)]
  exact fo_congr fun i s _ h2 => by unfold fitM; rw [tb_msk, decide_eq_true (by omega), Bool.true_and]
theorem tb_fit {T : TS} {o : Nat} (ho : o < 2 ^ dN T) : (fitM T).testBit o = fit T o := by unfold fitM; rw [tb_msk, decide_eq_true ho, Bool.true_and]
theorem tb_fit0 {T : TS} {o : Nat} (ho : 2 ^ dN T ≤ o) : (fitM T).testBit o = false := by unfold fitM; rw [tb_msk, decide_eq_false (by omega), Bool.false_and]
theorem cnt_fit {T : TS} (hV : TV T) : cnt (fun n => (fitM T).testBit n) 16 = fN T (2 ^ dN T) := by
  rw [← cnt_short _ (p2_4 hV.2.2.2.2.1.1) (fun k h1 _ => tb_fit0 h1)]
  exact cnt_congr fun i hi => tb_fit hi
theorem cnt_fitd {T : TS} (hV : TV T) (d : Nat) : cnt (fun n => (fitM T).testBit n && n.testBit d) 16 = oIn T d (2 ^ dN T) := by
  rw [← cnt_short _ (p2_4 hV.2.2.2.2.1.1) (fun k h1 _ => by rw [tb_fit0 h1]; rfl)]
  exact cnt_congr fun i hi => by rw [tb_fit hi]
theorem cnt_0 {p : Nat → Bool} : ∀ {d : Nat}, cnt p d = 0 → ∀ k, k < d → p k = false := by
  intro d
  induction d with
  | zero => intro _ k h; omega
  | succ d ih =>
    intro h k hk
    rw [cnt_succ] at h
    by_cases c : p d = true
    · rw [if_pos c] at h; omega
    · rw [if_neg c] at h
      by_cases e : k = d
      · rw [e]; simpa using c
      · exact ih h k (by omega)
theorem fN_0 {T : TS} (hV : TV T) : fN T (2 ^ dN T) = 0 ↔ fitM T = 0 := by
  constructor
  · intro h
    apply Nat.eq_of_testBit_eq
    intro i
    rw [Nat.zero_testBit]
    by_cases c : i < 2 ^ dN T
    · rw [tb_fit c]; exact cnt_0 h i c
    · exact tb_fit0 (by omega)
  · intro h
    rw [← cnt_fit hV, h]
    rfl
theorem fEv_eq {T : TS} {i j : Nat} : ∀ {k : Nat}, (∀ o, o < k → i &&& o = o) → (∀ o, o < k → j &&& o = o) → (fN T k = 0 → fEv T i k = i ∧ fEv T j k = j) ∧ (fN T k ≠ 0 → fEv T i k = fEv T j k) := by
  intro k
  induction k with
  | zero => intro _ _; exact ⟨fun _ => ⟨rfl, rfl⟩, fun h => absurd rfl h⟩
  | succ k ih =>
    intro h1 h2
    obtain ⟨a, b⟩ := ih (fun o h => h1 o (by omega)) (fun o h => h2 o (by omega))
    rw [fN_s, fEv_s, fEv_s]
    by_cases c : fit T k = true
    · rw [if_pos c, if_pos c, if_pos c]
      refine ⟨fun h => by omega, fun _ => ?_⟩
      by_cases z : fN T k = 0
      · rw [(a z).1, (a z).2, h1 k (by omega), h2 k (by omega)]
      · rw [b z]
    · rw [if_neg c, if_neg c, if_neg c]
      exact ⟨a, b⟩
theorem and_all {d o : Nat} (h : o < 2 ^ d) : (2 ^ d - 1) &&& o = o := by
  rw [Nat.and_comm, Nat.and_two_pow_sub_one_eq_mod, Nat.mod_eq_of_lt h]
section GUES
variable {S : SH} {I : II} {L : LL} {t m a g : Nat} {s : St} {T : TS}
theorem g_some {F : Nat} (hF : F < 65536) (h : AH) : p_X0_inSome (ic F) h = some (ic (fo (fun o n => if F.testBit o = true then n ||| o else n) 16 0 0), h) := by
  have := lp_fold (fun x k c => p_X0_inSome_4 x (ic F) (ic c) (ic k) h) 16 (fun o n => if F.testBit o = true then n ||| o else n) (fun c => some (ic c, h)) (fun x k c hk => ?_) (fun x c => ?_) 16 0 FU 0 (by omega) (fu_lt (by omega))
  · exact this
  · have hbp := hb_pow (w := F) (f := k) (by omega) (by omega)
    cases q : F.testBit k
    · rw [q] at hbp; rw [if_neg (by decide)]; simp (maxSteps := 1000000) (disch := omega) only [↓reduceIte, ↓if_bi0, ↓if_bi1, hp_tg, hp_rI, hp_rR, hp_rL, hp_wI, hp_wL, Option.bind_some, if_11, if_01, bi_and1, i10, i01, bi_t, bi_f, ic_add, mr_4, ml_4, mr_8, ml_8, mr_10, ml_10, ic_add1, ic_sub1, ic_clamp, ic_div, ic_irm, ic_lt0, ic_0lt, ic_eq0, ic_lt, ic_inj, and15, and7, and31, and63, shl1, shr_ok, neg_1, neg_2, neg_3, neg_4, kc_lt0, kc_ic, kc_m2, kc_1, kc_0, i0_add, add_i0, or_i0, z_8, z_4, z_64, z_256, ic_m2, ec_m1, ic_m1, m1_lt0, m2_lt0, m3_lt0, m4_lt0, up_s, if_true, if_false, ne_eq, not_true_eq_false, not_false_eq_true, Bool.false_eq_true, eq_self, or_self, or_false, false_or, and_self, and_true, true_and, ite_self, Nat.reduceEqDiff, Nat.reduceLT, Nat.reduceMod, Nat.reduceMul, Nat.reduceAdd, Nat.reducePow, Nat.reduceDiv, lt_2, lt_3, lt_4, lt_5, lt_6, lt_7, lt_8, lt_10, lt_11, lt_12, lt_15, lt_16, lt_18, lt_20, lt_24, lt_31, lt_32, lt_48, lt_57, lt_59, lt_63, lt_64, lt_74, lt_75, lt_97, lt_122, lt_128, lt_144, lt_145, lt_146, lt_147, lt_155, lt_163, lt_171, lt_179, lt_200, lt_243, lt_244, lt_255, lt_256, lt_732, lt_900, lt_3660, lt_3904, lt_4095, lt_65536, lt_65537, lt_252645135, lt_858993459, lt_1431655765, ↓p_has_b, p_has, ↓p_has9_b, p_has9, ↓p_bit_b, p_bit, ↓p_bit1_b, p_bit1, ↓p_bit0_b, p_bit0, p_X0_inSome_4, p_X0_inSome_24, hk, show k % 32 = k by omega, hbp]
    · rw [q] at hbp; rw [if_pos rfl]; simp (maxSteps := 1000000) (disch := omega) only [↓reduceIte, ↓if_bi0, ↓if_bi1, hp_tg, hp_rI, hp_rR, hp_rL, hp_wI, hp_wL, Option.bind_some, if_11, if_01, bi_and1, i10, i01, bi_t, bi_f, ic_add, mr_4, ml_4, mr_8, ml_8, mr_10, ml_10, ic_add1, ic_sub1, ic_clamp, ic_div, ic_irm, ic_lt0, ic_0lt, ic_eq0, ic_lt, ic_inj, and15, and7, and31, and63, shl1, shr_ok, neg_1, neg_2, neg_3, neg_4, kc_lt0, kc_ic, kc_m2, kc_1, kc_0, i0_add, add_i0, or_i0, z_8, z_4, z_64, z_256, ic_m2, ec_m1, ic_m1, m1_lt0, m2_lt0, m3_lt0, m4_lt0, up_s, if_true, if_false, ne_eq, not_true_eq_false, not_false_eq_true, Bool.false_eq_true, eq_self, or_self, or_false, false_or, and_self, and_true, true_and, ite_self, Nat.reduceEqDiff, Nat.reduceLT, Nat.reduceMod, Nat.reduceMul, Nat.reduceAdd, Nat.reducePow, Nat.reduceDiv, lt_2, lt_3, lt_4, lt_5, lt_6, lt_7, lt_8, lt_10, lt_11, lt_12, lt_15, lt_16, lt_18, lt_20, lt_24, lt_31, lt_32, lt_48, lt_57, lt_59, lt_63, lt_64, lt_74, lt_75, lt_97, lt_122, lt_128, lt_144, lt_145, lt_146, lt_147, lt_155, lt_163, lt_171, lt_179, lt_200, lt_243, lt_244, lt_255, lt_256, lt_732, lt_900, lt_3660, lt_3904, lt_4095, lt_65536, lt_65537, lt_252645135, lt_858993459, lt_1431655765, ↓p_has_b, p_has, ↓p_has9_b, p_has9, ↓p_bit_b, p_bit, ↓p_bit1_b, p_bit1, ↓p_bit0_b, p_bit0, p_X0_inSome_4, p_X0_inSome_24, hk, show k % 32 = k by omega, hbp, ic_or]
  · simp (maxSteps := 1000000) (disch := omega) only [↓reduceIte, ↓if_bi0, ↓if_bi1, hp_tg, hp_rI, hp_rR, hp_rL, hp_wI, hp_wL, Option.bind_some, if_11, if_01, bi_and1, i10, i01, bi_t, bi_f, ic_add, mr_4, ml_4, mr_8, ml_8, mr_10, ml_10, ic_add1, ic_sub1, ic_clamp, ic_div, ic_irm, ic_lt0, ic_0lt, ic_eq0, ic_lt, ic_inj, and15, and7, and31, and63, shl1, shr_ok, neg_1, neg_2, neg_3, neg_4, kc_lt0, kc_ic, kc_m2, kc_1, kc_0, i0_add, add_i0, or_i0, z_8, z_4, z_64, z_256, ic_m2, ec_m1, ic_m1, m1_lt0, m2_lt0, m3_lt0, m4_lt0, up_s, if_true, if_false, ne_eq, not_true_eq_false, not_false_eq_true, Bool.false_eq_true, eq_self, or_self, or_false, false_or, and_self, and_true, true_and, ite_self, Nat.reduceEqDiff, Nat.reduceLT, Nat.reduceMod, Nat.reduceMul, Nat.reduceAdd, Nat.reducePow, Nat.reduceDiv, lt_2, lt_3, lt_4, lt_5, lt_6, lt_7, lt_8, lt_10, lt_11, lt_12, lt_15, lt_16, lt_18, lt_20, lt_24, lt_31, lt_32, lt_48, lt_57, lt_59, lt_63, lt_64, lt_74, lt_75, lt_97, lt_122, lt_128, lt_144, lt_145, lt_146, lt_147, lt_155, lt_163, lt_171, lt_179, lt_200, lt_243, lt_244, lt_255, lt_256, lt_732, lt_900, lt_3660, lt_3904, lt_4095, lt_65536, lt_65537, lt_252645135, lt_858993459, lt_1431655765, ↓p_has_b, p_has, ↓p_has9_b, p_has9, ↓p_bit_b, p_bit, ↓p_bit1_b, p_bit1, ↓p_bit0_b, p_bit0, p_X0_inSome_4, Nat.lt_irrefl]
theorem g_some_b {F : Nat} (hF : F < 65536) (h : AH) {β : Type} (f9 : Int32 × AH → Option β) : (p_X0_inSome (ic F) h).bind f9 = f9 (ic (fo (fun o n => if F.testBit o = true then n ||| o else n) 16 0 0), h) := bnd (by apply g_some <;> assumption)
theorem t_some (hV : TV T) (h : AH) : p_X0_inSome (ic (fitM T)) h = some (ic (fSm T (2 ^ dN T)), h) := by
  rw [g_some (fitM_lt hV) h, fo_fit (fun o n => n ||| o) hV 0]; rfl
theorem t_some_b (hV : TV T) (h : AH) {β : Type} (f9 : Int32 × AH → Option β) : (p_X0_inSome (ic (fitM T)) h).bind f9 = f9 (ic (fSm T (2 ^ dN T)), h) := bnd (by apply t_some <;> assumption)
theorem g_all {F : Nat} (hF : F < 65536) (h : AH) : p_X0_inAll (ic F) h = some (ic (if F = 0 then 0 else fo (fun o n => if F.testBit o = true then n &&& o else n) 16 0 15), h) := by
  have := lp_fold (fun x k c => p_X0_inAll_5 x (ic F) (ic c) (ic k) h) 16 (fun o n => if F.testBit o = true then n &&& o else n) (fun c => some (ic (if F = 0 then 0 else c), h)) (fun x k c hk => ?_) (fun x c => ?_) 16 0 FU 15 (by omega) (fu_lt (by omega))
  · exact this
  · have hbp := hb_pow (w := F) (f := k) (by omega) (by omega)
    cases q : F.testBit k
    · rw [q] at hbp; rw [if_neg (by decide)]; simp (maxSteps := 1000000) (disch := omega) only [↓reduceIte, ↓if_bi0, ↓if_bi1, hp_tg, hp_rI, hp_rR, hp_rL, hp_wI, hp_wL, Option.bind_some, if_11, if_01, bi_and1, i10, i01, bi_t, bi_f, ic_add, mr_4, ml_4, mr_8, ml_8, mr_10, ml_10, ic_add1, ic_sub1, ic_clamp, ic_div, ic_irm, ic_lt0, ic_0lt, ic_eq0, ic_lt, ic_inj, and15, and7, and31, and63, shl1, shr_ok, neg_1, neg_2, neg_3, neg_4, kc_lt0, kc_ic, kc_m2, kc_1, kc_0, i0_add, add_i0, or_i0, z_8, z_4, z_64, z_256, ic_m2, ec_m1, ic_m1, m1_lt0, m2_lt0, m3_lt0, m4_lt0, up_s, if_true, if_false, ne_eq, not_true_eq_false, not_false_eq_true, Bool.false_eq_true, eq_self, or_self, or_false, false_or, and_self, and_true, true_and, ite_self, Nat.reduceEqDiff, Nat.reduceLT, Nat.reduceMod, Nat.reduceMul, Nat.reduceAdd, Nat.reducePow, Nat.reduceDiv, lt_2, lt_3, lt_4, lt_5, lt_6, lt_7, lt_8, lt_10, lt_11, lt_12, lt_15, lt_16, lt_18, lt_20, lt_24, lt_31, lt_32, lt_48, lt_57, lt_59, lt_63, lt_64, lt_74, lt_75, lt_97, lt_122, lt_128, lt_144, lt_145, lt_146, lt_147, lt_155, lt_163, lt_171, lt_179, lt_200, lt_243, lt_244, lt_255, lt_256, lt_732, lt_900, lt_3660, lt_3904, lt_4095, lt_65536, lt_65537, lt_252645135, lt_858993459, lt_1431655765, ↓p_has_b, p_has, ↓p_has9_b, p_has9, ↓p_bit_b, p_bit, ↓p_bit1_b, p_bit1, ↓p_bit0_b, p_bit0, p_X0_inAll_5, p_X0_inAll_25, hk, show k % 32 = k by omega, hbp]
    · rw [q] at hbp; rw [if_pos rfl]; simp (maxSteps := 1000000) (disch := omega) only [↓reduceIte, ↓if_bi0, ↓if_bi1, hp_tg, hp_rI, hp_rR, hp_rL, hp_wI, hp_wL, Option.bind_some, if_11, if_01, bi_and1, i10, i01, bi_t, bi_f, ic_add, mr_4, ml_4, mr_8, ml_8, mr_10, ml_10, ic_add1, ic_sub1, ic_clamp, ic_div, ic_irm, ic_lt0, ic_0lt, ic_eq0, ic_lt, ic_inj, and15, and7, and31, and63, shl1, shr_ok, neg_1, neg_2, neg_3, neg_4, kc_lt0, kc_ic, kc_m2, kc_1, kc_0, i0_add, add_i0, or_i0, z_8, z_4, z_64, z_256, ic_m2, ec_m1, ic_m1, m1_lt0, m2_lt0, m3_lt0, m4_lt0, up_s, if_true, if_false, ne_eq, not_true_eq_false, not_false_eq_true, Bool.false_eq_true, eq_self, or_self, or_false, false_or, and_self, and_true, true_and, ite_self, Nat.reduceEqDiff, Nat.reduceLT, Nat.reduceMod, Nat.reduceMul, Nat.reduceAdd, Nat.reducePow, Nat.reduceDiv, lt_2, lt_3, lt_4, lt_5, lt_6, lt_7, lt_8, lt_10, lt_11, lt_12, lt_15, lt_16, lt_18, lt_20, lt_24, lt_31, lt_32, lt_48, lt_57, lt_59, lt_63, lt_64, lt_74, lt_75, lt_97, lt_122, lt_128, lt_144, lt_145, lt_146, lt_147, lt_155, lt_163, lt_171, lt_179, lt_200, lt_243, lt_244, lt_255, lt_256, lt_732, lt_900, lt_3660, lt_3904, lt_4095, lt_65536, lt_65537, lt_252645135, lt_858993459, lt_1431655765, ↓p_has_b, p_has, ↓p_has9_b, p_has9, ↓p_bit_b, p_bit, ↓p_bit1_b, p_bit1, ↓p_bit0_b, p_bit0, p_X0_inAll_5, p_X0_inAll_25, hk, show k % 32 = k by omega, hbp, show (ic c &&& ic k) = ic (c &&& k) by rw [ic_and]]
  · by_cases z : F = 0
    · rw [if_pos z]; subst z; simp (maxSteps := 1000000) (disch := omega) only [↓reduceIte, ↓if_bi0, ↓if_bi1, hp_tg, hp_rI, hp_rR, hp_rL, hp_wI, hp_wL, Option.bind_some, if_11, if_01, bi_and1, i10, i01, bi_t, bi_f, ic_add, mr_4, ml_4, mr_8, ml_8, mr_10, ml_10, ic_add1, ic_sub1, ic_clamp, ic_div, ic_irm, ic_lt0, ic_0lt, ic_eq0, ic_lt, ic_inj, and15, and7, and31, and63, shl1, shr_ok, neg_1, neg_2, neg_3, neg_4, kc_lt0, kc_ic, kc_m2, kc_1, kc_0, i0_add, add_i0, or_i0, z_8, z_4, z_64, z_256, ic_m2, ec_m1, ic_m1, m1_lt0, m2_lt0, m3_lt0, m4_lt0, up_s, if_true, if_false, ne_eq, not_true_eq_false, not_false_eq_true, Bool.false_eq_true, eq_self, or_self, or_false, false_or, and_self, and_true, true_and, ite_self, Nat.reduceEqDiff, Nat.reduceLT, Nat.reduceMod, Nat.reduceMul, Nat.reduceAdd, Nat.reducePow, Nat.reduceDiv, lt_2, lt_3, lt_4, lt_5, lt_6, lt_7, lt_8, lt_10, lt_11, lt_12, lt_15, lt_16, lt_18, lt_20, lt_24, lt_31, lt_32, lt_48, lt_57, lt_59, lt_63, lt_64, lt_74, lt_75, lt_97, lt_122, lt_128, lt_144, lt_145, lt_146, lt_147, lt_155, lt_163, lt_171, lt_179, lt_200, lt_243, lt_244, lt_255, lt_256, lt_732, lt_900, lt_3660, lt_3904, lt_4095, lt_65536, lt_65537, lt_252645135, lt_858993459, lt_1431655765, ↓p_has_b, p_has, ↓p_has9_b, p_has9, ↓p_bit_b, p_bit, ↓p_bit1_b, p_bit1, ↓p_bit0_b, p_bit0, p_X0_inAll_5, p_X0_inAll_40, Nat.lt_irrefl]; rfl
    · rw [if_neg z]; simp (maxSteps := 1000000) (disch := omega) only [↓reduceIte, ↓if_bi0, ↓if_bi1, hp_tg, hp_rI, hp_rR, hp_rL, hp_wI, hp_wL, Option.bind_some, if_11, if_01, bi_and1, i10, i01, bi_t, bi_f, ic_add, mr_4, ml_4, mr_8, ml_8, mr_10, ml_10, ic_add1, ic_sub1, ic_clamp, ic_div, ic_irm, ic_lt0, ic_0lt, ic_eq0, ic_lt, ic_inj, and15, and7, and31, and63, shl1, shr_ok, neg_1, neg_2, neg_3, neg_4, kc_lt0, kc_ic, kc_m2, kc_1, kc_0, i0_add, add_i0, or_i0, z_8, z_4, z_64, z_256, ic_m2, ec_m1, ic_m1, m1_lt0, m2_lt0, m3_lt0, m4_lt0, up_s, if_true, if_false, ne_eq, not_true_eq_false, not_false_eq_true, Bool.false_eq_true, eq_self, or_self, or_false, false_or, and_self, and_true, true_and, ite_self, Nat.reduceEqDiff, Nat.reduceLT, Nat.reduceMod, Nat.reduceMul, Nat.reduceAdd, Nat.reducePow, Nat.reduceDiv, lt_2, lt_3, lt_4, lt_5, lt_6, lt_7, lt_8, lt_10, lt_11, lt_12, lt_15, lt_16, lt_18, lt_20, lt_24, lt_31, lt_32, lt_48, lt_57, lt_59, lt_63, lt_64, lt_74, lt_75, lt_97, lt_122, lt_128, lt_144, lt_145, lt_146, lt_147, lt_155, lt_163, lt_171, lt_179, lt_200, lt_243, lt_244, lt_255, lt_256, lt_732, lt_900, lt_3660, lt_3904, lt_4095, lt_65536, lt_65537, lt_252645135, lt_858993459, lt_1431655765, ↓p_has_b, p_has, ↓p_has9_b, p_has9, ↓p_bit_b, p_bit, ↓p_bit1_b, p_bit1, ↓p_bit0_b, p_bit0, p_X0_inAll_5, p_X0_inAll_40, Nat.lt_irrefl, z]
theorem g_all_b {F : Nat} (hF : F < 65536) (h : AH) {β : Type} (f9 : Int32 × AH → Option β) : (p_X0_inAll (ic F) h).bind f9 = f9 (ic (if F = 0 then 0 else fo (fun o n => if F.testBit o = true then n &&& o else n) 16 0 15), h) := bnd (by apply g_all <;> assumption)
theorem t_all (hV : TV T) (h : AH) : p_X0_inAll (ic (fitM T)) h = some (ic (if fN T (2 ^ dN T) = 0 then 0 else fEv T (2 ^ dN T - 1) (2 ^ dN T)), h) := by
  rw [g_all (fitM_lt hV) h, fo_fit (fun o n => n &&& o) hV 15]
  have h16 := p2_4 hV.2.2.2.2.1.1
  by_cases z : fN T (2 ^ dN T) = 0
  · rw [if_pos z, if_pos ((fN_0 hV).mp z)]
  · rw [if_neg z, if_neg (fun q => z ((fN_0 hV).mpr q)), (fEv_eq (T := T) (i := 2 ^ dN T - 1) (j := 15) (k := 2 ^ dN T) (fun o ho => and_all ho) (fun o ho => and_all (d := 4) (by omega))).2 z]; rfl
theorem t_all_b (hV : TV T) (h : AH) {β : Type} (f9 : Int32 × AH → Option β) : (p_X0_inAll (ic (fitM T)) h).bind f9 = f9 (ic (if fN T (2 ^ dN T) = 0 then 0 else fEv T (2 ^ dN T - 1) (2 ^ dN T)), h) := bnd (by apply t_all <;> assumption)
theorem g_left {F d : Nat} (hF : F < 65536) (hd : d < 31) (h : AH) : p_X0_leftAtMost (ic F) (ic d) h = some (ic (if cnt (fun n => F.testBit n) 16 - cnt (fun n => F.testBit n && n.testBit d) 16 < cnt (fun n => F.testBit n && n.testBit d) 16 then cnt (fun n => F.testBit n && n.testBit d) 16 else cnt (fun n => F.testBit n) 16 - cnt (fun n => F.testBit n && n.testBit d) 16), h) := by
  have hc : ∀ k, cnt (fun n => F.testBit n && n.testBit d) k ≤ cnt (fun n => F.testBit n) k := by
    intro k
    induction k with
    | zero => exact Nat.le_refl 0
    | succ k ih =>
      rw [cnt_succ, cnt_succ]
      cases F.testBit k
      · exact ih
      · cases k.testBit d
        · rw [if_neg (by decide), if_pos rfl]; omega
        · rw [if_pos (show (true && true) = true from rfl), if_pos rfl]; omega
  have h9 := hc 16
  have h16 := cnt_le (fun n => F.testBit n) 16
  have := lp_fold (fun x k c => p_X0_leftAtMost_4 x (ic F) (ic d) (ic c) (ic k) h) 16 (fun k n => if (F.testBit k && k.testBit d) = true then n + 1 else n) (fun c => (p_J6_bitCount_0f7a4 (ic F) h).bind fun q => some ((if ic c < q.1 - ic c then q.1 - ic c else ic c), q.2)) (fun x k c hk => ?_) (fun x c => ?_) 16 0 FU 0 (by omega) (fu_lt (by omega))
  · refine Eq.trans this ?_
    refine Eq.trans (bnd (p_bc hF h)) ?_
    show some ((if ic (cnt (fun n => F.testBit n && n.testBit d) 16) < ic (cnt (fun n => F.testBit n) 16) - ic (cnt (fun n => F.testBit n && n.testBit d) 16) then ic (cnt (fun n => F.testBit n) 16) - ic (cnt (fun n => F.testBit n && n.testBit d) 16) else ic (cnt (fun n => F.testBit n && n.testBit d) 16)), h) = _
    generalize cnt (fun n => F.testBit n && n.testBit d) 16 = x at *
    generalize cnt (fun n => F.testBit n) 16 = y at *
    rw [ic_sub h9]
    by_cases e : x < y - x
    · rw [if_pos (by rw [ic_lt (by omega) (by omega)]; exact e), if_neg (by omega)]
    · rw [if_neg (by rw [ic_lt (by omega) (by omega)]; exact e)]
      by_cases f : y - x < x
      · rw [if_pos f]
      · rw [if_neg f, show y - x = x by omega]
  · have hbp := hb_pow (w := F) (f := k) (by omega) (by omega)
    have hbd := hb_pow (w := k) (f := d) (by omega) hd
    cases q : F.testBit k
    · rw [q] at hbp; rw [if_neg (show ¬ (false && k.testBit d) = true by rw [Bool.false_and]; decide)]; simp (maxSteps := 1000000) (disch := omega) only [↓reduceIte, ↓if_bi0, ↓if_bi1, hp_tg, hp_rI, hp_rR, hp_rL, hp_wI, hp_wL, Option.bind_some, if_11, if_01, bi_and1, i10, i01, bi_t, bi_f, ic_add, mr_4, ml_4, mr_8, ml_8, mr_10, ml_10, ic_add1, ic_sub1, ic_clamp, ic_div, ic_irm, ic_lt0, ic_0lt, ic_eq0, ic_lt, ic_inj, and15, and7, and31, and63, shl1, shr_ok, neg_1, neg_2, neg_3, neg_4, kc_lt0, kc_ic, kc_m2, kc_1, kc_0, i0_add, add_i0, or_i0, z_8, z_4, z_64, z_256, ic_m2, ec_m1, ic_m1, m1_lt0, m2_lt0, m3_lt0, m4_lt0, up_s, if_true, if_false, ne_eq, not_true_eq_false, not_false_eq_true, Bool.false_eq_true, eq_self, or_self, or_false, false_or, and_self, and_true, true_and, ite_self, Nat.reduceEqDiff, Nat.reduceLT, Nat.reduceMod, Nat.reduceMul, Nat.reduceAdd, Nat.reducePow, Nat.reduceDiv, lt_2, lt_3, lt_4, lt_5, lt_6, lt_7, lt_8, lt_10, lt_11, lt_12, lt_15, lt_16, lt_18, lt_20, lt_24, lt_31, lt_32, lt_48, lt_57, lt_59, lt_63, lt_64, lt_74, lt_75, lt_97, lt_122, lt_128, lt_144, lt_145, lt_146, lt_147, lt_155, lt_163, lt_171, lt_179, lt_200, lt_243, lt_244, lt_255, lt_256, lt_732, lt_900, lt_3660, lt_3904, lt_4095, lt_65536, lt_65537, lt_252645135, lt_858993459, lt_1431655765, ↓p_has_b, p_has, ↓p_has9_b, p_has9, ↓p_bit_b, p_bit, ↓p_bit1_b, p_bit1, ↓p_bit0_b, p_bit0, p_X0_leftAtMost_4, p_X0_leftAtMost_35, p_X0_leftAtMost_36, hk, show k % 32 = k by omega, hbp]
    · rw [q] at hbp
      cases q2 : k.testBit d
      · rw [q2] at hbd; rw [if_neg (by decide)]; simp (maxSteps := 1000000) (disch := omega) only [↓reduceIte, ↓if_bi0, ↓if_bi1, hp_tg, hp_rI, hp_rR, hp_rL, hp_wI, hp_wL, Option.bind_some, if_11, if_01, bi_and1, i10, i01, bi_t, bi_f, ic_add, mr_4, ml_4, mr_8, ml_8, mr_10, ml_10, ic_add1, ic_sub1, ic_clamp, ic_div, ic_irm, ic_lt0, ic_0lt, ic_eq0, ic_lt, ic_inj, and15, and7, and31, and63, shl1, shr_ok, neg_1, neg_2, neg_3, neg_4, kc_lt0, kc_ic, kc_m2, kc_1, kc_0, i0_add, add_i0, or_i0, z_8, z_4, z_64, z_256, ic_m2, ec_m1, ic_m1, m1_lt0, m2_lt0, m3_lt0, m4_lt0, up_s, if_true, if_false, ne_eq, not_true_eq_false, not_false_eq_true, Bool.false_eq_true, eq_self, or_self, or_false, false_or, and_self, and_true, true_and, ite_self, Nat.reduceEqDiff, Nat.reduceLT, Nat.reduceMod, Nat.reduceMul, Nat.reduceAdd, Nat.reducePow, Nat.reduceDiv, lt_2, lt_3, lt_4, lt_5, lt_6, lt_7, lt_8, lt_10, lt_11, lt_12, lt_15, lt_16, lt_18, lt_20, lt_24, lt_31, lt_32, lt_48, lt_57, lt_59, lt_63, lt_64, lt_74, lt_75, lt_97, lt_122, lt_128, lt_144, lt_145, lt_146, lt_147, lt_155, lt_163, lt_171, lt_179, lt_200, lt_243, lt_244, lt_255, lt_256, lt_732, lt_900, lt_3660, lt_3904, lt_4095, lt_65536, lt_65537, lt_252645135, lt_858993459, lt_1431655765, ↓p_has_b, p_has, ↓p_has9_b, p_has9, ↓p_bit_b, p_bit, ↓p_bit1_b, p_bit1, ↓p_bit0_b, p_bit0, p_X0_leftAtMost_4, p_X0_leftAtMost_35, p_X0_leftAtMost_36, hk, show k % 32 = k by omega, hbp, show d % 32 = d by omega, hbd]
      · rw [q2] at hbd; rw [if_pos (show (true && true) = true from rfl)]; simp (maxSteps := 1000000) (disch := omega) only [↓reduceIte, ↓if_bi0, ↓if_bi1, hp_tg, hp_rI, hp_rR, hp_rL, hp_wI, hp_wL, Option.bind_some, if_11, if_01, bi_and1, i10, i01, bi_t, bi_f, ic_add, mr_4, ml_4, mr_8, ml_8, mr_10, ml_10, ic_add1, ic_sub1, ic_clamp, ic_div, ic_irm, ic_lt0, ic_0lt, ic_eq0, ic_lt, ic_inj, and15, and7, and31, and63, shl1, shr_ok, neg_1, neg_2, neg_3, neg_4, kc_lt0, kc_ic, kc_m2, kc_1, kc_0, i0_add, add_i0, or_i0, z_8, z_4, z_64, z_256, ic_m2, ec_m1, ic_m1, m1_lt0, m2_lt0, m3_lt0, m4_lt0, up_s, if_true, if_false, ne_eq, not_true_eq_false, not_false_eq_true, Bool.false_eq_true, eq_self, or_self, or_false, false_or, and_self, and_true, true_and, ite_self, Nat.reduceEqDiff, Nat.reduceLT, Nat.reduceMod, Nat.reduceMul, Nat.reduceAdd, Nat.reducePow, Nat.reduceDiv, lt_2, lt_3, lt_4, lt_5, lt_6, lt_7, lt_8, lt_10, lt_11, lt_12, lt_15, lt_16, lt_18, lt_20, lt_24, lt_31, lt_32, lt_48, lt_57, lt_59, lt_63, lt_64, lt_74, lt_75, lt_97, lt_122, lt_128, lt_144, lt_145, lt_146, lt_147, lt_155, lt_163, lt_171, lt_179, lt_200, lt_243, lt_244, lt_255, lt_256, lt_732, lt_900, lt_3660, lt_3904, lt_4095, lt_65536, lt_65537, lt_252645135, lt_858993459, lt_1431655765, ↓p_has_b, p_has, ↓p_has9_b, p_has9, ↓p_bit_b, p_bit, ↓p_bit1_b, p_bit1, ↓p_bit0_b, p_bit0, p_X0_leftAtMost_4, p_X0_leftAtMost_35, p_X0_leftAtMost_36, hk, show k % 32 = k by omega, hbp, show d % 32 = d by omega, hbd]
  · simp (maxSteps := 1000000) (disch := omega) only [↓reduceIte, ↓if_bi0, ↓if_bi1, hp_tg, hp_rI, hp_rR, hp_rL, hp_wI, hp_wL, Option.bind_some, if_11, if_01, bi_and1, i10, i01, bi_t, bi_f, ic_add, mr_4, ml_4, mr_8, ml_8, mr_10, ml_10, ic_add1, ic_sub1, ic_clamp, ic_div, ic_irm, ic_lt0, ic_0lt, ic_eq0, ic_lt, ic_inj, and15, and7, and31, and63, shl1, shr_ok, neg_1, neg_2, neg_3, neg_4, kc_lt0, kc_ic, kc_m2, kc_1, kc_0, i0_add, add_i0, or_i0, z_8, z_4, z_64, z_256, ic_m2, ec_m1, ic_m1, m1_lt0, m2_lt0, m3_lt0, m4_lt0, up_s, if_true, if_false, ne_eq, not_true_eq_false, not_false_eq_true, Bool.false_eq_true, eq_self, or_self, or_false, false_or, and_self, and_true, true_and, ite_self, Nat.reduceEqDiff, Nat.reduceLT, Nat.reduceMod, Nat.reduceMul, Nat.reduceAdd, Nat.reducePow, Nat.reduceDiv, lt_2, lt_3, lt_4, lt_5, lt_6, lt_7, lt_8, lt_10, lt_11, lt_12, lt_15, lt_16, lt_18, lt_20, lt_24, lt_31, lt_32, lt_48, lt_57, lt_59, lt_63, lt_64, lt_74, lt_75, lt_97, lt_122, lt_128, lt_144, lt_145, lt_146, lt_147, lt_155, lt_163, lt_171, lt_179, lt_200, lt_243, lt_244, lt_255, lt_256, lt_732, lt_900, lt_3660, lt_3904, lt_4095, lt_65536, lt_65537, lt_252645135, lt_858993459, lt_1431655765, ↓p_has_b, p_has, ↓p_has9_b, p_has9, ↓p_bit_b, p_bit, ↓p_bit1_b, p_bit1, ↓p_bit0_b, p_bit0, p_X0_leftAtMost_4, Nat.lt_irrefl]
theorem g_left_b {F d : Nat} (hF : F < 65536) (hd : d < 31) (h : AH) {β : Type} (f9 : Int32 × AH → Option β) : (p_X0_leftAtMost (ic F) (ic d) h).bind f9 = f9 (ic (if cnt (fun n => F.testBit n) 16 - cnt (fun n => F.testBit n && n.testBit d) 16 < cnt (fun n => F.testBit n && n.testBit d) 16 then cnt (fun n => F.testBit n && n.testBit d) 16 else cnt (fun n => F.testBit n) 16 - cnt (fun n => F.testBit n && n.testBit d) 16), h) := bnd (by apply g_left <;> assumption)
theorem t_left (hV : TV T) {d : Nat} (hd : d < 31) (h : AH) : p_X0_leftAtMost (ic (fitM T)) (ic d) h = some (ic (lft T d), h) := by
  rw [g_left (fitM_lt hV) hd h, cnt_fit hV, cnt_fitd hV d]; rfl
theorem t_left_b (hV : TV T) {d : Nat} (hd : d < 31) (h : AH) {β : Type} (f9 : Int32 × AH → Option β) : (p_X0_leftAtMost (ic (fitM T)) (ic d) h).bind f9 = f9 (ic (lft T d), h) := bnd (by apply t_left <;> assumption)
theorem sub_z {x y : Int32} : x - y = 0 → y = x := fun h => by
  have h9 : x - y + y = 0 + y := by rw [h]
  rw [Int32.sub_add_cancel, Int32.zero_add] at h9
  exact h9.symm
theorem sub_m1 (x : Int32) (c : Nat) : x - ic c + m1 = x - ic (c + 1) := by
  rw [← ic_add1, Int32.sub_eq_add_neg, Int32.sub_eq_add_neg, Int32.neg_add, Int32.sub_eq_add_neg, Int32.add_assoc]; rfl
theorem cnt_mono {p : Nat → Bool} {i j : Nat} (h : i ≤ j) : cnt p i ≤ cnt p j := by
  induction j with
  | zero => rw [show i = 0 by omega]; exact Nat.le_refl _
  | succ j ih =>
    by_cases c : i = j + 1
    · rw [c]; exact Nat.le_refl _
    · have := ih (by omega)
      rw [cnt_succ]
      by_cases e : p j = true
      · rw [if_pos e]; omega
      · rw [if_neg e]; exact this
theorem g_setAt {F : Nat} (hF : F < 65536) (x : Int32) (h : AH) : p_X0_setAt (ic F) x h = some (fo (fun o f => if F.testBit o = true then (if ic (cnt (fun n => F.testBit n) o) = x then ic o else f) else f) 16 0 m1, h) := by
  have key : ∀ d k n, k + d = 16 → d < n → p_X0_setAt_4 n (ic F) (x - ic (cnt (fun n => F.testBit n) k)) (ic k) h = some (fo (fun o f => if F.testBit o = true then (if ic (cnt (fun n => F.testBit n) o) = x then ic o else f) else f) d k m1, h) := by
    intro d
    induction d with
    | zero =>
      intro k n h1 h2
      obtain ⟨n, rfl⟩ : ∃ m, n = m + 1 := ⟨n - 1, by omega⟩
      obtain rfl : k = 16 := by omega
      simp (maxSteps := 1000000) (disch := omega) only [↓reduceIte, ↓if_bi0, ↓if_bi1, hp_tg, hp_rI, hp_rR, hp_rL, hp_wI, hp_wL, Option.bind_some, if_11, if_01, bi_and1, i10, i01, bi_t, bi_f, ic_add, mr_4, ml_4, mr_8, ml_8, mr_10, ml_10, ic_add1, ic_sub1, ic_clamp, ic_div, ic_irm, ic_lt0, ic_0lt, ic_eq0, ic_lt, ic_inj, and15, and7, and31, and63, shl1, shr_ok, neg_1, neg_2, neg_3, neg_4, kc_lt0, kc_ic, kc_m2, kc_1, kc_0, i0_add, add_i0, or_i0, z_8, z_4, z_64, z_256, ic_m2, ec_m1, ic_m1, m1_lt0, m2_lt0, m3_lt0, m4_lt0, up_s, if_true, if_false, ne_eq, not_true_eq_false, not_false_eq_true, Bool.false_eq_true, eq_self, or_self, or_false, false_or, and_self, and_true, true_and, ite_self, Nat.reduceEqDiff, Nat.reduceLT, Nat.reduceMod, Nat.reduceMul, Nat.reduceAdd, Nat.reducePow, Nat.reduceDiv, lt_2, lt_3, lt_4, lt_5, lt_6, lt_7, lt_8, lt_10, lt_11, lt_12, lt_15, lt_16, lt_18, lt_20, lt_24, lt_31, lt_32, lt_48, lt_57, lt_59, lt_63, lt_64, lt_74, lt_75, lt_97, lt_122, lt_128, lt_144, lt_145, lt_146, lt_147, lt_155, lt_163, lt_171, lt_179, lt_200, lt_243, lt_244, lt_255, lt_256, lt_732, lt_900, lt_3660, lt_3904, lt_4095, lt_65536, lt_65537, lt_252645135, lt_858993459, lt_1431655765, ↓p_has_b, p_has, ↓p_has9_b, p_has9, ↓p_bit_b, p_bit, ↓p_bit1_b, p_bit1, ↓p_bit0_b, p_bit0, p_X0_setAt_4, Nat.lt_irrefl]
      rfl
    | succ d ih =>
      intro k n h1 h2
      obtain ⟨n, rfl⟩ : ∃ m, n = m + 1 := ⟨n - 1, by omega⟩
      have hk : k < 16 := by omega
      have A := ih (k + 1) n (by omega) (by omega)
      rw [cnt_succ] at A
      have hbp := hb_pow (w := F) (f := k) (by omega) (by omega)
      have cl := cnt_le (fun n => F.testBit n) k
      rw [fo]
      cases q : F.testBit k
      · rw [q] at hbp A
        rw [if_neg (by decide)] at A ⊢
        simp (maxSteps := 1000000) (disch := omega) only [↓reduceIte, ↓if_bi0, ↓if_bi1, hp_tg, hp_rI, hp_rR, hp_rL, hp_wI, hp_wL, Option.bind_some, if_11, if_01, bi_and1, i10, i01, bi_t, bi_f, ic_add, mr_4, ml_4, mr_8, ml_8, mr_10, ml_10, ic_add1, ic_sub1, ic_clamp, ic_div, ic_irm, ic_lt0, ic_0lt, ic_eq0, ic_lt, ic_inj, and15, and7, and31, and63, shl1, shr_ok, neg_1, neg_2, neg_3, neg_4, kc_lt0, kc_ic, kc_m2, kc_1, kc_0, i0_add, add_i0, or_i0, z_8, z_4, z_64, z_256, ic_m2, ec_m1, ic_m1, m1_lt0, m2_lt0, m3_lt0, m4_lt0, up_s, if_true, if_false, ne_eq, not_true_eq_false, not_false_eq_true, Bool.false_eq_true, eq_self, or_self, or_false, false_or, and_self, and_true, true_and, ite_self, Nat.reduceEqDiff, Nat.reduceLT, Nat.reduceMod, Nat.reduceMul, Nat.reduceAdd, Nat.reducePow, Nat.reduceDiv, lt_2, lt_3, lt_4, lt_5, lt_6, lt_7, lt_8, lt_10, lt_11, lt_12, lt_15, lt_16, lt_18, lt_20, lt_24, lt_31, lt_32, lt_48, lt_57, lt_59, lt_63, lt_64, lt_74, lt_75, lt_97, lt_122, lt_128, lt_144, lt_145, lt_146, lt_147, lt_155, lt_163, lt_171, lt_179, lt_200, lt_243, lt_244, lt_255, lt_256, lt_732, lt_900, lt_3660, lt_3904, lt_4095, lt_65536, lt_65537, lt_252645135, lt_858993459, lt_1431655765, ↓p_has_b, p_has, ↓p_has9_b, p_has9, ↓p_bit_b, p_bit, ↓p_bit1_b, p_bit1, ↓p_bit0_b, p_bit0, p_X0_setAt_4, p_X0_setAt_29, hk, show k % 32 = k by omega, hbp]
        exact A
      · rw [q] at hbp A
        rw [if_pos rfl] at A ⊢
        by_cases e : x - ic (cnt (fun n => F.testBit n) k) = 0
        · rw [if_pos (sub_z e)]
          have st := fo_inv (g := fun o f => if F.testBit o = true then (if ic (cnt (fun n => F.testBit n) o) = x then ic o else f) else f) (P := fun _ f => f = ic k) (d := d) (k := k + 1) (s := ic k) rfl (fun i f h3 h4 h5 => by
            have c1 := cnt_mono (p := fun n => F.testBit n) h3
            have c2 := cnt_le (fun n => F.testBit n) i
            rw [cnt_succ, q, if_pos rfl] at c1
            rw [h5]
            by_cases w : F.testBit i = true
            · rw [if_pos w, if_neg]
              rw [← sub_z e, ic_inj (by omega) (by omega)]
              omega
            · rw [if_neg w])
          rw [st, e]
          simp (maxSteps := 1000000) (disch := omega) only [↓reduceIte, ↓if_bi0, ↓if_bi1, hp_tg, hp_rI, hp_rR, hp_rL, hp_wI, hp_wL, Option.bind_some, if_11, if_01, bi_and1, i10, i01, bi_t, bi_f, ic_add, mr_4, ml_4, mr_8, ml_8, mr_10, ml_10, ic_add1, ic_sub1, ic_clamp, ic_div, ic_irm, ic_lt0, ic_0lt, ic_eq0, ic_lt, ic_inj, and15, and7, and31, and63, shl1, shr_ok, neg_1, neg_2, neg_3, neg_4, kc_lt0, kc_ic, kc_m2, kc_1, kc_0, i0_add, add_i0, or_i0, z_8, z_4, z_64, z_256, ic_m2, ec_m1, ic_m1, m1_lt0, m2_lt0, m3_lt0, m4_lt0, up_s, if_true, if_false, ne_eq, not_true_eq_false, not_false_eq_true, Bool.false_eq_true, eq_self, or_self, or_false, false_or, and_self, and_true, true_and, ite_self, Nat.reduceEqDiff, Nat.reduceLT, Nat.reduceMod, Nat.reduceMul, Nat.reduceAdd, Nat.reducePow, Nat.reduceDiv, lt_2, lt_3, lt_4, lt_5, lt_6, lt_7, lt_8, lt_10, lt_11, lt_12, lt_15, lt_16, lt_18, lt_20, lt_24, lt_31, lt_32, lt_48, lt_57, lt_59, lt_63, lt_64, lt_74, lt_75, lt_97, lt_122, lt_128, lt_144, lt_145, lt_146, lt_147, lt_155, lt_163, lt_171, lt_179, lt_200, lt_243, lt_244, lt_255, lt_256, lt_732, lt_900, lt_3660, lt_3904, lt_4095, lt_65536, lt_65537, lt_252645135, lt_858993459, lt_1431655765, ↓p_has_b, p_has, ↓p_has9_b, p_has9, ↓p_bit_b, p_bit, ↓p_bit1_b, p_bit1, ↓p_bit0_b, p_bit0, p_X0_setAt_4, hk, show k % 32 = k by omega, hbp]
        · rw [if_neg (fun w => e (by rw [w, Int32.sub_self]))]
          rw [← A, ← sub_m1]
          simp (maxSteps := 1000000) (disch := omega) only [↓reduceIte, ↓if_bi0, ↓if_bi1, hp_tg, hp_rI, hp_rR, hp_rL, hp_wI, hp_wL, Option.bind_some, if_11, if_01, bi_and1, i10, i01, bi_t, bi_f, ic_add, mr_4, ml_4, mr_8, ml_8, mr_10, ml_10, ic_add1, ic_sub1, ic_clamp, ic_div, ic_irm, ic_lt0, ic_0lt, ic_eq0, ic_lt, ic_inj, and15, and7, and31, and63, shl1, shr_ok, neg_1, neg_2, neg_3, neg_4, kc_lt0, kc_ic, kc_m2, kc_1, kc_0, i0_add, add_i0, or_i0, z_8, z_4, z_64, z_256, ic_m2, ec_m1, ic_m1, m1_lt0, m2_lt0, m3_lt0, m4_lt0, up_s, if_true, if_false, ne_eq, not_true_eq_false, not_false_eq_true, Bool.false_eq_true, eq_self, or_self, or_false, false_or, and_self, and_true, true_and, ite_self, Nat.reduceEqDiff, Nat.reduceLT, Nat.reduceMod, Nat.reduceMul, Nat.reduceAdd, Nat.reducePow, Nat.reduceDiv, lt_2, lt_3, lt_4, lt_5, lt_6, lt_7, lt_8, lt_10, lt_11, lt_12, lt_15, lt_16, lt_18, lt_20, lt_24, lt_31, lt_32, lt_48, lt_57, lt_59, lt_63, lt_64, lt_74, lt_75, lt_97, lt_122, lt_128, lt_144, lt_145, lt_146, lt_147, lt_155, lt_163, lt_171, lt_179, lt_200, lt_243, lt_244, lt_255, lt_256, lt_732, lt_900, lt_3660, lt_3904, lt_4095, lt_65536, lt_65537, lt_252645135, lt_858993459, lt_1431655765, ↓p_has_b, p_has, ↓p_has9_b, p_has9, ↓p_bit_b, p_bit, ↓p_bit1_b, p_bit1, ↓p_bit0_b, p_bit0, p_X0_setAt_4, p_X0_setAt_29, hk, show k % 32 = k by omega, hbp, e]
  have := key 16 0 FU (by omega) (fu_lt (by omega))
  rw [show x - ic (cnt (fun n => F.testBit n) 0) = x from Int32.sub_zero x] at this
  exact this
theorem g_setAt_b {F : Nat} (hF : F < 65536) (x : Int32) (h : AH) {β : Type} (f9 : Int32 × AH → Option β) : (p_X0_setAt (ic F) x h).bind f9 = f9 (fo (fun o f => if F.testBit o = true then (if ic (cnt (fun n => F.testBit n) o) = x then ic o else f) else f) 16 0 m1, h) := bnd (by apply g_setAt <;> assumption)
theorem t_setAt (hV : TV T) (x : Int32) (h : AH) : p_X0_setAt (ic (fitM T)) x h = some (fAt T x (2 ^ dN T), h) := by
  rw [g_setAt (fitM_lt hV) x h, fo_fit (fun o f => if ic (cnt (fun n => (fitM T).testBit n) o) = x then ic o else f) hV m1]
  unfold fAt
  refine congrArg (fun z => some (z, h)) (fo_congr fun i s _ h2 => ?_)
  rw [show cnt (fun n => (fitM T).testBit n) i = fN T i from cnt_congr fun j hj => tb_fit (by omega)]
theorem t_setAt_b (hV : TV T) (x : Int32) (h : AH) {β : Type} (f9 : Int32 × AH → Option β) : (p_X0_setAt (ic (fitM T)) x h).bind f9 = f9 (fAt T x (2 ^ dN T), h) := bnd (by apply t_setAt <;> assumption)
theorem bst_lt {T : TS} : ∀ (k j : Nat), fo (bst1 T) k 0 none = some j → j < k := by
  intro k
  induction k with
  | zero => intro j h; cases h
  | succ k ih =>
    intro j h
    rw [fo_last, Nat.zero_add] at h
    cases e : fo (bst1 T) k 0 none with
    | none => rw [e] at h; cases h; omega
    | some i =>
      have hi := ih i e
      rw [e] at h
      unfold bst1 at h
      rw [om_some] at h
      by_cases c : lft T k < lft T i
      · rw [if_pos c] at h; cases h; omega
      · rw [if_neg c] at h; cases h; omega
theorem lft_le (T : TS) (d : Nat) : lft T d ≤ 2 ^ dN T := by
  have h1 := oIn_le T d (2 ^ dN T)
  have h2 := fN_le T (2 ^ dN T)
  unfold lft
  by_cases c : fN T (2 ^ dN T) - oIn T d (2 ^ dN T) < oIn T d (2 ^ dN T)
  · rw [if_pos c]; omega
  · rw [if_neg c]; omega
theorem t_best (hV : TV T) (h : AH) : p_X0_bestToAsk (ic (fitM T)) (ic (dN T)) h = some (oc (bst T (dN T)), h) := by
  obtain ⟨hd4, hdb⟩ := hV.2.2.2.2.1
  have h16 := p2_4 hd4
  have hF := fitM_lt hV
  unfold bst
  by_cases z : fN T (2 ^ dN T) = 0
  · rw [if_pos z]
    have z' := (fN_0 hV).mp z
    show p_X0_bestToAsk_5 (9999 + 1) _ _ _ _ _ = _
    by_cases d : dN T = 0
    · rw [d, z']; simp (maxSteps := 1000000) (disch := omega) only [↓reduceIte, ↓if_bi0, ↓if_bi1, hp_tg, hp_rI, hp_rR, hp_rL, hp_wI, hp_wL, Option.bind_some, if_11, if_01, bi_and1, i10, i01, bi_t, bi_f, ic_add, mr_4, ml_4, mr_8, ml_8, mr_10, ml_10, ic_add1, ic_sub1, ic_clamp, ic_div, ic_irm, ic_lt0, ic_0lt, ic_eq0, ic_lt, ic_inj, and15, and7, and31, and63, shl1, shr_ok, neg_1, neg_2, neg_3, neg_4, kc_lt0, kc_ic, kc_m2, kc_1, kc_0, i0_add, add_i0, or_i0, z_8, z_4, z_64, z_256, ic_m2, ec_m1, ic_m1, m1_lt0, m2_lt0, m3_lt0, m4_lt0, up_s, if_true, if_false, ne_eq, not_true_eq_false, not_false_eq_true, Bool.false_eq_true, eq_self, or_self, or_false, false_or, and_self, and_true, true_and, ite_self, Nat.reduceEqDiff, Nat.reduceLT, Nat.reduceMod, Nat.reduceMul, Nat.reduceAdd, Nat.reducePow, Nat.reduceDiv, lt_2, lt_3, lt_4, lt_5, lt_6, lt_7, lt_8, lt_10, lt_11, lt_12, lt_15, lt_16, lt_18, lt_20, lt_24, lt_31, lt_32, lt_48, lt_57, lt_59, lt_63, lt_64, lt_74, lt_75, lt_97, lt_122, lt_128, lt_144, lt_145, lt_146, lt_147, lt_155, lt_163, lt_171, lt_179, lt_200, lt_243, lt_244, lt_255, lt_256, lt_732, lt_900, lt_3660, lt_3904, lt_4095, lt_65536, lt_65537, lt_252645135, lt_858993459, lt_1431655765, ↓p_has_b, p_has, ↓p_has9_b, p_has9, ↓p_bit_b, p_bit, ↓p_bit1_b, p_bit1, ↓p_bit0_b, p_bit0, p_X0_bestToAsk_5, p_X0_bestToAsk_39]; rfl
    · rw [z']; simp (maxSteps := 1000000) (disch := omega) only [↓reduceIte, ↓if_bi0, ↓if_bi1, hp_tg, hp_rI, hp_rR, hp_rL, hp_wI, hp_wL, Option.bind_some, if_11, if_01, bi_and1, i10, i01, bi_t, bi_f, ic_add, mr_4, ml_4, mr_8, ml_8, mr_10, ml_10, ic_add1, ic_sub1, ic_clamp, ic_div, ic_irm, ic_lt0, ic_0lt, ic_eq0, ic_lt, ic_inj, and15, and7, and31, and63, shl1, shr_ok, neg_1, neg_2, neg_3, neg_4, kc_lt0, kc_ic, kc_m2, kc_1, kc_0, i0_add, add_i0, or_i0, z_8, z_4, z_64, z_256, ic_m2, ec_m1, ic_m1, m1_lt0, m2_lt0, m3_lt0, m4_lt0, up_s, if_true, if_false, ne_eq, not_true_eq_false, not_false_eq_true, Bool.false_eq_true, eq_self, or_self, or_false, false_or, and_self, and_true, true_and, ite_self, Nat.reduceEqDiff, Nat.reduceLT, Nat.reduceMod, Nat.reduceMul, Nat.reduceAdd, Nat.reducePow, Nat.reduceDiv, lt_2, lt_3, lt_4, lt_5, lt_6, lt_7, lt_8, lt_10, lt_11, lt_12, lt_15, lt_16, lt_18, lt_20, lt_24, lt_31, lt_32, lt_48, lt_57, lt_59, lt_63, lt_64, lt_74, lt_75, lt_97, lt_122, lt_128, lt_144, lt_145, lt_146, lt_147, lt_155, lt_163, lt_171, lt_179, lt_200, lt_243, lt_244, lt_255, lt_256, lt_732, lt_900, lt_3660, lt_3904, lt_4095, lt_65536, lt_65537, lt_252645135, lt_858993459, lt_1431655765, ↓p_has_b, p_has, ↓p_has9_b, p_has9, ↓p_bit_b, p_bit, ↓p_bit1_b, p_bit1, ↓p_bit0_b, p_bit0, p_X0_bestToAsk_5, p_X0_bestToAsk_39, show 0 < dN T by omega]; rfl
  · rw [if_neg z]
    have z' : fitM T ≠ 0 := fun q => z ((fN_0 hV).mpr q)
    have := lp_to (fun x k (c : Option Nat) => p_X0_bestToAsk_5 x (ic (fitM T)) (ic (dN T)) (oc c) (ic k) h) (dN T) (fun k c => c = fo (bst1 T) k 0 none) (fun c => some (oc c, h)) (fun x k c hk hc => ?_) (fun x c hc => ?_) (dN T) 0 FU none (by omega) (fu_lt (by omega)) rfl
    · obtain ⟨c, e, rfl⟩ := this
      exact e
    · refine ⟨bst1 T k c, ?_, by rw [fo_last, Nat.zero_add, hc]⟩
      have hk4 : k < 4 := by omega
      cases c with
      | none => simp (maxSteps := 1000000) (disch := omega) only [↓reduceIte, ↓if_bi0, ↓if_bi1, hp_tg, hp_rI, hp_rR, hp_rL, hp_wI, hp_wL, Option.bind_some, if_11, if_01, bi_and1, i10, i01, bi_t, bi_f, ic_add, mr_4, ml_4, mr_8, ml_8, mr_10, ml_10, ic_add1, ic_sub1, ic_clamp, ic_div, ic_irm, ic_lt0, ic_0lt, ic_eq0, ic_lt, ic_inj, and15, and7, and31, and63, shl1, shr_ok, neg_1, neg_2, neg_3, neg_4, kc_lt0, kc_ic, kc_m2, kc_1, kc_0, i0_add, add_i0, or_i0, z_8, z_4, z_64, z_256, ic_m2, ec_m1, ic_m1, m1_lt0, m2_lt0, m3_lt0, m4_lt0, up_s, if_true, if_false, ne_eq, not_true_eq_false, not_false_eq_true, Bool.false_eq_true, eq_self, or_self, or_false, false_or, and_self, and_true, true_and, ite_self, Nat.reduceEqDiff, Nat.reduceLT, Nat.reduceMod, Nat.reduceMul, Nat.reduceAdd, Nat.reducePow, Nat.reduceDiv, lt_2, lt_3, lt_4, lt_5, lt_6, lt_7, lt_8, lt_10, lt_11, lt_12, lt_15, lt_16, lt_18, lt_20, lt_24, lt_31, lt_32, lt_48, lt_57, lt_59, lt_63, lt_64, lt_74, lt_75, lt_97, lt_122, lt_128, lt_144, lt_145, lt_146, lt_147, lt_155, lt_163, lt_171, lt_179, lt_200, lt_243, lt_244, lt_255, lt_256, lt_732, lt_900, lt_3660, lt_3904, lt_4095, lt_65536, lt_65537, lt_252645135, lt_858993459, lt_1431655765, ↓p_has_b, p_has, ↓p_has9_b, p_has9, ↓p_bit_b, p_bit, ↓p_bit1_b, p_bit1, ↓p_bit0_b, p_bit0, p_X0_bestToAsk_5, p_X0_bestToAsk_31, p_X0_bestToAsk_33, hk, z', oc, om_none, om_some, bst1]
      | some j =>
        have hj := bst_lt k j hc.symm
        have A := t_left hV (d := k) (by omega) h
        have B9 := t_left hV (d := j) (by omega) h
        have l1 := lft_le T k
        have l2 := lft_le T j
        by_cases e : lft T k < lft T j
        · simp (maxSteps := 1000000) (disch := omega) only [↓reduceIte, ↓if_bi0, ↓if_bi1, hp_tg, hp_rI, hp_rR, hp_rL, hp_wI, hp_wL, Option.bind_some, if_11, if_01, bi_and1, i10, i01, bi_t, bi_f, ic_add, mr_4, ml_4, mr_8, ml_8, mr_10, ml_10, ic_add1, ic_sub1, ic_clamp, ic_div, ic_irm, ic_lt0, ic_0lt, ic_eq0, ic_lt, ic_inj, and15, and7, and31, and63, shl1, shr_ok, neg_1, neg_2, neg_3, neg_4, kc_lt0, kc_ic, kc_m2, kc_1, kc_0, i0_add, add_i0, or_i0, z_8, z_4, z_64, z_256, ic_m2, ec_m1, ic_m1, m1_lt0, m2_lt0, m3_lt0, m4_lt0, up_s, if_true, if_false, ne_eq, not_true_eq_false, not_false_eq_true, Bool.false_eq_true, eq_self, or_self, or_false, false_or, and_self, and_true, true_and, ite_self, Nat.reduceEqDiff, Nat.reduceLT, Nat.reduceMod, Nat.reduceMul, Nat.reduceAdd, Nat.reducePow, Nat.reduceDiv, lt_2, lt_3, lt_4, lt_5, lt_6, lt_7, lt_8, lt_10, lt_11, lt_12, lt_15, lt_16, lt_18, lt_20, lt_24, lt_31, lt_32, lt_48, lt_57, lt_59, lt_63, lt_64, lt_74, lt_75, lt_97, lt_122, lt_128, lt_144, lt_145, lt_146, lt_147, lt_155, lt_163, lt_171, lt_179, lt_200, lt_243, lt_244, lt_255, lt_256, lt_732, lt_900, lt_3660, lt_3904, lt_4095, lt_65536, lt_65537, lt_252645135, lt_858993459, lt_1431655765, ↓p_has_b, p_has, ↓p_has9_b, p_has9, ↓p_bit_b, p_bit, ↓p_bit1_b, p_bit1, ↓p_bit0_b, p_bit0, p_X0_bestToAsk_5, p_X0_bestToAsk_31, p_X0_bestToAsk_33, hk, z', oc, om_none, om_some, bst1, ↓bnd (A), A, ↓bnd (B9), B9, e]
        · simp (maxSteps := 1000000) (disch := omega) only [↓reduceIte, ↓if_bi0, ↓if_bi1, hp_tg, hp_rI, hp_rR, hp_rL, hp_wI, hp_wL, Option.bind_some, if_11, if_01, bi_and1, i10, i01, bi_t, bi_f, ic_add, mr_4, ml_4, mr_8, ml_8, mr_10, ml_10, ic_add1, ic_sub1, ic_clamp, ic_div, ic_irm, ic_lt0, ic_0lt, ic_eq0, ic_lt, ic_inj, and15, and7, and31, and63, shl1, shr_ok, neg_1, neg_2, neg_3, neg_4, kc_lt0, kc_ic, kc_m2, kc_1, kc_0, i0_add, add_i0, or_i0, z_8, z_4, z_64, z_256, ic_m2, ec_m1, ic_m1, m1_lt0, m2_lt0, m3_lt0, m4_lt0, up_s, if_true, if_false, ne_eq, not_true_eq_false, not_false_eq_true, Bool.false_eq_true, eq_self, or_self, or_false, false_or, and_self, and_true, true_and, ite_self, Nat.reduceEqDiff, Nat.reduceLT, Nat.reduceMod, Nat.reduceMul, Nat.reduceAdd, Nat.reducePow, Nat.reduceDiv, lt_2, lt_3, lt_4, lt_5, lt_6, lt_7, lt_8, lt_10, lt_11, lt_12, lt_15, lt_16, lt_18, lt_20, lt_24, lt_31, lt_32, lt_48, lt_57, lt_59, lt_63, lt_64, lt_74, lt_75, lt_97, lt_122, lt_128, lt_144, lt_145, lt_146, lt_147, lt_155, lt_163, lt_171, lt_179, lt_200, lt_243, lt_244, lt_255, lt_256, lt_732, lt_900, lt_3660, lt_3904, lt_4095, lt_65536, lt_65537, lt_252645135, lt_858993459, lt_1431655765, ↓p_has_b, p_has, ↓p_has9_b, p_has9, ↓p_bit_b, p_bit, ↓p_bit1_b, p_bit1, ↓p_bit0_b, p_bit0, p_X0_bestToAsk_5, p_X0_bestToAsk_31, p_X0_bestToAsk_33, hk, z', oc, om_none, om_some, bst1, ↓bnd (A), A, ↓bnd (B9), B9, e]
    · simp (maxSteps := 1000000) (disch := omega) only [↓reduceIte, ↓if_bi0, ↓if_bi1, hp_tg, hp_rI, hp_rR, hp_rL, hp_wI, hp_wL, Option.bind_some, if_11, if_01, bi_and1, i10, i01, bi_t, bi_f, ic_add, mr_4, ml_4, mr_8, ml_8, mr_10, ml_10, ic_add1, ic_sub1, ic_clamp, ic_div, ic_irm, ic_lt0, ic_0lt, ic_eq0, ic_lt, ic_inj, and15, and7, and31, and63, shl1, shr_ok, neg_1, neg_2, neg_3, neg_4, kc_lt0, kc_ic, kc_m2, kc_1, kc_0, i0_add, add_i0, or_i0, z_8, z_4, z_64, z_256, ic_m2, ec_m1, ic_m1, m1_lt0, m2_lt0, m3_lt0, m4_lt0, up_s, if_true, if_false, ne_eq, not_true_eq_false, not_false_eq_true, Bool.false_eq_true, eq_self, or_self, or_false, false_or, and_self, and_true, true_and, ite_self, Nat.reduceEqDiff, Nat.reduceLT, Nat.reduceMod, Nat.reduceMul, Nat.reduceAdd, Nat.reducePow, Nat.reduceDiv, lt_2, lt_3, lt_4, lt_5, lt_6, lt_7, lt_8, lt_10, lt_11, lt_12, lt_15, lt_16, lt_18, lt_20, lt_24, lt_31, lt_32, lt_48, lt_57, lt_59, lt_63, lt_64, lt_74, lt_75, lt_97, lt_122, lt_128, lt_144, lt_145, lt_146, lt_147, lt_155, lt_163, lt_171, lt_179, lt_200, lt_243, lt_244, lt_255, lt_256, lt_732, lt_900, lt_3660, lt_3904, lt_4095, lt_65536, lt_65537, lt_252645135, lt_858993459, lt_1431655765, ↓p_has_b, p_has, ↓p_has9_b, p_has9, ↓p_bit_b, p_bit, ↓p_bit1_b, p_bit1, ↓p_bit0_b, p_bit0, p_X0_bestToAsk_5, p_X0_bestToAsk_39, Nat.lt_irrefl]
theorem t_best_b (hV : TV T) (h : AH) {β : Type} (f9 : Int32 × AH → Option β) : (p_X0_bestToAsk (ic (fitM T)) (ic (dN T)) h).bind f9 = f9 (oc (bst T (dN T)), h) := bnd (by apply t_best <;> assumption)
theorem x_asks (hL : ML S m) (ha : tR S m 3 = a) (hA : MCL S a) (hm : m + 6 < a) (hR : MR I a T) (hV : TV T) : ∃ I', p_X9_asks m (hp S I L) = some (oc (bst T (dN T)), hp S I' L) ∧ I' m 40 = om (bst T (dN T)) m2 (fun d => ic (lft T d)) ∧ (∀ j, j < 26 → I' m j = I m j) ∧ ∀ b, b ≠ m → b ≠ m + 3 → b ≠ m + 6 → I' b = I b := by
  obtain ⟨hd4, hdb⟩ := hV.2.2.2.2.1
  have h16 := p2_4 hd4
  obtain ⟨c, e1, q36, -, -, qy, qj, qb⟩ := x_fitting (L := L) hL ha hA hm hR hV m1
  have l0 := hA.1
  have c6 : c a 6 = ic (dN T) := by rw [qb a (by omega) (by omega) (by omega)]; exact hR.2.2.2.2.2.2.1.1
  have fle := fN_le T (2 ^ dN T)
  unfold p_X9_asks
  simp only [↓reduceIte, ↓if_bi0, hp_tg, hp_rR, hp_rI, hp_wI, eq_self, bi_t, bi_f, i10, if_true, if_false, Bool.false_eq_true, hL.t]
  rw [show (-1 : Int32) = m1 from rfl, show (-2 : Int32) = m2 from rfl]
  unfold bst
  by_cases z : fN T (2 ^ dN T) = 0
  · rw [if_pos z]
    refine ⟨up2 c m 40 m2, ?_, by rw [up_s]; rfl, fun j hj => by rw [up_k (by omega)]; exact qj j hj, fun b u1 u2 u3 => by rw [show up2 c m 40 m2 b = c b from funext fun j => up_a u1]; exact qb b u1 u2 u3⟩
    refine Eq.trans (bnd e1) ?_
    have w6 : up2 c m 40 m2 a 6 = ic (dN T) := by rw [up_a (by omega)]; exact c6
    have w36 : up2 c m 40 m2 m 36 = ic 0 := by rw [up_k (by omega), q36, z]
    simp only [↓reduceIte, ↓if_bi0, hp_tg, hp_rR, hp_rI, hp_wI, eq_self, bi_t, bi_f, i10, if_true, if_false, Bool.false_eq_true, hL.t]
    show p_X9_asks_17 (9999 + 1) _ _ _ _ = _
    by_cases d : dN T = 0
    · rw [d] at w6; simp (maxSteps := 1000000) (disch := omega) only [↓reduceIte, ↓if_bi0, ↓if_bi1, hp_tg, hp_rI, hp_rR, hp_rL, hp_wI, hp_wL, Option.bind_some, if_11, if_01, bi_and1, i10, i01, bi_t, bi_f, ic_add, mr_4, ml_4, mr_8, ml_8, mr_10, ml_10, ic_add1, ic_sub1, ic_clamp, ic_div, ic_irm, ic_lt0, ic_0lt, ic_eq0, ic_lt, ic_inj, and15, and7, and31, and63, shl1, shr_ok, neg_1, neg_2, neg_3, neg_4, kc_lt0, kc_ic, kc_m2, kc_1, kc_0, i0_add, add_i0, or_i0, z_8, z_4, z_64, z_256, ic_m2, ec_m1, ic_m1, m1_lt0, m2_lt0, m3_lt0, m4_lt0, up_s, if_true, if_false, ne_eq, not_true_eq_false, not_false_eq_true, Bool.false_eq_true, eq_self, or_self, or_false, false_or, and_self, and_true, true_and, ite_self, Nat.reduceEqDiff, Nat.reduceLT, Nat.reduceMod, Nat.reduceMul, Nat.reduceAdd, Nat.reducePow, Nat.reduceDiv, lt_2, lt_3, lt_4, lt_5, lt_6, lt_7, lt_8, lt_10, lt_11, lt_12, lt_15, lt_16, lt_18, lt_20, lt_24, lt_31, lt_32, lt_48, lt_57, lt_59, lt_63, lt_64, lt_74, lt_75, lt_97, lt_122, lt_128, lt_144, lt_145, lt_146, lt_147, lt_155, lt_163, lt_171, lt_179, lt_200, lt_243, lt_244, lt_255, lt_256, lt_732, lt_900, lt_3660, lt_3904, lt_4095, lt_65536, lt_65537, lt_252645135, lt_858993459, lt_1431655765, ↓p_has_b, p_has, ↓p_has9_b, p_has9, ↓p_bit_b, p_bit, ↓p_bit1_b, p_bit1, ↓p_bit0_b, p_bit0, p_X9_asks_17, p_X9_asks_106, hL.t, ha, l0, w6, w36]; rfl
    · simp (maxSteps := 1000000) (disch := omega) only [↓reduceIte, ↓if_bi0, ↓if_bi1, hp_tg, hp_rI, hp_rR, hp_rL, hp_wI, hp_wL, Option.bind_some, if_11, if_01, bi_and1, i10, i01, bi_t, bi_f, ic_add, mr_4, ml_4, mr_8, ml_8, mr_10, ml_10, ic_add1, ic_sub1, ic_clamp, ic_div, ic_irm, ic_lt0, ic_0lt, ic_eq0, ic_lt, ic_inj, and15, and7, and31, and63, shl1, shr_ok, neg_1, neg_2, neg_3, neg_4, kc_lt0, kc_ic, kc_m2, kc_1, kc_0, i0_add, add_i0, or_i0, z_8, z_4, z_64, z_256, ic_m2, ec_m1, ic_m1, m1_lt0, m2_lt0, m3_lt0, m4_lt0, up_s, if_true, if_false, ne_eq, not_true_eq_false, not_false_eq_true, Bool.false_eq_true, eq_self, or_self, or_false, false_or, and_self, and_true, true_and, ite_self, Nat.reduceEqDiff, Nat.reduceLT, Nat.reduceMod, Nat.reduceMul, Nat.reduceAdd, Nat.reducePow, Nat.reduceDiv, lt_2, lt_3, lt_4, lt_5, lt_6, lt_7, lt_8, lt_10, lt_11, lt_12, lt_15, lt_16, lt_18, lt_20, lt_24, lt_31, lt_32, lt_48, lt_57, lt_59, lt_63, lt_64, lt_74, lt_75, lt_97, lt_122, lt_128, lt_144, lt_145, lt_146, lt_147, lt_155, lt_163, lt_171, lt_179, lt_200, lt_243, lt_244, lt_255, lt_256, lt_732, lt_900, lt_3660, lt_3904, lt_4095, lt_65536, lt_65537, lt_252645135, lt_858993459, lt_1431655765, ↓p_has_b, p_has, ↓p_has9_b, p_has9, ↓p_bit_b, p_bit, ↓p_bit1_b, p_bit1, ↓p_bit0_b, p_bit0, p_X9_asks_17, p_X9_asks_106, hL.t, ha, l0, w6, w36, show 0 < dN T by omega]; rfl
  · rw [if_neg z]
    have := lp_to (fun x k (c : Option Nat × II) => p_X9_asks_17 x m (oc c.1) (ic k) (hp S c.2 L)) (dN T) (fun k r => r.1 = fo (bst1 T) k 0 none ∧ r.2 m 40 = om r.1 m2 (fun d => ic (lft T d)) ∧ (∀ j, j ≠ 40 → r.2 m j = c m j) ∧ ∀ b, b ≠ m → r.2 b = c b) (fun r => some (oc r.1, hp S r.2 L)) (fun x k r hk hr => ?_) (fun x r hr => ?_) (dN T) 0 FU (none, up2 c m 40 m2) (by omega) (fu_lt (by omega)) ⟨rfl, by show up2 c m 40 m2 m 40 = m2; rw [up_s], fun j hj => by show up2 c m 40 m2 m j = _; rw [up_k hj], fun b hb => funext fun j => up_a hb⟩
    · obtain ⟨⟨o, J⟩, e, h1, h2, h3, h4⟩ := this
      dsimp only at h1 h2 h3 h4 e
      subst h1
      refine ⟨J, ?_, h2, fun j hj => by rw [h3 j (by omega)]; exact qj j hj, fun b u1 u2 u3 => by rw [h4 b u1]; exact qb b u1 u2 u3⟩
      refine Eq.trans (bnd e1) ?_
      simp only [↓reduceIte, ↓if_bi0, hp_tg, hp_rR, hp_rI, hp_wI, eq_self, bi_t, bi_f, i10, if_true, if_false, Bool.false_eq_true, hL.t]
      exact e
    · obtain ⟨o, J⟩ := r
      obtain ⟨h1, h2, h3, h4⟩ := hr
      dsimp only at h1 h2 h3 h4
      have hk4 : k < 4 := by omega
      have j6 : J a 6 = ic (dN T) := by rw [h4 a (by omega)]; exact c6
      have j36 : J m 36 = ic (fN T (2 ^ dN T)) := by rw [h3 36 (by omega)]; exact q36
      have jk : J (m + 6) k = ic (oIn T k (2 ^ dN T)) := by rw [h4 (m + 6) (by omega)]; exact qy k hk
      have hle := oIn_le T k (2 ^ dN T)
      have l1 := lft_le T k
      have key : ∀ v : Nat, v = lft T k → ∃ s' : Option Nat × II, p_X9_asks_75 (p_X9_asks_17 x) m (oc o) (ic k) (ic v) (hp S J L) = p_X9_asks_17 x m (oc s'.1) (ic (k + 1)) (hp S s'.2 L) ∧ s'.1 = fo (bst1 T) (k + 1) 0 none ∧ s'.2 m 40 = om s'.1 m2 (fun d => ic (lft T d)) ∧ (∀ j, j ≠ 40 → s'.2 m j = c m j) ∧ ∀ b, b ≠ m → s'.2 b = c b := by
        intro v hv
        have tak : up2 J m 40 (ic v) m 40 = om (some k) m2 (fun d => ic (lft T d)) ∧ (∀ j, j ≠ 40 → up2 J m 40 (ic v) m j = c m j) ∧ ∀ b, b ≠ m → up2 J m 40 (ic v) b = c b := ⟨by rw [up_s, hv]; rfl, fun j hj => by rw [up_k hj]; exact h3 j hj, fun b hb => by rw [show up2 J m 40 (ic v) b = J b from funext fun j => up_a hb]; exact h4 b hb⟩
        cases o with
        | none =>
          refine ⟨(some k, up2 J m 40 (ic v)), ?_, by rw [fo_last, Nat.zero_add, ← h1]; rfl, tak⟩
          simp (maxSteps := 1000000) (disch := omega) only [↓reduceIte, ↓if_bi0, ↓if_bi1, hp_tg, hp_rI, hp_rR, hp_rL, hp_wI, hp_wL, Option.bind_some, if_11, if_01, bi_and1, i10, i01, bi_t, bi_f, ic_add, mr_4, ml_4, mr_8, ml_8, mr_10, ml_10, ic_add1, ic_sub1, ic_clamp, ic_div, ic_irm, ic_lt0, ic_0lt, ic_eq0, ic_lt, ic_inj, and15, and7, and31, and63, shl1, shr_ok, neg_1, neg_2, neg_3, neg_4, kc_lt0, kc_ic, kc_m2, kc_1, kc_0, i0_add, add_i0, or_i0, z_8, z_4, z_64, z_256, ic_m2, ec_m1, ic_m1, m1_lt0, m2_lt0, m3_lt0, m4_lt0, up_s, if_true, if_false, ne_eq, not_true_eq_false, not_false_eq_true, Bool.false_eq_true, eq_self, or_self, or_false, false_or, and_self, and_true, true_and, ite_self, Nat.reduceEqDiff, Nat.reduceLT, Nat.reduceMod, Nat.reduceMul, Nat.reduceAdd, Nat.reducePow, Nat.reduceDiv, lt_2, lt_3, lt_4, lt_5, lt_6, lt_7, lt_8, lt_10, lt_11, lt_12, lt_15, lt_16, lt_18, lt_20, lt_24, lt_31, lt_32, lt_48, lt_57, lt_59, lt_63, lt_64, lt_74, lt_75, lt_97, lt_122, lt_128, lt_144, lt_145, lt_146, lt_147, lt_155, lt_163, lt_171, lt_179, lt_200, lt_243, lt_244, lt_255, lt_256, lt_732, lt_900, lt_3660, lt_3904, lt_4095, lt_65536, lt_65537, lt_252645135, lt_858993459, lt_1431655765, ↓p_has_b, p_has, ↓p_has9_b, p_has9, ↓p_bit_b, p_bit, ↓p_bit1_b, p_bit1, ↓p_bit0_b, p_bit0, p_X9_asks_75, p_X9_asks_93, p_X9_asks_100, hL.t, oc, om_none, om_some]
        | some j =>
          have hj := bst_lt k j h1.symm
          have l2 := lft_le T j
          rw [om_some] at h2
          by_cases e : lft T k < lft T j
          · refine ⟨(some k, up2 J m 40 (ic v)), ?_, by rw [fo_last, Nat.zero_add, ← h1]; unfold bst1; rw [om_some, if_pos e], tak⟩
            subst hv
            simp (maxSteps := 1000000) (disch := omega) only [↓reduceIte, ↓if_bi0, ↓if_bi1, hp_tg, hp_rI, hp_rR, hp_rL, hp_wI, hp_wL, Option.bind_some, if_11, if_01, bi_and1, i10, i01, bi_t, bi_f, ic_add, mr_4, ml_4, mr_8, ml_8, mr_10, ml_10, ic_add1, ic_sub1, ic_clamp, ic_div, ic_irm, ic_lt0, ic_0lt, ic_eq0, ic_lt, ic_inj, and15, and7, and31, and63, shl1, shr_ok, neg_1, neg_2, neg_3, neg_4, kc_lt0, kc_ic, kc_m2, kc_1, kc_0, i0_add, add_i0, or_i0, z_8, z_4, z_64, z_256, ic_m2, ec_m1, ic_m1, m1_lt0, m2_lt0, m3_lt0, m4_lt0, up_s, if_true, if_false, ne_eq, not_true_eq_false, not_false_eq_true, Bool.false_eq_true, eq_self, or_self, or_false, false_or, and_self, and_true, true_and, ite_self, Nat.reduceEqDiff, Nat.reduceLT, Nat.reduceMod, Nat.reduceMul, Nat.reduceAdd, Nat.reducePow, Nat.reduceDiv, lt_2, lt_3, lt_4, lt_5, lt_6, lt_7, lt_8, lt_10, lt_11, lt_12, lt_15, lt_16, lt_18, lt_20, lt_24, lt_31, lt_32, lt_48, lt_57, lt_59, lt_63, lt_64, lt_74, lt_75, lt_97, lt_122, lt_128, lt_144, lt_145, lt_146, lt_147, lt_155, lt_163, lt_171, lt_179, lt_200, lt_243, lt_244, lt_255, lt_256, lt_732, lt_900, lt_3660, lt_3904, lt_4095, lt_65536, lt_65537, lt_252645135, lt_858993459, lt_1431655765, ↓p_has_b, p_has, ↓p_has9_b, p_has9, ↓p_bit_b, p_bit, ↓p_bit1_b, p_bit1, ↓p_bit0_b, p_bit0, p_X9_asks_75, p_X9_asks_93, p_X9_asks_100, hL.t, oc, om_none, om_some, h2, e]
          · refine ⟨(some j, J), ?_, by rw [fo_last, Nat.zero_add, ← h1]; unfold bst1; rw [om_some, if_neg e], by rw [om_some]; exact h2, h3, h4⟩
            subst hv
            simp (maxSteps := 1000000) (disch := omega) only [↓reduceIte, ↓if_bi0, ↓if_bi1, hp_tg, hp_rI, hp_rR, hp_rL, hp_wI, hp_wL, Option.bind_some, if_11, if_01, bi_and1, i10, i01, bi_t, bi_f, ic_add, mr_4, ml_4, mr_8, ml_8, mr_10, ml_10, ic_add1, ic_sub1, ic_clamp, ic_div, ic_irm, ic_lt0, ic_0lt, ic_eq0, ic_lt, ic_inj, and15, and7, and31, and63, shl1, shr_ok, neg_1, neg_2, neg_3, neg_4, kc_lt0, kc_ic, kc_m2, kc_1, kc_0, i0_add, add_i0, or_i0, z_8, z_4, z_64, z_256, ic_m2, ec_m1, ic_m1, m1_lt0, m2_lt0, m3_lt0, m4_lt0, up_s, if_true, if_false, ne_eq, not_true_eq_false, not_false_eq_true, Bool.false_eq_true, eq_self, or_self, or_false, false_or, and_self, and_true, true_and, ite_self, Nat.reduceEqDiff, Nat.reduceLT, Nat.reduceMod, Nat.reduceMul, Nat.reduceAdd, Nat.reducePow, Nat.reduceDiv, lt_2, lt_3, lt_4, lt_5, lt_6, lt_7, lt_8, lt_10, lt_11, lt_12, lt_15, lt_16, lt_18, lt_20, lt_24, lt_31, lt_32, lt_48, lt_57, lt_59, lt_63, lt_64, lt_74, lt_75, lt_97, lt_122, lt_128, lt_144, lt_145, lt_146, lt_147, lt_155, lt_163, lt_171, lt_179, lt_200, lt_243, lt_244, lt_255, lt_256, lt_732, lt_900, lt_3660, lt_3904, lt_4095, lt_65536, lt_65537, lt_252645135, lt_858993459, lt_1431655765, ↓p_has_b, p_has, ↓p_has9_b, p_has9, ↓p_bit_b, p_bit, ↓p_bit1_b, p_bit1, ↓p_bit0_b, p_bit0, p_X9_asks_75, p_X9_asks_93, p_X9_asks_100, hL.t, oc, om_none, om_some, h2, e]
      show ∃ s' : Option Nat × II, p_X9_asks_17 (x + 1) m (oc o) (ic k) (hp S J L) = p_X9_asks_17 x m (oc s'.1) (ic (k + 1)) (hp S s'.2 L) ∧ _
      by_cases e : fN T (2 ^ dN T) - oIn T k (2 ^ dN T) < oIn T k (2 ^ dN T)
      · obtain ⟨s', w, w'⟩ := key (oIn T k (2 ^ dN T)) (by unfold lft; rw [if_pos e])
        refine ⟨s', Eq.trans ?_ w, w'⟩
        rw [p_X9_asks_17.eq_2]
        simp (maxSteps := 1000000) (disch := omega) only [↓reduceIte, ↓if_bi0, ↓if_bi1, hp_tg, hp_rI, hp_rR, hp_rL, hp_wI, hp_wL, Option.bind_some, if_11, if_01, bi_and1, i10, i01, bi_t, bi_f, ic_add, mr_4, ml_4, mr_8, ml_8, mr_10, ml_10, ic_add1, ic_sub1, ic_clamp, ic_div, ic_irm, ic_lt0, ic_0lt, ic_eq0, ic_lt, ic_inj, and15, and7, and31, and63, shl1, shr_ok, neg_1, neg_2, neg_3, neg_4, kc_lt0, kc_ic, kc_m2, kc_1, kc_0, i0_add, add_i0, or_i0, z_8, z_4, z_64, z_256, ic_m2, ec_m1, ic_m1, m1_lt0, m2_lt0, m3_lt0, m4_lt0, up_s, if_true, if_false, ne_eq, not_true_eq_false, not_false_eq_true, Bool.false_eq_true, eq_self, or_self, or_false, false_or, and_self, and_true, true_and, ite_self, Nat.reduceEqDiff, Nat.reduceLT, Nat.reduceMod, Nat.reduceMul, Nat.reduceAdd, Nat.reducePow, Nat.reduceDiv, lt_2, lt_3, lt_4, lt_5, lt_6, lt_7, lt_8, lt_10, lt_11, lt_12, lt_15, lt_16, lt_18, lt_20, lt_24, lt_31, lt_32, lt_48, lt_57, lt_59, lt_63, lt_64, lt_74, lt_75, lt_97, lt_122, lt_128, lt_144, lt_145, lt_146, lt_147, lt_155, lt_163, lt_171, lt_179, lt_200, lt_243, lt_244, lt_255, lt_256, lt_732, lt_900, lt_3660, lt_3904, lt_4095, lt_65536, lt_65537, lt_252645135, lt_858993459, lt_1431655765, ↓p_has_b, p_has, ↓p_has9_b, p_has9, ↓p_bit_b, p_bit, ↓p_bit1_b, p_bit1, ↓p_bit0_b, p_bit0, hL.t, ha, l0, hL.y, if_inB hL.yt, j6, hk, j36, show 0 < fN T (2 ^ dN T) by omega, jk, ic_sub hle, e]
      · obtain ⟨s', w, w'⟩ := key (fN T (2 ^ dN T) - oIn T k (2 ^ dN T)) (by unfold lft; rw [if_neg e])
        refine ⟨s', Eq.trans ?_ w, w'⟩
        rw [p_X9_asks_17.eq_2]
        simp (maxSteps := 1000000) (disch := omega) only [↓reduceIte, ↓if_bi0, ↓if_bi1, hp_tg, hp_rI, hp_rR, hp_rL, hp_wI, hp_wL, Option.bind_some, if_11, if_01, bi_and1, i10, i01, bi_t, bi_f, ic_add, mr_4, ml_4, mr_8, ml_8, mr_10, ml_10, ic_add1, ic_sub1, ic_clamp, ic_div, ic_irm, ic_lt0, ic_0lt, ic_eq0, ic_lt, ic_inj, and15, and7, and31, and63, shl1, shr_ok, neg_1, neg_2, neg_3, neg_4, kc_lt0, kc_ic, kc_m2, kc_1, kc_0, i0_add, add_i0, or_i0, z_8, z_4, z_64, z_256, ic_m2, ec_m1, ic_m1, m1_lt0, m2_lt0, m3_lt0, m4_lt0, up_s, if_true, if_false, ne_eq, not_true_eq_false, not_false_eq_true, Bool.false_eq_true, eq_self, or_self, or_false, false_or, and_self, and_true, true_and, ite_self, Nat.reduceEqDiff, Nat.reduceLT, Nat.reduceMod, Nat.reduceMul, Nat.reduceAdd, Nat.reducePow, Nat.reduceDiv, lt_2, lt_3, lt_4, lt_5, lt_6, lt_7, lt_8, lt_10, lt_11, lt_12, lt_15, lt_16, lt_18, lt_20, lt_24, lt_31, lt_32, lt_48, lt_57, lt_59, lt_63, lt_64, lt_74, lt_75, lt_97, lt_122, lt_128, lt_144, lt_145, lt_146, lt_147, lt_155, lt_163, lt_171, lt_179, lt_200, lt_243, lt_244, lt_255, lt_256, lt_732, lt_900, lt_3660, lt_3904, lt_4095, lt_65536, lt_65537, lt_252645135, lt_858993459, lt_1431655765, ↓p_has_b, p_has, ↓p_has9_b, p_has9, ↓p_bit_b, p_bit, ↓p_bit1_b, p_bit1, ↓p_bit0_b, p_bit0, hL.t, ha, l0, hL.y, if_inB hL.yt, j6, hk, j36, show 0 < fN T (2 ^ dN T) by omega, jk, ic_sub hle, e]
    · obtain ⟨o, J⟩ := r
      obtain ⟨h1, h2, h3, h4⟩ := hr
      dsimp only at h1 h2 h3 h4
      have j6 : J a 6 = ic (dN T) := by rw [h4 a (by omega)]; exact c6
      simp (maxSteps := 1000000) (disch := omega) only [↓reduceIte, ↓if_bi0, ↓if_bi1, hp_tg, hp_rI, hp_rR, hp_rL, hp_wI, hp_wL, Option.bind_some, if_11, if_01, bi_and1, i10, i01, bi_t, bi_f, ic_add, mr_4, ml_4, mr_8, ml_8, mr_10, ml_10, ic_add1, ic_sub1, ic_clamp, ic_div, ic_irm, ic_lt0, ic_0lt, ic_eq0, ic_lt, ic_inj, and15, and7, and31, and63, shl1, shr_ok, neg_1, neg_2, neg_3, neg_4, kc_lt0, kc_ic, kc_m2, kc_1, kc_0, i0_add, add_i0, or_i0, z_8, z_4, z_64, z_256, ic_m2, ec_m1, ic_m1, m1_lt0, m2_lt0, m3_lt0, m4_lt0, up_s, if_true, if_false, ne_eq, not_true_eq_false, not_false_eq_true, Bool.false_eq_true, eq_self, or_self, or_false, false_or, and_self, and_true, true_and, ite_self, Nat.reduceEqDiff, Nat.reduceLT, Nat.reduceMod, Nat.reduceMul, Nat.reduceAdd, Nat.reducePow, Nat.reduceDiv, lt_2, lt_3, lt_4, lt_5, lt_6, lt_7, lt_8, lt_10, lt_11, lt_12, lt_15, lt_16, lt_18, lt_20, lt_24, lt_31, lt_32, lt_48, lt_57, lt_59, lt_63, lt_64, lt_74, lt_75, lt_97, lt_122, lt_128, lt_144, lt_145, lt_146, lt_147, lt_155, lt_163, lt_171, lt_179, lt_200, lt_243, lt_244, lt_255, lt_256, lt_732, lt_900, lt_3660, lt_3904, lt_4095, lt_65536, lt_65537, lt_252645135, lt_858993459, lt_1431655765, ↓p_has_b, p_has, ↓p_has9_b, p_has9, ↓p_bit_b, p_bit, ↓p_bit1_b, p_bit1, ↓p_bit0_b, p_bit0, p_X9_asks_17, p_X9_asks_106, hL.t, ha, l0, j6, Nat.lt_irrefl]
end GUES
