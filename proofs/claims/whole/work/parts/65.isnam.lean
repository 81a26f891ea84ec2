/-! ===== is the token a name: class and reference ===== -/
section ISNAM
variable {S : SH} {I : II} {L : LL} {x m n : Nat} {b : Nat → Nat} {tk : Nat × Nat × Nat × Nat}
theorem by8_s {c : Nat} (h : c < 128) : by8 c = ic c := if_pos h
theorem nm_1 {k : Nat} (h : nm b tk k = true) : tk.1 = 1 := (of_decide_eq_true h).1
theorem k_name (hL : XL S x) (hT : TP I (x + 1) b) (hC : CT I x tk) (hK : TKV b n tk) (hn : n ≤ 900) {k : Nat} (h0 : 0 < k) (hk : k < 19) : p_X5_isName x k (hp S I L) = some (bi (nm b tk k), hp S I L) := by
  obtain ⟨c3, c4, c5, -⟩ := hC
  obtain ⟨k4, kft, ktn, kl, -, -⟩ := hK
  have sl := stn_len h0 hk
  have l8 : sln k ≤ 8 := by
    rcases stn_ok k hk with q | q
    · omega
    · exact q.2.1
  have sc9 : ∀ i, i < sln k → 97 ≤ sch k (0 + i) ∧ sch k (0 + i) ≤ 122 := fun i hi => by rw [Nat.zero_add]; exact (stn_ch h0 hk hi).2
  unfold p_X5_isName
  simp only [↓reduceIte, ↓if_bi0, hp_tg, hp_rR, hp_rI, hp_wI, eq_self, bi_t, bi_f, i10, if_true, if_false, Bool.false_eq_true, hL.1]
  by_cases t1 : tk.1 = 1
  · rw [c3, if_pos (by rw [t1]; rfl), sl]
    simp only [Option.bind_some, c4, c5, ic_sub kft]
    obtain ⟨kl1, kl2⟩ := kl t1
    by_cases e : tk.2.2.1 - tk.2.1 = sln k
    · rw [if_pos (by rw [e])]
      rw [if_neg (by rw [ic_lt0 (by omega)]; exact not_false), if_neg (by show ¬ ic 900 < ic tk.2.2.1; rw [ic_lt (by omega) (by omega)]; omega)]
      have := lp_first (fun f i => p_X5_isName_45 f x k (ic i) (hp S I L)) (sln k) (fun i => decide (b (tk.2.1 + i) ≠ sch k i)) (fun _ => some (0, hp S I L)) (some (1, hp S I L)) (fun f i hi => ?_) (fun f => ?_) (sln k) 0 FU (by omega) (fu_lt (by omega))
      · refine Eq.trans this ?_
        cases q : fs (fun i => decide (b (tk.2.1 + i) ≠ sch k i)) (sln k) 0 with
        | none =>
          have hh := fs_none q
          have pe : pk b tk.2.1 (tk.2.2.1 - tk.2.1) = pk (sch k) 0 (sln k) := by
            rw [e]
            refine pkc_eq fun i hi => ?_
            have := of_decide_eq_false (hh i (by omega) (by omega))
            rw [Nat.zero_add]
            exact Decidable.byContradiction this
          rw [om_none, show nm b tk k = true from decide_eq_true ⟨t1, pe⟩]
          rfl
        | some j =>
          obtain ⟨-, j1, j2, -⟩ := fs_some q
          have nf : nm b tk k = false := decide_eq_false fun w => by
            have := (pkc_inj (f := tk.2.1) (g := 0) kl2 sc9 w.2).2 j (by omega)
            rw [Nat.zero_add] at this
            exact of_decide_eq_true j2 this
          rw [om_some, nf]
          rfl
      · obtain ⟨s1, s2, s3⟩ := stn_ch h0 hk hi
        obtain ⟨w1, w2⟩ := kl2 i (by omega)
        obtain ⟨u1, u2⟩ := hT (tk.2.1 + i) (by omega)
        rw [by8_s (by omega)] at u2
        by_cases d : b (tk.2.1 + i) = sch k i
        · rw [decide_eq_false (fun q => q d), p_X5_isName_45.eq_2, sl]
          simp (maxSteps := 1000000) (disch := omega) only [↓reduceIte, ↓if_bi0, ↓if_bi1, hp_tg, hp_rI, hp_rR, hp_rL, hp_wI, hp_wL, Option.bind_some, if_11, if_01, bi_and1, i10, i01, bi_t, bi_f, ic_add, mr_4, ml_4, mr_8, ml_8, mr_10, ml_10, ic_add1, ic_sub1, ic_clamp, ic_div, ic_irm, ic_lt0, ic_0lt, ic_eq0, ic_lt, ic_inj, and15, and7, and31, and63, shl1, shr_ok, neg_1, neg_2, neg_3, neg_4, kc_lt0, kc_ic, kc_m2, kc_1, kc_0, i0_add, add_i0, or_i0, z_8, z_4, z_64, z_256, ic_m2, ec_m1, ic_m1, m1_lt0, m2_lt0, m3_lt0, m4_lt0, up_s, if_true, if_false, ne_eq, not_true_eq_false, not_false_eq_true, Bool.false_eq_true, eq_self, or_self, or_false, false_or, and_self, and_true, true_and, ite_self, Nat.reduceEqDiff, Nat.reduceLT, Nat.reduceMod, Nat.reduceMul, Nat.reduceAdd, Nat.reducePow, Nat.reduceDiv, lt_2, lt_3, lt_4, lt_5, lt_6, lt_7, lt_8, lt_10, lt_11, lt_12, lt_15, lt_16, lt_18, lt_20, lt_24, lt_31, lt_32, lt_48, lt_57, lt_59, lt_63, lt_64, lt_74, lt_75, lt_97, lt_122, lt_128, lt_144, lt_145, lt_146, lt_147, lt_155, lt_163, lt_171, lt_179, lt_200, lt_243, lt_244, lt_255, lt_256, lt_732, lt_900, lt_3660, lt_3904, lt_4095, lt_65536, lt_65537, lt_252645135, lt_858993459, lt_1431655765, ↓p_has_b, p_has, ↓p_has9_b, p_has9, ↓p_bit_b, p_bit, ↓p_bit1_b, p_bit1, ↓p_bit0_b, p_bit0, hL.1, hi, c4, hL.2.1, if_inB hL.2.2, s1, u2, d]
        · rw [decide_eq_true d, p_X5_isName_45.eq_2, sl]
          simp (maxSteps := 1000000) (disch := omega) only [↓reduceIte, ↓if_bi0, ↓if_bi1, hp_tg, hp_rI, hp_rR, hp_rL, hp_wI, hp_wL, Option.bind_some, if_11, if_01, bi_and1, i10, i01, bi_t, bi_f, ic_add, mr_4, ml_4, mr_8, ml_8, mr_10, ml_10, ic_add1, ic_sub1, ic_clamp, ic_div, ic_irm, ic_lt0, ic_0lt, ic_eq0, ic_lt, ic_inj, and15, and7, and31, and63, shl1, shr_ok, neg_1, neg_2, neg_3, neg_4, kc_lt0, kc_ic, kc_m2, kc_1, kc_0, i0_add, add_i0, or_i0, z_8, z_4, z_64, z_256, ic_m2, ec_m1, ic_m1, m1_lt0, m2_lt0, m3_lt0, m4_lt0, up_s, if_true, if_false, ne_eq, not_true_eq_false, not_false_eq_true, Bool.false_eq_true, eq_self, or_self, or_false, false_or, and_self, and_true, true_and, ite_self, Nat.reduceEqDiff, Nat.reduceLT, Nat.reduceMod, Nat.reduceMul, Nat.reduceAdd, Nat.reducePow, Nat.reduceDiv, lt_2, lt_3, lt_4, lt_5, lt_6, lt_7, lt_8, lt_10, lt_11, lt_12, lt_15, lt_16, lt_18, lt_20, lt_24, lt_31, lt_32, lt_48, lt_57, lt_59, lt_63, lt_64, lt_74, lt_75, lt_97, lt_122, lt_128, lt_144, lt_145, lt_146, lt_147, lt_155, lt_163, lt_171, lt_179, lt_200, lt_243, lt_244, lt_255, lt_256, lt_732, lt_900, lt_3660, lt_3904, lt_4095, lt_65536, lt_65537, lt_252645135, lt_858993459, lt_1431655765, ↓p_has_b, p_has, ↓p_has9_b, p_has9, ↓p_bit_b, p_bit, ↓p_bit1_b, p_bit1, ↓p_bit0_b, p_bit0, hL.1, hi, c4, hL.2.1, if_inB hL.2.2, s1, u2, d]
      · rw [p_X5_isName_45.eq_2, sl]
        simp (maxSteps := 1000000) (disch := omega) only [↓reduceIte, ↓if_bi0, ↓if_bi1, hp_tg, hp_rI, hp_rR, hp_rL, hp_wI, hp_wL, Option.bind_some, if_11, if_01, bi_and1, i10, i01, bi_t, bi_f, ic_add, mr_4, ml_4, mr_8, ml_8, mr_10, ml_10, ic_add1, ic_sub1, ic_clamp, ic_div, ic_irm, ic_lt0, ic_0lt, ic_eq0, ic_lt, ic_inj, and15, and7, and31, and63, shl1, shr_ok, neg_1, neg_2, neg_3, neg_4, kc_lt0, kc_ic, kc_m2, kc_1, kc_0, i0_add, add_i0, or_i0, z_8, z_4, z_64, z_256, ic_m2, ec_m1, ic_m1, m1_lt0, m2_lt0, m3_lt0, m4_lt0, up_s, if_true, if_false, ne_eq, not_true_eq_false, not_false_eq_true, Bool.false_eq_true, eq_self, or_self, or_false, false_or, and_self, and_true, true_and, ite_self, Nat.reduceEqDiff, Nat.reduceLT, Nat.reduceMod, Nat.reduceMul, Nat.reduceAdd, Nat.reducePow, Nat.reduceDiv, lt_2, lt_3, lt_4, lt_5, lt_6, lt_7, lt_8, lt_10, lt_11, lt_12, lt_15, lt_16, lt_18, lt_20, lt_24, lt_31, lt_32, lt_48, lt_57, lt_59, lt_63, lt_64, lt_74, lt_75, lt_97, lt_122, lt_128, lt_144, lt_145, lt_146, lt_147, lt_155, lt_163, lt_171, lt_179, lt_200, lt_243, lt_244, lt_255, lt_256, lt_732, lt_900, lt_3660, lt_3904, lt_4095, lt_65536, lt_65537, lt_252645135, lt_858993459, lt_1431655765, ↓p_has_b, p_has, ↓p_has9_b, p_has9, ↓p_bit_b, p_bit, ↓p_bit1_b, p_bit1, ↓p_bit0_b, p_bit0, Nat.lt_irrefl]
    · rw [if_neg (by rw [ic_inj (by omega) (by omega)]; exact e)]
      rw [show nm b tk k = false from decide_eq_false fun w => e (pkc_inj (f := tk.2.1) (g := 0) kl2 sc9 w.2).1]
      rfl
  · rw [c3, if_neg (by show ¬ ic tk.1 = ic 1; rw [ic_inj (by omega) (by omega)]; exact t1)]
    rw [show nm b tk k = false from decide_eq_false fun w => t1 w.1]
    rfl
theorem k_name_b (hL : XL S x) (hT : TP I (x + 1) b) (hC : CT I x tk) (hK : TKV b n tk) (hn : n ≤ 900) {k : Nat} (h0 : 0 < k) (hk : k < 19) {β : Type} (f9 : Int32 × AH → Option β) : (p_X5_isName x k (hp S I L)).bind f9 = f9 (bi (nm b tk k), hp S I L) := bnd (by apply k_name <;> assumption)
theorem x_packed {k : Nat} (h0 : 0 < k) (hk : k < 19) (h : AH) :
    p_X9_packed k h = some (lo (pk (sch k) 0 (sln k)), h) := by
  have sl := stn_len h0 hk
  have l8 : sln k ≤ 8 := by
    rcases stn_ok k hk with q | q
    · omega
    · exact q.2.1
  have := lp_to (fun f i (_ : Unit) => p_X9_packed_4 f k (lo (pk (sch k) 0 i)) (ic i) h) (sln k) (fun _ _ => True) (fun _ => some (lo (pk (sch k) 0 (sln k)), h)) (fun f i _ hi _ => ?_) (fun f _ _ => ?_) (sln k) 0 FU () (by omega) (fu_lt (by omega)) trivial
  · obtain ⟨_, e, -⟩ := this
    exact e
  · obtain ⟨s1, s2, s3⟩ := stn_ch h0 hk hi
    refine ⟨(), ?_, trivial⟩
    have ev : (32 : Int32).toInt64 * lo (pk (sch k) 0 i) + ((ic (sch k i) - 97) + 1).toInt64 = lo (pk (sch k) 0 (i + 1)) := by
      rw [show (97 : Int32) = ic 97 from rfl, ic_sub (by omega), ic_add1, ic_lo (by omega), show (32 : Int32).toInt64 = lo 32 from rfl, lo_mul, lo_add]
      show _ = lo (32 * pk (sch k) 0 i + (sch k (0 + i) - 96))
      rw [Nat.zero_add, show sch k i - 97 + 1 = sch k i - 96 by omega]
    rw [p_X9_packed_4.eq_2, sl]
    show (if ic i < ic (sln k) then _ else _) = _
    rw [if_pos (by rw [ic_lt (by omega) (by omega)]; exact hi), s1]
    show p_X9_packed_4 f k ((32 : Int32).toInt64 * lo (pk (sch k) 0 i) + ((ic (sch k i) - 97) + 1).toInt64) (ic i + 1) h = _
    rw [ev, ic_add1]
  · rw [p_X9_packed_4.eq_2, sl]
    show (if ic (sln k) < ic (sln k) then _ else _) = _
    rw [if_neg (by rw [ic_lt (by omega) (by omega)]; omega)]
theorem lo_inj {a c : Nat} (ha : a < 2 ^ 40) (hc : c < 2 ^ 40) : (lo a = lo c) = (a = c) := propext ⟨fun h => by
  have h9 := congrArg Int64.toInt h
  rw [lg_ofNat_toInt (by omega), lg_ofNat_toInt (by omega)] at h9
  omega, fun h => by rw [h]⟩
theorem x_word (hL : ML S m) (hC : RT I L m b tk) (hK : TKV b n tk) {k : Nat} (h0 : 0 < k) (hk : k < 19) : p_X9_isWord m k (hp S I L) = some (bi (nm b tk k), hp S I L) := by
  obtain ⟨c9, -, -, -, c14⟩ := hC
  obtain ⟨k4, kft, ktn, kl, -, -⟩ := hK
  have l8 : sln k ≤ 8 := by
    rcases stn_ok k hk with q | q
    · omega
    · exact q.2.1
  have sc9 : ∀ i, i < sln k → sch k (0 + i) ≤ 122 := fun i hi => by rw [Nat.zero_add]; exact (stn_ch h0 hk hi).2.2
  unfold p_X9_isWord
  simp only [↓reduceIte, ↓if_bi0, hp_tg, hp_rR, hp_rI, hp_wI, eq_self, bi_t, bi_f, i10, if_true, if_false, Bool.false_eq_true, hL.t]
  by_cases t1 : tk.1 = 1
  · rw [c9, if_pos (by rw [t1]; rfl)]
    have xp := x_packed h0 hk (hp S I L)
    refine Eq.trans (bnd xp) ?_
    show (if lg_cmp (L m 14) (lo (pk (sch k) 0 (sln k))) = 0 then _ else _) = _
    obtain ⟨kl1, kl2⟩ := kl t1
    have p1 : pk b tk.2.1 (tk.2.2.1 - tk.2.1) < 2 ^ 40 := Nat.lt_of_lt_of_le (pkc_lt fun i hi => (kl2 i hi).2) (Nat.le_trans (Nat.pow_le_pow_right (by decide) kl1) (by decide))
    have p2 : pk (sch k) 0 (sln k) < 2 ^ 40 := Nat.lt_of_lt_of_le (pkc_lt sc9) (Nat.le_trans (Nat.pow_le_pow_right (by decide) l8) (by decide))
    rw [c14 t1]
    by_cases e : pk b tk.2.1 (tk.2.2.1 - tk.2.1) = pk (sch k) 0 (sln k)
    · rw [if_pos ((lg_cmp_eq _ _).mpr (by rw [e])), show nm b tk k = true from decide_eq_true ⟨t1, e⟩]
      rfl
    · rw [if_neg (fun q => e (by have := (lg_cmp_eq _ _).mp q; rw [lo_inj p1 p2] at this; exact this)), show nm b tk k = false from decide_eq_false fun w => e w.2]
      rfl
  · have hs : ¬ ic (srt tk.1) = 2 := by
      rw [show (2 : Int32) = ic 2 from rfl]
      unfold srt
      by_cases a0 : tk.1 = 0
      · rw [if_pos a0]; decide
      · rw [if_neg a0, if_neg t1]
        by_cases a2 : tk.1 = 2
        · rw [if_pos a2]; decide
        · rw [if_neg a2]
          by_cases a3 : tk.1 = 3
          · rw [if_pos a3]; decide
          · rw [if_neg a3]; decide
    rw [c9, if_neg hs, show nm b tk k = false from decide_eq_false fun w => t1 w.1]
    rfl
theorem x_word_b (hL : ML S m) (hC : RT I L m b tk) (hK : TKV b n tk) {k : Nat} (h0 : 0 < k) (hk : k < 19) {β : Type} (f9 : Int32 × AH → Option β) : (p_X9_isWord m k (hp S I L)).bind f9 = f9 (bi (nm b tk k), hp S I L) := bnd (by apply x_word <;> assumption)
/-- once a fault is found -/
theorem x_word5 (hL : ML S m) (h5 : I m 9 = ic 5) (k : Nat) : p_X9_isWord m k (hp S I L) = some (0, hp S I L) := by
  simp (maxSteps := 1000000) (disch := omega) only [↓reduceIte, ↓if_bi0, ↓if_bi1, hp_tg, hp_rI, hp_rR, hp_rL, hp_wI, hp_wL, Option.bind_some, if_11, if_01, bi_and1, i10, i01, bi_t, bi_f, ic_add, mr_4, ml_4, mr_8, ml_8, mr_10, ml_10, ic_add1, ic_sub1, ic_clamp, ic_div, ic_irm, ic_lt0, ic_0lt, ic_eq0, ic_lt, ic_inj, and15, and7, and31, and63, shl1, shr_ok, neg_1, neg_2, neg_3, neg_4, kc_lt0, kc_ic, kc_m2, kc_1, kc_0, i0_add, add_i0, or_i0, z_8, z_4, z_64, z_256, ic_m2, ec_m1, ic_m1, m1_lt0, m2_lt0, m3_lt0, m4_lt0, up_s, if_true, if_false, ne_eq, not_true_eq_false, not_false_eq_true, Bool.false_eq_true, eq_self, or_self, or_false, false_or, and_self, and_true, true_and, ite_self, Nat.reduceEqDiff, Nat.reduceLT, Nat.reduceMod, Nat.reduceMul, Nat.reduceAdd, Nat.reducePow, Nat.reduceDiv, lt_2, lt_3, lt_4, lt_5, lt_6, lt_7, lt_8, lt_10, lt_11, lt_12, lt_15, lt_16, lt_18, lt_20, lt_24, lt_31, lt_32, lt_48, lt_57, lt_59, lt_63, lt_64, lt_74, lt_75, lt_97, lt_122, lt_128, lt_144, lt_145, lt_146, lt_147, lt_155, lt_163, lt_171, lt_179, lt_200, lt_243, lt_244, lt_255, lt_256, lt_732, lt_900, lt_3660, lt_3904, lt_4095, lt_65536, lt_65537, lt_252645135, lt_858993459, lt_1431655765, ↓p_has_b, p_has, ↓p_has9_b, p_has9, ↓p_bit_b, p_bit, ↓p_bit1_b, p_bit1, ↓p_bit0_b, p_bit0, p_X9_isWord_25, p_X9_isWord_24, p_X9_isWord, hL.t, h5]
theorem x_word5_b (hL : ML S m) (h5 : I m 9 = ic 5) (k : Nat) {β : Type} (f9 : Int32 × AH → Option β) : (p_X9_isWord m k (hp S I L)).bind f9 = f9 (0, hp S I L) := bnd (by apply x_word5 <;> assumption)
theorem x_flaw5 (hL : ML S m) (h5 : I m 9 = ic 5) (v : Int32) : p_X9_flaw m v (hp S I L) = some (hp S I L) := by
  simp (maxSteps := 1000000) (disch := omega) only [↓reduceIte, ↓if_bi0, ↓if_bi1, hp_tg, hp_rI, hp_rR, hp_rL, hp_wI, hp_wL, Option.bind_some, if_11, if_01, bi_and1, i10, i01, bi_t, bi_f, ic_add, mr_4, ml_4, mr_8, ml_8, mr_10, ml_10, ic_add1, ic_sub1, ic_clamp, ic_div, ic_irm, ic_lt0, ic_0lt, ic_eq0, ic_lt, ic_inj, and15, and7, and31, and63, shl1, shr_ok, neg_1, neg_2, neg_3, neg_4, kc_lt0, kc_ic, kc_m2, kc_1, kc_0, i0_add, add_i0, or_i0, z_8, z_4, z_64, z_256, ic_m2, ec_m1, ic_m1, m1_lt0, m2_lt0, m3_lt0, m4_lt0, up_s, if_true, if_false, ne_eq, not_true_eq_false, not_false_eq_true, Bool.false_eq_true, eq_self, or_self, or_false, false_or, and_self, and_true, true_and, ite_self, Nat.reduceEqDiff, Nat.reduceLT, Nat.reduceMod, Nat.reduceMul, Nat.reduceAdd, Nat.reducePow, Nat.reduceDiv, lt_2, lt_3, lt_4, lt_5, lt_6, lt_7, lt_8, lt_10, lt_11, lt_12, lt_15, lt_16, lt_18, lt_20, lt_24, lt_31, lt_32, lt_48, lt_57, lt_59, lt_63, lt_64, lt_74, lt_75, lt_97, lt_122, lt_128, lt_144, lt_145, lt_146, lt_147, lt_155, lt_163, lt_171, lt_179, lt_200, lt_243, lt_244, lt_255, lt_256, lt_732, lt_900, lt_3660, lt_3904, lt_4095, lt_65536, lt_65537, lt_252645135, lt_858993459, lt_1431655765, ↓p_has_b, p_has, ↓p_has9_b, p_has9, ↓p_bit_b, p_bit, ↓p_bit1_b, p_bit1, ↓p_bit0_b, p_bit0, p_X9_flaw_9, p_X9_flaw, hL.t, h5]
theorem x_flaw5_b (hL : ML S m) (h5 : I m 9 = ic 5) (v : Int32) {β : Type} (f9 : AH → Option β) : (p_X9_flaw m v (hp S I L)).bind f9 = f9 (hp S I L) := bnd (by apply x_flaw5 <;> assumption)
theorem x_flaw (hL : ML S m) {s9 f : Nat} (h9 : I m 9 = ic s9) (hs : s9 < 5) (h10 : I m 10 = ic f) (v : Int32) : p_X9_flaw m v (hp S I L) = some (hp S (up2 (up2 (up2 I m 12 v) m 13 (ic f)) m 9 (ic 5)) L) := by
  have g10 : up2 I m 12 v m 10 = ic f := by rw [up_k (by omega)]; exact h10
  simp (maxSteps := 1000000) (disch := omega) only [↓reduceIte, ↓if_bi0, ↓if_bi1, hp_tg, hp_rI, hp_rR, hp_rL, hp_wI, hp_wL, Option.bind_some, if_11, if_01, bi_and1, i10, i01, bi_t, bi_f, ic_add, mr_4, ml_4, mr_8, ml_8, mr_10, ml_10, ic_add1, ic_sub1, ic_clamp, ic_div, ic_irm, ic_lt0, ic_0lt, ic_eq0, ic_lt, ic_inj, and15, and7, and31, and63, shl1, shr_ok, neg_1, neg_2, neg_3, neg_4, kc_lt0, kc_ic, kc_m2, kc_1, kc_0, i0_add, add_i0, or_i0, z_8, z_4, z_64, z_256, ic_m2, ec_m1, ic_m1, m1_lt0, m2_lt0, m3_lt0, m4_lt0, up_s, if_true, if_false, ne_eq, not_true_eq_false, not_false_eq_true, Bool.false_eq_true, eq_self, or_self, or_false, false_or, and_self, and_true, true_and, ite_self, Nat.reduceEqDiff, Nat.reduceLT, Nat.reduceMod, Nat.reduceMul, Nat.reduceAdd, Nat.reducePow, Nat.reduceDiv, lt_2, lt_3, lt_4, lt_5, lt_6, lt_7, lt_8, lt_10, lt_11, lt_12, lt_15, lt_16, lt_18, lt_20, lt_24, lt_31, lt_32, lt_48, lt_57, lt_59, lt_63, lt_64, lt_74, lt_75, lt_97, lt_122, lt_128, lt_144, lt_145, lt_146, lt_147, lt_155, lt_163, lt_171, lt_179, lt_200, lt_243, lt_244, lt_255, lt_256, lt_732, lt_900, lt_3660, lt_3904, lt_4095, lt_65536, lt_65537, lt_252645135, lt_858993459, lt_1431655765, ↓p_has_b, p_has, ↓p_has9_b, p_has9, ↓p_bit_b, p_bit, ↓p_bit1_b, p_bit1, ↓p_bit0_b, p_bit0, p_X9_flaw_9, p_X9_flaw, hL.t, h9, show ¬ s9 = 5 by omega, g10]
theorem x_flaw_b (hL : ML S m) {s9 f : Nat} (h9 : I m 9 = ic s9) (hs : s9 < 5) (h10 : I m 10 = ic f) (v : Int32) {β : Type} (f9 : AH → Option β) : (p_X9_flaw m v (hp S I L)).bind f9 = f9 (hp S (up2 (up2 (up2 I m 12 v) m 13 (ic f)) m 9 (ic 5)) L) := bnd (by apply x_flaw <;> assumption)
theorem k_fails (hL : XL S x) {f : Nat} (h4 : I x 4 = ic f) (v : Int32) : p_X5_fails x v (hp S I L) = some (0, hp S (up2 (up2 I x 7 v) x 8 (ic f)) L) := by
  have g4 : up2 I x 7 v x 4 = ic f := by rw [up_k (by omega)]; exact h4
  simp (maxSteps := 1000000) (disch := omega) only [↓reduceIte, ↓if_bi0, ↓if_bi1, hp_tg, hp_rI, hp_rR, hp_rL, hp_wI, hp_wL, Option.bind_some, if_11, if_01, bi_and1, i10, i01, bi_t, bi_f, ic_add, mr_4, ml_4, mr_8, ml_8, mr_10, ml_10, ic_add1, ic_sub1, ic_clamp, ic_div, ic_irm, ic_lt0, ic_0lt, ic_eq0, ic_lt, ic_inj, and15, and7, and31, and63, shl1, shr_ok, neg_1, neg_2, neg_3, neg_4, kc_lt0, kc_ic, kc_m2, kc_1, kc_0, i0_add, add_i0, or_i0, z_8, z_4, z_64, z_256, ic_m2, ec_m1, ic_m1, m1_lt0, m2_lt0, m3_lt0, m4_lt0, up_s, if_true, if_false, ne_eq, not_true_eq_false, not_false_eq_true, Bool.false_eq_true, eq_self, or_self, or_false, false_or, and_self, and_true, true_and, ite_self, Nat.reduceEqDiff, Nat.reduceLT, Nat.reduceMod, Nat.reduceMul, Nat.reduceAdd, Nat.reducePow, Nat.reduceDiv, lt_2, lt_3, lt_4, lt_5, lt_6, lt_7, lt_8, lt_10, lt_11, lt_12, lt_15, lt_16, lt_18, lt_20, lt_24, lt_31, lt_32, lt_48, lt_57, lt_59, lt_63, lt_64, lt_74, lt_75, lt_97, lt_122, lt_128, lt_144, lt_145, lt_146, lt_147, lt_155, lt_163, lt_171, lt_179, lt_200, lt_243, lt_244, lt_255, lt_256, lt_732, lt_900, lt_3660, lt_3904, lt_4095, lt_65536, lt_65537, lt_252645135, lt_858993459, lt_1431655765, ↓p_has_b, p_has, ↓p_has9_b, p_has9, ↓p_bit_b, p_bit, ↓p_bit1_b, p_bit1, ↓p_bit0_b, p_bit0, p_X5_fails, hL.1, g4]
theorem k_fails_b (hL : XL S x) {f : Nat} (h4 : I x 4 = ic f) (v : Int32) {β : Type} (f9 : Int32 × AH → Option β) : (p_X5_fails x v (hp S I L)).bind f9 = f9 (0, hp S (up2 (up2 I x 7 v) x 8 (ic f)) L) := bnd (by apply k_fails <;> assumption)
end ISNAM
