/-! ===== draws, sweeps, the rate's divisor ===== -/
abbrev lo (n : Nat) : Int64 := Int64.ofNat n
theorem lo_toInt {n : Nat} (h : n < 2147483648) : (lo n).toInt = n := lg_ofNat_toInt (by omega)
theorem ic_lo {n : Nat} (h : n < 2147483648) : (ic n).toInt64 = lo n := by
  apply Int64.toInt_inj.mp
  rw [Int32.toInt_toInt64, ic_toInt h, lo_toInt h]
theorem lo_ic {n : Nat} (h : n < 2147483648) : (lo n).toInt32 = ic n := by rw [← ic_lo h, lg_l2i_i2l]
theorem lo_mul (a b : Nat) : lo a * lo b = lo (a * b) := (Int64.ofNat_mul a b).symm
theorem lo_add (a b : Nat) : lo a + lo b = lo (a + b) := (Int64.ofNat_add a b).symm
theorem lo_sub {a b : Nat} (h : b ≤ a) : lo a - lo b = lo (a - b) := (Int64.ofNat_sub a b h).symm
theorem lo_div {a b : Nat} (ha : a < 2147483648) (hb : b < 2147483648) : lo a / lo b = lo (a / b) := (Int64.ofNat_div (by omega) (by omega)).symm
theorem lo_eq0 {a : Nat} (ha : a < 2147483648) : (lo a = 0) = (a = 0) := propext ⟨fun h => by have h9 := congrArg Int64.toInt h; rw [lo_toInt ha] at h9; have h8 : (0 : Int64).toInt = 0 := rfl; omega, fun h => by rw [h]; rfl⟩
theorem lo_lrm {a b : Nat} (ha : a < 2147483648) (hb : b < 2147483648) : lrm (lo a) (lo b) = lo (a % b) := by
  unfold lrm
  rw [lo_div ha hb, lo_mul, lo_sub (Nat.div_mul_le_self a b)]
  refine congrArg lo ?_
  have := Nat.div_add_mod a b
  rw [Nat.mul_comm] at this
  omega
def nxs (n : Nat) : Nat := (75 * n + 74) % 65537
theorem nxs_lt (n : Nat) : nxs n < 65537 := Nat.mod_lt _ (by decide)
def sd (n : Nat) : Nat → Nat
  | 0 => n
  | k + 1 => nxs (nxs (sd n k))
theorem sd_lt {n : Nat} (h : n < 65537) (k : Nat) : sd n k < 65537 := by
  cases k with
  | zero => exact h
  | succ k => exact nxs_lt _
def dY (n k : Nat) : Nat := 4 * (nxs (sd n k) % 64) + nxs (nxs (sd n k)) % 4
theorem dY_lt (n k : Nat) : dY n k < 256 := by unfold dY; omega
theorem dY_d (n k : Nat) : dY n k / 4 = nxs (sd n k) % 64 := by unfold dY; omega
theorem dY_m (n k : Nat) : dY n k % 4 = nxs (nxs (sd n k)) % 4 := by unfold dY; omega
theorem p_next {n : Nat} (h9 : n < 65537) (h : AH) : p_X7_nextSeed (ic n) h = some (ic (nxs n), h) := by
  unfold p_X7_nextSeed
  rw [if_neg (by decide), show (75 : Int32) = ic 75 from rfl, show (74 : Int32) = ic 74 from rfl, show (65537 : Int32) = ic 65537 from rfl, ic_mul, ic_add, ic_irm (by omega) (by omega)]
  rfl
theorem p_next_b {n : Nat} (h9 : n < 65537) (h : AH) {β : Type} (f9 : Int32 × AH → Option β) : (p_X7_nextSeed (ic n) h).bind f9 = f9 (ic (nxs n), h) := bnd (by apply p_next <;> assumption)
theorem l_next {n : Nat} (h9 : n < 65537) : (lrm (((75 : Int32).toInt64 * (ic n).toInt64) + (74 : Int32).toInt64) ((65537 : Int32).toInt64)).toInt32 = ic (nxs n) := by
  rw [show (75 : Int32) = ic 75 from rfl, show (74 : Int32) = ic 74 from rfl, show (65537 : Int32) = ic 65537 from rfl, ic_lo (by omega), ic_lo (by omega), ic_lo (by omega), ic_lo (by omega), lo_mul, lo_add, lo_lrm (by omega) (by omega), lo_ic (by omega)]
  rfl
/-- the common divisor -/
theorem p_dvt {x y k f : Nat} (hx : x < 2147483648) (hy : y < 2147483648) (hk : k < 64) (h : AH) : p_X7_divisor_7 (f + 1) (ic x) (ic y) (ic k) h = if y = 0 then some (ic x, h) else p_X7_divisor_7 f (ic y) (ic (x % y)) (ic (k + 1)) h := by
  by_cases c : y = 0
  · rw [if_pos c]; subst c; simp (maxSteps := 1000000) (disch := omega) only [↓reduceIte, ↓if_bi0, ↓if_bi1, hp_tg, hp_rI, hp_rR, hp_rL, hp_wI, hp_wL, Option.bind_some, if_11, if_01, bi_and1, i10, i01, bi_t, bi_f, ic_add, mr_4, ml_4, mr_8, ml_8, mr_10, ml_10, ic_add1, ic_sub1, ic_clamp, ic_div, ic_irm, ic_lt0, ic_0lt, ic_eq0, ic_lt, ic_inj, and15, and7, and31, and63, shl1, shr_ok, neg_1, neg_2, neg_3, neg_4, kc_lt0, kc_ic, kc_m2, kc_1, kc_0, i0_add, add_i0, or_i0, z_8, z_4, z_64, z_256, ic_m2, ec_m1, ic_m1, m1_lt0, m2_lt0, m3_lt0, m4_lt0, up_s, if_true, if_false, ne_eq, not_true_eq_false, not_false_eq_true, Bool.false_eq_true, eq_self, or_self, or_false, false_or, and_self, and_true, true_and, ite_self, Nat.reduceEqDiff, Nat.reduceLT, Nat.reduceMod, Nat.reduceMul, Nat.reduceAdd, Nat.reducePow, Nat.reduceDiv, lt_2, lt_3, lt_4, lt_5, lt_6, lt_7, lt_8, lt_10, lt_11, lt_12, lt_15, lt_16, lt_18, lt_20, lt_24, lt_31, lt_32, lt_48, lt_57, lt_59, lt_63, lt_64, lt_74, lt_75, lt_97, lt_122, lt_128, lt_144, lt_145, lt_146, lt_147, lt_155, lt_163, lt_171, lt_179, lt_200, lt_243, lt_244, lt_255, lt_256, lt_732, lt_900, lt_3660, lt_3904, lt_4095, lt_65536, lt_65537, lt_252645135, lt_858993459, lt_1431655765, ↓p_has_b, p_has, ↓p_has9_b, p_has9, ↓p_bit_b, p_bit, ↓p_bit1_b, p_bit1, ↓p_bit0_b, p_bit0, p_X7_divisor_7, p_X7_divisor_34, hk]
  · rw [if_neg c]; simp (maxSteps := 1000000) (disch := omega) only [↓reduceIte, ↓if_bi0, ↓if_bi1, hp_tg, hp_rI, hp_rR, hp_rL, hp_wI, hp_wL, Option.bind_some, if_11, if_01, bi_and1, i10, i01, bi_t, bi_f, ic_add, mr_4, ml_4, mr_8, ml_8, mr_10, ml_10, ic_add1, ic_sub1, ic_clamp, ic_div, ic_irm, ic_lt0, ic_0lt, ic_eq0, ic_lt, ic_inj, and15, and7, and31, and63, shl1, shr_ok, neg_1, neg_2, neg_3, neg_4, kc_lt0, kc_ic, kc_m2, kc_1, kc_0, i0_add, add_i0, or_i0, z_8, z_4, z_64, z_256, ic_m2, ec_m1, ic_m1, m1_lt0, m2_lt0, m3_lt0, m4_lt0, up_s, if_true, if_false, ne_eq, not_true_eq_false, not_false_eq_true, Bool.false_eq_true, eq_self, or_self, or_false, false_or, and_self, and_true, true_and, ite_self, Nat.reduceEqDiff, Nat.reduceLT, Nat.reduceMod, Nat.reduceMul, Nat.reduceAdd, Nat.reducePow, Nat.reduceDiv, lt_2, lt_3, lt_4, lt_5, lt_6, lt_7, lt_8, lt_10, lt_11, lt_12, lt_15, lt_16, lt_18, lt_20, lt_24, lt_31, lt_32, lt_48, lt_57, lt_59, lt_63, lt_64, lt_74, lt_75, lt_97, lt_122, lt_128, lt_144, lt_145, lt_146, lt_147, lt_155, lt_163, lt_171, lt_179, lt_200, lt_243, lt_244, lt_255, lt_256, lt_732, lt_900, lt_3660, lt_3904, lt_4095, lt_65536, lt_65537, lt_252645135, lt_858993459, lt_1431655765, ↓p_has_b, p_has, ↓p_has9_b, p_has9, ↓p_bit_b, p_bit, ↓p_bit1_b, p_bit1, ↓p_bit0_b, p_bit0, p_X7_divisor_7, p_X7_divisor_34, hk, c]
theorem p_dv (h : AH) : ∀ (n x y k f : Nat), y ≤ x → x < 2 ^ n → n ≤ 31 → k + 2 * n < 64 → 2 * n < f → p_X7_divisor_7 f (ic x) (ic y) (ic k) h = some (ic (Nat.gcd x y), h) := by
  intro n
  induction n with
  | zero =>
    intro x y k f h1 h2 _ h3 h4
    obtain ⟨f, rfl⟩ : ∃ m, f = m + 1 := ⟨f - 1, by omega⟩
    rw [p_dvt (by omega) (by omega) (by omega), if_pos (by omega), show x = 0 by omega, show y = 0 by omega]; rfl
  | succ n ih =>
    intro x y k f h1 h2 h5 h3 h4
    have hp : 2 ^ (n + 1) ≤ 2 ^ 31 := Nat.pow_le_pow_right (by decide) h5
    have hx : x < 2147483648 := by omega
    obtain ⟨f, rfl⟩ : ∃ m, f = m + 2 := ⟨f - 2, by omega⟩
    rw [p_dvt hx (by omega) (by omega)]
    by_cases c : y = 0
    · rw [if_pos c, c, Nat.gcd_zero_right]
    · rw [if_neg c]
      have m1 := Nat.mod_lt x (show 0 < y by omega)
      rw [p_dvt (by omega) (by omega) (by omega)]
      by_cases d : x % y = 0
      · rw [if_pos d, Nat.gcd_comm, Nat.gcd_rec, d, Nat.gcd_zero_left]
      · rw [if_neg d]
        have m2 := Nat.mod_lt y (show 0 < x % y by omega)
        have q := Nat.div_add_mod x y
        have q1 : 1 ≤ x / y := (Nat.le_div_iff_mul_le (by omega)).mpr (by omega)
        have q2 : y * 1 ≤ y * (x / y) := Nat.mul_le_mul_left y q1
        rw [ih (x % y) (y % (x % y)) (k + 2) f (by omega) (by rw [Nat.pow_succ] at h2; omega) (by omega) (by omega) (by omega)]
        rw [Nat.gcd_comm x y, Nat.gcd_rec y x, Nat.gcd_rec (x % y) y, Nat.gcd_comm]
theorem p_div {x y : Nat} (h1 : y ≤ x) (h2 : x < 2147483648) (h : AH) : p_X7_divisor (ic x) (ic y) h = some (ic (Nat.gcd x y), h) := p_dv h 31 x y 0 FU h1 h2 (Nat.le_refl _) (by decide) (fu_lt (by decide))
theorem p_div_b {x y : Nat} (h1 : y ≤ x) (h2 : x < 2147483648) (h : AH) {β : Type} (f9 : Int32 × AH → Option β) : (p_X7_divisor (ic x) (ic y) h).bind f9 = f9 (ic (Nat.gcd x y), h) := bnd (by apply p_div <;> assumption)
theorem x_dvt {x y f : Nat} (hx : x < 2147483648) (hy : y < 2147483648) (h : AH) : p_X9_common_6 (f + 1) (lo x) (lo y) h = if y = 0 then some (lo x, h) else p_X9_common_6 f (lo y) (lo (x % y)) h := by
  have z : ((0 : Int32).toInt64) = 0 := rfl
  by_cases c : y = 0
  · rw [if_pos c]
    unfold p_X9_common_6
    rw [if_pos ((lg_cmp_eq _ _).mpr (by rw [z, lo_eq0 hy]; exact c))]
  · rw [if_neg c]
    unfold p_X9_common_6
    rw [if_neg (fun q => c (by have := (lg_cmp_eq _ _).mp q; rw [z, lo_eq0 hy] at this; exact this)), if_neg (by rw [lo_eq0 hy]; exact c), lo_lrm hx hy]
    cases f <;> rfl
theorem x_dv (h : AH) : ∀ (n x y f : Nat), y ≤ x → x < 2 ^ n → n ≤ 31 → 2 * n < f → p_X9_common_6 f (lo x) (lo y) h = some (lo (Nat.gcd x y), h) := by
  intro n
  induction n with
  | zero =>
    intro x y f h1 h2 _ h4
    obtain ⟨f, rfl⟩ : ∃ m, f = m + 1 := ⟨f - 1, by omega⟩
    rw [x_dvt (by omega) (by omega), if_pos (by omega), show x = 0 by omega, show y = 0 by omega]; rfl
  | succ n ih =>
    intro x y f h1 h2 h5 h4
    have hp : 2 ^ (n + 1) ≤ 2 ^ 31 := Nat.pow_le_pow_right (by decide) h5
    have hx : x < 2147483648 := by omega
    obtain ⟨f, rfl⟩ : ∃ m, f = m + 2 := ⟨f - 2, by omega⟩
    rw [x_dvt hx (by omega)]
    by_cases c : y = 0
    · rw [if_pos c, c, Nat.gcd_zero_right]
    · rw [if_neg c]
      have m1 := Nat.mod_lt x (show 0 < y by omega)
      rw [x_dvt (by omega) (by omega)]
      by_cases d : x % y = 0
      · rw [if_pos d, Nat.gcd_comm, Nat.gcd_rec, d, Nat.gcd_zero_left]
      · rw [if_neg d]
        have m2 := Nat.mod_lt y (show 0 < x % y by omega)
        have q := Nat.div_add_mod x y
        have q1 : 1 ≤ x / y := (Nat.le_div_iff_mul_le (by omega)).mpr (by omega)
        have q2 : y * 1 ≤ y * (x / y) := Nat.mul_le_mul_left y q1
        rw [ih (x % y) (y % (x % y)) f (by omega) (by rw [Nat.pow_succ] at h2; omega) (by omega) (by omega)]
        rw [Nat.gcd_comm x y, Nat.gcd_rec y x, Nat.gcd_rec (x % y) y, Nat.gcd_comm]
theorem x_common {x y : Nat} (hx : x < 2147483648) (hy : y < 2147483648) (h : AH) :
    p_X9_common (lo x) (lo y) h = some (lo (Nat.gcd x y), h) := by
  show p_X9_common_6 (9999 + 1) (lo x) (lo y) h = _
  rw [x_dvt hx hy]
  by_cases c : y = 0
  · rw [if_pos c, c, Nat.gcd_zero_right]
  · have m1 := Nat.mod_lt x (show 0 < y by omega)
    rw [if_neg c, x_dv h 31 y (x % y) 9999 (by omega) hy (Nat.le_refl _) (by decide), Nat.gcd_comm x y, Nat.gcd_rec y x, Nat.gcd_comm]
section DRAW
variable {S : SH} {I : II} {L : LL} {t m a p p0 e pl : Nat} {s : St} {T : TS} {r : St × Nat × Nat × Nat}
theorem t_drawn {z n N : Nat} (h0 : tT S e = (6, z)) (h4 : tR S e 4 = p0) (h5 : tR S e 5 = p) (hL0 : PL S p0) (hL : PL S p) (hd : p0 + 9 < p ∨ p + 9 < p0) (hR : PR I p0 s pl) (hV : Inv s pl) (hc : sc s < 1073740000) (hn : n < 65537) (hN : N ≤ 200) : ∃ I', p_X7_runDrawn e (ic n) (ic N) (hp S I L) = some (hp S I' L) ∧ KN I' p pl (rnS s pl (dY n) N) ∧ Fr I I' p (p + 9) := by
  obtain ⟨J, e1, p1, f1, -, j4, j5, -, j7⟩ := k_startFrom (L := L) hL (c := p0 + 1) hL0.sc (by omega) hR.sc
  have := lp_to (fun x k (c : II) => p_X7_runDrawn_19 x e (ic N) (ic (sd n k)) (ic k) (hp S c L)) N (fun k c => KN c p pl (rnS s pl (dY n) k) ∧ Fr I c p (p + 9)) (fun c => some (hp S c L)) (fun x k c hk hc9 => ?_) (fun x c hc9 => ?_) N 0 FU J (by omega) (fu_lt (by omega)) ⟨⟨p1, j4, j5, j7⟩, f1⟩
  · obtain ⟨I', e2, k2, f2⟩ := this
    refine ⟨I', ?_, k2, f2⟩
    simp (maxSteps := 1000000) (disch := omega) only [↓reduceIte, ↓if_bi0, ↓if_bi1, hp_tg, hp_rI, hp_rR, hp_rL, hp_wI, hp_wL, Option.bind_some, if_11, if_01, bi_and1, i10, i01, bi_t, bi_f, ic_add, mr_4, ml_4, mr_8, ml_8, mr_10, ml_10, ic_add1, ic_sub1, ic_clamp, ic_div, ic_irm, ic_lt0, ic_0lt, ic_eq0, ic_lt, ic_inj, and15, and7, and31, and63, shl1, shr_ok, neg_1, neg_2, neg_3, neg_4, kc_lt0, kc_ic, kc_m2, kc_1, kc_0, i0_add, add_i0, or_i0, z_8, z_4, z_64, z_256, ic_m2, ec_m1, ic_m1, m1_lt0, m2_lt0, m3_lt0, m4_lt0, up_s, if_true, if_false, ne_eq, not_true_eq_false, not_false_eq_true, Bool.false_eq_true, eq_self, or_self, or_false, false_or, and_self, and_true, true_and, ite_self, Nat.reduceEqDiff, Nat.reduceLT, Nat.reduceMod, Nat.reduceMul, Nat.reduceAdd, Nat.reducePow, Nat.reduceDiv, lt_2, lt_3, lt_4, lt_5, lt_6, lt_7, lt_8, lt_10, lt_11, lt_12, lt_15, lt_16, lt_18, lt_20, lt_24, lt_31, lt_32, lt_48, lt_57, lt_59, lt_63, lt_64, lt_74, lt_75, lt_97, lt_122, lt_128, lt_144, lt_145, lt_146, lt_147, lt_155, lt_163, lt_171, lt_179, lt_200, lt_243, lt_244, lt_255, lt_256, lt_732, lt_900, lt_3660, lt_3904, lt_4095, lt_65536, lt_65537, lt_252645135, lt_858993459, lt_1431655765, ↓p_has_b, p_has, ↓p_has9_b, p_has9, ↓p_bit_b, p_bit, ↓p_bit1_b, p_bit1, ↓p_bit0_b, p_bit0, p_X7_runDrawn, h0, h4, h5, hL0.t, hL.t, hL0.2.1, ↓bnd (e1), e1]
    exact e2
  · obtain ⟨kc9, fc⟩ := hc9
    obtain ⟨a1, a2, -⟩ := rn_inv hV (Y := dY n) (k := k) (fun i _ => dY_lt n i)
    obtain ⟨x9, I', e3, k3, f3⟩ := k_step (L := L) hL kc9 a1 (by omega) (dY_lt n k)
    rw [dY_d, dY_m] at e3
    refine ⟨I', ?_, by rw [rnS_s]; exact k3, fc.trans f3⟩
    have s1 := sd_lt hn k
    have s2 := nxs_lt (sd n k)
    have s3 := nxs_lt (nxs (sd n k))
    have A1 := p_next s1 (hp S c L)
    have A2 := p_next s2 (hp S c L)
    rw [p_X7_runDrawn_19.eq_2]
    show _ = p_X7_runDrawn_19 x e (ic N) (ic (nxs (nxs (sd n k)))) (ic (k + 1)) (hp S I' L)
    generalize nxs (nxs (sd n k)) = u at *
    generalize nxs (sd n k) = w at *
    simp (maxSteps := 1000000) (disch := omega) only [↓reduceIte, ↓if_bi0, ↓if_bi1, hp_tg, hp_rI, hp_rR, hp_rL, hp_wI, hp_wL, Option.bind_some, if_11, if_01, bi_and1, i10, i01, bi_t, bi_f, ic_add, mr_4, ml_4, mr_8, ml_8, mr_10, ml_10, ic_add1, ic_sub1, ic_clamp, ic_div, ic_irm, ic_lt0, ic_0lt, ic_eq0, ic_lt, ic_inj, and15, and7, and31, and63, shl1, shr_ok, neg_1, neg_2, neg_3, neg_4, kc_lt0, kc_ic, kc_m2, kc_1, kc_0, i0_add, add_i0, or_i0, z_8, z_4, z_64, z_256, ic_m2, ec_m1, ic_m1, m1_lt0, m2_lt0, m3_lt0, m4_lt0, up_s, if_true, if_false, ne_eq, not_true_eq_false, not_false_eq_true, Bool.false_eq_true, eq_self, or_self, or_false, false_or, and_self, and_true, true_and, ite_self, Nat.reduceEqDiff, Nat.reduceLT, Nat.reduceMod, Nat.reduceMul, Nat.reduceAdd, Nat.reducePow, Nat.reduceDiv, lt_2, lt_3, lt_4, lt_5, lt_6, lt_7, lt_8, lt_10, lt_11, lt_12, lt_15, lt_16, lt_18, lt_20, lt_24, lt_31, lt_32, lt_48, lt_57, lt_59, lt_63, lt_64, lt_74, lt_75, lt_97, lt_122, lt_128, lt_144, lt_145, lt_146, lt_147, lt_155, lt_163, lt_171, lt_179, lt_200, lt_243, lt_244, lt_255, lt_256, lt_732, lt_900, lt_3660, lt_3904, lt_4095, lt_65536, lt_65537, lt_252645135, lt_858993459, lt_1431655765, ↓p_has_b, p_has, ↓p_has9_b, p_has9, ↓p_bit_b, p_bit, ↓p_bit1_b, p_bit1, ↓p_bit0_b, p_bit0, p_X7_runDrawn_30, h0, h5, hL.t, hk, ↓bnd (A1), A1, ↓bnd (A2), A2, ↓bnd (e3), e3]
  · rw [p_X7_runDrawn_19.eq_2]
    simp (maxSteps := 1000000) (disch := omega) only [↓reduceIte, ↓if_bi0, ↓if_bi1, hp_tg, hp_rI, hp_rR, hp_rL, hp_wI, hp_wL, Option.bind_some, if_11, if_01, bi_and1, i10, i01, bi_t, bi_f, ic_add, mr_4, ml_4, mr_8, ml_8, mr_10, ml_10, ic_add1, ic_sub1, ic_clamp, ic_div, ic_irm, ic_lt0, ic_0lt, ic_eq0, ic_lt, ic_inj, and15, and7, and31, and63, shl1, shr_ok, neg_1, neg_2, neg_3, neg_4, kc_lt0, kc_ic, kc_m2, kc_1, kc_0, i0_add, add_i0, or_i0, z_8, z_4, z_64, z_256, ic_m2, ec_m1, ic_m1, m1_lt0, m2_lt0, m3_lt0, m4_lt0, up_s, if_true, if_false, ne_eq, not_true_eq_false, not_false_eq_true, Bool.false_eq_true, eq_self, or_self, or_false, false_or, and_self, and_true, true_and, ite_self, Nat.reduceEqDiff, Nat.reduceLT, Nat.reduceMod, Nat.reduceMul, Nat.reduceAdd, Nat.reducePow, Nat.reduceDiv, lt_2, lt_3, lt_4, lt_5, lt_6, lt_7, lt_8, lt_10, lt_11, lt_12, lt_15, lt_16, lt_18, lt_20, lt_24, lt_31, lt_32, lt_48, lt_57, lt_59, lt_63, lt_64, lt_74, lt_75, lt_97, lt_122, lt_128, lt_144, lt_145, lt_146, lt_147, lt_155, lt_163, lt_171, lt_179, lt_200, lt_243, lt_244, lt_255, lt_256, lt_732, lt_900, lt_3660, lt_3904, lt_4095, lt_65536, lt_65537, lt_252645135, lt_858993459, lt_1431655765, ↓p_has_b, p_has, ↓p_has9_b, p_has9, ↓p_bit_b, p_bit, ↓p_bit1_b, p_bit1, ↓p_bit0_b, p_bit0, Nat.lt_irrefl]
theorem x_draws {n N : Nat} (hL : ML S m) (ha : tR S m 3 = a) (hA : MCL S a) (hm : m + 6 < a) (hpl : I a 0 = ic pl) (hR : RW (I (m + 2)) s) (hV : Inv s pl) (hc : sc s < 1073740000) (hn : n < 65537) (hN : N ≤ 200) : ∃ I', p_X9_draws m (ic n) (ic N) (hp S I L) = some (hp S I' L) ∧ XN I' m pl (rnS s pl (dY n) N) ∧ M3 I I' m ∧ ∀ j, j < 26 ∨ 31 < j → I' m j = I m j := by
  obtain ⟨J, e1, p1, f1, j6, j7, j8, j9, jj⟩ := x_works (L := L) hL ha hA hm hpl
  have := lp_to (fun x k (c : II) => p_X9_draws_9 x m (ic N) (ic (sd n k)) (ic k) (hp S c L)) N (fun k c => XN c m pl (rnS s pl (dY n) k) ∧ M3 I c m ∧ ∀ j, j < 26 ∨ 31 < j → c m j = I m j) (fun c => some (hp S c L)) (fun x k c hk hc9 => ?_) (fun x c hc9 => ?_) N 0 FU J (by omega) (fu_lt (by omega)) ⟨⟨hR.cong p1, j6, j7, j9, j8⟩, f1, fun j hj => jj j (by omega)⟩
  · obtain ⟨I', e2, k2, f2, g2⟩ := this
    refine ⟨I', ?_, k2, f2, g2⟩
    simp (maxSteps := 1000000) (disch := omega) only [↓reduceIte, ↓if_bi0, ↓if_bi1, hp_tg, hp_rI, hp_rR, hp_rL, hp_wI, hp_wL, Option.bind_some, if_11, if_01, bi_and1, i10, i01, bi_t, bi_f, ic_add, mr_4, ml_4, mr_8, ml_8, mr_10, ml_10, ic_add1, ic_sub1, ic_clamp, ic_div, ic_irm, ic_lt0, ic_0lt, ic_eq0, ic_lt, ic_inj, and15, and7, and31, and63, shl1, shr_ok, neg_1, neg_2, neg_3, neg_4, kc_lt0, kc_ic, kc_m2, kc_1, kc_0, i0_add, add_i0, or_i0, z_8, z_4, z_64, z_256, ic_m2, ec_m1, ic_m1, m1_lt0, m2_lt0, m3_lt0, m4_lt0, up_s, if_true, if_false, ne_eq, not_true_eq_false, not_false_eq_true, Bool.false_eq_true, eq_self, or_self, or_false, false_or, and_self, and_true, true_and, ite_self, Nat.reduceEqDiff, Nat.reduceLT, Nat.reduceMod, Nat.reduceMul, Nat.reduceAdd, Nat.reducePow, Nat.reduceDiv, lt_2, lt_3, lt_4, lt_5, lt_6, lt_7, lt_8, lt_10, lt_11, lt_12, lt_15, lt_16, lt_18, lt_20, lt_24, lt_31, lt_32, lt_48, lt_57, lt_59, lt_63, lt_64, lt_74, lt_75, lt_97, lt_122, lt_128, lt_144, lt_145, lt_146, lt_147, lt_155, lt_163, lt_171, lt_179, lt_200, lt_243, lt_244, lt_255, lt_256, lt_732, lt_900, lt_3660, lt_3904, lt_4095, lt_65536, lt_65537, lt_252645135, lt_858993459, lt_1431655765, ↓p_has_b, p_has, ↓p_has9_b, p_has9, ↓p_bit_b, p_bit, ↓p_bit1_b, p_bit1, ↓p_bit0_b, p_bit0, p_X9_draws, hL.t, ↓bnd (e1), e1]
    exact e2
  · obtain ⟨kc9, fc, gc⟩ := hc9
    obtain ⟨a1, a2, -⟩ := rn_inv hV (Y := dY n) (k := k) (fun i _ => dY_lt n i)
    obtain ⟨x9, I', e3, k3, f3, g3⟩ := x_step (L := L) hL kc9 a1 (by omega) (dY_lt n k)
    rw [dY_d, dY_m] at e3
    refine ⟨I', ?_, by rw [rnS_s]; exact k3, fun b u1 u2 => by rw [f3 b u1 u2]; exact fc b u1 u2, fun j hj => by rw [g3 j hj]; exact gc j hj⟩
    have s1 := sd_lt hn k
    have s2 := nxs_lt (sd n k)
    have s3 := nxs_lt (nxs (sd n k))
    have A1 := l_next s1
    have A2 := l_next s2
    rw [p_X9_draws_9.eq_2]
    show _ = p_X9_draws_9 x m (ic N) (ic (nxs (nxs (sd n k)))) (ic (k + 1)) (hp S I' L)
    dsimp only
    rw [A1, A2]
    generalize nxs (nxs (sd n k)) = u at *
    generalize nxs (sd n k) = w at *
    have b0 := p_bit9_0 (w := u % 4) (by omega) (hp S c L)
    have b9 := p_bit9_1 (w := u % 4) (by omega) (hp S c L)
    have zz : ¬ ((65537 : Int32).toInt64 = 0) := by decide
    simp only [zz, if_false]
    simp (maxSteps := 1000000) (disch := omega) only [↓reduceIte, ↓if_bi0, ↓if_bi1, hp_tg, hp_rI, hp_rR, hp_rL, hp_wI, hp_wL, Option.bind_some, if_11, if_01, bi_and1, i10, i01, bi_t, bi_f, ic_add, mr_4, ml_4, mr_8, ml_8, mr_10, ml_10, ic_add1, ic_sub1, ic_clamp, ic_div, ic_irm, ic_lt0, ic_0lt, ic_eq0, ic_lt, ic_inj, and15, and7, and31, and63, shl1, shr_ok, neg_1, neg_2, neg_3, neg_4, kc_lt0, kc_ic, kc_m2, kc_1, kc_0, i0_add, add_i0, or_i0, z_8, z_4, z_64, z_256, ic_m2, ec_m1, ic_m1, m1_lt0, m2_lt0, m3_lt0, m4_lt0, up_s, if_true, if_false, ne_eq, not_true_eq_false, not_false_eq_true, Bool.false_eq_true, eq_self, or_self, or_false, false_or, and_self, and_true, true_and, ite_self, Nat.reduceEqDiff, Nat.reduceLT, Nat.reduceMod, Nat.reduceMul, Nat.reduceAdd, Nat.reducePow, Nat.reduceDiv, lt_2, lt_3, lt_4, lt_5, lt_6, lt_7, lt_8, lt_10, lt_11, lt_12, lt_15, lt_16, lt_18, lt_20, lt_24, lt_31, lt_32, lt_48, lt_57, lt_59, lt_63, lt_64, lt_74, lt_75, lt_97, lt_122, lt_128, lt_144, lt_145, lt_146, lt_147, lt_155, lt_163, lt_171, lt_179, lt_200, lt_243, lt_244, lt_255, lt_256, lt_732, lt_900, lt_3660, lt_3904, lt_4095, lt_65536, lt_65537, lt_252645135, lt_858993459, lt_1431655765, ↓p_has_b, p_has, ↓p_has9_b, p_has9, ↓p_bit_b, p_bit, ↓p_bit1_b, p_bit1, ↓p_bit0_b, p_bit0, hL.t, hk, ↓bnd (b0), b0, ↓bnd (b9), b9, ↓bnd (e3), e3]
  · rw [p_X9_draws_9.eq_2]
    simp (maxSteps := 1000000) (disch := omega) only [↓reduceIte, ↓if_bi0, ↓if_bi1, hp_tg, hp_rI, hp_rR, hp_rL, hp_wI, hp_wL, Option.bind_some, if_11, if_01, bi_and1, i10, i01, bi_t, bi_f, ic_add, mr_4, ml_4, mr_8, ml_8, mr_10, ml_10, ic_add1, ic_sub1, ic_clamp, ic_div, ic_irm, ic_lt0, ic_0lt, ic_eq0, ic_lt, ic_inj, and15, and7, and31, and63, shl1, shr_ok, neg_1, neg_2, neg_3, neg_4, kc_lt0, kc_ic, kc_m2, kc_1, kc_0, i0_add, add_i0, or_i0, z_8, z_4, z_64, z_256, ic_m2, ec_m1, ic_m1, m1_lt0, m2_lt0, m3_lt0, m4_lt0, up_s, if_true, if_false, ne_eq, not_true_eq_false, not_false_eq_true, Bool.false_eq_true, eq_self, or_self, or_false, false_or, and_self, and_true, true_and, ite_self, Nat.reduceEqDiff, Nat.reduceLT, Nat.reduceMod, Nat.reduceMul, Nat.reduceAdd, Nat.reducePow, Nat.reduceDiv, lt_2, lt_3, lt_4, lt_5, lt_6, lt_7, lt_8, lt_10, lt_11, lt_12, lt_15, lt_16, lt_18, lt_20, lt_24, lt_31, lt_32, lt_48, lt_57, lt_59, lt_63, lt_64, lt_74, lt_75, lt_97, lt_122, lt_128, lt_144, lt_145, lt_146, lt_147, lt_155, lt_163, lt_171, lt_179, lt_200, lt_243, lt_244, lt_255, lt_256, lt_732, lt_900, lt_3660, lt_3904, lt_4095, lt_65536, lt_65537, lt_252645135, lt_858993459, lt_1431655765, ↓p_has_b, p_has, ↓p_has9_b, p_has9, ↓p_bit_b, p_bit, ↓p_bit1_b, p_bit1, ↓p_bit0_b, p_bit0, Nat.lt_irrefl]
def wY (v i : Nat) : Nat := 4 * (v + i)
theorem t_sweep {z v to : Nat} (h0 : tT S e = (6, z)) (h4 : tR S e 4 = p0) (h5 : tR S e 5 = p) (hL0 : PL S p0) (hL : PL S p) (hd : p0 + 9 < p ∨ p + 9 < p0) (hR : PR I p0 s pl) (hV : Inv s pl) (hc : sc s < 1073740000) (hv : v ≤ to) (hto : to < 64) : ∃ I', p_X7_sweep_33 e (ic v) (ic to) (hp S I L) = p_X7_sweep_70 e (hp S I' L) ∧ KN I' p pl (rnS s pl (wY v) (to + 1 - v)) ∧ Fr I I' p (p + 9) := by
  obtain ⟨J, e1, p1, f1, -, j4, j5, -, j7⟩ := k_startFrom (L := L) hL (c := p0 + 1) hL0.sc (by omega) hR.sc
  have := lp_to (fun x k (c : II) => p_X7_sweep_49 x e (ic to) (ic (v + k)) (hp S c L)) (to + 1 - v) (fun k c => KN c p pl (rnS s pl (wY v) k) ∧ Fr I c p (p + 9)) (fun c => p_X7_sweep_70 e (hp S c L)) (fun x k c hk hc9 => ?_) (fun x c hc9 => ?_) (to + 1 - v) 0 FU J (by omega) (fu_lt (by omega)) ⟨⟨p1, j4, j5, j7⟩, f1⟩
  · obtain ⟨I', e2, k2, f2⟩ := this
    refine ⟨I', ?_, k2, f2⟩
    simp (maxSteps := 1000000) (disch := omega) only [↓reduceIte, ↓if_bi0, ↓if_bi1, hp_tg, hp_rI, hp_rR, hp_rL, hp_wI, hp_wL, Option.bind_some, if_11, if_01, bi_and1, i10, i01, bi_t, bi_f, ic_add, mr_4, ml_4, mr_8, ml_8, mr_10, ml_10, ic_add1, ic_sub1, ic_clamp, ic_div, ic_irm, ic_lt0, ic_0lt, ic_eq0, ic_lt, ic_inj, and15, and7, and31, and63, shl1, shr_ok, neg_1, neg_2, neg_3, neg_4, kc_lt0, kc_ic, kc_m2, kc_1, kc_0, i0_add, add_i0, or_i0, z_8, z_4, z_64, z_256, ic_m2, ec_m1, ic_m1, m1_lt0, m2_lt0, m3_lt0, m4_lt0, up_s, if_true, if_false, ne_eq, not_true_eq_false, not_false_eq_true, Bool.false_eq_true, eq_self, or_self, or_false, false_or, and_self, and_true, true_and, ite_self, Nat.reduceEqDiff, Nat.reduceLT, Nat.reduceMod, Nat.reduceMul, Nat.reduceAdd, Nat.reducePow, Nat.reduceDiv, lt_2, lt_3, lt_4, lt_5, lt_6, lt_7, lt_8, lt_10, lt_11, lt_12, lt_15, lt_16, lt_18, lt_20, lt_24, lt_31, lt_32, lt_48, lt_57, lt_59, lt_63, lt_64, lt_74, lt_75, lt_97, lt_122, lt_128, lt_144, lt_145, lt_146, lt_147, lt_155, lt_163, lt_171, lt_179, lt_200, lt_243, lt_244, lt_255, lt_256, lt_732, lt_900, lt_3660, lt_3904, lt_4095, lt_65536, lt_65537, lt_252645135, lt_858993459, lt_1431655765, ↓p_has_b, p_has, ↓p_has9_b, p_has9, ↓p_bit_b, p_bit, ↓p_bit1_b, p_bit1, ↓p_bit0_b, p_bit0, p_X7_sweep_33, h0, h4, h5, hL0.t, hL.t, hL0.2.1, ↓bnd (e1), e1]
    exact e2
  · obtain ⟨kc9, fc⟩ := hc9
    obtain ⟨a1, a2, -⟩ := rn_inv hV (Y := wY v) (k := k) (fun i _ => by unfold wY; omega)
    obtain ⟨x9, I', e3, k3, f3⟩ := k_step (L := L) hL kc9 a1 (by omega) (y := wY v k) (by unfold wY; omega)
    rw [show wY v k / 4 = v + k by unfold wY; omega, show wY v k % 4 = 0 by unfold wY; omega, ic_zero] at e3
    refine ⟨I', ?_, by rw [rnS_s]; exact k3, fc.trans f3⟩
    rw [p_X7_sweep_49.eq_2]
    simp (maxSteps := 1000000) (disch := omega) only [↓reduceIte, ↓if_bi0, ↓if_bi1, hp_tg, hp_rI, hp_rR, hp_rL, hp_wI, hp_wL, Option.bind_some, if_11, if_01, bi_and1, i10, i01, bi_t, bi_f, ic_add, mr_4, ml_4, mr_8, ml_8, mr_10, ml_10, ic_add1, ic_sub1, ic_clamp, ic_div, ic_irm, ic_lt0, ic_0lt, ic_eq0, ic_lt, ic_inj, and15, and7, and31, and63, shl1, shr_ok, neg_1, neg_2, neg_3, neg_4, kc_lt0, kc_ic, kc_m2, kc_1, kc_0, i0_add, add_i0, or_i0, z_8, z_4, z_64, z_256, ic_m2, ec_m1, ic_m1, m1_lt0, m2_lt0, m3_lt0, m4_lt0, up_s, if_true, if_false, ne_eq, not_true_eq_false, not_false_eq_true, Bool.false_eq_true, eq_self, or_self, or_false, false_or, and_self, and_true, true_and, ite_self, Nat.reduceEqDiff, Nat.reduceLT, Nat.reduceMod, Nat.reduceMul, Nat.reduceAdd, Nat.reducePow, Nat.reduceDiv, lt_2, lt_3, lt_4, lt_5, lt_6, lt_7, lt_8, lt_10, lt_11, lt_12, lt_15, lt_16, lt_18, lt_20, lt_24, lt_31, lt_32, lt_48, lt_57, lt_59, lt_63, lt_64, lt_74, lt_75, lt_97, lt_122, lt_128, lt_144, lt_145, lt_146, lt_147, lt_155, lt_163, lt_171, lt_179, lt_200, lt_243, lt_244, lt_255, lt_256, lt_732, lt_900, lt_3660, lt_3904, lt_4095, lt_65536, lt_65537, lt_252645135, lt_858993459, lt_1431655765, ↓p_has_b, p_has, ↓p_has9_b, p_has9, ↓p_bit_b, p_bit, ↓p_bit1_b, p_bit1, ↓p_bit0_b, p_bit0, h0, h5, hL.t, show ¬ to < v + k by omega, ↓bnd (e3), e3, ← Nat.add_assoc]
  · rw [p_X7_sweep_49.eq_2, show v + (to + 1 - v) = to + 1 by omega, if_pos (by rw [ic_lt (by omega) (by omega)]; omega)]
    rfl
theorem x_sweep {v to : Nat} (hL : ML S m) (ha : tR S m 3 = a) (hA : MCL S a) (hm : m + 6 < a) (hpl : I a 0 = ic pl) (hR : RW (I (m + 2)) s) (hV : Inv s pl) (hc : sc s < 1073740000) (hv : v ≤ to) (hto : to < 64) : ∃ I', p_X9_sweep_37 m (ic v) (ic to) (hp S I L) = p_X9_sweep_62 m (hp S I' L) ∧ XN I' m pl (rnS s pl (wY v) (to + 1 - v)) ∧ M3 I I' m ∧ ∀ j, j < 26 ∨ 31 < j → I' m j = I m j := by
  obtain ⟨J, e1, p1, f1, j6, j7, j8, j9, jj⟩ := x_works (L := L) hL ha hA hm hpl
  have := lp_to (fun x k (c : II) => p_X9_sweep_43 x m (ic to) (ic (v + k)) (hp S c L)) (to + 1 - v) (fun k c => XN c m pl (rnS s pl (wY v) k) ∧ M3 I c m ∧ ∀ j, j < 26 ∨ 31 < j → c m j = I m j) (fun c => p_X9_sweep_62 m (hp S c L)) (fun x k c hk hc9 => ?_) (fun x c hc9 => ?_) (to + 1 - v) 0 FU J (by omega) (fu_lt (by omega)) ⟨⟨hR.cong p1, j6, j7, j9, j8⟩, f1, fun j hj => jj j (by omega)⟩
  · obtain ⟨I', e2, k2, f2, g2⟩ := this
    refine ⟨I', ?_, k2, f2, g2⟩
    simp (maxSteps := 1000000) (disch := omega) only [↓reduceIte, ↓if_bi0, ↓if_bi1, hp_tg, hp_rI, hp_rR, hp_rL, hp_wI, hp_wL, Option.bind_some, if_11, if_01, bi_and1, i10, i01, bi_t, bi_f, ic_add, mr_4, ml_4, mr_8, ml_8, mr_10, ml_10, ic_add1, ic_sub1, ic_clamp, ic_div, ic_irm, ic_lt0, ic_0lt, ic_eq0, ic_lt, ic_inj, and15, and7, and31, and63, shl1, shr_ok, neg_1, neg_2, neg_3, neg_4, kc_lt0, kc_ic, kc_m2, kc_1, kc_0, i0_add, add_i0, or_i0, z_8, z_4, z_64, z_256, ic_m2, ec_m1, ic_m1, m1_lt0, m2_lt0, m3_lt0, m4_lt0, up_s, if_true, if_false, ne_eq, not_true_eq_false, not_false_eq_true, Bool.false_eq_true, eq_self, or_self, or_false, false_or, and_self, and_true, true_and, ite_self, Nat.reduceEqDiff, Nat.reduceLT, Nat.reduceMod, Nat.reduceMul, Nat.reduceAdd, Nat.reducePow, Nat.reduceDiv, lt_2, lt_3, lt_4, lt_5, lt_6, lt_7, lt_8, lt_10, lt_11, lt_12, lt_15, lt_16, lt_18, lt_20, lt_24, lt_31, lt_32, lt_48, lt_57, lt_59, lt_63, lt_64, lt_74, lt_75, lt_97, lt_122, lt_128, lt_144, lt_145, lt_146, lt_147, lt_155, lt_163, lt_171, lt_179, lt_200, lt_243, lt_244, lt_255, lt_256, lt_732, lt_900, lt_3660, lt_3904, lt_4095, lt_65536, lt_65537, lt_252645135, lt_858993459, lt_1431655765, ↓p_has_b, p_has, ↓p_has9_b, p_has9, ↓p_bit_b, p_bit, ↓p_bit1_b, p_bit1, ↓p_bit0_b, p_bit0, p_X9_sweep_37, hL.t, ↓bnd (e1), e1]
    exact e2
  · obtain ⟨kc9, fc, gc⟩ := hc9
    obtain ⟨a1, a2, -⟩ := rn_inv hV (Y := wY v) (k := k) (fun i _ => by unfold wY; omega)
    obtain ⟨x9, I', e3, k3, f3, g3⟩ := x_step (L := L) hL kc9 a1 (by omega) (y := wY v k) (by unfold wY; omega)
    rw [show wY v k / 4 = v + k by unfold wY; omega, show wY v k % 4 = 0 by unfold wY; omega] at e3
    rw [Nat.zero_testBit, Nat.zero_testBit, bi_f] at e3
    refine ⟨I', ?_, by rw [rnS_s]; exact k3, fun b u1 u2 => by rw [f3 b u1 u2]; exact fc b u1 u2, fun j hj => by rw [g3 j hj]; exact gc j hj⟩
    rw [p_X9_sweep_43.eq_2]
    simp (maxSteps := 1000000) (disch := omega) only [↓reduceIte, ↓if_bi0, ↓if_bi1, hp_tg, hp_rI, hp_rR, hp_rL, hp_wI, hp_wL, Option.bind_some, if_11, if_01, bi_and1, i10, i01, bi_t, bi_f, ic_add, mr_4, ml_4, mr_8, ml_8, mr_10, ml_10, ic_add1, ic_sub1, ic_clamp, ic_div, ic_irm, ic_lt0, ic_0lt, ic_eq0, ic_lt, ic_inj, and15, and7, and31, and63, shl1, shr_ok, neg_1, neg_2, neg_3, neg_4, kc_lt0, kc_ic, kc_m2, kc_1, kc_0, i0_add, add_i0, or_i0, z_8, z_4, z_64, z_256, ic_m2, ec_m1, ic_m1, m1_lt0, m2_lt0, m3_lt0, m4_lt0, up_s, if_true, if_false, ne_eq, not_true_eq_false, not_false_eq_true, Bool.false_eq_true, eq_self, or_self, or_false, false_or, and_self, and_true, true_and, ite_self, Nat.reduceEqDiff, Nat.reduceLT, Nat.reduceMod, Nat.reduceMul, Nat.reduceAdd, Nat.reducePow, Nat.reduceDiv, lt_2, lt_3, lt_4, lt_5, lt_6, lt_7, lt_8, lt_10, lt_11, lt_12, lt_15, lt_16, lt_18, lt_20, lt_24, lt_31, lt_32, lt_48, lt_57, lt_59, lt_63, lt_64, lt_74, lt_75, lt_97, lt_122, lt_128, lt_144, lt_145, lt_146, lt_147, lt_155, lt_163, lt_171, lt_179, lt_200, lt_243, lt_244, lt_255, lt_256, lt_732, lt_900, lt_3660, lt_3904, lt_4095, lt_65536, lt_65537, lt_252645135, lt_858993459, lt_1431655765, ↓p_has_b, p_has, ↓p_has9_b, p_has9, ↓p_bit_b, p_bit, ↓p_bit1_b, p_bit1, ↓p_bit0_b, p_bit0, hL.t, show ¬ to < v + k by omega, ↓bnd (e3), e3, ← Nat.add_assoc]
  · rw [p_X9_sweep_43.eq_2, show v + (to + 1 - v) = to + 1 by omega, if_pos (by rw [ic_lt (by omega) (by omega)]; omega)]
    rfl
end DRAW
