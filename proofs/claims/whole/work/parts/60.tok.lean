/-! ===== tokens: the class ===== -/
def by8 (b : Nat) : Int32 := if b < 128 then ic b else ic b - ic 256
theorem by8_255 : ∀ b, b < 256 → by8 b &&& ic 255 = ic b := by decide +kernel
def sml (c : Nat) : Bool := decide (97 ≤ c ∧ c ≤ 122)
def dgt (c : Nat) : Bool := decide (48 ≤ c ∧ c ≤ 57)
def rl (q : Nat → Bool) : Nat → Nat → Nat
  | 0, p => p
  | d + 1, p => if q p = true then rl q d (p + 1) else p
theorem rl_le {q : Nat → Bool} : ∀ {d p : Nat}, p ≤ rl q d p ∧ rl q d p ≤ p + d := by
  intro d
  induction d with
  | zero => intro p; exact ⟨Nat.le_refl _, Nat.le_refl _⟩
  | succ d ih =>
    intro p
    unfold rl
    by_cases c : q p = true
    · rw [if_pos c]; have := @ih (p + 1); omega
    · rw [if_neg c]; omega
theorem rl_in {q : Nat → Bool} : ∀ {d p k : Nat}, p ≤ k → k < rl q d p → q k = true := by
  intro d
  induction d with
  | zero => intro p k h1 h2; exact absurd h2 (by unfold rl; omega)
  | succ d ih =>
    intro p k h1 h2
    unfold rl at h2
    by_cases c : q p = true
    · rw [if_pos c] at h2
      by_cases e : k = p
      · rw [e]; exact c
      · exact ih (p := p + 1) (by omega) h2
    · rw [if_neg c] at h2; omega
theorem rl_t {q : Nat → Bool} {d p : Nat} (h : q p = true) : rl q (d + 1) p = rl q d (p + 1) := if_pos h
theorem rl_f {q : Nat → Bool} {d p : Nat} (h : ¬ q p = true) : rl q (d + 1) p = p := if_neg h
/-- the number read behind k digits -/
def vnm (b : Nat → Nat) (f : Nat) : Nat → Nat
  | 0 => 0
  | k + 1 => vnm b f k * 10 + b (f + k) - 48
def tFr (b : Nat → Nat) (n p : Nat) : Nat := rl (fun k => decide (b k = 32)) (n - p) p
/-- sort (0 end 1 name 2 number 3 semicolon 4 odd), where it begins, where it ends, the number -/
def tok (b : Nat → Nat) (n p : Nat) : Nat × Nat × Nat × Nat :=
  if n ≤ tFr b n p then (0, tFr b n p, tFr b n p, 0)
  else if sml (b (tFr b n p)) = true then (if rl (fun k => sml (b k)) (n - tFr b n p) (tFr b n p) - tFr b n p ≤ 8 then 1 else 4, tFr b n p, rl (fun k => sml (b k)) (n - tFr b n p) (tFr b n p), 0)
  else if dgt (b (tFr b n p)) = true then (if rl (fun k => dgt (b k)) (n - tFr b n p) (tFr b n p) - tFr b n p ≤ 4 then 2 else 4, tFr b n p, rl (fun k => dgt (b k)) (n - tFr b n p) (tFr b n p), vnm b (tFr b n p) (rl (fun k => dgt (b k)) (n - tFr b n p) (tFr b n p) - tFr b n p))
  else (if b (tFr b n p) = 59 then 3 else 4, tFr b n p, tFr b n p + 1, 0)
theorem up_up {α : Type} (f : Nat → Nat → α) (a k : Nat) (v w : α) : up2 (up2 f a k v) a k w = up2 f a k w := by
  funext c j
  unfold up2
  by_cases h : c = a ∧ j = k
  · rw [if_pos h, if_pos h]
  · rw [if_neg h, if_neg h, if_neg h]
theorem p_sml5 {c : Nat} (hc : c < 256) (h : AH) : p_X5_isSmall (ic c) h = some (bi (sml c), h) := by
  unfold sml
  by_cases a : c < 97
  · rw [decide_eq_false (by omega)]; simp (maxSteps := 1000000) (disch := omega) only [↓reduceIte, ↓if_bi0, ↓if_bi1, hp_tg, hp_rI, hp_rR, hp_rL, hp_wI, hp_wL, Option.bind_some, if_11, if_01, bi_and1, i10, i01, bi_t, bi_f, ic_add, mr_4, ml_4, mr_8, ml_8, mr_10, ml_10, ic_add1, ic_sub1, ic_clamp, ic_div, ic_irm, ic_lt0, ic_0lt, ic_eq0, ic_lt, ic_inj, and15, and7, and31, and63, shl1, shr_ok, neg_1, neg_2, neg_3, neg_4, kc_lt0, kc_ic, kc_m2, kc_1, kc_0, i0_add, add_i0, or_i0, z_8, z_4, z_64, z_256, ic_m2, ec_m1, ic_m1, m1_lt0, m2_lt0, m3_lt0, m4_lt0, up_s, if_true, if_false, ne_eq, not_true_eq_false, not_false_eq_true, Bool.false_eq_true, eq_self, or_self, or_false, false_or, and_self, and_true, true_and, ite_self, Nat.reduceEqDiff, Nat.reduceLT, Nat.reduceMod, Nat.reduceMul, Nat.reduceAdd, Nat.reducePow, Nat.reduceDiv, lt_2, lt_3, lt_4, lt_5, lt_6, lt_7, lt_8, lt_10, lt_11, lt_12, lt_15, lt_16, lt_18, lt_20, lt_24, lt_31, lt_32, lt_48, lt_57, lt_59, lt_63, lt_64, lt_74, lt_75, lt_97, lt_122, lt_128, lt_144, lt_145, lt_146, lt_147, lt_155, lt_163, lt_171, lt_179, lt_200, lt_243, lt_244, lt_255, lt_256, lt_732, lt_900, lt_3660, lt_3904, lt_4095, lt_65536, lt_65537, lt_252645135, lt_858993459, lt_1431655765, ↓p_has_b, p_has, ↓p_has9_b, p_has9, ↓p_bit_b, p_bit, ↓p_bit1_b, p_bit1, ↓p_bit0_b, p_bit0, p_X5_isSmall_17, p_X5_isSmall_16, p_X5_isSmall, a]
  · by_cases b : 122 < c
    · rw [decide_eq_false (by omega)]; simp (maxSteps := 1000000) (disch := omega) only [↓reduceIte, ↓if_bi0, ↓if_bi1, hp_tg, hp_rI, hp_rR, hp_rL, hp_wI, hp_wL, Option.bind_some, if_11, if_01, bi_and1, i10, i01, bi_t, bi_f, ic_add, mr_4, ml_4, mr_8, ml_8, mr_10, ml_10, ic_add1, ic_sub1, ic_clamp, ic_div, ic_irm, ic_lt0, ic_0lt, ic_eq0, ic_lt, ic_inj, and15, and7, and31, and63, shl1, shr_ok, neg_1, neg_2, neg_3, neg_4, kc_lt0, kc_ic, kc_m2, kc_1, kc_0, i0_add, add_i0, or_i0, z_8, z_4, z_64, z_256, ic_m2, ec_m1, ic_m1, m1_lt0, m2_lt0, m3_lt0, m4_lt0, up_s, if_true, if_false, ne_eq, not_true_eq_false, not_false_eq_true, Bool.false_eq_true, eq_self, or_self, or_false, false_or, and_self, and_true, true_and, ite_self, Nat.reduceEqDiff, Nat.reduceLT, Nat.reduceMod, Nat.reduceMul, Nat.reduceAdd, Nat.reducePow, Nat.reduceDiv, lt_2, lt_3, lt_4, lt_5, lt_6, lt_7, lt_8, lt_10, lt_11, lt_12, lt_15, lt_16, lt_18, lt_20, lt_24, lt_31, lt_32, lt_48, lt_57, lt_59, lt_63, lt_64, lt_74, lt_75, lt_97, lt_122, lt_128, lt_144, lt_145, lt_146, lt_147, lt_155, lt_163, lt_171, lt_179, lt_200, lt_243, lt_244, lt_255, lt_256, lt_732, lt_900, lt_3660, lt_3904, lt_4095, lt_65536, lt_65537, lt_252645135, lt_858993459, lt_1431655765, ↓p_has_b, p_has, ↓p_has9_b, p_has9, ↓p_bit_b, p_bit, ↓p_bit1_b, p_bit1, ↓p_bit0_b, p_bit0, p_X5_isSmall_17, p_X5_isSmall_16, p_X5_isSmall, a, b]
    · rw [decide_eq_true (by omega)]; simp (maxSteps := 1000000) (disch := omega) only [↓reduceIte, ↓if_bi0, ↓if_bi1, hp_tg, hp_rI, hp_rR, hp_rL, hp_wI, hp_wL, Option.bind_some, if_11, if_01, bi_and1, i10, i01, bi_t, bi_f, ic_add, mr_4, ml_4, mr_8, ml_8, mr_10, ml_10, ic_add1, ic_sub1, ic_clamp, ic_div, ic_irm, ic_lt0, ic_0lt, ic_eq0, ic_lt, ic_inj, and15, and7, and31, and63, shl1, shr_ok, neg_1, neg_2, neg_3, neg_4, kc_lt0, kc_ic, kc_m2, kc_1, kc_0, i0_add, add_i0, or_i0, z_8, z_4, z_64, z_256, ic_m2, ec_m1, ic_m1, m1_lt0, m2_lt0, m3_lt0, m4_lt0, up_s, if_true, if_false, ne_eq, not_true_eq_false, not_false_eq_true, Bool.false_eq_true, eq_self, or_self, or_false, false_or, and_self, and_true, true_and, ite_self, Nat.reduceEqDiff, Nat.reduceLT, Nat.reduceMod, Nat.reduceMul, Nat.reduceAdd, Nat.reducePow, Nat.reduceDiv, lt_2, lt_3, lt_4, lt_5, lt_6, lt_7, lt_8, lt_10, lt_11, lt_12, lt_15, lt_16, lt_18, lt_20, lt_24, lt_31, lt_32, lt_48, lt_57, lt_59, lt_63, lt_64, lt_74, lt_75, lt_97, lt_122, lt_128, lt_144, lt_145, lt_146, lt_147, lt_155, lt_163, lt_171, lt_179, lt_200, lt_243, lt_244, lt_255, lt_256, lt_732, lt_900, lt_3660, lt_3904, lt_4095, lt_65536, lt_65537, lt_252645135, lt_858993459, lt_1431655765, ↓p_has_b, p_has, ↓p_has9_b, p_has9, ↓p_bit_b, p_bit, ↓p_bit1_b, p_bit1, ↓p_bit0_b, p_bit0, p_X5_isSmall_17, p_X5_isSmall_16, p_X5_isSmall, a, b]
theorem p_sml5_b {c : Nat} (hc : c < 256) (h : AH) {β : Type} (f9 : Int32 × AH → Option β) : (p_X5_isSmall (ic c) h).bind f9 = f9 (bi (sml c), h) := bnd (by apply p_sml5 <;> assumption)
theorem p_dgt5 {c : Nat} (hc : c < 256) (h : AH) : p_X5_isDigit (ic c) h = some (bi (dgt c), h) := by
  unfold dgt
  by_cases a : c < 48
  · rw [decide_eq_false (by omega)]; simp (maxSteps := 1000000) (disch := omega) only [↓reduceIte, ↓if_bi0, ↓if_bi1, hp_tg, hp_rI, hp_rR, hp_rL, hp_wI, hp_wL, Option.bind_some, if_11, if_01, bi_and1, i10, i01, bi_t, bi_f, ic_add, mr_4, ml_4, mr_8, ml_8, mr_10, ml_10, ic_add1, ic_sub1, ic_clamp, ic_div, ic_irm, ic_lt0, ic_0lt, ic_eq0, ic_lt, ic_inj, and15, and7, and31, and63, shl1, shr_ok, neg_1, neg_2, neg_3, neg_4, kc_lt0, kc_ic, kc_m2, kc_1, kc_0, i0_add, add_i0, or_i0, z_8, z_4, z_64, z_256, ic_m2, ec_m1, ic_m1, m1_lt0, m2_lt0, m3_lt0, m4_lt0, up_s, if_true, if_false, ne_eq, not_true_eq_false, not_false_eq_true, Bool.false_eq_true, eq_self, or_self, or_false, false_or, and_self, and_true, true_and, ite_self, Nat.reduceEqDiff, Nat.reduceLT, Nat.reduceMod, Nat.reduceMul, Nat.reduceAdd, Nat.reducePow, Nat.reduceDiv, lt_2, lt_3, lt_4, lt_5, lt_6, lt_7, lt_8, lt_10, lt_11, lt_12, lt_15, lt_16, lt_18, lt_20, lt_24, lt_31, lt_32, lt_48, lt_57, lt_59, lt_63, lt_64, lt_74, lt_75, lt_97, lt_122, lt_128, lt_144, lt_145, lt_146, lt_147, lt_155, lt_163, lt_171, lt_179, lt_200, lt_243, lt_244, lt_255, lt_256, lt_732, lt_900, lt_3660, lt_3904, lt_4095, lt_65536, lt_65537, lt_252645135, lt_858993459, lt_1431655765, ↓p_has_b, p_has, ↓p_has9_b, p_has9, ↓p_bit_b, p_bit, ↓p_bit1_b, p_bit1, ↓p_bit0_b, p_bit0, p_X5_isDigit_17, p_X5_isDigit_16, p_X5_isDigit, a]
  · by_cases b : 57 < c
    · rw [decide_eq_false (by omega)]; simp (maxSteps := 1000000) (disch := omega) only [↓reduceIte, ↓if_bi0, ↓if_bi1, hp_tg, hp_rI, hp_rR, hp_rL, hp_wI, hp_wL, Option.bind_some, if_11, if_01, bi_and1, i10, i01, bi_t, bi_f, ic_add, mr_4, ml_4, mr_8, ml_8, mr_10, ml_10, ic_add1, ic_sub1, ic_clamp, ic_div, ic_irm, ic_lt0, ic_0lt, ic_eq0, ic_lt, ic_inj, and15, and7, and31, and63, shl1, shr_ok, neg_1, neg_2, neg_3, neg_4, kc_lt0, kc_ic, kc_m2, kc_1, kc_0, i0_add, add_i0, or_i0, z_8, z_4, z_64, z_256, ic_m2, ec_m1, ic_m1, m1_lt0, m2_lt0, m3_lt0, m4_lt0, up_s, if_true, if_false, ne_eq, not_true_eq_false, not_false_eq_true, Bool.false_eq_true, eq_self, or_self, or_false, false_or, and_self, and_true, true_and, ite_self, Nat.reduceEqDiff, Nat.reduceLT, Nat.reduceMod, Nat.reduceMul, Nat.reduceAdd, Nat.reducePow, Nat.reduceDiv, lt_2, lt_3, lt_4, lt_5, lt_6, lt_7, lt_8, lt_10, lt_11, lt_12, lt_15, lt_16, lt_18, lt_20, lt_24, lt_31, lt_32, lt_48, lt_57, lt_59, lt_63, lt_64, lt_74, lt_75, lt_97, lt_122, lt_128, lt_144, lt_145, lt_146, lt_147, lt_155, lt_163, lt_171, lt_179, lt_200, lt_243, lt_244, lt_255, lt_256, lt_732, lt_900, lt_3660, lt_3904, lt_4095, lt_65536, lt_65537, lt_252645135, lt_858993459, lt_1431655765, ↓p_has_b, p_has, ↓p_has9_b, p_has9, ↓p_bit_b, p_bit, ↓p_bit1_b, p_bit1, ↓p_bit0_b, p_bit0, p_X5_isDigit_17, p_X5_isDigit_16, p_X5_isDigit, a, b]
    · rw [decide_eq_true (by omega)]; simp (maxSteps := 1000000) (disch := omega) only [↓reduceIte, ↓if_bi0, ↓if_bi1, hp_tg, hp_rI, hp_rR, hp_rL, hp_wI, hp_wL, Option.bind_some, if_11, if_01, bi_and1, i10, i01, bi_t, bi_f, ic_add, mr_4, ml_4, mr_8, ml_8, mr_10, ml_10, ic_add1, ic_sub1, ic_clamp, ic_div, ic_irm, ic_lt0, ic_0lt, ic_eq0, ic_lt, ic_inj, and15, and7, and31, and63, shl1, shr_ok, neg_1, neg_2, neg_3, neg_4, kc_lt0, kc_ic, kc_m2, kc_1, kc_0, i0_add, add_i0, or_i0, z_8, z_4, z_64, z_256, ic_m2, ec_m1, ic_m1, m1_lt0, m2_lt0, m3_lt0, m4_lt0, up_s, if_true, if_false, ne_eq, not_true_eq_false, not_false_eq_true, Bool.false_eq_true, eq_self, or_self, or_false, false_or, and_self, and_true, true_and, ite_self, Nat.reduceEqDiff, Nat.reduceLT, Nat.reduceMod, Nat.reduceMul, Nat.reduceAdd, Nat.reducePow, Nat.reduceDiv, lt_2, lt_3, lt_4, lt_5, lt_6, lt_7, lt_8, lt_10, lt_11, lt_12, lt_15, lt_16, lt_18, lt_20, lt_24, lt_31, lt_32, lt_48, lt_57, lt_59, lt_63, lt_64, lt_74, lt_75, lt_97, lt_122, lt_128, lt_144, lt_145, lt_146, lt_147, lt_155, lt_163, lt_171, lt_179, lt_200, lt_243, lt_244, lt_255, lt_256, lt_732, lt_900, lt_3660, lt_3904, lt_4095, lt_65536, lt_65537, lt_252645135, lt_858993459, lt_1431655765, ↓p_has_b, p_has, ↓p_has9_b, p_has9, ↓p_bit_b, p_bit, ↓p_bit1_b, p_bit1, ↓p_bit0_b, p_bit0, p_X5_isDigit_17, p_X5_isDigit_16, p_X5_isDigit, a, b]
theorem p_dgt5_b {c : Nat} (hc : c < 256) (h : AH) {β : Type} (f9 : Int32 × AH → Option β) : (p_X5_isDigit (ic c) h).bind f9 = f9 (bi (dgt c), h) := bnd (by apply p_dgt5 <;> assumption)
theorem p_sml5m (h : AH) : p_X5_isSmall m1 h = some (0, h) := rfl
theorem p_sml5m_b (h : AH) {β : Type} (f9 : Int32 × AH → Option β) : (p_X5_isSmall m1 h).bind f9 = f9 (0, h) := bnd (by apply p_sml5m <;> assumption)
theorem p_dgt5m (h : AH) : p_X5_isDigit m1 h = some (0, h) := rfl
theorem p_dgt5m_b (h : AH) {β : Type} (f9 : Int32 × AH → Option β) : (p_X5_isDigit m1 h).bind f9 = f9 (0, h) := bnd (by apply p_dgt5m <;> assumption)
section TOK
variable {S : SH} {I : II} {L : LL} {x m n : Nat} {b : Nat → Nat}
/-- the class Text at x, its tape at x + 1 -/
def XL (S : SH) (x : Nat) : Prop := (tT S x).1 = 4 ∧ tR S x 0 = x + 1 ∧ tT S (x + 1) = (101, 900)
def TP (I : II) (y : Nat) (b : Nat → Nat) : Prop := ∀ k, k < 900 → b k < 256 ∧ I y k = by8 (b k)
theorem by5_in (hL : XL S x) (hT : TP I (x + 1) b) (h2 : I x 2 = ic n) (hn : n ≤ 900) {p : Nat} (h9 : p < n) : p_X5_byteAt x (ic p) (hp S I L) = some (ic (b p), hp S I L) := by
  obtain ⟨t1, t2⟩ := hT p (by omega)
  simp (maxSteps := 1000000) (disch := omega) only [↓reduceIte, ↓if_bi0, ↓if_bi1, hp_tg, hp_rI, hp_rR, hp_rL, hp_wI, hp_wL, Option.bind_some, if_11, if_01, bi_and1, i10, i01, bi_t, bi_f, ic_add, mr_4, ml_4, mr_8, ml_8, mr_10, ml_10, ic_add1, ic_sub1, ic_clamp, ic_div, ic_irm, ic_lt0, ic_0lt, ic_eq0, ic_lt, ic_inj, and15, and7, and31, and63, shl1, shr_ok, neg_1, neg_2, neg_3, neg_4, kc_lt0, kc_ic, kc_m2, kc_1, kc_0, i0_add, add_i0, or_i0, z_8, z_4, z_64, z_256, ic_m2, ec_m1, ic_m1, m1_lt0, m2_lt0, m3_lt0, m4_lt0, up_s, if_true, if_false, ne_eq, not_true_eq_false, not_false_eq_true, Bool.false_eq_true, eq_self, or_self, or_false, false_or, and_self, and_true, true_and, ite_self, Nat.reduceEqDiff, Nat.reduceLT, Nat.reduceMod, Nat.reduceMul, Nat.reduceAdd, Nat.reducePow, Nat.reduceDiv, lt_2, lt_3, lt_4, lt_5, lt_6, lt_7, lt_8, lt_10, lt_11, lt_12, lt_15, lt_16, lt_18, lt_20, lt_24, lt_31, lt_32, lt_48, lt_57, lt_59, lt_63, lt_64, lt_74, lt_75, lt_97, lt_122, lt_128, lt_144, lt_145, lt_146, lt_147, lt_155, lt_163, lt_171, lt_179, lt_200, lt_243, lt_244, lt_255, lt_256, lt_732, lt_900, lt_3660, lt_3904, lt_4095, lt_65536, lt_65537, lt_252645135, lt_858993459, lt_1431655765, ↓p_has_b, p_has, ↓p_has9_b, p_has9, ↓p_bit_b, p_bit, ↓p_bit1_b, p_bit1, ↓p_bit0_b, p_bit0, p_X5_byteAt_33, p_X5_byteAt_32, p_X5_byteAt, hL.1, h2, h9, show p < 900 by omega, hL.2.1, if_inB hL.2.2, t2, by8_255 (b p) t1]
theorem by5_in_b (hL : XL S x) (hT : TP I (x + 1) b) (h2 : I x 2 = ic n) (hn : n ≤ 900) {p : Nat} (h9 : p < n) {β : Type} (f9 : Int32 × AH → Option β) : (p_X5_byteAt x (ic p) (hp S I L)).bind f9 = f9 (ic (b p), hp S I L) := bnd (by apply by5_in <;> assumption)
theorem by5_out (hL : XL S x) (h2 : I x 2 = ic n) (hn : n ≤ 900) {p : Nat} (h9 : ¬ p < n) (h8 : p < 2147483648) : p_X5_byteAt x (ic p) (hp S I L) = some (m1, hp S I L) := by
  simp (maxSteps := 1000000) (disch := omega) only [↓reduceIte, ↓if_bi0, ↓if_bi1, hp_tg, hp_rI, hp_rR, hp_rL, hp_wI, hp_wL, Option.bind_some, if_11, if_01, bi_and1, i10, i01, bi_t, bi_f, ic_add, mr_4, ml_4, mr_8, ml_8, mr_10, ml_10, ic_add1, ic_sub1, ic_clamp, ic_div, ic_irm, ic_lt0, ic_0lt, ic_eq0, ic_lt, ic_inj, and15, and7, and31, and63, shl1, shr_ok, neg_1, neg_2, neg_3, neg_4, kc_lt0, kc_ic, kc_m2, kc_1, kc_0, i0_add, add_i0, or_i0, z_8, z_4, z_64, z_256, ic_m2, ec_m1, ic_m1, m1_lt0, m2_lt0, m3_lt0, m4_lt0, up_s, if_true, if_false, ne_eq, not_true_eq_false, not_false_eq_true, Bool.false_eq_true, eq_self, or_self, or_false, false_or, and_self, and_true, true_and, ite_self, Nat.reduceEqDiff, Nat.reduceLT, Nat.reduceMod, Nat.reduceMul, Nat.reduceAdd, Nat.reducePow, Nat.reduceDiv, lt_2, lt_3, lt_4, lt_5, lt_6, lt_7, lt_8, lt_10, lt_11, lt_12, lt_15, lt_16, lt_18, lt_20, lt_24, lt_31, lt_32, lt_48, lt_57, lt_59, lt_63, lt_64, lt_74, lt_75, lt_97, lt_122, lt_128, lt_144, lt_145, lt_146, lt_147, lt_155, lt_163, lt_171, lt_179, lt_200, lt_243, lt_244, lt_255, lt_256, lt_732, lt_900, lt_3660, lt_3904, lt_4095, lt_65536, lt_65537, lt_252645135, lt_858993459, lt_1431655765, ↓p_has_b, p_has, ↓p_has9_b, p_has9, ↓p_bit_b, p_bit, ↓p_bit1_b, p_bit1, ↓p_bit0_b, p_bit0, p_X5_byteAt_33, p_X5_byteAt_32, p_X5_byteAt, hL.1, h2, h9]
theorem by5_out_b (hL : XL S x) (h2 : I x 2 = ic n) (hn : n ≤ 900) {p : Nat} (h9 : ¬ p < n) (h8 : p < 2147483648) {β : Type} (f9 : Int32 × AH → Option β) : (p_X5_byteAt x (ic p) (hp S I L)).bind f9 = f9 (m1, hp S I L) := bnd (by apply by5_out <;> assumption)
theorem k_sp (hL : XL S x) (hT : TP I (x + 1) b) (h2 : I x 2 = ic n) (hn : n ≤ 900) : ∀ (d p f : Nat), p + d = n → d < f → p_X5_advance_8 f x (hp S (up2 I x 4 (ic p)) L) = p_X5_advance_45 x (hp S (up2 I x 4 (ic (rl (fun k => decide (b k = 32)) d p))) L) := by
  intro d
  induction d with
  | zero =>
    intro p f h1 h3
    obtain ⟨f, rfl⟩ : ∃ m, f = m + 1 := ⟨f - 1, by omega⟩
    obtain rfl : p = n := by omega
    have g2 : up2 I x 4 (ic p) x 2 = ic p := by rw [up_k (by omega)]; exact h2
    rw [p_X5_advance_8.eq_2]
    simp (maxSteps := 1000000) (disch := omega) only [↓reduceIte, ↓if_bi0, ↓if_bi1, hp_tg, hp_rI, hp_rR, hp_rL, hp_wI, hp_wL, Option.bind_some, if_11, if_01, bi_and1, i10, i01, bi_t, bi_f, ic_add, mr_4, ml_4, mr_8, ml_8, mr_10, ml_10, ic_add1, ic_sub1, ic_clamp, ic_div, ic_irm, ic_lt0, ic_0lt, ic_eq0, ic_lt, ic_inj, and15, and7, and31, and63, shl1, shr_ok, neg_1, neg_2, neg_3, neg_4, kc_lt0, kc_ic, kc_m2, kc_1, kc_0, i0_add, add_i0, or_i0, z_8, z_4, z_64, z_256, ic_m2, ec_m1, ic_m1, m1_lt0, m2_lt0, m3_lt0, m4_lt0, up_s, if_true, if_false, ne_eq, not_true_eq_false, not_false_eq_true, Bool.false_eq_true, eq_self, or_self, or_false, false_or, and_self, and_true, true_and, ite_self, Nat.reduceEqDiff, Nat.reduceLT, Nat.reduceMod, Nat.reduceMul, Nat.reduceAdd, Nat.reducePow, Nat.reduceDiv, lt_2, lt_3, lt_4, lt_5, lt_6, lt_7, lt_8, lt_10, lt_11, lt_12, lt_15, lt_16, lt_18, lt_20, lt_24, lt_31, lt_32, lt_48, lt_57, lt_59, lt_63, lt_64, lt_74, lt_75, lt_97, lt_122, lt_128, lt_144, lt_145, lt_146, lt_147, lt_155, lt_163, lt_171, lt_179, lt_200, lt_243, lt_244, lt_255, lt_256, lt_732, lt_900, lt_3660, lt_3904, lt_4095, lt_65536, lt_65537, lt_252645135, lt_858993459, lt_1431655765, ↓p_has_b, p_has, ↓p_has9_b, p_has9, ↓p_bit_b, p_bit, ↓p_bit1_b, p_bit1, ↓p_bit0_b, p_bit0, hL.1, g2, Nat.lt_irrefl]
    rfl
  | succ d ih =>
    intro p f h1 h3
    obtain ⟨f, rfl⟩ : ∃ m, f = m + 1 := ⟨f - 1, by omega⟩
    have g2 : up2 I x 4 (ic p) x 2 = ic n := by rw [up_k (by omega)]; exact h2
    have gT : TP (up2 I x 4 (ic p)) (x + 1) b := fun k hk => by rw [up_a (by omega)]; exact hT k hk
    have A := by5_in (L := L) hL gT g2 hn (p := p) (by omega)
    have hb := (hT p (by omega)).1
    rw [p_X5_advance_8.eq_2]
    by_cases c : b p = 32
    · rw [rl_t (decide_eq_true c)]
      rw [c] at A
      have B9 := ih (p + 1) f (by omega) (by omega)
      rw [← up_up I x 4 (ic p) (ic (p + 1))] at B9
      simp (maxSteps := 1000000) (disch := omega) only [↓reduceIte, ↓if_bi0, ↓if_bi1, hp_tg, hp_rI, hp_rR, hp_rL, hp_wI, hp_wL, Option.bind_some, if_11, if_01, bi_and1, i10, i01, bi_t, bi_f, ic_add, mr_4, ml_4, mr_8, ml_8, mr_10, ml_10, ic_add1, ic_sub1, ic_clamp, ic_div, ic_irm, ic_lt0, ic_0lt, ic_eq0, ic_lt, ic_inj, and15, and7, and31, and63, shl1, shr_ok, neg_1, neg_2, neg_3, neg_4, kc_lt0, kc_ic, kc_m2, kc_1, kc_0, i0_add, add_i0, or_i0, z_8, z_4, z_64, z_256, ic_m2, ec_m1, ic_m1, m1_lt0, m2_lt0, m3_lt0, m4_lt0, up_s, if_true, if_false, ne_eq, not_true_eq_false, not_false_eq_true, Bool.false_eq_true, eq_self, or_self, or_false, false_or, and_self, and_true, true_and, ite_self, Nat.reduceEqDiff, Nat.reduceLT, Nat.reduceMod, Nat.reduceMul, Nat.reduceAdd, Nat.reducePow, Nat.reduceDiv, lt_2, lt_3, lt_4, lt_5, lt_6, lt_7, lt_8, lt_10, lt_11, lt_12, lt_15, lt_16, lt_18, lt_20, lt_24, lt_31, lt_32, lt_48, lt_57, lt_59, lt_63, lt_64, lt_74, lt_75, lt_97, lt_122, lt_128, lt_144, lt_145, lt_146, lt_147, lt_155, lt_163, lt_171, lt_179, lt_200, lt_243, lt_244, lt_255, lt_256, lt_732, lt_900, lt_3660, lt_3904, lt_4095, lt_65536, lt_65537, lt_252645135, lt_858993459, lt_1431655765, ↓p_has_b, p_has, ↓p_has9_b, p_has9, ↓p_bit_b, p_bit, ↓p_bit1_b, p_bit1, ↓p_bit0_b, p_bit0, hL.1, g2, show p < n by omega, ↓bnd (A), A]
      exact B9
    · rw [rl_f (by rw [decide_eq_false c]; decide)]
      simp (maxSteps := 1000000) (disch := omega) only [↓reduceIte, ↓if_bi0, ↓if_bi1, hp_tg, hp_rI, hp_rR, hp_rL, hp_wI, hp_wL, Option.bind_some, if_11, if_01, bi_and1, i10, i01, bi_t, bi_f, ic_add, mr_4, ml_4, mr_8, ml_8, mr_10, ml_10, ic_add1, ic_sub1, ic_clamp, ic_div, ic_irm, ic_lt0, ic_0lt, ic_eq0, ic_lt, ic_inj, and15, and7, and31, and63, shl1, shr_ok, neg_1, neg_2, neg_3, neg_4, kc_lt0, kc_ic, kc_m2, kc_1, kc_0, i0_add, add_i0, or_i0, z_8, z_4, z_64, z_256, ic_m2, ec_m1, ic_m1, m1_lt0, m2_lt0, m3_lt0, m4_lt0, up_s, if_true, if_false, ne_eq, not_true_eq_false, not_false_eq_true, Bool.false_eq_true, eq_self, or_self, or_false, false_or, and_self, and_true, true_and, ite_self, Nat.reduceEqDiff, Nat.reduceLT, Nat.reduceMod, Nat.reduceMul, Nat.reduceAdd, Nat.reducePow, Nat.reduceDiv, lt_2, lt_3, lt_4, lt_5, lt_6, lt_7, lt_8, lt_10, lt_11, lt_12, lt_15, lt_16, lt_18, lt_20, lt_24, lt_31, lt_32, lt_48, lt_57, lt_59, lt_63, lt_64, lt_74, lt_75, lt_97, lt_122, lt_128, lt_144, lt_145, lt_146, lt_147, lt_155, lt_163, lt_171, lt_179, lt_200, lt_243, lt_244, lt_255, lt_256, lt_732, lt_900, lt_3660, lt_3904, lt_4095, lt_65536, lt_65537, lt_252645135, lt_858993459, lt_1431655765, ↓p_has_b, p_has, ↓p_has9_b, p_has9, ↓p_bit_b, p_bit, ↓p_bit1_b, p_bit1, ↓p_bit0_b, p_bit0, hL.1, g2, show p < n by omega, ↓bnd (A), A, c]
theorem k_sm (hL : XL S x) (hT : TP I (x + 1) b) (h2 : I x 2 = ic n) (hn : n ≤ 900) : ∀ (d p f : Nat), p + d = n → d < f → p_X5_advance_69 f x (hp S (up2 I x 5 (ic p)) L) = p_X5_advance_107 x (hp S (up2 I x 5 (ic (rl (fun k => sml (b k)) d p))) L) := by
  intro d
  induction d with
  | zero =>
    intro p f h1 h3
    obtain ⟨f, rfl⟩ : ∃ m, f = m + 1 := ⟨f - 1, by omega⟩
    obtain rfl : p = n := by omega
    have g2 : up2 I x 5 (ic p) x 2 = ic p := by rw [up_k (by omega)]; exact h2
    rw [p_X5_advance_69.eq_2]
    simp (maxSteps := 1000000) (disch := omega) only [↓reduceIte, ↓if_bi0, ↓if_bi1, hp_tg, hp_rI, hp_rR, hp_rL, hp_wI, hp_wL, Option.bind_some, if_11, if_01, bi_and1, i10, i01, bi_t, bi_f, ic_add, mr_4, ml_4, mr_8, ml_8, mr_10, ml_10, ic_add1, ic_sub1, ic_clamp, ic_div, ic_irm, ic_lt0, ic_0lt, ic_eq0, ic_lt, ic_inj, and15, and7, and31, and63, shl1, shr_ok, neg_1, neg_2, neg_3, neg_4, kc_lt0, kc_ic, kc_m2, kc_1, kc_0, i0_add, add_i0, or_i0, z_8, z_4, z_64, z_256, ic_m2, ec_m1, ic_m1, m1_lt0, m2_lt0, m3_lt0, m4_lt0, up_s, if_true, if_false, ne_eq, not_true_eq_false, not_false_eq_true, Bool.false_eq_true, eq_self, or_self, or_false, false_or, and_self, and_true, true_and, ite_self, Nat.reduceEqDiff, Nat.reduceLT, Nat.reduceMod, Nat.reduceMul, Nat.reduceAdd, Nat.reducePow, Nat.reduceDiv, lt_2, lt_3, lt_4, lt_5, lt_6, lt_7, lt_8, lt_10, lt_11, lt_12, lt_15, lt_16, lt_18, lt_20, lt_24, lt_31, lt_32, lt_48, lt_57, lt_59, lt_63, lt_64, lt_74, lt_75, lt_97, lt_122, lt_128, lt_144, lt_145, lt_146, lt_147, lt_155, lt_163, lt_171, lt_179, lt_200, lt_243, lt_244, lt_255, lt_256, lt_732, lt_900, lt_3660, lt_3904, lt_4095, lt_65536, lt_65537, lt_252645135, lt_858993459, lt_1431655765, ↓p_has_b, p_has, ↓p_has9_b, p_has9, ↓p_bit_b, p_bit, ↓p_bit1_b, p_bit1, ↓p_bit0_b, p_bit0, hL.1, g2, Nat.lt_irrefl]
    rfl
  | succ d ih =>
    intro p f h1 h3
    obtain ⟨f, rfl⟩ : ∃ m, f = m + 1 := ⟨f - 1, by omega⟩
    have g2 : up2 I x 5 (ic p) x 2 = ic n := by rw [up_k (by omega)]; exact h2
    have gT : TP (up2 I x 5 (ic p)) (x + 1) b := fun k hk => by rw [up_a (by omega)]; exact hT k hk
    have A := by5_in (L := L) hL gT g2 hn (p := p) (by omega)
    have hb := (hT p (by omega)).1
    have C9 := p_sml5 hb (hp S (up2 I x 5 (ic p)) L)
    rw [p_X5_advance_69.eq_2]
    cases c : sml (b p)
    · rw [rl_f (q := fun k => sml (b k)) (by rw [c]; decide)]
      rw [c] at C9
      simp (maxSteps := 1000000) (disch := omega) only [↓reduceIte, ↓if_bi0, ↓if_bi1, hp_tg, hp_rI, hp_rR, hp_rL, hp_wI, hp_wL, Option.bind_some, if_11, if_01, bi_and1, i10, i01, bi_t, bi_f, ic_add, mr_4, ml_4, mr_8, ml_8, mr_10, ml_10, ic_add1, ic_sub1, ic_clamp, ic_div, ic_irm, ic_lt0, ic_0lt, ic_eq0, ic_lt, ic_inj, and15, and7, and31, and63, shl1, shr_ok, neg_1, neg_2, neg_3, neg_4, kc_lt0, kc_ic, kc_m2, kc_1, kc_0, i0_add, add_i0, or_i0, z_8, z_4, z_64, z_256, ic_m2, ec_m1, ic_m1, m1_lt0, m2_lt0, m3_lt0, m4_lt0, up_s, if_true, if_false, ne_eq, not_true_eq_false, not_false_eq_true, Bool.false_eq_true, eq_self, or_self, or_false, false_or, and_self, and_true, true_and, ite_self, Nat.reduceEqDiff, Nat.reduceLT, Nat.reduceMod, Nat.reduceMul, Nat.reduceAdd, Nat.reducePow, Nat.reduceDiv, lt_2, lt_3, lt_4, lt_5, lt_6, lt_7, lt_8, lt_10, lt_11, lt_12, lt_15, lt_16, lt_18, lt_20, lt_24, lt_31, lt_32, lt_48, lt_57, lt_59, lt_63, lt_64, lt_74, lt_75, lt_97, lt_122, lt_128, lt_144, lt_145, lt_146, lt_147, lt_155, lt_163, lt_171, lt_179, lt_200, lt_243, lt_244, lt_255, lt_256, lt_732, lt_900, lt_3660, lt_3904, lt_4095, lt_65536, lt_65537, lt_252645135, lt_858993459, lt_1431655765, ↓p_has_b, p_has, ↓p_has9_b, p_has9, ↓p_bit_b, p_bit, ↓p_bit1_b, p_bit1, ↓p_bit0_b, p_bit0, hL.1, g2, show p < n by omega, ↓bnd (A), A, ↓bnd (C9), C9]
    · rw [rl_t (q := fun k => sml (b k)) c]
      rw [c] at C9
      have B9 := ih (p + 1) f (by omega) (by omega)
      rw [← up_up I x 5 (ic p) (ic (p + 1))] at B9
      simp (maxSteps := 1000000) (disch := omega) only [↓reduceIte, ↓if_bi0, ↓if_bi1, hp_tg, hp_rI, hp_rR, hp_rL, hp_wI, hp_wL, Option.bind_some, if_11, if_01, bi_and1, i10, i01, bi_t, bi_f, ic_add, mr_4, ml_4, mr_8, ml_8, mr_10, ml_10, ic_add1, ic_sub1, ic_clamp, ic_div, ic_irm, ic_lt0, ic_0lt, ic_eq0, ic_lt, ic_inj, and15, and7, and31, and63, shl1, shr_ok, neg_1, neg_2, neg_3, neg_4, kc_lt0, kc_ic, kc_m2, kc_1, kc_0, i0_add, add_i0, or_i0, z_8, z_4, z_64, z_256, ic_m2, ec_m1, ic_m1, m1_lt0, m2_lt0, m3_lt0, m4_lt0, up_s, if_true, if_false, ne_eq, not_true_eq_false, not_false_eq_true, Bool.false_eq_true, eq_self, or_self, or_false, false_or, and_self, and_true, true_and, ite_self, Nat.reduceEqDiff, Nat.reduceLT, Nat.reduceMod, Nat.reduceMul, Nat.reduceAdd, Nat.reducePow, Nat.reduceDiv, lt_2, lt_3, lt_4, lt_5, lt_6, lt_7, lt_8, lt_10, lt_11, lt_12, lt_15, lt_16, lt_18, lt_20, lt_24, lt_31, lt_32, lt_48, lt_57, lt_59, lt_63, lt_64, lt_74, lt_75, lt_97, lt_122, lt_128, lt_144, lt_145, lt_146, lt_147, lt_155, lt_163, lt_171, lt_179, lt_200, lt_243, lt_244, lt_255, lt_256, lt_732, lt_900, lt_3660, lt_3904, lt_4095, lt_65536, lt_65537, lt_252645135, lt_858993459, lt_1431655765, ↓p_has_b, p_has, ↓p_has9_b, p_has9, ↓p_bit_b, p_bit, ↓p_bit1_b, p_bit1, ↓p_bit0_b, p_bit0, hL.1, g2, show p < n by omega, ↓bnd (A), A, ↓bnd (C9), C9]
      exact B9
theorem k_dg (hL : XL S x) (hT : TP I (x + 1) b) (h2 : I x 2 = ic n) (hn : n ≤ 900) {f0 : Nat} : ∀ (d p f : Nat), p + d = n → d < f → f0 ≤ p → p_X5_advance_145 f x (hp S (up2 (up2 I x 6 (ic (vnm b f0 (p - f0)))) x 5 (ic p)) L) = p_X5_advance_206 x (hp S (up2 (up2 I x 6 (ic (vnm b f0 (rl (fun k => dgt (b k)) d p - f0)))) x 5 (ic (rl (fun k => dgt (b k)) d p))) L) := by
  intro d
  induction d with
  | zero =>
    intro p f h1 h3 h4
    obtain ⟨f, rfl⟩ : ∃ m, f = m + 1 := ⟨f - 1, by omega⟩
    obtain rfl : p = n := by omega
    have g2 : up2 (up2 I x 6 (ic (vnm b f0 (p - f0)))) x 5 (ic p) x 2 = ic p := by rw [up_k (by omega), up_k (by omega)]; exact h2
    rw [p_X5_advance_145.eq_2]
    simp (maxSteps := 1000000) (disch := omega) only [↓reduceIte, ↓if_bi0, ↓if_bi1, hp_tg, hp_rI, hp_rR, hp_rL, hp_wI, hp_wL, Option.bind_some, if_11, if_01, bi_and1, i10, i01, bi_t, bi_f, ic_add, mr_4, ml_4, mr_8, ml_8, mr_10, ml_10, ic_add1, ic_sub1, ic_clamp, ic_div, ic_irm, ic_lt0, ic_0lt, ic_eq0, ic_lt, ic_inj, and15, and7, and31, and63, shl1, shr_ok, neg_1, neg_2, neg_3, neg_4, kc_lt0, kc_ic, kc_m2, kc_1, kc_0, i0_add, add_i0, or_i0, z_8, z_4, z_64, z_256, ic_m2, ec_m1, ic_m1, m1_lt0, m2_lt0, m3_lt0, m4_lt0, up_s, if_true, if_false, ne_eq, not_true_eq_false, not_false_eq_true, Bool.false_eq_true, eq_self, or_self, or_false, false_or, and_self, and_true, true_and, ite_self, Nat.reduceEqDiff, Nat.reduceLT, Nat.reduceMod, Nat.reduceMul, Nat.reduceAdd, Nat.reducePow, Nat.reduceDiv, lt_2, lt_3, lt_4, lt_5, lt_6, lt_7, lt_8, lt_10, lt_11, lt_12, lt_15, lt_16, lt_18, lt_20, lt_24, lt_31, lt_32, lt_48, lt_57, lt_59, lt_63, lt_64, lt_74, lt_75, lt_97, lt_122, lt_128, lt_144, lt_145, lt_146, lt_147, lt_155, lt_163, lt_171, lt_179, lt_200, lt_243, lt_244, lt_255, lt_256, lt_732, lt_900, lt_3660, lt_3904, lt_4095, lt_65536, lt_65537, lt_252645135, lt_858993459, lt_1431655765, ↓p_has_b, p_has, ↓p_has9_b, p_has9, ↓p_bit_b, p_bit, ↓p_bit1_b, p_bit1, ↓p_bit0_b, p_bit0, hL.1, g2, Nat.lt_irrefl]
    rfl
  | succ d ih =>
    intro p f h1 h3 h4
    obtain ⟨f, rfl⟩ : ∃ m, f = m + 1 := ⟨f - 1, by omega⟩
    have g2 : up2 (up2 I x 6 (ic (vnm b f0 (p - f0)))) x 5 (ic p) x 2 = ic n := by rw [up_k (by omega), up_k (by omega)]; exact h2
    have g6 : up2 (up2 I x 6 (ic (vnm b f0 (p - f0)))) x 5 (ic p) x 6 = ic (vnm b f0 (p - f0)) := by rw [up_k (by omega), up_s]
    have gT : TP (up2 (up2 I x 6 (ic (vnm b f0 (p - f0)))) x 5 (ic p)) (x + 1) b := fun k hk => by rw [up_a (by omega), up_a (by omega)]; exact hT k hk
    have A := by5_in (L := L) hL gT g2 hn (p := p) (by omega)
    have hb := (hT p (by omega)).1
    have C9 := p_dgt5 hb (hp S (up2 (up2 I x 6 (ic (vnm b f0 (p - f0)))) x 5 (ic p)) L)
    rw [p_X5_advance_145.eq_2]
    cases c : dgt (b p)
    · rw [rl_f (q := fun k => dgt (b k)) (by rw [c]; decide)]
      rw [c] at C9
      simp (maxSteps := 1000000) (disch := omega) only [↓reduceIte, ↓if_bi0, ↓if_bi1, hp_tg, hp_rI, hp_rR, hp_rL, hp_wI, hp_wL, Option.bind_some, if_11, if_01, bi_and1, i10, i01, bi_t, bi_f, ic_add, mr_4, ml_4, mr_8, ml_8, mr_10, ml_10, ic_add1, ic_sub1, ic_clamp, ic_div, ic_irm, ic_lt0, ic_0lt, ic_eq0, ic_lt, ic_inj, and15, and7, and31, and63, shl1, shr_ok, neg_1, neg_2, neg_3, neg_4, kc_lt0, kc_ic, kc_m2, kc_1, kc_0, i0_add, add_i0, or_i0, z_8, z_4, z_64, z_256, ic_m2, ec_m1, ic_m1, m1_lt0, m2_lt0, m3_lt0, m4_lt0, up_s, if_true, if_false, ne_eq, not_true_eq_false, not_false_eq_true, Bool.false_eq_true, eq_self, or_self, or_false, false_or, and_self, and_true, true_and, ite_self, Nat.reduceEqDiff, Nat.reduceLT, Nat.reduceMod, Nat.reduceMul, Nat.reduceAdd, Nat.reducePow, Nat.reduceDiv, lt_2, lt_3, lt_4, lt_5, lt_6, lt_7, lt_8, lt_10, lt_11, lt_12, lt_15, lt_16, lt_18, lt_20, lt_24, lt_31, lt_32, lt_48, lt_57, lt_59, lt_63, lt_64, lt_74, lt_75, lt_97, lt_122, lt_128, lt_144, lt_145, lt_146, lt_147, lt_155, lt_163, lt_171, lt_179, lt_200, lt_243, lt_244, lt_255, lt_256, lt_732, lt_900, lt_3660, lt_3904, lt_4095, lt_65536, lt_65537, lt_252645135, lt_858993459, lt_1431655765, ↓p_has_b, p_has, ↓p_has9_b, p_has9, ↓p_bit_b, p_bit, ↓p_bit1_b, p_bit1, ↓p_bit0_b, p_bit0, hL.1, g2, show p < n by omega, ↓bnd (A), A, ↓bnd (C9), C9]
    · rw [rl_t (q := fun k => dgt (b k)) c]
      rw [c] at C9
      have B9 := ih (p + 1) f (by omega) (by omega) (by omega)
      have hd := of_decide_eq_true c
      have ev : ic (vnm b f0 (p - f0)) * ic 10 + ic (b p) - ic 48 = ic (vnm b f0 (p + 1 - f0)) := by
        rw [ic_mul, ic_add, ic_sub (by omega), show p + 1 - f0 = (p - f0) + 1 by omega]
        show _ = ic (vnm b f0 (p - f0) * 10 + b (f0 + (p - f0)) - 48)
        rw [show f0 + (p - f0) = p by omega]
      have ee : up2 (up2 (up2 (up2 I x 6 (ic (vnm b f0 (p - f0)))) x 5 (ic p)) x 6 (ic (vnm b f0 (p + 1 - f0)))) x 5 (ic (p + 1)) = up2 (up2 I x 6 (ic (vnm b f0 (p + 1 - f0)))) x 5 (ic (p + 1)) := by
        funext c j
        unfold up2
        by_cases h5 : c = x ∧ j = 5
        · simp only [if_pos h5]
        · by_cases h6 : c = x ∧ j = 6
          · simp only [if_neg h5, if_pos h6]
          · simp only [if_neg h5, if_neg h6]
      have g5 : up2 (up2 (up2 I x 6 (ic (vnm b f0 (p - f0)))) x 5 (ic p)) x 6 (ic (vnm b f0 (p + 1 - f0))) x 5 = ic p := by rw [up_k (by omega), up_s]
      rw [← ee] at B9
      simp only [↓reduceIte, ↓if_bi0, hp_tg, hp_rR, hp_rI, hp_wI, eq_self, bi_t, bi_f, i10, if_true, if_false, Bool.false_eq_true, hL.1, g2]
      rw [up_s, if_pos (show ic p < ic n by rw [ic_lt (by omega) (by omega)]; omega)]
      refine Eq.trans (bnd A) ?_
      refine Eq.trans (bnd C9) ?_
      simp only [↓reduceIte, ↓if_bi0, hp_tg, hp_rR, hp_rI, hp_wI, eq_self, bi_t, bi_f, i10, if_true, if_false, Bool.false_eq_true, hL.1, g6]
      rw [up_s]
      refine Eq.trans (bnd A) ?_
      simp only [↓reduceIte, ↓if_bi0, hp_tg, hp_rR, hp_rI, hp_wI, eq_self, bi_t, bi_f, i10, if_true, if_false, Bool.false_eq_true, hL.1, g6]
      rw [show (10 : Int32) = ic 10 from rfl, show (48 : Int32) = ic 48 from rfl, ev]
      simp only [↓reduceIte, ↓if_bi0, hp_tg, hp_rR, hp_rI, hp_wI, eq_self, bi_t, bi_f, i10, if_true, if_false, Bool.false_eq_true, hL.1, g5]
      rw [ic_add1]
      exact B9
end TOK
