/-! ===== unsure words: class and reference ===== -/
def fN (T : TS) (k : Nat) : Nat := cnt (fit T) k
def fSm (T : TS) (k : Nat) : Nat := fo (fun o n => if fit T o = true then n ||| o else n) k 0 0
def fEv (T : TS) (i k : Nat) : Nat := fo (fun o n => if fit T o = true then n &&& o else n) k 0 i
def oIn (T : TS) (d k : Nat) : Nat := cnt (fun o => fit T o && o.testBit d) k
def fAt (T : TS) (x : Int32) (k : Nat) : Int32 := fo (fun o f => if fit T o = true then (if ic (fN T o) = x then ic o else f) else f) k 0 m1
theorem fN_s (T : TS) (k : Nat) : fN T (k + 1) = if fit T k = true then fN T k + 1 else fN T k := cnt_succ _ _
theorem oIn_s (T : TS) (d k : Nat) : oIn T d (k + 1) = if (fit T k && k.testBit d) = true then oIn T d k + 1 else oIn T d k := cnt_succ _ _
theorem fSm_s (T : TS) (k : Nat) : fSm T (k + 1) = if fit T k = true then fSm T k ||| k else fSm T k := by unfold fSm; rw [fo_last, Nat.zero_add]
theorem fEv_s (T : TS) (i k : Nat) : fEv T i (k + 1) = if fit T k = true then fEv T i k &&& k else fEv T i k := by unfold fEv; rw [fo_last, Nat.zero_add]
theorem fAt_s (T : TS) (x : Int32) (k : Nat) : fAt T x (k + 1) = if fit T k = true then (if ic (fN T k) = x then ic k else fAt T x k) else fAt T x k := by unfold fAt; rw [fo_last, Nat.zero_add]
theorem fN_le (T : TS) (k : Nat) : fN T k ≤ k := cnt_le _ _
theorem oIn_le (T : TS) (d k : Nat) : oIn T d k ≤ fN T k := by
  induction k with
  | zero => exact Nat.le_refl 0
  | succ k ih =>
    rw [oIn_s, fN_s]
    cases fit T k
    · exact ih
    · cases k.testBit d
      · rw [if_neg (by decide), if_pos rfl]; omega
      · rw [if_pos (show (true && true) = true from rfl), if_pos rfl]; omega
def lft (T : TS) (d : Nat) : Nat := if fN T (2 ^ dN T) - oIn T d (2 ^ dN T) < oIn T d (2 ^ dN T) then oIn T d (2 ^ dN T) else fN T (2 ^ dN T) - oIn T d (2 ^ dN T)
def bst1 (T : TS) (d : Nat) (b : Option Nat) : Option Nat := om b (some d) (fun j => if lft T d < lft T j then some d else some j)
def bst (T : TS) (k : Nat) : Option Nat := if fN T (2 ^ dN T) = 0 then none else fo (bst1 T) k 0 none
section ASK
variable {S : SH} {I : II} {L : LL} {t m a g : Nat} {s : St} {T : TS}
/-- the reference's counts behind k sets -/
def FQ (I : II) (T : TS) (m : Nat) (x : Int32) (k : Nat) (c : Int32 × II) : Prop := c.1 = fAt T x k ∧ c.2 m 36 = ic (fN T k) ∧ c.2 m 37 = ic (fSm T k) ∧ c.2 m 38 = ic (fEv T (2 ^ dN T - 1) k) ∧ (∀ d, d < dN T → c.2 (m + 6) d = ic (oIn T d k)) ∧ (∀ j, j < 26 → c.2 m j = I m j) ∧ ∀ b, b ≠ m → b ≠ m + 3 → b ≠ m + 6 → c.2 b = I b
theorem x_fitting (hL : ML S m) (ha : tR S m 3 = a) (hA : MCL S a) (hm : m + 6 < a) (hR : MR I a T) (hV : TV T) (x : Int32) : ∃ I', p_X9_fitting m x (hp S I L) = some (fAt T x (2 ^ dN T), hp S I' L) ∧ I' m 36 = ic (fN T (2 ^ dN T)) ∧ I' m 37 = ic (fSm T (2 ^ dN T)) ∧ I' m 38 = ic (if fN T (2 ^ dN T) = 0 then 0 else fEv T (2 ^ dN T - 1) (2 ^ dN T)) ∧ (∀ d, d < dN T → I' (m + 6) d = ic (oIn T d (2 ^ dN T))) ∧ (∀ j, j < 26 → I' m j = I m j) ∧ ∀ b, b ≠ m → b ≠ m + 3 → b ≠ m + 6 → I' b = I b := by
  obtain ⟨hd4, hdb⟩ := hV.2.2.2.2.1
  have h16 := p2_4 hd4
  have h1 : 1 ≤ 2 ^ dN T := Nat.one_le_two_pow
  have r6 := hR.2.2.2.2.2.2.1.1
  have l0 := hA.1
  have keepM : ∀ J : II, (∀ b, b ≠ m → b ≠ m + 3 → b ≠ m + 6 → J b = I b) → MR J a T := by
    intro J f
    unfold MR
    rw [f a (by omega) (by omega) (by omega), f (a + 1) (by omega) (by omega) (by omega), f (a + 2) (by omega) (by omega) (by omega), f (a + 3) (by omega) (by omega) (by omega), f (a + 4) (by omega) (by omega) (by omega), f (a + 5) (by omega) (by omega) (by omega), f (a + 6) (by omega) (by omega) (by omega), f (a + 7) (by omega) (by omega) (by omega), f (a + 8) (by omega) (by omega) (by omega), f (a + 9) (by omega) (by omega) (by omega), f (a + 10) (by omega) (by omega) (by omega)]
    exact hR
  -- a set that fits: its words are counted
  have inner : ∀ (c : II) (f9 : Int32) (o : Nat), o < 16 → fit T o = true → c a 6 = ic (dN T) → (∀ d, d < dN T → c (m + 6) d = ic (oIn T d o)) → ∀ k49 : Nat → Int32 → Int32 → Int32 → AH → Option (Int32 × AH), ∃ c', p_X9_fitting_118 k49 FU m x f9 (ic o) 0 (hp S c L) = k49 m x f9 (ic (o + 1)) (hp S c' L) ∧ (∀ d, d < dN T → c' (m + 6) d = ic (oIn T d (o + 1))) ∧ ∀ b, b ≠ m + 6 → c' b = c b := by
    intro c f9 o ho hfit c6 hc k49
    have := lp_to (fun n d (J : II) => p_X9_fitting_118 k49 n m x f9 (ic o) (ic d) (hp S J L)) (dN T) (fun k J => (∀ d, d < dN T → J (m + 6) d = if d < k then ic (oIn T d (o + 1)) else ic (oIn T d o)) ∧ ∀ b, b ≠ m + 6 → J b = c b) (fun J => k49 m x f9 (ic (o + 1)) (hp S J L)) (fun n k J hk hJ => ?_) (fun n J hJ => ?_) (dN T) 0 FU c (by omega) (fu_lt (by omega)) ⟨fun d hd => by rw [if_neg (by omega)]; exact hc d hd, fun _ _ => rfl⟩
    · obtain ⟨J, e, h2, h3⟩ := this
      exact ⟨J, e, fun d hd => by rw [h2 d hd, if_pos hd], h3⟩
    · have j6 : J a 6 = ic (dN T) := by rw [hJ.2 a (by omega)]; exact c6
      have jk : J (m + 6) k = ic (oIn T k o) := by rw [hJ.1 k hk, if_neg (by omega)]
      have b9 := p_bit9 (w := o) (f := k) (by omega) (by omega) (hp S J L)
      have hs := oIn_s T k o
      rw [hfit, Bool.true_and] at hs
      cases ob : o.testBit k
      · rw [ob] at b9 hs
        rw [if_neg (by decide)] at hs
        refine ⟨up2 J (m + 6) k (ic (oIn T k o)), ?_, fun d hd => ?_, fun b hb => by rw [show up2 J (m + 6) k (ic (oIn T k o)) b = J b from funext fun j => up_a hb]; exact hJ.2 b hb⟩
        · simp (maxSteps := 1000000) (disch := omega) only [↓reduceIte, ↓if_bi0, ↓if_bi1, hp_tg, hp_rI, hp_rR, hp_rL, hp_wI, hp_wL, Option.bind_some, if_11, if_01, bi_and1, i10, i01, bi_t, bi_f, ic_add, mr_4, ml_4, mr_8, ml_8, mr_10, ml_10, ic_add1, ic_sub1, ic_clamp, ic_div, ic_irm, ic_lt0, ic_0lt, ic_eq0, ic_lt, ic_inj, and15, and7, and31, and63, shl1, shr_ok, neg_1, neg_2, neg_3, neg_4, kc_lt0, kc_ic, kc_m2, kc_1, kc_0, i0_add, add_i0, or_i0, z_8, z_4, z_64, z_256, ic_m2, ec_m1, ic_m1, m1_lt0, m2_lt0, m3_lt0, m4_lt0, up_s, if_true, if_false, ne_eq, not_true_eq_false, not_false_eq_true, Bool.false_eq_true, eq_self, or_self, or_false, false_or, and_self, and_true, true_and, ite_self, Nat.reduceEqDiff, Nat.reduceLT, Nat.reduceMod, Nat.reduceMul, Nat.reduceAdd, Nat.reducePow, Nat.reduceDiv, lt_2, lt_3, lt_4, lt_5, lt_6, lt_7, lt_8, lt_10, lt_11, lt_12, lt_15, lt_16, lt_18, lt_20, lt_24, lt_31, lt_32, lt_48, lt_57, lt_59, lt_63, lt_64, lt_74, lt_75, lt_97, lt_122, lt_128, lt_144, lt_145, lt_146, lt_147, lt_155, lt_163, lt_171, lt_179, lt_200, lt_243, lt_244, lt_255, lt_256, lt_732, lt_900, lt_3660, lt_3904, lt_4095, lt_65536, lt_65537, lt_252645135, lt_858993459, lt_1431655765, ↓p_has_b, p_has, ↓p_has9_b, p_has9, ↓p_bit_b, p_bit, ↓p_bit1_b, p_bit1, ↓p_bit0_b, p_bit0, p_X9_fitting_118, p_X9_fitting_152, hL.t, hL.y, ha, l0, j6, hk, if_inB hL.yt, ↓bnd (b9), b9, jk]
        · rw [up_i]
          by_cases e : d = k
          · subst e; rw [if_pos rfl, if_pos (by omega), hs]
          · rw [if_neg e, hJ.1 d hd]
            by_cases q : d < k
            · rw [if_pos q, if_pos (by omega)]
            · rw [if_neg q, if_neg (by omega)]
      · rw [ob] at b9 hs
        rw [if_pos rfl] at hs
        refine ⟨up2 J (m + 6) k (ic (oIn T k o + 1)), ?_, fun d hd => ?_, fun b hb => by rw [show up2 J (m + 6) k (ic (oIn T k o + 1)) b = J b from funext fun j => up_a hb]; exact hJ.2 b hb⟩
        · simp (maxSteps := 1000000) (disch := omega) only [↓reduceIte, ↓if_bi0, ↓if_bi1, hp_tg, hp_rI, hp_rR, hp_rL, hp_wI, hp_wL, Option.bind_some, if_11, if_01, bi_and1, i10, i01, bi_t, bi_f, ic_add, mr_4, ml_4, mr_8, ml_8, mr_10, ml_10, ic_add1, ic_sub1, ic_clamp, ic_div, ic_irm, ic_lt0, ic_0lt, ic_eq0, ic_lt, ic_inj, and15, and7, and31, and63, shl1, shr_ok, neg_1, neg_2, neg_3, neg_4, kc_lt0, kc_ic, kc_m2, kc_1, kc_0, i0_add, add_i0, or_i0, z_8, z_4, z_64, z_256, ic_m2, ec_m1, ic_m1, m1_lt0, m2_lt0, m3_lt0, m4_lt0, up_s, if_true, if_false, ne_eq, not_true_eq_false, not_false_eq_true, Bool.false_eq_true, eq_self, or_self, or_false, false_or, and_self, and_true, true_and, ite_self, Nat.reduceEqDiff, Nat.reduceLT, Nat.reduceMod, Nat.reduceMul, Nat.reduceAdd, Nat.reducePow, Nat.reduceDiv, lt_2, lt_3, lt_4, lt_5, lt_6, lt_7, lt_8, lt_10, lt_11, lt_12, lt_15, lt_16, lt_18, lt_20, lt_24, lt_31, lt_32, lt_48, lt_57, lt_59, lt_63, lt_64, lt_74, lt_75, lt_97, lt_122, lt_128, lt_144, lt_145, lt_146, lt_147, lt_155, lt_163, lt_171, lt_179, lt_200, lt_243, lt_244, lt_255, lt_256, lt_732, lt_900, lt_3660, lt_3904, lt_4095, lt_65536, lt_65537, lt_252645135, lt_858993459, lt_1431655765, ↓p_has_b, p_has, ↓p_has9_b, p_has9, ↓p_bit_b, p_bit, ↓p_bit1_b, p_bit1, ↓p_bit0_b, p_bit0, p_X9_fitting_118, p_X9_fitting_152, hL.t, hL.y, ha, l0, j6, hk, if_inB hL.yt, ↓bnd (b9), b9, jk]
        · rw [up_i]
          by_cases e : d = k
          · subst e; rw [if_pos rfl, if_pos (by omega), hs]
          · rw [if_neg e, hJ.1 d hd]
            by_cases q : d < k
            · rw [if_pos q, if_pos (by omega)]
            · rw [if_neg q, if_neg (by omega)]
    · have j6 : J a 6 = ic (dN T) := by rw [hJ.2 a (by omega)]; exact c6
      simp (maxSteps := 1000000) (disch := omega) only [↓reduceIte, ↓if_bi0, ↓if_bi1, hp_tg, hp_rI, hp_rR, hp_rL, hp_wI, hp_wL, Option.bind_some, if_11, if_01, bi_and1, i10, i01, bi_t, bi_f, ic_add, mr_4, ml_4, mr_8, ml_8, mr_10, ml_10, ic_add1, ic_sub1, ic_clamp, ic_div, ic_irm, ic_lt0, ic_0lt, ic_eq0, ic_lt, ic_inj, and15, and7, and31, and63, shl1, shr_ok, neg_1, neg_2, neg_3, neg_4, kc_lt0, kc_ic, kc_m2, kc_1, kc_0, i0_add, add_i0, or_i0, z_8, z_4, z_64, z_256, ic_m2, ec_m1, ic_m1, m1_lt0, m2_lt0, m3_lt0, m4_lt0, up_s, if_true, if_false, ne_eq, not_true_eq_false, not_false_eq_true, Bool.false_eq_true, eq_self, or_self, or_false, false_or, and_self, and_true, true_and, ite_self, Nat.reduceEqDiff, Nat.reduceLT, Nat.reduceMod, Nat.reduceMul, Nat.reduceAdd, Nat.reducePow, Nat.reduceDiv, lt_2, lt_3, lt_4, lt_5, lt_6, lt_7, lt_8, lt_10, lt_11, lt_12, lt_15, lt_16, lt_18, lt_20, lt_24, lt_31, lt_32, lt_48, lt_57, lt_59, lt_63, lt_64, lt_74, lt_75, lt_97, lt_122, lt_128, lt_144, lt_145, lt_146, lt_147, lt_155, lt_163, lt_171, lt_179, lt_200, lt_243, lt_244, lt_255, lt_256, lt_732, lt_900, lt_3660, lt_3904, lt_4095, lt_65536, lt_65537, lt_252645135, lt_858993459, lt_1431655765, ↓p_has_b, p_has, ↓p_has9_b, p_has9, ↓p_bit_b, p_bit, ↓p_bit1_b, p_bit1, ↓p_bit0_b, p_bit0, p_X9_fitting_118, p_X9_fitting_160, hL.t, ha, l0, j6, Nat.lt_irrefl]
  -- the sets
  have sets : ∀ J : II, FQ I T m x 0 (m1, J) → ∃ r, p_X9_fitting_49 FU m x m1 0 (hp S J L) = some r ∧ ∃ I', r = (fAt T x (2 ^ dN T), hp S I' L) ∧ I' m 36 = ic (fN T (2 ^ dN T)) ∧ I' m 37 = ic (fSm T (2 ^ dN T)) ∧ I' m 38 = ic (if fN T (2 ^ dN T) = 0 then 0 else fEv T (2 ^ dN T - 1) (2 ^ dN T)) ∧ (∀ d, d < dN T → I' (m + 6) d = ic (oIn T d (2 ^ dN T))) ∧ (∀ j, j < 26 → I' m j = I m j) ∧ ∀ b, b ≠ m → b ≠ m + 3 → b ≠ m + 6 → I' b = I b := by
    intro J hJ
    refine lp_inv (fun n k (c : Int32 × II) => p_X9_fitting_49 n m x c.1 (ic k) (hp S c.2 L)) (2 ^ dN T) (fun k c => FQ I T m x k c) (fun r => ∃ I', r = (fAt T x (2 ^ dN T), hp S I' L) ∧ I' m 36 = ic (fN T (2 ^ dN T)) ∧ I' m 37 = ic (fSm T (2 ^ dN T)) ∧ I' m 38 = ic (if fN T (2 ^ dN T) = 0 then 0 else fEv T (2 ^ dN T - 1) (2 ^ dN T)) ∧ (∀ d, d < dN T → I' (m + 6) d = ic (oIn T d (2 ^ dN T))) ∧ (∀ j, j < 26 → I' m j = I m j) ∧ ∀ b, b ≠ m → b ≠ m + 3 → b ≠ m + 6 → I' b = I b) (fun n k c hk hc => ?_) (fun n c hc => ?_) (2 ^ dN T) 0 FU (m1, J) (by omega) (fu_lt (by omega)) hJ
    · obtain ⟨f9, c⟩ := c
      obtain ⟨q1, q2, q3, q4, q5, q6, q7⟩ := hc
      dsimp only at q1 q2 q3 q4 q5 q6 q7
      subst q1
      have hk16 : k < 16 := by omega
      have hM := keepM c q7
      have c6 := hM.2.2.2.2.2.2.1.1
      obtain ⟨c1, e1, f1, b1⟩ := x_wrongSaw (L := L) hL ha hA hm hM hV hk16
      have c16 : c1 a 6 = ic (dN T) := by rw [f1 a (by omega) (by omega)]; exact c6
      have i36 : c1 m 36 = ic (fN T k) := by rw [b1.2.2.2.2 36 (by omega)]; exact q2
      have i37 : c1 m 37 = ic (fSm T k) := by rw [b1.2.2.2.2 37 (by omega)]; exact q3
      have i38 : c1 m 38 = ic (fEv T (2 ^ dN T - 1) k) := by rw [b1.2.2.2.2 38 (by omega)]; exact q4
      have iy : ∀ d, d < dN T → c1 (m + 6) d = ic (oIn T d k) := fun d hd => by rw [f1 (m + 6) (by omega) (by omega)]; exact q5 d hd
      have ij : ∀ j, j < 26 → c1 m j = I m j := fun j hj => by rw [b1.2.2.2.2 j (by omega)]; exact q6 j hj
      have ib : ∀ b, b ≠ m → b ≠ m + 3 → b ≠ m + 6 → c1 b = I b := fun b u1 u2 u3 => by rw [f1 b u1 u2]; exact q7 b u1 u2 u3
      have hlt : ic k < (1 : Int32) <<< (ic (dN T) &&& ic 31) := by
        rw [and31, Nat.mod_eq_of_lt (by omega), shl1 (by omega), ic_lt (by omega) (by omega)]; exact hk
      have hfb := @unt_lt (oth T k) T hV
      have fle := fN_le T k
      show ∃ s', p_X9_fitting_49 (n + 1) m x (fAt T x k) (ic k) (hp S c L) = p_X9_fitting_49 n m x s'.1 (ic (k + 1)) (hp S s'.2 L) ∧ FQ I T m x (k + 1) s'
      cases u : unt T (oth T k) with
      | some j =>
        have hj := hfb u
        have hfit : fit T k = false := by unfold fit; rw [u]; rfl
        rw [u] at e1
        refine ⟨(fAt T x k, c1), ?_, by rw [fAt_s, hfit, if_neg (by decide)], by show c1 m 36 = _; rw [i36, fN_s, hfit, if_neg (by decide)], by show c1 m 37 = _; rw [i37, fSm_s, hfit, if_neg (by decide)], by show c1 m 38 = _; rw [i38, fEv_s, hfit, if_neg (by decide)], fun d hd => by show c1 (m + 6) d = _; rw [iy d hd, oIn_s, hfit]; rfl, ij, ib⟩
        rw [p_X9_fitting_49.eq_2]
        simp only [↓reduceIte, ↓if_bi0, hp_tg, hp_rR, hp_rI, hp_wI, eq_self, bi_t, bi_f, i10, if_true, if_false, Bool.false_eq_true, hL.t, ha, l0, c6, lt_31]
        rw [if_pos hlt]
        refine Eq.trans (bnd e1) ?_
        simp (maxSteps := 1000000) (disch := omega) only [↓reduceIte, ↓if_bi0, ↓if_bi1, hp_tg, hp_rI, hp_rR, hp_rL, hp_wI, hp_wL, Option.bind_some, if_11, if_01, bi_and1, i10, i01, bi_t, bi_f, ic_add, mr_4, ml_4, mr_8, ml_8, mr_10, ml_10, ic_add1, ic_sub1, ic_clamp, ic_div, ic_irm, ic_lt0, ic_0lt, ic_eq0, ic_lt, ic_inj, and15, and7, and31, and63, shl1, shr_ok, neg_1, neg_2, neg_3, neg_4, kc_lt0, kc_ic, kc_m2, kc_1, kc_0, i0_add, add_i0, or_i0, z_8, z_4, z_64, z_256, ic_m2, ec_m1, ic_m1, m1_lt0, m2_lt0, m3_lt0, m4_lt0, up_s, if_true, if_false, ne_eq, not_true_eq_false, not_false_eq_true, Bool.false_eq_true, eq_self, or_self, or_false, false_or, and_self, and_true, true_and, ite_self, Nat.reduceEqDiff, Nat.reduceLT, Nat.reduceMod, Nat.reduceMul, Nat.reduceAdd, Nat.reducePow, Nat.reduceDiv, lt_2, lt_3, lt_4, lt_5, lt_6, lt_7, lt_8, lt_10, lt_11, lt_12, lt_15, lt_16, lt_18, lt_20, lt_24, lt_31, lt_32, lt_48, lt_57, lt_59, lt_63, lt_64, lt_74, lt_75, lt_97, lt_122, lt_128, lt_144, lt_145, lt_146, lt_147, lt_155, lt_163, lt_171, lt_179, lt_200, lt_243, lt_244, lt_255, lt_256, lt_732, lt_900, lt_3660, lt_3904, lt_4095, lt_65536, lt_65537, lt_252645135, lt_858993459, lt_1431655765, ↓p_has_b, p_has, ↓p_has9_b, p_has9, ↓p_bit_b, p_bit, ↓p_bit1_b, p_bit1, ↓p_bit0_b, p_bit0, p_X9_fitting_160, oc, om_some]
      | none =>
        have hfit : fit T k = true := by unfold fit; rw [u]; rfl
        rw [u] at e1
        have key : ∀ f9 : Int32, ∃ c', p_X9_fitting_85 (p_X9_fitting_49 n) m x f9 (ic k) (hp S c1 L) = p_X9_fitting_49 n m x f9 (ic (k + 1)) (hp S c' L) ∧ c' m 36 = ic (fN T (k + 1)) ∧ c' m 37 = ic (fSm T (k + 1)) ∧ c' m 38 = ic (fEv T (2 ^ dN T - 1) (k + 1)) ∧ (∀ d, d < dN T → c' (m + 6) d = ic (oIn T d (k + 1))) ∧ (∀ j, j < 26 → c' m j = I m j) ∧ ∀ b, b ≠ m → b ≠ m + 3 → b ≠ m + 6 → c' b = I b := by
          intro f9
          have w37 : up2 c1 m 36 (ic (fN T k + 1)) m 37 = ic (fSm T k) := by rw [up_k (by omega)]; exact i37
          have w38 : up2 (up2 c1 m 36 (ic (fN T k + 1))) m 37 (ic (fSm T k ||| k)) m 38 = ic (fEv T (2 ^ dN T - 1) k) := by rw [up_k (by omega), up_k (by omega)]; exact i38
          obtain ⟨c', e2, y2, z2⟩ := inner (up2 (up2 (up2 c1 m 36 (ic (fN T k + 1))) m 37 (ic (fSm T k ||| k))) m 38 (ic (fEv T (2 ^ dN T - 1) k &&& k))) f9 k hk16 hfit (by rw [up_a (by omega), up_a (by omega), up_a (by omega)]; exact c16) (fun d hd => by rw [up_a (by omega), up_a (by omega), up_a (by omega)]; exact iy d hd) (p_X9_fitting_49 n)
          refine ⟨c', ?_, ?_, ?_, ?_, y2, fun j hj => ?_, fun b u1 u2 u3 => ?_⟩
          · simp (maxSteps := 1000000) (disch := omega) only [↓reduceIte, ↓if_bi0, ↓if_bi1, hp_tg, hp_rI, hp_rR, hp_rL, hp_wI, hp_wL, Option.bind_some, if_11, if_01, bi_and1, i10, i01, bi_t, bi_f, ic_add, mr_4, ml_4, mr_8, ml_8, mr_10, ml_10, ic_add1, ic_sub1, ic_clamp, ic_div, ic_irm, ic_lt0, ic_0lt, ic_eq0, ic_lt, ic_inj, and15, and7, and31, and63, shl1, shr_ok, neg_1, neg_2, neg_3, neg_4, kc_lt0, kc_ic, kc_m2, kc_1, kc_0, i0_add, add_i0, or_i0, z_8, z_4, z_64, z_256, ic_m2, ec_m1, ic_m1, m1_lt0, m2_lt0, m3_lt0, m4_lt0, up_s, if_true, if_false, ne_eq, not_true_eq_false, not_false_eq_true, Bool.false_eq_true, eq_self, or_self, or_false, false_or, and_self, and_true, true_and, ite_self, Nat.reduceEqDiff, Nat.reduceLT, Nat.reduceMod, Nat.reduceMul, Nat.reduceAdd, Nat.reducePow, Nat.reduceDiv, lt_2, lt_3, lt_4, lt_5, lt_6, lt_7, lt_8, lt_10, lt_11, lt_12, lt_15, lt_16, lt_18, lt_20, lt_24, lt_31, lt_32, lt_48, lt_57, lt_59, lt_63, lt_64, lt_74, lt_75, lt_97, lt_122, lt_128, lt_144, lt_145, lt_146, lt_147, lt_155, lt_163, lt_171, lt_179, lt_200, lt_243, lt_244, lt_255, lt_256, lt_732, lt_900, lt_3660, lt_3904, lt_4095, lt_65536, lt_65537, lt_252645135, lt_858993459, lt_1431655765, ↓p_has_b, p_has, ↓p_has9_b, p_has9, ↓p_bit_b, p_bit, ↓p_bit1_b, p_bit1, ↓p_bit0_b, p_bit0, p_X9_fitting_85, hL.t, i36, w37, w38, ic_or, ic_and]
            exact e2
          · rw [z2 m (by omega), up_k (by omega), up_k (by omega), up_s, fN_s, hfit, if_pos rfl]
          · rw [z2 m (by omega), up_k (by omega), up_s, fSm_s, hfit, if_pos rfl]
          · rw [z2 m (by omega), up_s, fEv_s, hfit, if_pos rfl]
          · rw [z2 m (by omega), up_k (by omega), up_k (by omega), up_k (by omega)]; exact ij j hj
          · rw [z2 b u3]; funext j; rw [up_a u1, up_a u1, up_a u1, ib b u1 u2 u3]
        by_cases d : ic (fN T k) = x
        · obtain ⟨c', e2, w⟩ := key (ic k)
          refine ⟨(ic k, c'), ?_, by rw [fAt_s, hfit, if_pos rfl, if_pos d], w⟩
          rw [p_X9_fitting_49.eq_2]
          simp only [↓reduceIte, ↓if_bi0, hp_tg, hp_rR, hp_rI, hp_wI, eq_self, bi_t, bi_f, i10, if_true, if_false, Bool.false_eq_true, hL.t, ha, l0, c6, lt_31]
          rw [if_pos hlt]
          refine Eq.trans (bnd e1) ?_
          simp (maxSteps := 1000000) (disch := omega) only [↓reduceIte, ↓if_bi0, ↓if_bi1, hp_tg, hp_rI, hp_rR, hp_rL, hp_wI, hp_wL, Option.bind_some, if_11, if_01, bi_and1, i10, i01, bi_t, bi_f, ic_add, mr_4, ml_4, mr_8, ml_8, mr_10, ml_10, ic_add1, ic_sub1, ic_clamp, ic_div, ic_irm, ic_lt0, ic_0lt, ic_eq0, ic_lt, ic_inj, and15, and7, and31, and63, shl1, shr_ok, neg_1, neg_2, neg_3, neg_4, kc_lt0, kc_ic, kc_m2, kc_1, kc_0, i0_add, add_i0, or_i0, z_8, z_4, z_64, z_256, ic_m2, ec_m1, ic_m1, m1_lt0, m2_lt0, m3_lt0, m4_lt0, up_s, if_true, if_false, ne_eq, not_true_eq_false, not_false_eq_true, Bool.false_eq_true, eq_self, or_self, or_false, false_or, and_self, and_true, true_and, ite_self, Nat.reduceEqDiff, Nat.reduceLT, Nat.reduceMod, Nat.reduceMul, Nat.reduceAdd, Nat.reducePow, Nat.reduceDiv, lt_2, lt_3, lt_4, lt_5, lt_6, lt_7, lt_8, lt_10, lt_11, lt_12, lt_15, lt_16, lt_18, lt_20, lt_24, lt_31, lt_32, lt_48, lt_57, lt_59, lt_63, lt_64, lt_74, lt_75, lt_97, lt_122, lt_128, lt_144, lt_145, lt_146, lt_147, lt_155, lt_163, lt_171, lt_179, lt_200, lt_243, lt_244, lt_255, lt_256, lt_732, lt_900, lt_3660, lt_3904, lt_4095, lt_65536, lt_65537, lt_252645135, lt_858993459, lt_1431655765, ↓p_has_b, p_has, ↓p_has9_b, p_has9, ↓p_bit_b, p_bit, ↓p_bit1_b, p_bit1, ↓p_bit0_b, p_bit0, oc, om_none, hL.t, i36, d]
          exact e2
        · obtain ⟨c', e2, w⟩ := key (fAt T x k)
          refine ⟨(fAt T x k, c'), ?_, by rw [fAt_s, hfit, if_pos rfl, if_neg d], w⟩
          rw [p_X9_fitting_49.eq_2]
          simp only [↓reduceIte, ↓if_bi0, hp_tg, hp_rR, hp_rI, hp_wI, eq_self, bi_t, bi_f, i10, if_true, if_false, Bool.false_eq_true, hL.t, ha, l0, c6, lt_31]
          rw [if_pos hlt]
          refine Eq.trans (bnd e1) ?_
          simp (maxSteps := 1000000) (disch := omega) only [↓reduceIte, ↓if_bi0, ↓if_bi1, hp_tg, hp_rI, hp_rR, hp_rL, hp_wI, hp_wL, Option.bind_some, if_11, if_01, bi_and1, i10, i01, bi_t, bi_f, ic_add, mr_4, ml_4, mr_8, ml_8, mr_10, ml_10, ic_add1, ic_sub1, ic_clamp, ic_div, ic_irm, ic_lt0, ic_0lt, ic_eq0, ic_lt, ic_inj, and15, and7, and31, and63, shl1, shr_ok, neg_1, neg_2, neg_3, neg_4, kc_lt0, kc_ic, kc_m2, kc_1, kc_0, i0_add, add_i0, or_i0, z_8, z_4, z_64, z_256, ic_m2, ec_m1, ic_m1, m1_lt0, m2_lt0, m3_lt0, m4_lt0, up_s, if_true, if_false, ne_eq, not_true_eq_false, not_false_eq_true, Bool.false_eq_true, eq_self, or_self, or_false, false_or, and_self, and_true, true_and, ite_self, Nat.reduceEqDiff, Nat.reduceLT, Nat.reduceMod, Nat.reduceMul, Nat.reduceAdd, Nat.reducePow, Nat.reduceDiv, lt_2, lt_3, lt_4, lt_5, lt_6, lt_7, lt_8, lt_10, lt_11, lt_12, lt_15, lt_16, lt_18, lt_20, lt_24, lt_31, lt_32, lt_48, lt_57, lt_59, lt_63, lt_64, lt_74, lt_75, lt_97, lt_122, lt_128, lt_144, lt_145, lt_146, lt_147, lt_155, lt_163, lt_171, lt_179, lt_200, lt_243, lt_244, lt_255, lt_256, lt_732, lt_900, lt_3660, lt_3904, lt_4095, lt_65536, lt_65537, lt_252645135, lt_858993459, lt_1431655765, ↓p_has_b, p_has, ↓p_has9_b, p_has9, ↓p_bit_b, p_bit, ↓p_bit1_b, p_bit1, ↓p_bit0_b, p_bit0, oc, om_none, hL.t, i36, d]
          exact e2
    · obtain ⟨f9, c⟩ := c
      obtain ⟨q1, q2, q3, q4, q5, q6, q7⟩ := hc
      dsimp only at q1 q2 q3 q4 q5 q6 q7
      subst q1
      have c6 := (keepM c q7).2.2.2.2.2.2.1.1
      have hlt : ¬ ic (2 ^ dN T) < (1 : Int32) <<< (ic (dN T) &&& ic 31) := by
        rw [and31, Nat.mod_eq_of_lt (by omega), shl1 (by omega), ic_lt (by omega) (by omega)]; omega
      have fle := fN_le T (2 ^ dN T)
      show ∃ r, p_X9_fitting_49 (n + 1) m x (fAt T x (2 ^ dN T)) (ic (2 ^ dN T)) (hp S c L) = some r ∧ _
      rw [p_X9_fitting_49.eq_2]
      simp only [↓reduceIte, ↓if_bi0, hp_tg, hp_rR, hp_rI, hp_wI, eq_self, bi_t, bi_f, i10, if_true, if_false, Bool.false_eq_true, hL.t, ha, l0, c6, lt_31]
      rw [if_neg hlt]
      by_cases z : fN T (2 ^ dN T) = 0
      · refine ⟨_, ?_, up2 c m 38 0, rfl, by rw [up_k (by omega)]; exact q2, by rw [up_k (by omega)]; exact q3, by rw [up_s, if_pos z]; rfl, fun d hd => by rw [up_a (by omega)]; exact q5 d hd, fun j hj => by rw [up_k (by omega)]; exact q6 j hj, fun b u1 u2 u3 => by rw [show up2 c m 38 0 b = c b from funext fun j => up_a u1]; exact q7 b u1 u2 u3⟩
        simp (maxSteps := 1000000) (disch := omega) only [↓reduceIte, ↓if_bi0, ↓if_bi1, hp_tg, hp_rI, hp_rR, hp_rL, hp_wI, hp_wL, Option.bind_some, if_11, if_01, bi_and1, i10, i01, bi_t, bi_f, ic_add, mr_4, ml_4, mr_8, ml_8, mr_10, ml_10, ic_add1, ic_sub1, ic_clamp, ic_div, ic_irm, ic_lt0, ic_0lt, ic_eq0, ic_lt, ic_inj, and15, and7, and31, and63, shl1, shr_ok, neg_1, neg_2, neg_3, neg_4, kc_lt0, kc_ic, kc_m2, kc_1, kc_0, i0_add, add_i0, or_i0, z_8, z_4, z_64, z_256, ic_m2, ec_m1, ic_m1, m1_lt0, m2_lt0, m3_lt0, m4_lt0, up_s, if_true, if_false, ne_eq, not_true_eq_false, not_false_eq_true, Bool.false_eq_true, eq_self, or_self, or_false, false_or, and_self, and_true, true_and, ite_self, Nat.reduceEqDiff, Nat.reduceLT, Nat.reduceMod, Nat.reduceMul, Nat.reduceAdd, Nat.reducePow, Nat.reduceDiv, lt_2, lt_3, lt_4, lt_5, lt_6, lt_7, lt_8, lt_10, lt_11, lt_12, lt_15, lt_16, lt_18, lt_20, lt_24, lt_31, lt_32, lt_48, lt_57, lt_59, lt_63, lt_64, lt_74, lt_75, lt_97, lt_122, lt_128, lt_144, lt_145, lt_146, lt_147, lt_155, lt_163, lt_171, lt_179, lt_200, lt_243, lt_244, lt_255, lt_256, lt_732, lt_900, lt_3660, lt_3904, lt_4095, lt_65536, lt_65537, lt_252645135, lt_858993459, lt_1431655765, ↓p_has_b, p_has, ↓p_has9_b, p_has9, ↓p_bit_b, p_bit, ↓p_bit1_b, p_bit1, ↓p_bit0_b, p_bit0, p_X9_fitting_178, hL.t, q2, z]
      · refine ⟨_, ?_, c, rfl, q2, q3, by rw [if_neg z]; exact q4, q5, q6, q7⟩
        simp (maxSteps := 1000000) (disch := omega) only [↓reduceIte, ↓if_bi0, ↓if_bi1, hp_tg, hp_rI, hp_rR, hp_rL, hp_wI, hp_wL, Option.bind_some, if_11, if_01, bi_and1, i10, i01, bi_t, bi_f, ic_add, mr_4, ml_4, mr_8, ml_8, mr_10, ml_10, ic_add1, ic_sub1, ic_clamp, ic_div, ic_irm, ic_lt0, ic_0lt, ic_eq0, ic_lt, ic_inj, and15, and7, and31, and63, shl1, shr_ok, neg_1, neg_2, neg_3, neg_4, kc_lt0, kc_ic, kc_m2, kc_1, kc_0, i0_add, add_i0, or_i0, z_8, z_4, z_64, z_256, ic_m2, ec_m1, ic_m1, m1_lt0, m2_lt0, m3_lt0, m4_lt0, up_s, if_true, if_false, ne_eq, not_true_eq_false, not_false_eq_true, Bool.false_eq_true, eq_self, or_self, or_false, false_or, and_self, and_true, true_and, ite_self, Nat.reduceEqDiff, Nat.reduceLT, Nat.reduceMod, Nat.reduceMul, Nat.reduceAdd, Nat.reducePow, Nat.reduceDiv, lt_2, lt_3, lt_4, lt_5, lt_6, lt_7, lt_8, lt_10, lt_11, lt_12, lt_15, lt_16, lt_18, lt_20, lt_24, lt_31, lt_32, lt_48, lt_57, lt_59, lt_63, lt_64, lt_74, lt_75, lt_97, lt_122, lt_128, lt_144, lt_145, lt_146, lt_147, lt_155, lt_163, lt_171, lt_179, lt_200, lt_243, lt_244, lt_255, lt_256, lt_732, lt_900, lt_3660, lt_3904, lt_4095, lt_65536, lt_65537, lt_252645135, lt_858993459, lt_1431655765, ↓p_has_b, p_has, ↓p_has9_b, p_has9, ↓p_bit_b, p_bit, ↓p_bit1_b, p_bit1, ↓p_bit0_b, p_bit0, p_X9_fitting_178, hL.t, q2, z]
  -- the counts emptied
  have zero := lp_to (fun n k (c : II) => p_X9_fitting_29 n m x m1 (ic k) (hp S c L)) 4 (fun k c => (∀ d, d < k → c (m + 6) d = 0) ∧ ∀ b, b ≠ m + 6 → c b = (up2 (up2 (up2 I m 36 0) m 37 0) m 38 (ic (2 ^ dN T - 1))) b) (fun c => p_X9_fitting_49 FU m x m1 0 (hp S c L)) (fun n k c hk hc => ?_) (fun n c hc => ?_) 4 0 FU (up2 (up2 (up2 I m 36 0) m 37 0) m 38 (ic (2 ^ dN T - 1))) rfl (fu_lt (by decide)) ⟨fun d h => by omega, fun _ _ => rfl⟩
  · obtain ⟨c, e, z1, z2⟩ := zero
    have hmm : ∀ j, c m j = (up2 (up2 (up2 I m 36 0) m 37 0) m 38 (ic (2 ^ dN T - 1))) m j := fun j => by rw [z2 m (by omega)]
    obtain ⟨r, e2, I', e3, h⟩ := sets c ⟨rfl, by show c m 36 = 0; rw [hmm, up_k (by omega), up_k (by omega), up_s], by show c m 37 = 0; rw [hmm, up_k (by omega), up_s], by show c m 38 = ic (2 ^ dN T - 1); rw [hmm, up_s], fun d hd => z1 d (by omega), fun j hj => by show c m j = I m j; rw [hmm, up_k (by omega), up_k (by omega), up_k (by omega)], fun b u1 u2 u3 => by show c b = I b; rw [z2 b u3]; funext j; rw [up_a u1, up_a u1, up_a u1]⟩
    subst e3
    refine ⟨I', ?_, h⟩
    have m6 : (up2 (up2 I m 36 0) m 37 0) a 6 = ic (dN T) := by rw [up_a (by omega), up_a (by omega)]; exact r6
    simp (maxSteps := 1000000) (disch := omega) only [↓reduceIte, ↓if_bi0, ↓if_bi1, hp_tg, hp_rI, hp_rR, hp_rL, hp_wI, hp_wL, Option.bind_some, if_11, if_01, bi_and1, i10, i01, bi_t, bi_f, ic_add, mr_4, ml_4, mr_8, ml_8, mr_10, ml_10, ic_add1, ic_sub1, ic_clamp, ic_div, ic_irm, ic_lt0, ic_0lt, ic_eq0, ic_lt, ic_inj, and15, and7, and31, and63, shl1, shr_ok, neg_1, neg_2, neg_3, neg_4, kc_lt0, kc_ic, kc_m2, kc_1, kc_0, i0_add, add_i0, or_i0, z_8, z_4, z_64, z_256, ic_m2, ec_m1, ic_m1, m1_lt0, m2_lt0, m3_lt0, m4_lt0, up_s, if_true, if_false, ne_eq, not_true_eq_false, not_false_eq_true, Bool.false_eq_true, eq_self, or_self, or_false, false_or, and_self, and_true, true_and, ite_self, Nat.reduceEqDiff, Nat.reduceLT, Nat.reduceMod, Nat.reduceMul, Nat.reduceAdd, Nat.reducePow, Nat.reduceDiv, lt_2, lt_3, lt_4, lt_5, lt_6, lt_7, lt_8, lt_10, lt_11, lt_12, lt_15, lt_16, lt_18, lt_20, lt_24, lt_31, lt_32, lt_48, lt_57, lt_59, lt_63, lt_64, lt_74, lt_75, lt_97, lt_122, lt_128, lt_144, lt_145, lt_146, lt_147, lt_155, lt_163, lt_171, lt_179, lt_200, lt_243, lt_244, lt_255, lt_256, lt_732, lt_900, lt_3660, lt_3904, lt_4095, lt_65536, lt_65537, lt_252645135, lt_858993459, lt_1431655765, ↓p_has_b, p_has, ↓p_has9_b, p_has9, ↓p_bit_b, p_bit, ↓p_bit1_b, p_bit1, ↓p_bit0_b, p_bit0, p_X9_fitting, hL.t, ha, l0, m6, show dN T % 32 = dN T by omega]
    exact e.trans e2
  · refine ⟨up2 c (m + 6) k 0, ?_, fun d hd => ?_, fun b hb => by rw [show up2 c (m + 6) k 0 b = c b from funext fun j => up_a hb]; exact hc.2 b hb⟩
    · simp (maxSteps := 1000000) (disch := omega) only [↓reduceIte, ↓if_bi0, ↓if_bi1, hp_tg, hp_rI, hp_rR, hp_rL, hp_wI, hp_wL, Option.bind_some, if_11, if_01, bi_and1, i10, i01, bi_t, bi_f, ic_add, mr_4, ml_4, mr_8, ml_8, mr_10, ml_10, ic_add1, ic_sub1, ic_clamp, ic_div, ic_irm, ic_lt0, ic_0lt, ic_eq0, ic_lt, ic_inj, and15, and7, and31, and63, shl1, shr_ok, neg_1, neg_2, neg_3, neg_4, kc_lt0, kc_ic, kc_m2, kc_1, kc_0, i0_add, add_i0, or_i0, z_8, z_4, z_64, z_256, ic_m2, ec_m1, ic_m1, m1_lt0, m2_lt0, m3_lt0, m4_lt0, up_s, if_true, if_false, ne_eq, not_true_eq_false, not_false_eq_true, Bool.false_eq_true, eq_self, or_self, or_false, false_or, and_self, and_true, true_and, ite_self, Nat.reduceEqDiff, Nat.reduceLT, Nat.reduceMod, Nat.reduceMul, Nat.reduceAdd, Nat.reducePow, Nat.reduceDiv, lt_2, lt_3, lt_4, lt_5, lt_6, lt_7, lt_8, lt_10, lt_11, lt_12, lt_15, lt_16, lt_18, lt_20, lt_24, lt_31, lt_32, lt_48, lt_57, lt_59, lt_63, lt_64, lt_74, lt_75, lt_97, lt_122, lt_128, lt_144, lt_145, lt_146, lt_147, lt_155, lt_163, lt_171, lt_179, lt_200, lt_243, lt_244, lt_255, lt_256, lt_732, lt_900, lt_3660, lt_3904, lt_4095, lt_65536, lt_65537, lt_252645135, lt_858993459, lt_1431655765, ↓p_has_b, p_has, ↓p_has9_b, p_has9, ↓p_bit_b, p_bit, ↓p_bit1_b, p_bit1, ↓p_bit0_b, p_bit0, p_X9_fitting_29, hk, hL.t, hL.y, if_inB hL.yt]
    · rw [up_i]
      by_cases q : d = k
      · rw [if_pos q]
      · rw [if_neg q]; exact hc.1 d (by omega)
  · simp (maxSteps := 1000000) (disch := omega) only [↓reduceIte, ↓if_bi0, ↓if_bi1, hp_tg, hp_rI, hp_rR, hp_rL, hp_wI, hp_wL, Option.bind_some, if_11, if_01, bi_and1, i10, i01, bi_t, bi_f, ic_add, mr_4, ml_4, mr_8, ml_8, mr_10, ml_10, ic_add1, ic_sub1, ic_clamp, ic_div, ic_irm, ic_lt0, ic_0lt, ic_eq0, ic_lt, ic_inj, and15, and7, and31, and63, shl1, shr_ok, neg_1, neg_2, neg_3, neg_4, kc_lt0, kc_ic, kc_m2, kc_1, kc_0, i0_add, add_i0, or_i0, z_8, z_4, z_64, z_256, ic_m2, ec_m1, ic_m1, m1_lt0, m2_lt0, m3_lt0, m4_lt0, up_s, if_true, if_false, ne_eq, not_true_eq_false, not_false_eq_true, Bool.false_eq_true, eq_self, or_self, or_false, false_or, and_self, and_true, true_and, ite_self, Nat.reduceEqDiff, Nat.reduceLT, Nat.reduceMod, Nat.reduceMul, Nat.reduceAdd, Nat.reducePow, Nat.reduceDiv, lt_2, lt_3, lt_4, lt_5, lt_6, lt_7, lt_8, lt_10, lt_11, lt_12, lt_15, lt_16, lt_18, lt_20, lt_24, lt_31, lt_32, lt_48, lt_57, lt_59, lt_63, lt_64, lt_74, lt_75, lt_97, lt_122, lt_128, lt_144, lt_145, lt_146, lt_147, lt_155, lt_163, lt_171, lt_179, lt_200, lt_243, lt_244, lt_255, lt_256, lt_732, lt_900, lt_3660, lt_3904, lt_4095, lt_65536, lt_65537, lt_252645135, lt_858993459, lt_1431655765, ↓p_has_b, p_has, ↓p_has9_b, p_has9, ↓p_bit_b, p_bit, ↓p_bit1_b, p_bit1, ↓p_bit0_b, p_bit0, p_X9_fitting_29, Nat.lt_irrefl]
end ASK
