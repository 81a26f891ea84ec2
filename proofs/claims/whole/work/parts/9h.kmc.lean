/-! ===== machine: the class ===== -/
def uM (W : WD) (T : TS) : WD := ((vY W, 0), (true, T, fresh (tG T)), (0, 0, 0, 0), (0, vU W), (0, vJ W), (0, 0, vA W))
def uFt (W : WD) (r : Nat × Nat) : WD := ((vY W, 0), W.2.1, W.2.2.1, W.2.2.2.1, W.2.2.2.2.1, (4, r.1, r.2))
def mcR (W : WD) : LR → Int32 × WD
  | .inl r => (m1, uFt W r)
  | .inr r => (ic (tP r.1), uM W r.1)
def mcD (W : WD) (v : Int32) : Int32 × WD := if ok true (vN W + 1) v = true then mcR W (rr (vY W) v.toNatClampNeg) else (m1, uE W 2)
theorem WV.mc {W : WD} {c : Nat} (h : WV W c) (v : Int32) : WV (mcD W v).2 (c + 1) := by
  unfold mcD
  by_cases z : ok true (vN W + 1) v = true
  · rw [if_pos z]
    have hn := h.1
    obtain ⟨-, k, hk, rfl⟩ := ok_t (by omega) z
    rw [ic_clamp (show k < 2147483648 by omega)]
    cases q : rr (vY W) k with
    | inl r =>
      obtain ⟨r1, r2⟩ := rr_inl (by omega) q
      obtain ⟨h1, h2, h3, h4, h5, h6, h7, h8⟩ := h.up
      exact ⟨Nat.zero_le _, h2, h3, h4, by show (4 : Nat) < 7; omega, r2, h7, h8⟩
    | inr r =>
      obtain ⟨T, k'⟩ := r
      obtain ⟨r1, r2⟩ := rr_inr q
      exact ⟨Nat.zero_le _, Nat.zero_le _, Nat.zero_le _, Nat.zero_le _, by show (0 : Nat) < 7; omega, by show (0 : Nat) < 7; omega, fun _ => ⟨r1, r2, ⟨inv_fresh r1.2.1 r2 r1.1, Nat.zero_le _⟩, fun j hj => absurd hj (Nat.not_lt_zero j), fun j hj => absurd hj (Nat.not_lt_zero j)⟩, fun z => by cases z⟩
  · rw [if_neg z]
    exact h.ee (by omega)
def swR (S : SH) (a k v : Nat) : SH := (S.1, S.2.1, up2 S.2.2 a k v)
theorem hp_wR (S : SH) (I : II) (L : LL) (a k v : Nat) : wR (hp S I L) a k v = hp (swR S a k v) I L := rfl
theorem sw_T (S : SH) (a k v b : Nat) : tT (swR S a k v) b = tT S b := rfl
theorem sw_s (S : SH) (a k v : Nat) : tR (swR S a k v) a k = v := up_s _ _ _ _
theorem sw_a {S : SH} {a k v b j : Nat} (h : b ≠ a) : tR (swR S a k v) b j = tR S b j := up_a h
theorem sw_k {S : SH} {a k v b j : Nat} (h : j ≠ k) : tR (swR S a k v) b j = tR S b j := up_k h
section KMC
variable {S : SH} {I J J' : II} {L L' : LL} {o x ta tb p q rg pc rs ps m ou a c e pl : Nat} {W : WD} {s : St} {T : TS}
theorem k_begin (y0 : tT S o = (6, 12)) (y1 : tR S o 1 = ta) (y4 : tR S o 4 = p) (hT : TL S ta) (hP : PL S p) (d1 : ta ≠ o) (d2 : ta + 9 < p ∨ p + 9 < ta) (d3 : o < ta) (d4 : o < p) (R : TR J ta T) (hw : ∃ w, w < 256 ∧ J (p + 5) 4 = ic w) : ∃ K, p_X7_begin o (hp S J L) = some (hp S K L) ∧ PR K p (fresh (tG T)) (tP T) ∧ K p 3 = 0 ∧ K p 4 = 0 ∧ K p 6 = 0 ∧ K p 7 = 0 ∧ K o 3 = 1 ∧ K o 8 = 0 ∧ K o 10 = 0 ∧ (∀ j, j ≠ 3 → j ≠ 8 → j ≠ 10 → K o j = J o j) ∧ ∀ y, y ≠ o → (y < p ∨ p + 9 < y) → K y = J y := by
  have b1 : (1 : Int32) &&& 1 = 1 := by decide
  have G : GR (up2 J o 3 1) (ta + 1) (tG T) := R.1.lc fun y _ _ => funext fun j => up_a (by omega)
  obtain ⟨K, e1, k1, f1, c3, c4, c5, c6, c7⟩ := k_startAnew (I := up2 J o 3 1) (L := L) hP hT.2.2.1 (t := tP T) (by omega) (by rw [up_a (by omega)]; exact hw) G
  have E : up2 J o 3 1 ta 1 = ic (tP T) := by rw [up_a (by omega)]; exact R.2.1
  have ko := f1 o (by omega)
  have eo : ∀ y, y ≠ o → up2 (up2 K o 8 0) o 10 0 y = K y := fun y hy => funext fun j => by rw [up_a hy, up_a hy]
  refine ⟨up2 (up2 K o 8 0) o 10 0, ?_, k1.lc fun y _ _ => eo y (by omega), by rw [eo p (by omega)]; exact c3, by rw [eo p (by omega)]; exact c4, by rw [eo p (by omega)]; exact c6, by rw [eo p (by omega)]; exact c7, by rw [up_k (by omega), up_k (by omega), ko, up_s], by rw [up_k (by omega), up_s], up_s _ _ _ _, fun j q1 q2 q3 => by rw [up_k q3, up_k q2, ko, up_k q1], fun y q1 q2 => by rw [eo y q1, f1 y (by omega)]; exact funext fun j => up_a q1⟩
  simp (maxSteps := 1000000) (disch := omega) only [↓reduceIte, ↓if_bi0, ↓if_bi1, hp_tg, hp_rI, hp_rR, hp_rL, hp_wI, hp_wL, Option.bind_some, if_11, if_01, bi_and1, i10, i01, bi_t, bi_f, ic_add, mr_4, ml_4, mr_8, ml_8, mr_10, ml_10, ic_add1, ic_sub1, ic_clamp, ic_div, ic_irm, ic_lt0, ic_0lt, ic_eq0, ic_lt, ic_inj, and15, and7, and31, and63, shl1, shr_ok, neg_1, neg_2, neg_3, neg_4, kc_lt0, kc_ic, kc_m2, kc_1, kc_0, i0_add, add_i0, or_i0, z_8, z_4, z_64, z_256, ic_m2, ec_m1, ic_m1, m1_lt0, m2_lt0, m3_lt0, m4_lt0, up_s, if_true, if_false, ne_eq, not_true_eq_false, not_false_eq_true, Bool.false_eq_true, eq_self, or_self, or_false, false_or, and_self, and_true, true_and, ite_self, Nat.reduceEqDiff, Nat.reduceLT, Nat.reduceMod, Nat.reduceMul, Nat.reduceAdd, Nat.reducePow, Nat.reduceDiv, lt_2, lt_3, lt_4, lt_5, lt_6, lt_7, lt_8, lt_10, lt_11, lt_12, lt_15, lt_16, lt_18, lt_20, lt_24, lt_31, lt_32, lt_48, lt_57, lt_59, lt_63, lt_64, lt_74, lt_75, lt_97, lt_122, lt_128, lt_144, lt_145, lt_146, lt_147, lt_155, lt_163, lt_171, lt_179, lt_200, lt_243, lt_244, lt_255, lt_256, lt_732, lt_900, lt_3660, lt_3904, lt_4095, lt_65536, lt_65537, lt_252645135, lt_858993459, lt_1431655765, ↓p_has_b, p_has, ↓p_has9_b, p_has9, ↓p_bit_b, p_bit, ↓p_bit1_b, p_bit1, ↓p_bit0_b, p_bit0, p_X7_begin, y0, y1, y4, hT.1, hT.2.1, hP.t, b1, E, ↓bnd (e1), e1]
/-- what a call of the class says, when the places of what is told may change -/
def KD (S : SH) (I : II) (L : LL) (o x p q rg pc rs ps m ou : Nat) (oo : Option (Int32 × AH)) (z : Int32 × WD) : Prop := ∃ S' J ta tb, oo = some (z.1, hp S' J L) ∧ S'.1 = S.1 ∧ (∀ y, tT S' y = tT S y) ∧ (∀ y k, y ≠ o → tR S' y k = tR S y k) ∧ AD o x ta tb p q rg pc rs ps m ou ∧ LY S' o x ta tb p q rg pc rs ps m ou ∧ CI J o x ta p q rs ps z.2 ∧ ∀ y, m ≤ y → J y = I y
theorem kd_of {oo : Option (Int32 × AH)} {z : Int32 × WD} (H : KH S I o x ta tb p q rg pc rs ps m ou W c) (h : KC S I L o x ta p q rs ps m oo z) : KD S I L o x p q rg pc rs ps m ou oo z := by
  obtain ⟨J, h1, h2, h3⟩ := h
  exact ⟨S, J, ta, tb, h1, rfl, fun _ => rfl, fun _ _ _ => rfl, H.1, H.2.1, h2, h3⟩
theorem kc_machine (H : KH S I o x ta tb p q rg pc rs ps m ou W c) (v : Int32) : KD S I L o x p q rg pc rs ps m ou (p_X7_machine o v (hp S I L)) (mcD W v) := by
  have H9 := H
  obtain ⟨hA, hY, hC, hV⟩ := H9
  have hA9 := hA
  obtain ⟨d1, d2, d3, d4, d5, d6, d7, d8, d9, d10, d11⟩ := hA9
  have hn := hV.1
  have hK := hV.2.1
  have hI := hV.2.2.1
  have y0 := hY.1
  have yx := hY.2.1
  have y2 := hY.2.2.2.1
  have hx := hY.2.2.2.2.2.2.2.2.1
  have hT2 := hY.2.2.2.2.2.2.2.2.2.2.1
  have h9 := hC.2.2.2.2.2.2.1
  unfold mcD
  by_cases z : ok true (vN W + 1) v = true
  · rw [if_pos z]
    obtain ⟨-, k, hk, rfl⟩ := ok_t (by omega) z
    rw [ic_clamp (show k < 2147483648 by omega)]
    have Q : p_X7_machine o (ic k) (hp S I L) = p_X7_machine_21 o (ic k) (hp S I L) := by
      unfold p_X7_machine
      rw [if_neg (by rw [ic_lt0 (by omega)]; exact not_false), if_pos (show (tg (hp S I L) o).1 = 6 by rw [hp_tg, y0]), if_pos (show (tg (hp S I L) (rR (hp S I L) o 0)).1 = 4 by rw [hp_tg, hp_rR, yx]; exact hx.1), if_neg (show ¬ rI (hp S I L) (rR (hp S I L) o 0) 1 < ic k by rw [hp_rI, hp_rR, yx, h9, ic_lt (by omega) (by omega)]; omega)]
      rfl
    rw [Q]
    have R := k_reads (I := I) (L := L) (b := vY W) hx hT2 (t := tb) (n := k) (by omega) hC.2.2.2.2.2.2.2.1 (by omega)
    have Q2 : p_X7_machine_21 o (ic k) (hp S I L) = (p_X5_reads x (ic k) tb (hp S I L)).bind fun q107 => if q107.1 = 0 then (if (tg q107.2 o).1 = 6 then ((p_X7_refuse o 4 q107.2).bind fun q113 => some (q113.1, q113.2)) else none) else p_X7_machine_42 o q107.2 := by
      unfold p_X7_machine_21
      rw [if_pos (show (tg (hp S I L) o).1 = 6 by rw [hp_tg, y0]), if_pos (show (tg (hp S I L) o).1 = 6 by rw [hp_tg, y0]), if_pos (show (tg (hp S I L) (rR (hp S I L) o 0)).1 = 4 by rw [hp_tg, hp_rR, yx]; exact hx.1), hp_rR, hp_rR, yx, y2]
      rfl
    rw [Q2]
    obtain ⟨h1, ⟨nw, h2, h3, h4⟩, h5, h6, h7, h8, -, h10, h11, h12, h13, h14, h15, h16, h17, h18, h19⟩ := hC
    cases q9 : rr (vY W) k with
    | inl r =>
      rw [q9] at R
      obtain ⟨J, e1, j7, j8, j1, jy⟩ := R
      have ey : ∀ y, y ≠ o → y ≠ x → (y < tb ∨ tb + 9 < y) → up2 J o 11 (ic 4) y = I y := fun y q1 q2 q3 => by rw [← jy y q2 q3]; exact funext fun j => up_a q1
      have eo : ∀ j, j ≠ 11 → up2 J o 11 (ic 4) o j = I o j := fun j q1 => by rw [up_k q1, jy o (by omega) (by omega)]
      have ex : up2 J o 11 (ic 4) x = J x := funext fun j => up_a (by omega)
      refine ⟨S, up2 J o 11 (ic 4), ta, tb, ?_, rfl, fun _ => rfl, fun _ _ _ => rfl, hA, hY, ⟨by rw [eo 3 (by omega)]; exact h1, ⟨nw, h2, by rw [eo 7 (by omega)]; exact h3, fun j hj => ?_⟩, by rw [eo 8 (by omega)]; exact h5, by rw [eo 10 (by omega)]; exact h6, fun j hj => ?_, up_s _ _ _ _, by rw [ex]; exact j1, fun k hk => by rw [ey (x + 1) (by omega) (by omega) (by omega)]; exact h10 k hk, by rw [ex]; exact j7, fun _ => by rw [ex]; exact j8, by rw [ey (p + 5) (by omega) (by omega) (by omega)]; exact h13, by rw [ey (q + 5) (by omega) (by omega) (by omega)]; exact h14, fun z => ⟨(h15 z).1.lc fun y _ _ => ey y (by omega) (by omega) (by omega), (h15 z).2.lc fun y _ _ => ey y (by omega) (by omega) (by omega)⟩, by rw [ey p (by omega) (by omega) (by omega)]; exact h16, by rw [ey p (by omega) (by omega) (by omega)]; exact h17, by rw [ey p (by omega) (by omega) (by omega)]; exact h18, by rw [ey p (by omega) (by omega) (by omega)]; exact h19⟩, fun y hy => ey y (by omega) (by omega) (by omega)⟩
      · refine Eq.trans (bnd e1) ?_
        simp (maxSteps := 1000000) (disch := omega) only [↓reduceIte, ↓if_bi0, ↓if_bi1, hp_tg, hp_rI, hp_rR, hp_rL, hp_wI, hp_wL, Option.bind_some, if_11, if_01, bi_and1, i10, i01, bi_t, bi_f, ic_add, mr_4, ml_4, mr_8, ml_8, mr_10, ml_10, ic_add1, ic_sub1, ic_clamp, ic_div, ic_irm, ic_lt0, ic_0lt, ic_eq0, ic_lt, ic_inj, and15, and7, and31, and63, shl1, shr_ok, neg_1, neg_2, neg_3, neg_4, kc_lt0, kc_ic, kc_m2, kc_1, kc_0, i0_add, add_i0, or_i0, z_8, z_4, z_64, z_256, ic_m2, ec_m1, ic_m1, m1_lt0, m2_lt0, m3_lt0, m4_lt0, up_s, if_true, if_false, ne_eq, not_true_eq_false, not_false_eq_true, Bool.false_eq_true, eq_self, or_self, or_false, false_or, and_self, and_true, true_and, ite_self, Nat.reduceEqDiff, Nat.reduceLT, Nat.reduceMod, Nat.reduceMul, Nat.reduceAdd, Nat.reducePow, Nat.reduceDiv, lt_2, lt_3, lt_4, lt_5, lt_6, lt_7, lt_8, lt_10, lt_11, lt_12, lt_15, lt_16, lt_18, lt_20, lt_24, lt_31, lt_32, lt_48, lt_57, lt_59, lt_63, lt_64, lt_74, lt_75, lt_97, lt_122, lt_128, lt_144, lt_145, lt_146, lt_147, lt_155, lt_163, lt_171, lt_179, lt_200, lt_243, lt_244, lt_255, lt_256, lt_732, lt_900, lt_3660, lt_3904, lt_4095, lt_65536, lt_65537, lt_252645135, lt_858993459, lt_1431655765, ↓p_has_b, p_has, ↓p_has9_b, p_has9, ↓p_bit_b, p_bit, ↓p_bit1_b, p_bit1, ↓p_bit0_b, p_bit0, p_X7_refuse, y0]
        rfl
      · exact (h4 j hj).lc fun y _ _ => ey y (by omega) (by omega) (by omega)
      · exact (h7 j hj).lc fun y _ _ => ey y (by omega) (by omega) (by omega)
    | inr r =>
      obtain ⟨T, k'⟩ := r
      rw [q9] at R
      obtain ⟨J, e1, jT, j7, j1, jy⟩ := R
      have hA2 : AD o x tb ta p q rg pc rs ps m ou := ⟨d1, d2, d3, d4, d5, d6, d7, d8, d9, d10, by omega⟩
      obtain ⟨-, -, y1, -, y4, y5, y6, y9, -, hT, -, hP, hQ, ⟨yr, ys⟩, ⟨yp, yq⟩, hM, hO⟩ := hY
      have eT : ∀ y, tT (swR (swR S o 2 ta) o 1 tb) y = tT S y := fun _ => rfl
      have eR : ∀ y k, y ≠ o → tR (swR (swR S o 2 ta) o 1 tb) y k = tR S y k := fun y k hy => by rw [sw_a hy, sw_a hy]
      have eRo : ∀ k, k ≠ 1 → k ≠ 2 → tR (swR (swR S o 2 ta) o 1 tb) o k = tR S o k := fun k q1 q2 => by rw [sw_k q1, sw_k q2]
      have z1 : tR (swR (swR S o 2 ta) o 1 tb) o 1 = tb := sw_s _ _ _ _
      have z2 : tR (swR (swR S o 2 ta) o 1 tb) o 2 = ta := by rw [sw_k (by omega), sw_s]
      have gl : ∀ g, g ≠ o → GL S g → GL (swR (swR S o 2 ta) o 1 tb) g := fun g hg h => by
        unfold GL at h ⊢
        simp only [eT, eR g _ hg]
        exact h
      have ql : ∀ g, g ≠ o → QL S g → QL (swR (swR S o 2 ta) o 1 tb) g := fun g hg h => by
        unfold QL at h ⊢
        simp only [eT, eR g _ hg]
        exact h
      have tl : ∀ t, o < t → TL S t → TL (swR (swR S o 2 ta) o 1 tb) t := fun t ht h => by
        have hg := gl (t + 1) (by omega) h.2.2.1
        unfold TL at h ⊢
        simp only [eT, eR t _ (show t ≠ o by omega)]
        exact ⟨h.1, h.2.1, hg, h.2.2.2⟩
      have pl9 : ∀ t, o < t → PL S t → PL (swR (swR S o 2 ta) o 1 tb) t := fun t ht h => by
        have hg := gl (t + 2) (by omega) h.G
        have hq := ql (t + 5) (by omega) h.Q
        unfold PL at h ⊢
        simp only [eT, eR t _ (show t ≠ o by omega), eR (t + 1) _ (show t + 1 ≠ o by omega)]
        exact ⟨h.1, h.2.1, h.2.2.1, h.2.2.2.1, hg, hq, h.2.2.2.2.2.2⟩
      have sl : ∀ t, o < t → SL S t → SL (swR (swR S o 2 ta) o 1 tb) t := fun t ht h => by
        have hg := gl (t + 1) (by omega) h.2.2.2.1
        have hq := ql (t + 4) (by omega) h.2.2.2.2
        exact ⟨h.1, by rw [eR t _ (by omega)]; exact h.2.1, by rw [eR t _ (by omega)]; exact h.2.2.1, hg, hq⟩
      have hY2 : LY (swR (swR S o 2 ta) o 1 tb) o x tb ta p q rg pc rs ps m ou := by
        refine ⟨y0, by rw [eRo 0 (by omega) (by omega)]; exact yx, z1, z2, by rw [eRo 4 (by omega) (by omega)]; exact y4, by rw [eRo 5 (by omega) (by omega)]; exact y5, by rw [eRo 6 (by omega) (by omega)]; exact y6, by rw [eRo 9 (by omega) (by omega)]; exact y9, ⟨hx.1, by rw [eR x _ (by omega)]; exact hx.2.1, hx.2.2⟩, tl tb (by omega) hT2, tl ta (by omega) hT, pl9 p (by omega) hP, pl9 q (by omega) hQ, ⟨yr, fun i hi => ⟨by rw [eR rg _ (by omega)]; exact (ys i hi).1, sl _ (by omega) (ys i hi).2⟩⟩, ⟨yp, fun i hi => ⟨by rw [eR pc _ (by omega)]; exact (yq i hi).1, sl _ (by omega) (yq i hi).2⟩⟩, ?_, hO⟩
        unfold ML at hM ⊢
        simp only [eT, eR m _ (show m ≠ o by omega)]
        exact hM
      have hw : ∃ w, w < 256 ∧ J (p + 5) 4 = ic w := by rw [jy (p + 5) (by omega) (by omega)]; exact h13
      obtain ⟨K, e2, kP, k3, k4, k6, k7, ko3, ko8, ko10, koj, ky⟩ := k_begin (S := swR (swR S o 2 ta) o 1 tb) (L := L) y0 z1 (by rw [eRo 4 (by omega) (by omega)]; exact y4) (tl tb (by omega) hT2) (pl9 p (by omega) hP) (by omega) (by omega) (by omega) (by omega) jT hw
      have ey : ∀ y, y ≠ o → y ≠ x → (y < tb ∨ tb + 9 < y) → (y < p ∨ p + 9 < y) → up2 K o 11 0 y = I y := fun y q1 q2 q3 q4 => by rw [← jy y q2 q3, ← ky y q1 q4]; exact funext fun j => up_a q1
      have eK : ∀ y, y ≠ o → up2 K o 11 0 y = K y := fun y q1 => funext fun j => up_a q1
      have eo : ∀ j, j ≠ 11 → up2 K o 11 0 o j = K o j := fun j q1 => up_k q1
      have ex : up2 K o 11 0 x = J x := by rw [eK x (by omega), ky x (by omega) (by omega)]
      obtain ⟨w, w1, w2, -⟩ := kP.2.2.2.2.2.1
      refine ⟨swR (swR S o 2 ta) o 1 tb, up2 K o 11 0, tb, ta, ?_, rfl, eT, eR, hA2, hY2, ⟨by rw [eo 3 (by omega)]; exact ko3, ⟨nw, h2, by rw [eo 7 (by omega), koj 7 (by omega) (by omega) (by omega), jy o (by omega) (by omega)]; exact h3, fun j hj => absurd hj (Nat.not_lt_zero j)⟩, by rw [eo 8 (by omega)]; exact ko8, by rw [eo 10 (by omega)]; exact ko10, fun j hj => absurd hj (Nat.not_lt_zero j), up_s _ _ _ _, by rw [ex]; exact j1, fun k hk => by rw [ey (x + 1) (by omega) (by omega) (by omega) (by omega)]; exact h10 k hk, by rw [ex]; exact j7, fun z => (by cases z), by rw [eK (p + 5) (by omega)]; exact ⟨w, w1, w2⟩, by rw [ey (q + 5) (by omega) (by omega) (by omega) (by omega)]; exact h14, fun _ => ⟨jT.lc fun y _ _ => by rw [eK y (by omega), ky y (by omega) (by omega)], kP.lc fun y _ _ => eK y (by omega)⟩, by rw [eK p (by omega)]; exact k3, by rw [eK p (by omega)]; exact k4, by rw [eK p (by omega)]; exact k6, by rw [eK p (by omega)]; exact k7⟩, fun y hy => ey y (by omega) (by omega) (by omega) (by omega)⟩
      refine Eq.trans (bnd e1) ?_
      rw [if_neg (show ¬ (1 : Int32) = 0 by decide)]
      have kt : K tb 1 = ic (tP T) := by rw [ky tb (by omega) (by omega)]; exact jT.2.1
      have tt : (tT S tb).1 = 5 := by rw [hT2.1]
      have step : p_X7_machine_42 o (hp S J L) = (p_X7_begin o (hp (swR (swR S o 2 ta) o 1 tb) J L)).bind fun h105 => if (tg h105 o).1 = 6 then (if (tg h105 (rR h105 o 1)).1 = 5 then (if (tg h105 o).1 = 6 then ((p_X7_answer o (rI h105 (rR h105 o 1) 1) h105).bind fun q106 => some (q106.1, q106.2)) else none) else none) else none := by
        unfold p_X7_machine_42
        have t6 : (tg (hp S J L) o).1 = 6 := by rw [hp_tg, y0]
        rw [if_pos t6]
        show (if (tg (hp S J L) o).1 = 6 then _ else none) = _
        rw [if_pos t6, if_pos t6]
        show (if (tg (wR (hp S J L) o 2 (rR (hp S J L) o 1)) o).1 = 6 then _ else none) = _
        rw [hp_rR, y1, hp_wR, if_pos (show (tg (hp (swR S o 2 ta) J L) o).1 = 6 by rw [hp_tg]; exact t6)]
        show (if (tg (wR (hp (swR S o 2 ta) J L) o 1 (rR (hp S J L) o 2)) o).1 = 6 then _ else none) = _
        rw [hp_rR, y2, hp_wR, if_pos (show (tg (hp (swR (swR S o 2 ta) o 1 tb) J L) o).1 = 6 by rw [hp_tg]; exact t6)]
      rw [step]
      refine Eq.trans (bnd e2) ?_
      have s6 : (tg (hp (swR (swR S o 2 ta) o 1 tb) K L) o).1 = 6 := by rw [hp_tg, eT, y0]
      rw [if_pos s6, hp_rR, z1, if_pos (show (tg (hp (swR (swR S o 2 ta) o 1 tb) K L) tb).1 = 5 by rw [hp_tg, eT]; exact tt), if_pos s6, hp_rI, kt]
      unfold p_X7_answer
      rw [if_pos s6]
      rfl
  · rw [if_neg z]
    refine kd_of H (kc_no (e := 2) H (by decide) ?_)
    rcases i_cases v with g | ⟨k, hk, rfl⟩
    · simp (maxSteps := 1000000) (disch := omega) only [↓reduceIte, ↓if_bi0, ↓if_bi1, hp_tg, hp_rI, hp_rR, hp_rL, hp_wI, hp_wL, Option.bind_some, if_11, if_01, bi_and1, i10, i01, bi_t, bi_f, ic_add, mr_4, ml_4, mr_8, ml_8, mr_10, ml_10, ic_add1, ic_sub1, ic_clamp, ic_div, ic_irm, ic_lt0, ic_0lt, ic_eq0, ic_lt, ic_inj, and15, and7, and31, and63, shl1, shr_ok, neg_1, neg_2, neg_3, neg_4, kc_lt0, kc_ic, kc_m2, kc_1, kc_0, i0_add, add_i0, or_i0, z_8, z_4, z_64, z_256, ic_m2, ec_m1, ic_m1, m1_lt0, m2_lt0, m3_lt0, m4_lt0, up_s, if_true, if_false, ne_eq, not_true_eq_false, not_false_eq_true, Bool.false_eq_true, eq_self, or_self, or_false, false_or, and_self, and_true, true_and, ite_self, Nat.reduceEqDiff, Nat.reduceLT, Nat.reduceMod, Nat.reduceMul, Nat.reduceAdd, Nat.reducePow, Nat.reduceDiv, lt_2, lt_3, lt_4, lt_5, lt_6, lt_7, lt_8, lt_10, lt_11, lt_12, lt_15, lt_16, lt_18, lt_20, lt_24, lt_31, lt_32, lt_48, lt_57, lt_59, lt_63, lt_64, lt_74, lt_75, lt_97, lt_122, lt_128, lt_144, lt_145, lt_146, lt_147, lt_155, lt_163, lt_171, lt_179, lt_200, lt_243, lt_244, lt_255, lt_256, lt_732, lt_900, lt_3660, lt_3904, lt_4095, lt_65536, lt_65537, lt_252645135, lt_858993459, lt_1431655765, ↓p_has_b, p_has, ↓p_has9_b, p_has9, ↓p_bit_b, p_bit, ↓p_bit1_b, p_bit1, ↓p_bit0_b, p_bit0, p_X7_machine, p_X7_machine_15, p_X7_refuse, y0, g]
    · rw [ok_ic (by omega) hk] at z
      have : ¬ k < vN W + 1 := fun q => z (decide_eq_true q)
      simp (maxSteps := 1000000) (disch := omega) only [↓reduceIte, ↓if_bi0, ↓if_bi1, hp_tg, hp_rI, hp_rR, hp_rL, hp_wI, hp_wL, Option.bind_some, if_11, if_01, bi_and1, i10, i01, bi_t, bi_f, ic_add, mr_4, ml_4, mr_8, ml_8, mr_10, ml_10, ic_add1, ic_sub1, ic_clamp, ic_div, ic_irm, ic_lt0, ic_0lt, ic_eq0, ic_lt, ic_inj, and15, and7, and31, and63, shl1, shr_ok, neg_1, neg_2, neg_3, neg_4, kc_lt0, kc_ic, kc_m2, kc_1, kc_0, i0_add, add_i0, or_i0, z_8, z_4, z_64, z_256, ic_m2, ec_m1, ic_m1, m1_lt0, m2_lt0, m3_lt0, m4_lt0, up_s, if_true, if_false, ne_eq, not_true_eq_false, not_false_eq_true, Bool.false_eq_true, eq_self, or_self, or_false, false_or, and_self, and_true, true_and, ite_self, Nat.reduceEqDiff, Nat.reduceLT, Nat.reduceMod, Nat.reduceMul, Nat.reduceAdd, Nat.reducePow, Nat.reduceDiv, lt_2, lt_3, lt_4, lt_5, lt_6, lt_7, lt_8, lt_10, lt_11, lt_12, lt_15, lt_16, lt_18, lt_20, lt_24, lt_31, lt_32, lt_48, lt_57, lt_59, lt_63, lt_64, lt_74, lt_75, lt_97, lt_122, lt_128, lt_144, lt_145, lt_146, lt_147, lt_155, lt_163, lt_171, lt_179, lt_200, lt_243, lt_244, lt_255, lt_256, lt_732, lt_900, lt_3660, lt_3904, lt_4095, lt_65536, lt_65537, lt_252645135, lt_858993459, lt_1431655765, ↓p_has_b, p_has, ↓p_has9_b, p_has9, ↓p_bit_b, p_bit, ↓p_bit1_b, p_bit1, ↓p_bit0_b, p_bit0, p_X7_machine, p_X7_machine_15, p_X7_refuse, y0, yx, hx.1, h9, show vN W < k by omega]
end KMC
