/-! ===== feed: both sides ===== -/
def bq (z : Int32) : Nat := z.toInt8.toBitVec.toNat
theorem bq_lt (z : Int32) : bq z < 256 := z.toInt8.toBitVec.isLt
theorem by8_n : ∀ n, n < 256 → (Int8.ofNat n).toInt32.toInt8.toInt32 = by8 n := by decide +kernel
theorem by8_q (z : Int32) : z.toInt8.toInt32.toInt8.toInt32 = by8 (bq z) := by
  have h : Int8.ofNat (bq z) = z.toInt8 := by
    apply Int8.toBitVec_inj.mp
    apply BitVec.eq_of_toNat_eq
    show (BitVec.ofNat 8 (bq z)).toNat = _
    rw [BitVec.toNat_ofNat]
    exact Nat.mod_eq_of_lt (bq_lt z)
  rw [← by8_n (bq z) (bq_lt z), h]
def pt (Y : Nat → Nat) (n b : Nat) : Nat → Nat := fun k => if k = n then b else Y k
/-- one byte more -/
def uF (W : WD) (b : Nat) : WD := ((pt (vY W) (vN W) b, vN W + 1), W.2)
def ap4 (W : WD) (z : Int32) : WD := uF (uF (uF (uF W (bq (z >>> ic 24))) (bq (z >>> ic 16))) (bq (z >>> ic 8))) (bq (z >>> ic 0))
def fed (W : WD) (a b c d e : Int32) : Int32 × WD := if 900 < vN W + 20 then (m1, W) else (ic (vN W + 20), ap4 (ap4 (ap4 (ap4 (ap4 W a) b) c) d) e)
theorem WV.fd {W : WD} {c : Nat} (h : WV W c) (hn : vN W < 900) (b : Nat) : WV (uF W b) c := ⟨hn, h.2⟩
def fI (I : II) (x y n j : Nat) (v : Int32) : II := up2 (up2 I y n v) x j (ic (n + 1))
theorem TP.pt {I : II} {y n b : Nat} {Y : Nat → Nat} (h : TP I y Y) (hb : b < 256) (v : Int32) (hv : v = by8 b) : TP (up2 I y n v) y (pt Y n b) := by
  intro k hk
  rw [up_i]
  show (if k = n then b else Y k) < 256 ∧ _ = by8 (if k = n then b else Y k)
  by_cases e : k = n
  · rw [if_pos e, if_pos e]; exact ⟨hb, hv⟩
  · rw [if_neg e, if_neg e]; exact h k hk
section FDK
variable {S : SH} {I J : II} {L L' : LL} {o x ta tb p q rg pc rs ps m ou a c e : Nat} {W : WD}
theorem CI.fd (hA : AD o x ta tb p q rg pc rs ps m ou) (h : CI I o x ta p q rs ps W) (hK : vK W ≤ 16) (hI : vI W ≤ 3) (z : Int32) : CI (fI I x (x + 1) (vN W) 1 (by8 (bq z))) o x ta p q rs ps (uF W (bq z)) := by
  obtain ⟨d1, d2, d3, d4, d5, d6, d7, d8, d9, d10, d11⟩ := hA
  obtain ⟨h1, ⟨nw, h2, h3, h9⟩, h5, h6, h7, h8, h10, h11, h12, h13, h14, h15, h16, h17, h18, h19, h20⟩ := h
  have e : ∀ y, y ≠ x → y ≠ x + 1 → fI I x (x + 1) (vN W) 1 (by8 (bq z)) y = I y := fun y hy hz => funext fun j => by unfold fI; rw [up_a hy, up_a hz]
  have ex : ∀ j, j ≠ 1 → fI I x (x + 1) (vN W) 1 (by8 (bq z)) x j = I x j := fun j hj => by unfold fI; rw [up_k hj, up_a (by omega)]
  refine ⟨by rw [e o (by omega) (by omega)]; exact h1, ⟨nw, h2, by rw [e o (by omega) (by omega)]; exact h3, fun j hj => ?_⟩, by rw [e o (by omega) (by omega)]; exact h5, by rw [e o (by omega) (by omega)]; exact h6, fun j hj => ?_, by rw [e o (by omega) (by omega)]; exact h8, ?_, ?_, by rw [ex 7 (by omega)]; exact h12, fun z4 => by rw [ex 8 (by omega)]; exact h13 z4, by rw [e (p + 5) (by omega) (by omega)]; exact h14, by rw [e (q + 5) (by omega) (by omega)]; exact h15, fun z9 => ⟨(h16 z9).1.lc fun y _ _ => e y (by omega) (by omega), (h16 z9).2.lc fun y _ _ => e y (by omega) (by omega)⟩, by rw [e p (by omega) (by omega)]; exact h17, by rw [e p (by omega) (by omega)]; exact h18, by rw [e p (by omega) (by omega)]; exact h19, by rw [e p (by omega) (by omega)]; exact h20⟩
  · exact (h9 j hj).lc fun y _ _ => e y (by omega) (by omega)
  · exact (h7 j hj).lc fun y _ _ => e y (by omega) (by omega)
  · exact up_s _ _ _ _
  · have := TP.pt (n := vN W) h11 (bq_lt z) (by8 (bq z)) rfl
    intro k hk
    rw [show fI I x (x + 1) (vN W) 1 (by8 (bq z)) (x + 1) k = up2 I (x + 1) (vN W) (by8 (bq z)) (x + 1) k from up_a (by omega)]
    exact this k hk
theorem k_ap1 (hx : XL S x) {n j f : Nat} (hn : n < 900) (hj : j < 31) (hI : I x 1 = ic n) (z : Int32) : p_X5_append_3 (f + 1) x z (ic j) (hp S I L) = p_X5_append_3 f x z (ic j + -8) (hp S (fI I x (x + 1) n 1 (by8 (bq (z >>> ic j)))) L) := by
  have e1 : ∀ v, up2 I (x + 1) n v x 1 = ic n := fun v => by rw [up_a (by omega)]; exact hI
  conv => lhs; unfold p_X5_append_3
  simp (maxSteps := 1000000) (disch := omega) only [↓reduceIte, ↓if_bi0, ↓if_bi1, hp_tg, hp_rI, hp_rR, hp_rL, hp_wI, hp_wL, Option.bind_some, if_11, if_01, bi_and1, i10, i01, bi_t, bi_f, ic_add, mr_4, ml_4, mr_8, ml_8, mr_10, ml_10, ic_add1, ic_sub1, ic_clamp, ic_div, ic_irm, ic_lt0, ic_0lt, ic_eq0, ic_lt, ic_inj, and15, and7, and31, and63, shl1, shr_ok, neg_1, neg_2, neg_3, neg_4, kc_lt0, kc_ic, kc_m2, kc_1, kc_0, i0_add, add_i0, or_i0, z_8, z_4, z_64, z_256, ic_m2, ec_m1, ic_m1, m1_lt0, m2_lt0, m3_lt0, m4_lt0, up_s, if_true, if_false, ne_eq, not_true_eq_false, not_false_eq_true, Bool.false_eq_true, eq_self, or_self, or_false, false_or, and_self, and_true, true_and, ite_self, Nat.reduceEqDiff, Nat.reduceLT, Nat.reduceMod, Nat.reduceMul, Nat.reduceAdd, Nat.reducePow, Nat.reduceDiv, lt_2, lt_3, lt_4, lt_5, lt_6, lt_7, lt_8, lt_10, lt_11, lt_12, lt_15, lt_16, lt_18, lt_20, lt_24, lt_31, lt_32, lt_48, lt_57, lt_59, lt_63, lt_64, lt_74, lt_75, lt_97, lt_122, lt_128, lt_144, lt_145, lt_146, lt_147, lt_155, lt_163, lt_171, lt_179, lt_200, lt_243, lt_244, lt_255, lt_256, lt_732, lt_900, lt_3660, lt_3904, lt_4095, lt_65536, lt_65537, lt_252645135, lt_858993459, lt_1431655765, ↓p_has_b, p_has, ↓p_has9_b, p_has9, ↓p_bit_b, p_bit, ↓p_bit1_b, p_bit1, ↓p_bit0_b, p_bit0, p_X5_append_40, hx.1, hx.2.1, hI, hn, if_inB hx.2.2, by8_q, e1, show j % 32 = j by omega]
  rfl
theorem k_ap (hA : AD o x ta tb p q rg pc rs ps m ou) (hx : XL S x) (hC : CI I o x ta p q rs ps W) (hV : WV W c) (hn : vN W + 4 ≤ 900) (z : Int32) : ∃ J, p_X5_append x z (hp S I L) = some (hp S J L) ∧ CI J o x ta p q rs ps (ap4 W z) ∧ WV (ap4 W z) c ∧ ∀ y, m ≤ y → J y = I y := by
  have hm : x + 1 < m := by have := hA.2.1; have := hA.2.2.2.2.2.2.2.2.1; omega
  have V1 := hV.fd (by omega) (bq (z >>> ic 24))
  have V2 := V1.fd (show vN W + 1 < 900 by omega) (bq (z >>> ic 16))
  have V3 := V2.fd (show vN W + 1 + 1 < 900 by omega) (bq (z >>> ic 8))
  have V4 := V3.fd (show vN W + 1 + 1 + 1 < 900 by omega) (bq (z >>> ic 0))
  have C1 := hC.fd hA hV.2.1 hV.2.2.1 (z >>> ic 24)
  have C2 := C1.fd hA hV.2.1 hV.2.2.1 (z >>> ic 16)
  have C3 := C2.fd hA hV.2.1 hV.2.2.1 (z >>> ic 8)
  have C4 := C3.fd hA hV.2.1 hV.2.2.1 (z >>> ic 0)
  refine ⟨_, ?_, C4, V4, fun y hy => funext fun j => ?_⟩
  · show p_X5_append_3 (9995 + 1 + 1 + 1 + 1 + 1) x z (ic 24) (hp S I L) = _
    refine Eq.trans (k_ap1 hx (n := vN W) (by omega) (by omega) hC.2.2.2.2.2.2.1 z) ?_
    rw [show ic 24 + -8 = ic 16 from rfl]
    refine Eq.trans (k_ap1 hx (n := vN (uF W (bq (z >>> ic 24)))) (show vN W + 1 < 900 by omega) (by omega) C1.2.2.2.2.2.2.1 z) ?_
    rw [show ic 16 + -8 = ic 8 from rfl]
    refine Eq.trans (k_ap1 hx (n := vN (uF (uF W (bq (z >>> ic 24))) (bq (z >>> ic 16)))) (show vN W + 1 + 1 < 900 by omega) (by omega) C2.2.2.2.2.2.2.1 z) ?_
    rw [show ic 8 + -8 = ic 0 from rfl]
    refine Eq.trans (k_ap1 hx (n := vN (uF (uF (uF W (bq (z >>> ic 24))) (bq (z >>> ic 16))) (bq (z >>> ic 8)))) (show vN W + 1 + 1 + 1 < 900 by omega) (by omega) C3.2.2.2.2.2.2.1 z) ?_
    conv => lhs; unfold p_X5_append_3
    rw [if_pos (show ic 0 + -8 < 0 by decide)]
  · unfold fI
    rw [up_a (by omega), up_a (by omega), up_a (by omega), up_a (by omega), up_a (by omega), up_a (by omega), up_a (by omega), up_a (by omega)]
theorem kc_feed (H : KH S I o x ta tb p q rg pc rs ps m ou W c) (v1 v2 v3 v4 v5 : Int32) : KC S I L o x ta p q rs ps m (p_X7_feed o v1 v2 v3 v4 v5 (hp S I L)) (fed W v1 v2 v3 v4 v5) := by
  obtain ⟨hA, ⟨y0, yx, -, -, -, -, -, -, hx, -⟩, hC, hV⟩ := H
  have hn := hV.1
  have hI := hC.2.2.2.2.2.2.1
  unfold fed
  by_cases d : 900 < vN W + 20
  · rw [if_pos d]
    refine ⟨I, ?_, hC, fun _ _ => rfl⟩
    simp (maxSteps := 1000000) (disch := omega) only [↓reduceIte, ↓if_bi0, ↓if_bi1, hp_tg, hp_rI, hp_rR, hp_rL, hp_wI, hp_wL, Option.bind_some, if_11, if_01, bi_and1, i10, i01, bi_t, bi_f, ic_add, mr_4, ml_4, mr_8, ml_8, mr_10, ml_10, ic_add1, ic_sub1, ic_clamp, ic_div, ic_irm, ic_lt0, ic_0lt, ic_eq0, ic_lt, ic_inj, and15, and7, and31, and63, shl1, shr_ok, neg_1, neg_2, neg_3, neg_4, kc_lt0, kc_ic, kc_m2, kc_1, kc_0, i0_add, add_i0, or_i0, z_8, z_4, z_64, z_256, ic_m2, ec_m1, ic_m1, m1_lt0, m2_lt0, m3_lt0, m4_lt0, up_s, if_true, if_false, ne_eq, not_true_eq_false, not_false_eq_true, Bool.false_eq_true, eq_self, or_self, or_false, false_or, and_self, and_true, true_and, ite_self, Nat.reduceEqDiff, Nat.reduceLT, Nat.reduceMod, Nat.reduceMul, Nat.reduceAdd, Nat.reducePow, Nat.reduceDiv, lt_2, lt_3, lt_4, lt_5, lt_6, lt_7, lt_8, lt_10, lt_11, lt_12, lt_15, lt_16, lt_18, lt_20, lt_24, lt_31, lt_32, lt_48, lt_57, lt_59, lt_63, lt_64, lt_74, lt_75, lt_97, lt_122, lt_128, lt_144, lt_145, lt_146, lt_147, lt_155, lt_163, lt_171, lt_179, lt_200, lt_243, lt_244, lt_255, lt_256, lt_732, lt_900, lt_3660, lt_3904, lt_4095, lt_65536, lt_65537, lt_252645135, lt_858993459, lt_1431655765, ↓p_has_b, p_has, ↓p_has9_b, p_has9, ↓p_bit_b, p_bit, ↓p_bit1_b, p_bit1, ↓p_bit0_b, p_bit0, p_X7_feed, y0, yx, hx.1, hI, d]
  · rw [if_neg d]
    obtain ⟨J1, e1, C1, V1, f1⟩ := k_ap (L := L) hA hx hC hV (by omega) v1
    obtain ⟨J2, e2, C2, V2, f2⟩ := k_ap (L := L) hA hx C1 V1 (show vN W + 1 + 1 + 1 + 1 + 4 ≤ 900 by omega) v2
    obtain ⟨J3, e3, C3, V3, f3⟩ := k_ap (L := L) hA hx C2 V2 (show vN W + 1 + 1 + 1 + 1 + 1 + 1 + 1 + 1 + 4 ≤ 900 by omega) v3
    obtain ⟨J4, e4, C4, V4, f4⟩ := k_ap (L := L) hA hx C3 V3 (show vN W + 1 + 1 + 1 + 1 + 1 + 1 + 1 + 1 + 1 + 1 + 1 + 1 + 4 ≤ 900 by omega) v4
    obtain ⟨J5, e5, C5, V5, f5⟩ := k_ap (L := L) hA hx C4 V4 (show vN W + 1 + 1 + 1 + 1 + 1 + 1 + 1 + 1 + 1 + 1 + 1 + 1 + 1 + 1 + 1 + 1 + 4 ≤ 900 by omega) v5
    refine ⟨J5, ?_, C5, fun y hy => by rw [f5 y hy, f4 y hy, f3 y hy, f2 y hy, f1 y hy]⟩
    have E : J5 x 1 = ic (vN W + 20) := C5.2.2.2.2.2.2.1
    simp (maxSteps := 1000000) (disch := omega) only [↓reduceIte, ↓if_bi0, ↓if_bi1, hp_tg, hp_rI, hp_rR, hp_rL, hp_wI, hp_wL, Option.bind_some, if_11, if_01, bi_and1, i10, i01, bi_t, bi_f, ic_add, mr_4, ml_4, mr_8, ml_8, mr_10, ml_10, ic_add1, ic_sub1, ic_clamp, ic_div, ic_irm, ic_lt0, ic_0lt, ic_eq0, ic_lt, ic_inj, and15, and7, and31, and63, shl1, shr_ok, neg_1, neg_2, neg_3, neg_4, kc_lt0, kc_ic, kc_m2, kc_1, kc_0, i0_add, add_i0, or_i0, z_8, z_4, z_64, z_256, ic_m2, ec_m1, ic_m1, m1_lt0, m2_lt0, m3_lt0, m4_lt0, up_s, if_true, if_false, ne_eq, not_true_eq_false, not_false_eq_true, Bool.false_eq_true, eq_self, or_self, or_false, false_or, and_self, and_true, true_and, ite_self, Nat.reduceEqDiff, Nat.reduceLT, Nat.reduceMod, Nat.reduceMul, Nat.reduceAdd, Nat.reducePow, Nat.reduceDiv, lt_2, lt_3, lt_4, lt_5, lt_6, lt_7, lt_8, lt_10, lt_11, lt_12, lt_15, lt_16, lt_18, lt_20, lt_24, lt_31, lt_32, lt_48, lt_57, lt_59, lt_63, lt_64, lt_74, lt_75, lt_97, lt_122, lt_128, lt_144, lt_145, lt_146, lt_147, lt_155, lt_163, lt_171, lt_179, lt_200, lt_243, lt_244, lt_255, lt_256, lt_732, lt_900, lt_3660, lt_3904, lt_4095, lt_65536, lt_65537, lt_252645135, lt_858993459, lt_1431655765, ↓p_has_b, p_has, ↓p_has9_b, p_has9, ↓p_bit_b, p_bit, ↓p_bit1_b, p_bit1, ↓p_bit0_b, p_bit0, p_X7_feed, y0, yx, hx.1, hI, d, ↓bnd (e1), e1, ↓bnd (e2), e2, ↓bnd (e3), e3, ↓bnd (e4), e4, ↓bnd (e5), e5, E]
end FDK
section FDX
variable {S : SH} {I J : II} {L L' : LL} {m a c e pl : Nat} {W : WD} {s : St}
theorem XI.fd (hm : m + 6 < a) (h : XI I m a W) (z : Int32) : XI (fI I m (m + 1) (vN W) 6 (by8 (bq z))) m a (uF W (bq z)) := by
  obtain ⟨g1, g2, g3, g4, g5, g6, g7, g8, g9, g10, g11, g12, g13, g14⟩ := h
  have e9 : ∀ y, y ≠ m → y ≠ m + 1 → fI I m (m + 1) (vN W) 6 (by8 (bq z)) y = I y := fun y hy hz => funext fun j => by unfold fI; rw [up_a hy, up_a hz]
  have ex : ∀ j, j ≠ 6 → fI I m (m + 1) (vN W) 6 (by8 (bq z)) m j = I m j := fun j hj => by unfold fI; rw [up_k hj, up_a (by omega)]
  refine ⟨by rw [ex 1 (by omega), ex 2 (by omega)]; exact g1, up_s _ _ _ _, ?_, by rw [ex 12 (by omega)]; exact g4, by rw [ex 19 (by omega)]; exact g5, by rw [ex 20 (by omega)]; exact g6, by rw [ex 21 (by omega)]; exact g7, by rw [ex 22 (by omega)]; exact g8, by rw [ex 23 (by omega)]; exact g9, by rw [ex 24 (by omega)]; exact g10, by rw [ex 25 (by omega)]; exact g11, ?_, ?_, fun z => ⟨(g14 z).1.lc fun y _ _ => e9 y (by omega) (by omega), ?_⟩⟩
  · have := TP.pt (n := vN W) g3 (bq_lt z) (by8 (bq z)) rfl
    intro k hk
    rw [show fI I m (m + 1) (vN W) 6 (by8 (bq z)) (m + 1) k = up2 I (m + 1) (vN W) (by8 (bq z)) (m + 1) k from up_a (by omega)]
    exact this k hk
  · unfold PW; rw [e9 (m + 4) (by omega) (by omega)]; exact g12
  · rw [e9 (m + 5) (by omega) (by omega)]; exact g13
  · rw [e9 (m + 2) (by omega) (by omega)]; exact (g14 z).2
def ag (x1 x2 x3 x4 x5 : Int32) (k : Nat) : Int32 := if k < 4 then x1 else if k < 8 then x2 else if k < 12 then x3 else if k < 16 then x4 else x5
theorem x_fd1 (hL : ML S m) {n k f : Nat} (hn : n < 900) (hk : k < 20) (hI : I m 6 = ic n) (x1 x2 x3 x4 x5 : Int32) : p_X9_feed_23 (f + 1) m x1 x2 x3 x4 x5 (ic k) (hp S I L) = p_X9_feed_23 f m x1 x2 x3 x4 x5 (ic (k + 1)) (hp S (fI I m (m + 1) n 6 (by8 (bq (ag x1 x2 x3 x4 x5 k >>> ic (24 - 8 * (k % 4)))))) L) := by
  have g76 : ∀ y0, p_X9_feed_76 (p_X9_feed_23 f) m x1 x2 x3 x4 x5 (ic k) y0 (hp S I L) = p_X9_feed_23 f m x1 x2 x3 x4 x5 (ic (k + 1)) (hp S (fI I m (m + 1) n 6 (by8 (bq (y0 >>> ic (24 - 8 * (k % 4)))))) L) := by
    intro y0
    have e1 : ∀ v, up2 I (m + 1) n v m 6 = ic n := fun v => by rw [up_a (by omega)]; exact hI
    have e2 : (ic 24 - ic 8 * ic (k % 4)) &&& ic 31 = ic (24 - 8 * (k % 4)) := by
      have : k % 4 < 4 := Nat.mod_lt _ (by decide)
      generalize k % 4 = r at this ⊢
      have : r = 0 ∨ r = 1 ∨ r = 2 ∨ r = 3 := by omega
      rcases this with rfl | rfl | rfl | rfl <;> rfl
    simp (maxSteps := 1000000) (disch := omega) only [↓reduceIte, ↓if_bi0, ↓if_bi1, hp_tg, hp_rI, hp_rR, hp_rL, hp_wI, hp_wL, Option.bind_some, if_11, if_01, bi_and1, i10, i01, bi_t, bi_f, ic_add, mr_4, ml_4, mr_8, mr_10, ml_10, ic_add1, ic_sub1, ic_clamp, ic_div, ic_irm, ic_lt0, ic_0lt, ic_eq0, ic_lt, ic_inj, and15, and7, and63, shl1, shr_ok, neg_1, neg_2, neg_3, neg_4, kc_lt0, kc_ic, kc_m2, kc_1, kc_0, i0_add, add_i0, or_i0, z_8, z_4, z_64, z_256, ic_m2, ec_m1, ic_m1, m1_lt0, m2_lt0, m3_lt0, m4_lt0, up_s, if_true, if_false, ne_eq, not_true_eq_false, not_false_eq_true, Bool.false_eq_true, eq_self, or_self, or_false, false_or, and_self, and_true, true_and, ite_self, Nat.reduceEqDiff, Nat.reduceLT, Nat.reduceMod, Nat.reduceMul, Nat.reduceAdd, Nat.reducePow, Nat.reduceDiv, lt_2, lt_3, lt_4, lt_5, lt_6, lt_7, lt_8, lt_10, lt_11, lt_12, lt_15, lt_16, lt_18, lt_20, lt_24, lt_31, lt_32, lt_48, lt_57, lt_59, lt_63, lt_64, lt_74, lt_75, lt_97, lt_122, lt_128, lt_144, lt_145, lt_146, lt_147, lt_155, lt_163, lt_171, lt_179, lt_200, lt_243, lt_244, lt_255, lt_256, lt_732, lt_900, lt_3660, lt_3904, lt_4095, lt_65536, lt_65537, lt_252645135, lt_858993459, lt_1431655765, ↓p_has_b, p_has, ↓p_has9_b, p_has9, ↓p_bit_b, p_bit, ↓p_bit1_b, p_bit1, ↓p_bit0_b, p_bit0, p_X9_feed_76, hL.t, hL.2.1.1, if_inB hL.2.1.2, hI, hn, by8_q, e1, e2]
    rfl
  conv => lhs; unfold p_X9_feed_23
  rw [if_pos (show ic k < 20 by rw [lt_20, ic_lt (by omega) (by omega)]; exact hk)]
  unfold ag
  by_cases d1 : k < 4
  · rw [if_pos (show ic k < 4 by rw [lt_4, ic_lt (by omega) (by omega)]; exact d1), if_pos d1]; exact g76 _
  rw [if_neg (show ¬ ic k < 4 by rw [lt_4, ic_lt (by omega) (by omega)]; exact d1), if_neg d1]
  by_cases d2 : k < 8
  · rw [if_pos (show ic k < 8 by rw [lt_8, ic_lt (by omega) (by omega)]; exact d2), if_pos d2]; exact g76 _
  rw [if_neg (show ¬ ic k < 8 by rw [lt_8, ic_lt (by omega) (by omega)]; exact d2), if_neg d2]
  by_cases d3 : k < 12
  · rw [if_pos (show ic k < 12 by rw [lt_12, ic_lt (by omega) (by omega)]; exact d3), if_pos d3]; exact g76 _
  rw [if_neg (show ¬ ic k < 12 by rw [lt_12, ic_lt (by omega) (by omega)]; exact d3), if_neg d3]
  by_cases d4 : k < 16
  · rw [if_pos (show ic k < 16 by rw [lt_16, ic_lt (by omega) (by omega)]; exact d4), if_pos d4]; exact g76 _
  rw [if_neg (show ¬ ic k < 16 by rw [lt_16, ic_lt (by omega) (by omega)]; exact d4), if_neg d4]
  exact g76 _
def gFd (W : WD) (x1 x2 x3 x4 x5 : Int32) : Nat → WD
  | 0 => W
  | k + 1 => uF (gFd W x1 x2 x3 x4 x5 k) (bq (ag x1 x2 x3 x4 x5 k >>> ic (24 - 8 * (k % 4))))
theorem gFd_n (W : WD) (x1 x2 x3 x4 x5 : Int32) (k : Nat) : vN (gFd W x1 x2 x3 x4 x5 k) = vN W + k := by
  induction k with
  | zero => rfl
  | succ k ih => show vN (gFd W x1 x2 x3 x4 x5 k) + 1 = _; rw [ih]; rfl
theorem x_fds (hL : ML S m) (hm : m + 6 < a) (hn : vN W + 20 ≤ 900) (x1 x2 x3 x4 x5 : Int32) : ∀ (d k f : Nat) (I : II), k + d = 20 → d < f → XI I m a (gFd W x1 x2 x3 x4 x5 k) → ∃ J, p_X9_feed_23 f m x1 x2 x3 x4 x5 (ic k) (hp S I L) = some (ic (vN W + 20), hp S J L) ∧ XI J m a (gFd W x1 x2 x3 x4 x5 20) ∧ ∀ y, y < m → J y = I y := by
  intro d
  induction d with
  | zero =>
    intro k f I hk hf hX
    obtain ⟨f, rfl⟩ : ∃ n9, f = n9 + 1 := ⟨f - 1, by omega⟩
    obtain rfl : k = 20 := by omega
    refine ⟨I, ?_, hX, fun _ _ => rfl⟩
    have E := hX.2.1
    rw [gFd_n] at E
    unfold p_X9_feed_23
    simp (maxSteps := 1000000) (disch := omega) only [↓reduceIte, ↓if_bi0, ↓if_bi1, hp_tg, hp_rI, hp_rR, hp_rL, hp_wI, hp_wL, Option.bind_some, if_11, if_01, bi_and1, i10, i01, bi_t, bi_f, ic_add, mr_4, ml_4, mr_8, ml_8, mr_10, ml_10, ic_add1, ic_sub1, ic_clamp, ic_div, ic_irm, ic_lt0, ic_0lt, ic_eq0, ic_lt, ic_inj, and15, and7, and31, and63, shl1, shr_ok, neg_1, neg_2, neg_3, neg_4, kc_lt0, kc_ic, kc_m2, kc_1, kc_0, i0_add, add_i0, or_i0, z_8, z_4, z_64, z_256, ic_m2, ec_m1, ic_m1, m1_lt0, m2_lt0, m3_lt0, m4_lt0, up_s, if_true, if_false, ne_eq, not_true_eq_false, not_false_eq_true, Bool.false_eq_true, eq_self, or_self, or_false, false_or, and_self, and_true, true_and, ite_self, Nat.reduceEqDiff, Nat.reduceLT, Nat.reduceMod, Nat.reduceMul, Nat.reduceAdd, Nat.reducePow, Nat.reduceDiv, lt_2, lt_3, lt_4, lt_5, lt_6, lt_7, lt_8, lt_10, lt_11, lt_12, lt_15, lt_16, lt_18, lt_20, lt_24, lt_31, lt_32, lt_48, lt_57, lt_59, lt_63, lt_64, lt_74, lt_75, lt_97, lt_122, lt_128, lt_144, lt_145, lt_146, lt_147, lt_155, lt_163, lt_171, lt_179, lt_200, lt_243, lt_244, lt_255, lt_256, lt_732, lt_900, lt_3660, lt_3904, lt_4095, lt_65536, lt_65537, lt_252645135, lt_858993459, lt_1431655765, ↓p_has_b, p_has, ↓p_has9_b, p_has9, ↓p_bit_b, p_bit, ↓p_bit1_b, p_bit1, ↓p_bit0_b, p_bit0, Nat.lt_irrefl, hL.t, E]
  | succ d ih =>
    intro k f I hk hf hX
    obtain ⟨f, rfl⟩ : ∃ n9, f = n9 + 1 := ⟨f - 1, by omega⟩
    have E := hX.2.1
    rw [gFd_n] at E
    have X1 := hX.fd hm (ag x1 x2 x3 x4 x5 k >>> ic (24 - 8 * (k % 4)))
    rw [gFd_n] at X1
    obtain ⟨J, e1, X2, f1⟩ := ih (k + 1) f _ (by omega) (by omega) X1
    refine ⟨J, ?_, X2, fun y hy => by rw [f1 y hy]; exact funext fun j => by unfold fI; rw [up_a (by omega), up_a (by omega)]⟩
    rw [x_fd1 hL (n := vN W + k) (by omega) (by omega) E]
    exact e1
theorem xc_feed (H : XH S I m a W c) (v1 v2 v3 v4 v5 : Int32) : XC S I m a (p_X9_feed m v1 v2 v3 v4 v5 (hp S I L)) (fed W v1 v2 v3 v4 v5) := by
  have H9 := H
  obtain ⟨hL, hm, hM, hX, hV⟩ := H9
  have hn := hV.1
  have X0 : XI (up2 I m 0 0) m a W := hX.q0 hm (Xq.z I m) (up_k (by omega)) (up_k (by omega))
  have E := X0.2.1
  unfold fed
  by_cases d : 900 < vN W + 20
  · rw [if_pos d]
    refine xc_same (L := L) H ?_
    simp (maxSteps := 1000000) (disch := omega) only [↓reduceIte, ↓if_bi0, ↓if_bi1, hp_tg, hp_rI, hp_rR, hp_rL, hp_wI, hp_wL, Option.bind_some, if_11, if_01, bi_and1, i10, i01, bi_t, bi_f, ic_add, mr_4, ml_4, mr_8, ml_8, mr_10, ml_10, ic_add1, ic_sub1, ic_clamp, ic_div, ic_irm, ic_lt0, ic_0lt, ic_eq0, ic_lt, ic_inj, and15, and7, and31, and63, shl1, shr_ok, neg_1, neg_2, neg_3, neg_4, kc_lt0, kc_ic, kc_m2, kc_1, kc_0, i0_add, add_i0, or_i0, z_8, z_4, z_64, z_256, ic_m2, ec_m1, ic_m1, m1_lt0, m2_lt0, m3_lt0, m4_lt0, up_s, if_true, if_false, ne_eq, not_true_eq_false, not_false_eq_true, Bool.false_eq_true, eq_self, or_self, or_false, false_or, and_self, and_true, true_and, ite_self, Nat.reduceEqDiff, Nat.reduceLT, Nat.reduceMod, Nat.reduceMul, Nat.reduceAdd, Nat.reducePow, Nat.reduceDiv, lt_2, lt_3, lt_4, lt_5, lt_6, lt_7, lt_8, lt_10, lt_11, lt_12, lt_15, lt_16, lt_18, lt_20, lt_24, lt_31, lt_32, lt_48, lt_57, lt_59, lt_63, lt_64, lt_74, lt_75, lt_97, lt_122, lt_128, lt_144, lt_145, lt_146, lt_147, lt_155, lt_163, lt_171, lt_179, lt_200, lt_243, lt_244, lt_255, lt_256, lt_732, lt_900, lt_3660, lt_3904, lt_4095, lt_65536, lt_65537, lt_252645135, lt_858993459, lt_1431655765, ↓p_has_b, p_has, ↓p_has9_b, p_has9, ↓p_bit_b, p_bit, ↓p_bit1_b, p_bit1, ↓p_bit0_b, p_bit0, p_X9_feed, hL.t, E, d]
  · rw [if_neg d]
    obtain ⟨J, e1, X2, f1⟩ := x_fds (L := L) hL hm (by omega) v1 v2 v3 v4 v5 20 0 FU (up2 I m 0 0) rfl (fu_lt (by decide)) X0
    refine ⟨J, L, ?_, X2, fun y hy => by rw [f1 y hy]; exact funext fun j => up_a (by omega)⟩
    refine Eq.trans ?_ e1
    simp (maxSteps := 1000000) (disch := omega) only [↓reduceIte, ↓if_bi0, ↓if_bi1, hp_tg, hp_rI, hp_rR, hp_rL, hp_wI, hp_wL, Option.bind_some, if_11, if_01, bi_and1, i10, i01, bi_t, bi_f, ic_add, mr_4, ml_4, mr_8, ml_8, mr_10, ml_10, ic_add1, ic_sub1, ic_clamp, ic_div, ic_irm, ic_lt0, ic_0lt, ic_eq0, ic_lt, ic_inj, and15, and7, and31, and63, shl1, shr_ok, neg_1, neg_2, neg_3, neg_4, kc_lt0, kc_ic, kc_m2, kc_1, kc_0, i0_add, add_i0, or_i0, z_8, z_4, z_64, z_256, ic_m2, ec_m1, ic_m1, m1_lt0, m2_lt0, m3_lt0, m4_lt0, up_s, if_true, if_false, ne_eq, not_true_eq_false, not_false_eq_true, Bool.false_eq_true, eq_self, or_self, or_false, false_or, and_self, and_true, true_and, ite_self, Nat.reduceEqDiff, Nat.reduceLT, Nat.reduceMod, Nat.reduceMul, Nat.reduceAdd, Nat.reducePow, Nat.reduceDiv, lt_2, lt_3, lt_4, lt_5, lt_6, lt_7, lt_8, lt_10, lt_11, lt_12, lt_15, lt_16, lt_18, lt_20, lt_24, lt_31, lt_32, lt_48, lt_57, lt_59, lt_63, lt_64, lt_74, lt_75, lt_97, lt_122, lt_128, lt_144, lt_145, lt_146, lt_147, lt_155, lt_163, lt_171, lt_179, lt_200, lt_243, lt_244, lt_255, lt_256, lt_732, lt_900, lt_3660, lt_3904, lt_4095, lt_65536, lt_65537, lt_252645135, lt_858993459, lt_1431655765, ↓p_has_b, p_has, ↓p_has9_b, p_has9, ↓p_bit_b, p_bit, ↓p_bit1_b, p_bit1, ↓p_bit0_b, p_bit0, p_X9_feed, hL.t, E, d]
    rfl
end FDX
