/-! ===== the class: stores, flushes, roots loaded, devices ===== -/
section CPUT
variable {S : SH} {I : II} {L : LL} {p pl : Nat} {s : St}
/-- behind a fault the page's entry is told in the root -/
theorem upe_fil (h : Inv s pl) {v : Nat} (hv : v < 64) : upe (fil s pl v).1 v ≠ 0 ∧ 8 * ((upe (fil s pl v).1 v - 1) / 4) + v % 8 = (fil s pl v).2.2 := by
  have A := inv_need h (k := 0) (o := sr s) (by omega) h.1.2.2.2.2
  rw [show need s pl 0 (sr s) = fl1 s pl from rfl] at A
  obtain ⟨a1, a2, a3, a4, a5, a6, a7, a8⟩ := A
  obtain ⟨b1, b2', b3, b4, b5, b6, b7⟩ := inv_fl2 a1 hv
  have r := b7 (fl1 s pl).1 a2 a3 (by rw [a5.2.2.2.2]; exact a4)
  rw [a5.2.2.2.2] at r
  have hf : fnd (fl2 (fl1 s pl).2.1 pl v).2.1 0 (sr s) = some (fl1 s pl).1 := by
    cases e : fnd (fl2 (fl1 s pl).2.1 pl v).2.1 0 (sr s) with
    | none => exact absurd ⟨r.1, r.2⟩ (fnd_none e (fl1 s pl).1 a2)
    | some n =>
      obtain ⟨n1, n2, n3⟩ := fnd_some e
      have := b1.2.1.2.2.2.2.2.1 n (fl1 s pl).1 n1 a2 (by omega) (by rw [n2, r.1]) (by rw [n3, r.2])
      rw [this]
  have hr : sr (fil s pl v).1 = sr s := by
    show sr (fl2 (fl1 s pl).2.1 pl v).2.1 = sr s
    rw [b4.2.2.2.2, a5.2.2.2.2]
  have hu : upe (fil s pl v).1 v = en1 s v (fl2 (fl1 s pl).2.1 pl v).1 + 1 := by
    unfold upe
    rw [hr, show fnd (fil s pl v).1 0 (sr s) = fnd (fl2 (fl1 s pl).2.1 pl v).2.1 0 (sr s) from rfl, hf, om_some]
    have hne : (fl1 s pl).1 ≠ (fl2 (fl1 s pl).2.1 pl v).1 := fun e => by rw [← e, r.1] at b3; omega
    show up1 (up1 (se (fl2 (fl1 s pl).2.1 pl v).2.1) (8 * (fl1 s pl).1 + v / 8) (en1 s v (fl2 (fl1 s pl).2.1 pl v).1 + 1)) (8 * (fl2 (fl1 s pl).2.1 pl v).1 + v % 8) _ (8 * (fl1 s pl).1 + v / 8) = _
    rw [up1_n (by omega), up1_s]
  rw [hu]
  refine ⟨by omega, ?_⟩
  rw [Nat.add_sub_cancel, en1_4]
  rfl
theorem k_pbf (hL : PL S p) (hR : PR I p s pl) (hV : Inv s pl) {v i x f : Nat} (hv : v < 64) (hi : i < 8) (hx : x < 4096) (hf : frm s v = f) (hu : upe s v ≠ 0) : ∃ I', p_X2_putBehindFault p (ic v) (ic i) (ic x) (hp S I L) = some (hp S I' L) ∧ PR I' p (if wat s f = true then sto2 (stoW s f i x) f i (8 * ((upe s v - 1) / 4) + v % 8) else stoW s f i x) pl ∧ Fr I I' p (p + 9) ∧ I' p 6 = I p 6 + bi (wat s f) ∧ ∀ j, j ≠ 6 → I' p j = I p j := by
  have h16 : f < 16 := by rw [← hf]; exact frm_lt hV.1 hv
  have F := g_frame (L := L) hL.G hR.1 hV.1 hv
  rw [hf] at F
  have W := g_setWord (I := I) (L := L) hL.G f i (ic x)
  rw [show 8 * (f % 16) + i % 8 = 8 * f + i by omega] at W
  have R1 : PR (up2 I (p + 3) (8 * f + i) (ic x)) p (stoW s f i x) pl := ⟨hR.1.setW (8 * f + i) x, hR.2.fr (Fr.up (lo := p + 3) (hi := p + 3) (by omega) (by omega)) (by omega)⟩
  have V1 := inv_stoW hV (f := f) (i := i) hx
  have A := q_watches (L := L) hL.Q R1.2 V1 (f := f) (by omega)
  rw [show wat (stoW s f i x) f = wat s f from rfl] at A
  cases c : wat s f
  · rw [c] at A
    refine ⟨_, ?_, R1, Fr.up (by omega) (by omega), by rw [up_a (by omega)]; exact (add_i0 _).symm, fun j _ => by rw [up_a (by omega)]⟩
    unfold p_X2_putBehindFault
    simp only [↓reduceIte, ↓if_bi0, hp_tg, hp_rR, hp_rI, hp_wI, eq_self, bi_t, bi_f, i10, if_true, if_false, Bool.false_eq_true, hL.t, hL.g, hL.gt, hL.q, hL.qt]
    refine Eq.trans (bnd F) ?_
    simp only [↓reduceIte, ↓if_bi0, hp_tg, hp_rR, hp_rI, hp_wI, eq_self, bi_t, bi_f, i10, if_true, if_false, Bool.false_eq_true, hL.t, hL.g, hL.gt, hL.q, hL.qt]
    refine Eq.trans (bnd W) ?_
    simp only [↓reduceIte, ↓if_bi0, hp_tg, hp_rR, hp_rI, hp_wI, eq_self, bi_t, bi_f, i10, if_true, if_false, Bool.false_eq_true, hL.t, hL.g, hL.gt, hL.q, hL.qt]
    refine Eq.trans (bnd A) ?_
    simp only [↓reduceIte, ↓if_bi0, hp_tg, hp_rR, hp_rI, hp_wI, eq_self, bi_t, bi_f, i10, if_true, if_false, Bool.false_eq_true, hL.t, hL.g, hL.gt, hL.q, hL.qt]
  · rw [c] at A
    have hup : upe (stoW s f i x) v = upe s v := rfl
    have i6 : up2 I (p + 3) (8 * f + i) (ic x) p 6 = I p 6 := by rw [up_a (by omega)]
    have R2 : PR (up2 (up2 I (p + 3) (8 * f + i) (ic x)) p 6 (I p 6 + 1)) p (stoW s f i x) pl := R1.fr (Fr.up (Nat.le_refl p) (Nat.le_refl p)) (by omega)
    have U := q_upper (L := L) hL.Q R2.2 V1 hv
    rw [hup, kc_pos (show 0 < upe s v by omega)] at U
    have T4 := R2.1.2.2.2.2
    have hul := upe_le hV hv
    obtain ⟨u1, u2⟩ := upe_4 hV hv hu
    obtain ⟨I3, e3, q3, f3⟩ := q_loosen (L := L) hL.Q R2.2 V1 h16 hi
    have V3 := inv_sto4 V1 f i
    have A3 := q_watches (L := L) hL.Q q3 V3 (f := f) (by omega)
    have sg4 : SG (stoW s f i x) (sto4 (stoW s f i x) f i) := by
      unfold sto4 sto3
      cases fnd (stoW s f i x) 1 f <;> cases fnd (stoW s f i x) 0 f <;> exact ⟨rfl, rfl, rfl, rfl, rfl⟩
    have G3 : GR I3 (p + 2) (sto4 (stoW s f i x) f i) := (R2.1.fr f3 (by omega)).sg sg4
    rw [if_pos rfl]
    unfold sto2
    have FR : Fr I I3 p (p + 9) := ((Fr.up (by omega) (by omega)).trans (Fr.up (by omega) (by omega))).trans (f3.wide (by omega) (by omega))
    have I36 : I3 p 6 = I p 6 + 1 := by rw [f3 p (by omega), up_s]
    have I3j : ∀ j, j ≠ 6 → I3 p j = I p j := fun j hj => by rw [f3 p (by omega), up_k hj, up_a (by omega)]
    cases d : wat (sto4 (stoW s f i x) f i) f
    · rw [d] at A3
      rw [if_neg (by decide)]
      obtain ⟨I4, e4, q4, f4⟩ := q_allow (L := L) (v := v) hL.Q q3 V3 u1
      have sg5 : SG (sto4 (stoW s f i x) f i) (or2 (sto4 (stoW s f i x) f i) (8 * ((upe s v - 1) / 4) + v % 8)) := by
        unfold or2
        by_cases z : se (sto4 (stoW s f i x) f i) (8 * ((upe s v - 1) / 4) + v % 8) = 0
        · rw [if_pos z]; exact SG.refl _
        · rw [if_neg z]; exact ⟨rfl, rfl, rfl, rfl, rfl⟩
      refine ⟨I4, ?_, ⟨(G3.fr f4 (by omega)).sg sg5, q4⟩, FR.trans (f4.wide (by omega) (by omega)), by rw [f4 p (by omega)]; exact I36, fun j hj => by rw [f4 p (by omega)]; exact I3j j hj⟩
      unfold p_X2_putBehindFault
      simp only [↓reduceIte, ↓if_bi0, hp_tg, hp_rR, hp_rI, hp_wI, eq_self, bi_t, bi_f, i10, if_true, if_false, Bool.false_eq_true, hL.t, hL.g, hL.gt, hL.q, hL.qt]
      refine Eq.trans (bnd F) ?_
      simp only [↓reduceIte, ↓if_bi0, hp_tg, hp_rR, hp_rI, hp_wI, eq_self, bi_t, bi_f, i10, if_true, if_false, Bool.false_eq_true, hL.t, hL.g, hL.gt, hL.q, hL.qt]
      refine Eq.trans (bnd W) ?_
      simp only [↓reduceIte, ↓if_bi0, hp_tg, hp_rR, hp_rI, hp_wI, eq_self, bi_t, bi_f, i10, if_true, if_false, Bool.false_eq_true, hL.t, hL.g, hL.gt, hL.q, hL.qt]
      refine Eq.trans (bnd A) ?_
      simp only [↓reduceIte, ↓if_bi0, hp_tg, hp_rR, hp_rI, hp_wI, eq_self, bi_t, bi_f, i10, if_true, if_false, Bool.false_eq_true, hL.t, hL.g, hL.gt, hL.q, hL.qt, i6, T4]
      refine Eq.trans (bnd U) ?_
      simp only [↓reduceIte, ↓if_bi0, hp_tg, hp_rR, hp_rI, hp_wI, eq_self, bi_t, bi_f, i10, if_true, if_false, Bool.false_eq_true, hL.t, hL.g, hL.gt, hL.q, hL.qt]
      refine Eq.trans (bnd e3) ?_
      simp (maxSteps := 1000000) (disch := omega) only [↓reduceIte, ↓if_bi0, ↓if_bi1, hp_tg, hp_rI, hp_rR, hp_rL, hp_wI, hp_wL, Option.bind_some, if_11, if_01, bi_and1, i10, i01, bi_t, bi_f, ic_add, mr_4, ml_4, mr_8, ml_8, mr_10, ml_10, ic_add1, ic_sub1, ic_clamp, ic_div, ic_irm, ic_lt0, ic_0lt, ic_eq0, ic_lt, ic_inj, and15, and7, and31, and63, shl1, shr_ok, neg_1, neg_2, neg_3, neg_4, kc_lt0, kc_ic, kc_m2, kc_1, kc_0, i0_add, add_i0, or_i0, z_8, z_4, z_64, z_256, ic_m2, ec_m1, ic_m1, m1_lt0, m2_lt0, m3_lt0, m4_lt0, up_s, if_true, if_false, ne_eq, not_true_eq_false, not_false_eq_true, Bool.false_eq_true, eq_self, or_self, or_false, false_or, and_self, and_true, true_and, ite_self, Nat.reduceEqDiff, Nat.reduceLT, Nat.reduceMod, Nat.reduceMul, Nat.reduceAdd, Nat.reducePow, Nat.reduceDiv, lt_2, lt_3, lt_4, lt_5, lt_6, lt_7, lt_8, lt_10, lt_11, lt_12, lt_15, lt_16, lt_18, lt_20, lt_24, lt_31, lt_32, lt_48, lt_57, lt_59, lt_63, lt_64, lt_74, lt_75, lt_97, lt_122, lt_128, lt_144, lt_145, lt_146, lt_147, lt_155, lt_163, lt_171, lt_179, lt_200, lt_243, lt_244, lt_255, lt_256, lt_732, lt_900, lt_3660, lt_3904, lt_4095, lt_65536, lt_65537, lt_252645135, lt_858993459, lt_1431655765, ↓p_has_b, p_has, ↓p_has9_b, p_has9, ↓p_bit_b, p_bit, ↓p_bit1_b, p_bit1, ↓p_bit0_b, p_bit0, p_X2_putBehindFault_100, hL.t, hL.g, hL.gt, hL.q, hL.qt, ↓bnd (A3), A3, ↓bnd (e4), e4]
    · rw [d] at A3
      rw [if_pos rfl]
      refine ⟨I3, ?_, ⟨G3, q3⟩, FR, I36, I3j⟩
      unfold p_X2_putBehindFault
      simp only [↓reduceIte, ↓if_bi0, hp_tg, hp_rR, hp_rI, hp_wI, eq_self, bi_t, bi_f, i10, if_true, if_false, Bool.false_eq_true, hL.t, hL.g, hL.gt, hL.q, hL.qt]
      refine Eq.trans (bnd F) ?_
      simp only [↓reduceIte, ↓if_bi0, hp_tg, hp_rR, hp_rI, hp_wI, eq_self, bi_t, bi_f, i10, if_true, if_false, Bool.false_eq_true, hL.t, hL.g, hL.gt, hL.q, hL.qt]
      refine Eq.trans (bnd W) ?_
      simp only [↓reduceIte, ↓if_bi0, hp_tg, hp_rR, hp_rI, hp_wI, eq_self, bi_t, bi_f, i10, if_true, if_false, Bool.false_eq_true, hL.t, hL.g, hL.gt, hL.q, hL.qt]
      refine Eq.trans (bnd A) ?_
      simp only [↓reduceIte, ↓if_bi0, hp_tg, hp_rR, hp_rI, hp_wI, eq_self, bi_t, bi_f, i10, if_true, if_false, Bool.false_eq_true, hL.t, hL.g, hL.gt, hL.q, hL.qt, i6, T4]
      refine Eq.trans (bnd U) ?_
      simp only [↓reduceIte, ↓if_bi0, hp_tg, hp_rR, hp_rI, hp_wI, eq_self, bi_t, bi_f, i10, if_true, if_false, Bool.false_eq_true, hL.t, hL.g, hL.gt, hL.q, hL.qt]
      refine Eq.trans (bnd e3) ?_
      simp (maxSteps := 1000000) (disch := omega) only [↓reduceIte, ↓if_bi0, ↓if_bi1, hp_tg, hp_rI, hp_rR, hp_rL, hp_wI, hp_wL, Option.bind_some, if_11, if_01, bi_and1, i10, i01, bi_t, bi_f, ic_add, mr_4, ml_4, mr_8, ml_8, mr_10, ml_10, ic_add1, ic_sub1, ic_clamp, ic_div, ic_irm, ic_lt0, ic_0lt, ic_eq0, ic_lt, ic_inj, and15, and7, and31, and63, shl1, shr_ok, neg_1, neg_2, neg_3, neg_4, kc_lt0, kc_ic, kc_m2, kc_1, kc_0, i0_add, add_i0, or_i0, z_8, z_4, z_64, z_256, ic_m2, ec_m1, ic_m1, m1_lt0, m2_lt0, m3_lt0, m4_lt0, up_s, if_true, if_false, ne_eq, not_true_eq_false, not_false_eq_true, Bool.false_eq_true, eq_self, or_self, or_false, false_or, and_self, and_true, true_and, ite_self, Nat.reduceEqDiff, Nat.reduceLT, Nat.reduceMod, Nat.reduceMul, Nat.reduceAdd, Nat.reducePow, Nat.reduceDiv, lt_2, lt_3, lt_4, lt_5, lt_6, lt_7, lt_8, lt_10, lt_11, lt_12, lt_15, lt_16, lt_18, lt_20, lt_24, lt_31, lt_32, lt_48, lt_57, lt_59, lt_63, lt_64, lt_74, lt_75, lt_97, lt_122, lt_128, lt_144, lt_145, lt_146, lt_147, lt_155, lt_163, lt_171, lt_179, lt_200, lt_243, lt_244, lt_255, lt_256, lt_732, lt_900, lt_3660, lt_3904, lt_4095, lt_65536, lt_65537, lt_252645135, lt_858993459, lt_1431655765, ↓p_has_b, p_has, ↓p_has9_b, p_has9, ↓p_bit_b, p_bit, ↓p_bit1_b, p_bit1, ↓p_bit0_b, p_bit0, p_X2_putBehindFault_100, hL.t, hL.g, hL.gt, hL.q, hL.qt, ↓bnd (A3), A3]
/-- a store -/
theorem k_put (hL : PL S p) (hR : PR I p s pl) (hV : Inv s pl) (hc : sc s < 1073741000) {v i x : Nat} (hv : v < 64) (hi : i < 8) (hx : x < 4096) (us : Bool) : ∃ I', p_X2_put p (ic v) (ic i) (ic x) (ic (md true us)) (hp S I L) = some (lc (rch s pl v true us).2.1, hp S I' L) ∧ PR I' p (stS (rch s pl v true us) i x) pl ∧ Fr I I' p (p + 9) ∧ I' p 3 = I p 3 + bi (rch s pl v true us).2.2.2.2 ∧ I' p 4 = I p 4 + bi (!(rch s pl v true us).2.2.2.2) ∧ I' p 5 = I p 5 + bi (decide ((rch s pl v true us).2.1 < 3)) ∧ I' p 6 = I p 6 + bi (stT (rch s pl v true us)) ∧ I' p 7 = I p 7 + ic (rch s pl v true us).2.2.1 := by
  have A := q_hit (L := L) hL.Q hR.2 hV hv true us
  have T4 := hR.1.2.2.2.2
  obtain ⟨I1, e1, r1, f1, c3, c4, c5, c6, c7⟩ := k_reach (L := L) hL hR hV hc hv true us
  obtain ⟨v1, v2, v3, v4, v5⟩ := inv_rch hV hv true us
  unfold stS stT
  by_cases c : (rch s pl v true us).2.1 < 3
  · rw [if_pos c, decide_eq_false (show ¬ 3 ≤ (rch s pl v true us).2.1 by omega)]
    refine ⟨I1, ?_, r1, f1, c3, c4, c5, by rw [c6]; exact (add_i0 _).symm, c7⟩
    simp (maxSteps := 1000000) (disch := omega) only [↓reduceIte, ↓if_bi0, ↓if_bi1, hp_tg, hp_rI, hp_rR, hp_rL, hp_wI, hp_wL, Option.bind_some, if_11, if_01, bi_and1, i10, i01, bi_t, bi_f, ic_add, mr_4, ml_4, mr_8, ml_8, mr_10, ml_10, ic_add1, ic_sub1, ic_clamp, ic_div, ic_irm, ic_lt0, ic_0lt, ic_eq0, ic_lt, ic_inj, and15, and7, and31, and63, shl1, shr_ok, neg_1, neg_2, neg_3, neg_4, kc_lt0, kc_ic, kc_m2, kc_1, kc_0, i0_add, add_i0, or_i0, z_8, z_4, z_64, z_256, ic_m2, ec_m1, ic_m1, m1_lt0, m2_lt0, m3_lt0, m4_lt0, up_s, if_true, if_false, ne_eq, not_true_eq_false, not_false_eq_true, Bool.false_eq_true, eq_self, or_self, or_false, false_or, and_self, and_true, true_and, ite_self, Nat.reduceEqDiff, Nat.reduceLT, Nat.reduceMod, Nat.reduceMul, Nat.reduceAdd, Nat.reducePow, Nat.reduceDiv, lt_2, lt_3, lt_4, lt_5, lt_6, lt_7, lt_8, lt_10, lt_11, lt_12, lt_15, lt_16, lt_18, lt_20, lt_24, lt_31, lt_32, lt_48, lt_57, lt_59, lt_63, lt_64, lt_74, lt_75, lt_97, lt_122, lt_128, lt_144, lt_145, lt_146, lt_147, lt_155, lt_163, lt_171, lt_179, lt_200, lt_243, lt_244, lt_255, lt_256, lt_732, lt_900, lt_3660, lt_3904, lt_4095, lt_65536, lt_65537, lt_252645135, lt_858993459, lt_1431655765, ↓p_has_b, p_has, ↓p_has9_b, p_has9, ↓p_bit_b, p_bit, ↓p_bit1_b, p_bit1, ↓p_bit0_b, p_bit0, p_X2_put, hL.t, hL.g, hL.gt, hL.q, hL.qt, T4, ↓bnd (A), A, ↓bnd (e1), e1, lc_lt, c]
  · rw [if_neg c, decide_eq_true (show 3 ≤ (rch s pl v true us).2.1 by omega)]
    obtain ⟨w1, w2, w3⟩ := v4 (by omega)
    cases e : hit s v true us with
    | some a =>
      have h64 := hV.e64 (hit_some hV hv e).1
      have hr : rch s pl v true us = (s, sH s ((se s a - 1) / 4) + 2, 0, a, true) := by unfold rch; rw [e, om_some]
      have hA : hen s v true us = se s a := by unfold hen; rw [e, om_some]
      rw [hA, kc_pos (by have := (hit_some hV hv e).2.1; omega)] at A
      have ht : trp (rch s pl v true us) = false := by unfold trp; rw [hr]; rfl
      have hfr : rfr (rch s pl v true us) = (se s a - 1) / 4 := by unfold rfr; rw [hr]
      rw [hfr] at w3
      rw [ht, hfr, if_neg (by decide), Bool.and_false]
      have W := g_setWord (I := I1) (L := L) hL.G ((se s a - 1) / 4) i (ic x)
      rw [show 8 * ((se s a - 1) / 4 % 16) + i % 8 = 8 * ((se s a - 1) / 4) + i by omega] at W
      refine ⟨up2 I1 (p + 3) (8 * ((se s a - 1) / 4) + i) (ic x), ?_, ⟨r1.1.setW _ x, r1.2.fr (Fr.up (lo := p + 3) (hi := p + 3) (by omega) (by omega)) (by omega)⟩, f1.trans (Fr.up (by omega) (by omega)), ?_, ?_, ?_, ?_, ?_⟩
      · simp (maxSteps := 1000000) (disch := omega) only [↓reduceIte, ↓if_bi0, ↓if_bi1, hp_tg, hp_rI, hp_rR, hp_rL, hp_wI, hp_wL, Option.bind_some, if_11, if_01, bi_and1, i10, i01, bi_t, bi_f, ic_add, mr_4, ml_4, mr_8, ml_8, mr_10, ml_10, ic_add1, ic_sub1, ic_clamp, ic_div, ic_irm, ic_lt0, ic_0lt, ic_eq0, ic_lt, ic_inj, and15, and7, and31, and63, shl1, shr_ok, neg_1, neg_2, neg_3, neg_4, kc_lt0, kc_ic, kc_m2, kc_1, kc_0, i0_add, add_i0, or_i0, z_8, z_4, z_64, z_256, ic_m2, ec_m1, ic_m1, m1_lt0, m2_lt0, m3_lt0, m4_lt0, up_s, if_true, if_false, ne_eq, not_true_eq_false, not_false_eq_true, Bool.false_eq_true, eq_self, or_self, or_false, false_or, and_self, and_true, true_and, ite_self, Nat.reduceEqDiff, Nat.reduceLT, Nat.reduceMod, Nat.reduceMul, Nat.reduceAdd, Nat.reducePow, Nat.reduceDiv, lt_2, lt_3, lt_4, lt_5, lt_6, lt_7, lt_8, lt_10, lt_11, lt_12, lt_15, lt_16, lt_18, lt_20, lt_24, lt_31, lt_32, lt_48, lt_57, lt_59, lt_63, lt_64, lt_74, lt_75, lt_97, lt_122, lt_128, lt_144, lt_145, lt_146, lt_147, lt_155, lt_163, lt_171, lt_179, lt_200, lt_243, lt_244, lt_255, lt_256, lt_732, lt_900, lt_3660, lt_3904, lt_4095, lt_65536, lt_65537, lt_252645135, lt_858993459, lt_1431655765, ↓p_has_b, p_has, ↓p_has9_b, p_has9, ↓p_bit_b, p_bit, ↓p_bit1_b, p_bit1, ↓p_bit0_b, p_bit0, p_X2_put, p_X2_put_64, hL.t, hL.g, hL.gt, hL.q, hL.qt, T4, ↓bnd (A), A, ↓bnd (e1), e1, lc_lt, c, ↓bnd (W), W]
      · rw [up_a (by omega)]; exact c3
      · rw [up_a (by omega)]; exact c4
      · rw [up_a (by omega)]; exact c5
      · rw [up_a (by omega), c6]; exact (add_i0 _).symm
      · rw [up_a (by omega)]; exact c7
    | none =>
      have hA : hen s v true us = 0 := by unfold hen; rw [e, om_none]
      rw [hA] at A
      have hcl : ¬ lok s v true us < 3 := by
        intro q; apply c; unfold rch; rw [e, om_none, if_pos q]; exact q
      have hr : rch s pl v true us = ((fil (note s v true) pl v).1, lok s v true us, (fil (note s v true) pl v).2.1, (fil (note s v true) pl v).2.2, false) := by unfold rch; rw [e, om_none, if_neg hcl]
      have hh : 0 < sH (note s v true) (frm (note s v true) v) := by rw [note_frm hV.1 hv]; exact lok_host (wr := true) (us := us) (by omega)
      have hVn := inv_note hV hv true
      obtain ⟨-, sg, -, -, -, -, a7⟩ := inv_fil hVn hv hh
      have hfrm : frm (rch s pl v true us).1 v = rfr (rch s pl v true us) := by
        unfold rfr
        rw [hr]
        show frm (fil (note s v true) pl v).1 v = _
        rw [frm_SG sg]; exact a7.symm
      have hup := upe_fil hVn hv
      have hu0 : upe (rch s pl v true us).1 v ≠ 0 := by rw [hr]; exact hup.1
      have hsp : 8 * ((upe (rch s pl v true us).1 v - 1) / 4) + v % 8 = (rch s pl v true us).2.2.2.1 := by rw [hr]; exact hup.2
      have ht : trp (rch s pl v true us) = wat (rch s pl v true us).1 (rfr (rch s pl v true us)) := by
        unfold trp
        rw [show (rch s pl v true us).2.2.2.2 = false by rw [hr]]
        rfl
      obtain ⟨I2, e2, r2, f2, d6, o6⟩ := k_pbf (L := L) hL r1 v1 hv hi hx hfrm hu0
      rw [ht, Bool.true_and]
      rw [hsp] at r2
      refine ⟨I2, ?_, r2, f1.trans f2, ?_, ?_, ?_, ?_, ?_⟩
      · simp (maxSteps := 1000000) (disch := omega) only [↓reduceIte, ↓if_bi0, ↓if_bi1, hp_tg, hp_rI, hp_rR, hp_rL, hp_wI, hp_wL, Option.bind_some, if_11, if_01, bi_and1, i10, i01, bi_t, bi_f, ic_add, mr_4, ml_4, mr_8, ml_8, mr_10, ml_10, ic_add1, ic_sub1, ic_clamp, ic_div, ic_irm, ic_lt0, ic_0lt, ic_eq0, ic_lt, ic_inj, and15, and7, and31, and63, shl1, shr_ok, neg_1, neg_2, neg_3, neg_4, kc_lt0, kc_ic, kc_m2, kc_1, kc_0, i0_add, add_i0, or_i0, z_8, z_4, z_64, z_256, ic_m2, ec_m1, ic_m1, m1_lt0, m2_lt0, m3_lt0, m4_lt0, up_s, if_true, if_false, ne_eq, not_true_eq_false, not_false_eq_true, Bool.false_eq_true, eq_self, or_self, or_false, false_or, and_self, and_true, true_and, ite_self, Nat.reduceEqDiff, Nat.reduceLT, Nat.reduceMod, Nat.reduceMul, Nat.reduceAdd, Nat.reducePow, Nat.reduceDiv, lt_2, lt_3, lt_4, lt_5, lt_6, lt_7, lt_8, lt_10, lt_11, lt_12, lt_15, lt_16, lt_18, lt_20, lt_24, lt_31, lt_32, lt_48, lt_57, lt_59, lt_63, lt_64, lt_74, lt_75, lt_97, lt_122, lt_128, lt_144, lt_145, lt_146, lt_147, lt_155, lt_163, lt_171, lt_179, lt_200, lt_243, lt_244, lt_255, lt_256, lt_732, lt_900, lt_3660, lt_3904, lt_4095, lt_65536, lt_65537, lt_252645135, lt_858993459, lt_1431655765, ↓p_has_b, p_has, ↓p_has9_b, p_has9, ↓p_bit_b, p_bit, ↓p_bit1_b, p_bit1, ↓p_bit0_b, p_bit0, p_X2_put, p_X2_put_64, hL.t, hL.g, hL.gt, hL.q, hL.qt, T4, ↓bnd (A), A, ↓bnd (e1), e1, lc_lt, c, kc_zero, ↓bnd (e2), e2]
      · rw [o6 3 (by omega)]; exact c3
      · rw [o6 4 (by omega)]; exact c4
      · rw [o6 5 (by omega)]; exact c5
      · rw [d6, c6]
      · rw [o6 7 (by omega)]; exact c7
theorem k_forget (hL : PL S p) (hR : PR I p s pl) (hV : Inv s pl) {v : Nat} (hv : v < 64) : ∃ I', p_X2_forget p (ic v) (hp S I L) = some (ic (flN s v), hp S I' L) ∧ PR I' p (fls s v) pl ∧ Fr I I' (p + 5) (p + 9) := by
  have U := q_upper (L := L) hL.Q hR.2 hV hv
  have T4 := hR.1.2.2.2.2
  unfold fls flN
  by_cases c : upe s v = 0
  · rw [if_pos c, if_pos c]
    rw [c] at U
    refine ⟨I, ?_, hR, Fr.refl _ _ _⟩
    simp (maxSteps := 1000000) (disch := omega) only [↓reduceIte, ↓if_bi0, ↓if_bi1, hp_tg, hp_rI, hp_rR, hp_rL, hp_wI, hp_wL, Option.bind_some, if_11, if_01, bi_and1, i10, i01, bi_t, bi_f, ic_add, mr_4, ml_4, mr_8, ml_8, mr_10, ml_10, ic_add1, ic_sub1, ic_clamp, ic_div, ic_irm, ic_lt0, ic_0lt, ic_eq0, ic_lt, ic_inj, and15, and7, and31, and63, shl1, shr_ok, neg_1, neg_2, neg_3, neg_4, kc_lt0, kc_ic, kc_m2, kc_1, kc_0, i0_add, add_i0, or_i0, z_8, z_4, z_64, z_256, ic_m2, ec_m1, ic_m1, m1_lt0, m2_lt0, m3_lt0, m4_lt0, up_s, if_true, if_false, ne_eq, not_true_eq_false, not_false_eq_true, Bool.false_eq_true, eq_self, or_self, or_false, false_or, and_self, and_true, true_and, ite_self, Nat.reduceEqDiff, Nat.reduceLT, Nat.reduceMod, Nat.reduceMul, Nat.reduceAdd, Nat.reducePow, Nat.reduceDiv, lt_2, lt_3, lt_4, lt_5, lt_6, lt_7, lt_8, lt_10, lt_11, lt_12, lt_15, lt_16, lt_18, lt_20, lt_24, lt_31, lt_32, lt_48, lt_57, lt_59, lt_63, lt_64, lt_74, lt_75, lt_97, lt_122, lt_128, lt_144, lt_145, lt_146, lt_147, lt_155, lt_163, lt_171, lt_179, lt_200, lt_243, lt_244, lt_255, lt_256, lt_732, lt_900, lt_3660, lt_3904, lt_4095, lt_65536, lt_65537, lt_252645135, lt_858993459, lt_1431655765, ↓p_has_b, p_has, ↓p_has9_b, p_has9, ↓p_bit_b, p_bit, ↓p_bit1_b, p_bit1, ↓p_bit0_b, p_bit0, p_X2_forget_35, p_X2_forget_34, p_X2_forget, hL.t, hL.g, hL.gt, hL.q, hL.qt, T4, ↓bnd (U), U, kc_zero, ic_zero]
  · rw [if_neg c, if_neg c]
    have hul := upe_le hV hv
    obtain ⟨u1, u2⟩ := upe_4 hV hv c
    rw [kc_pos (by omega)] at U
    have E := q_remove (L := L) hL.Q hR.2 ((upe s v - 1) / 4) v (hV.e64 (by omega))
    rw [show 8 * ((upe s v - 1) / 4 % 8) + v % 8 = 8 * ((upe s v - 1) / 4) + v % 8 by omega] at E
    refine ⟨_, ?_, ⟨(hR.1.fr (Fr.up (lo := p + 9) (hi := p + 9) (by omega) (by omega)) (by omega)).sg ⟨rfl, rfl, rfl, rfl, rfl⟩, hR.2.put m2 rfl (by omega)⟩, Fr.up (by omega) (by omega)⟩
    simp (maxSteps := 1000000) (disch := omega) only [↓reduceIte, ↓if_bi0, ↓if_bi1, hp_tg, hp_rI, hp_rR, hp_rL, hp_wI, hp_wL, Option.bind_some, if_11, if_01, bi_and1, i10, i01, bi_t, bi_f, ic_add, mr_4, ml_4, mr_8, ml_8, mr_10, ml_10, ic_add1, ic_sub1, ic_clamp, ic_div, ic_irm, ic_lt0, ic_0lt, ic_eq0, ic_lt, ic_inj, and15, and7, and31, and63, shl1, shr_ok, neg_1, neg_2, neg_3, neg_4, kc_lt0, kc_ic, kc_m2, kc_1, kc_0, i0_add, add_i0, or_i0, z_8, z_4, z_64, z_256, ic_m2, ec_m1, ic_m1, m1_lt0, m2_lt0, m3_lt0, m4_lt0, up_s, if_true, if_false, ne_eq, not_true_eq_false, not_false_eq_true, Bool.false_eq_true, eq_self, or_self, or_false, false_or, and_self, and_true, true_and, ite_self, Nat.reduceEqDiff, Nat.reduceLT, Nat.reduceMod, Nat.reduceMul, Nat.reduceAdd, Nat.reducePow, Nat.reduceDiv, lt_2, lt_3, lt_4, lt_5, lt_6, lt_7, lt_8, lt_10, lt_11, lt_12, lt_15, lt_16, lt_18, lt_20, lt_24, lt_31, lt_32, lt_48, lt_57, lt_59, lt_63, lt_64, lt_74, lt_75, lt_97, lt_122, lt_128, lt_144, lt_145, lt_146, lt_147, lt_155, lt_163, lt_171, lt_179, lt_200, lt_243, lt_244, lt_255, lt_256, lt_732, lt_900, lt_3660, lt_3904, lt_4095, lt_65536, lt_65537, lt_252645135, lt_858993459, lt_1431655765, ↓p_has_b, p_has, ↓p_has9_b, p_has9, ↓p_bit_b, p_bit, ↓p_bit1_b, p_bit1, ↓p_bit0_b, p_bit0, p_X2_forget_35, p_X2_forget_34, p_X2_forget, hL.t, hL.g, hL.gt, hL.q, hL.qt, T4, ↓bnd (U), U, ↓bnd (E), E]
    by_cases d : se s (8 * ((upe s v - 1) / 4) + v % 8) ≠ 0
    · simp only [decide_eq_true d]; rfl
    · simp only [decide_eq_false d]; rfl
theorem k_ppw (hL : PL S p) (hR : PR I p s pl) (hV : Inv s pl) {f i x : Nat} (hf : f < 16) (hi : i < 8) (hx : x < 4096) : ∃ I', p_X2_putPastWatching p (ic f) (ic i) (ic x) (hp S I L) = some (ic (dvN s f i), hp S I' L) ∧ PR I' p (dev s f i x) pl ∧ Fr I I' (p + 2) (p + 9) := by
  have W := g_setWord (I := I) (L := L) hL.G f i (ic x)
  rw [show 8 * (f % 16) + i % 8 = 8 * f + i by omega] at W
  have R1 : PR (up2 I (p + 3) (8 * f + i) (ic x)) p (stoW s f i x) pl := ⟨hR.1.setW (8 * f + i) x, hR.2.fr (Fr.up (lo := p + 3) (hi := p + 3) (by omega) (by omega)) (by omega)⟩
  have V1 := inv_stoW hV (f := f) (i := i) hx
  have M := g_setMark (L := L) hL.G R1.1 hf
  have R2 : PR (up2 (up2 I (p + 3) (8 * f + i) (ic x)) (p + 2) 3 (ic (sbt (sm (stoW s f i x)) f))) p (dv1 s f i x) pl := ⟨R1.1.setM _, R1.2.fr (Fr.up (lo := p + 2) (hi := p + 2) (by omega) (by omega)) (by omega)⟩
  have V2 : Inv (dv1 s f i x) pl := inv_um V1 (sbt_lt (n := 16) hV.1.2.2.2.1 hf)
  obtain ⟨I3, e3, q3, f3⟩ := q_forgetPlace (L := L) hL.Q R2.2 V2 hf hi
  have sg : SG (dv1 s f i x) (dev s f i x) := by
    unfold dev tke
    cases inst s (fnd s 1 f) <;> cases fnd s 0 f <;> exact ⟨rfl, rfl, rfl, rfl, rfl⟩
  refine ⟨I3, ?_, ⟨(R2.1.fr f3 (by omega)).sg sg, q3⟩, ((Fr.up (by omega) (by omega)).trans (Fr.up (by omega) (by omega))).trans (f3.wide (by omega) (by omega))⟩
  simp (maxSteps := 1000000) (disch := omega) only [↓reduceIte, ↓if_bi0, ↓if_bi1, hp_tg, hp_rI, hp_rR, hp_rL, hp_wI, hp_wL, Option.bind_some, if_11, if_01, bi_and1, i10, i01, bi_t, bi_f, ic_add, mr_4, ml_4, mr_8, ml_8, mr_10, ml_10, ic_add1, ic_sub1, ic_clamp, ic_div, ic_irm, ic_lt0, ic_0lt, ic_eq0, ic_lt, ic_inj, and15, and7, and31, and63, shl1, shr_ok, neg_1, neg_2, neg_3, neg_4, kc_lt0, kc_ic, kc_m2, kc_1, kc_0, i0_add, add_i0, or_i0, z_8, z_4, z_64, z_256, ic_m2, ec_m1, ic_m1, m1_lt0, m2_lt0, m3_lt0, m4_lt0, up_s, if_true, if_false, ne_eq, not_true_eq_false, not_false_eq_true, Bool.false_eq_true, eq_self, or_self, or_false, false_or, and_self, and_true, true_and, ite_self, Nat.reduceEqDiff, Nat.reduceLT, Nat.reduceMod, Nat.reduceMul, Nat.reduceAdd, Nat.reducePow, Nat.reduceDiv, lt_2, lt_3, lt_4, lt_5, lt_6, lt_7, lt_8, lt_10, lt_11, lt_12, lt_15, lt_16, lt_18, lt_20, lt_24, lt_31, lt_32, lt_48, lt_57, lt_59, lt_63, lt_64, lt_74, lt_75, lt_97, lt_122, lt_128, lt_144, lt_145, lt_146, lt_147, lt_155, lt_163, lt_171, lt_179, lt_200, lt_243, lt_244, lt_255, lt_256, lt_732, lt_900, lt_3660, lt_3904, lt_4095, lt_65536, lt_65537, lt_252645135, lt_858993459, lt_1431655765, ↓p_has_b, p_has, ↓p_has9_b, p_has9, ↓p_bit_b, p_bit, ↓p_bit1_b, p_bit1, ↓p_bit0_b, p_bit0, p_X2_putPastWatching, hL.t, hL.g, hL.gt, hL.q, hL.qt, ↓bnd (W), W, ↓bnd (M), M, ↓bnd (e3), e3]
  rfl
end CPUT
