/-! ===== the line of the machine: the reference's row ===== -/
section XLM
variable {S : SH} {I J : II} {L : LL} {t m n a c : Nat} {b : Nat → Nat} {tk : TK} {T : TS}
theorem x_dead15 (hL : ML S m) (h5 : I m 9 = ic 5) : p_X9_readMachine_15 m (hp S I L) = some (hp S I L) := by
  have G := x_goes0 (L := L) hL h5
  have N2 := x_nd5 (L := L) hL h5 2
  have N3 := x_nd5 (L := L) hL h5 3
  have W2 := x_rwh5 (L := L) hL h5 3 8
  have W3 := x_rwh5 (L := L) hL h5 0 15
  unfold p_X9_readMachine_15
  simp only [↓reduceIte, ↓if_bi0, hp_tg, hp_rR, hp_rI, hp_wI, eq_self, bi_t, bi_f, i10, if_true, if_false, Bool.false_eq_true, hL.t]
  refine Eq.trans (bnd G) ?_
  simp only [↓reduceIte, ↓if_bi0, hp_tg, hp_rR, hp_rI, hp_wI, eq_self, bi_t, bi_f, i10, if_true, if_false, Bool.false_eq_true, hL.t]
  refine Eq.trans (bnd N2) ?_
  simp only [↓reduceIte, ↓if_bi0, hp_tg, hp_rR, hp_rI, hp_wI, eq_self, bi_t, bi_f, i10, if_true, if_false, Bool.false_eq_true, hL.t]
  refine Eq.trans (bnd W2) ?_
  simp only [↓reduceIte, ↓if_bi0, hp_tg, hp_rR, hp_rI, hp_wI, eq_self, bi_t, bi_f, i10, if_true, if_false, Bool.false_eq_true, hL.t]
  refine Eq.trans (bnd N3) ?_
  simp only [↓reduceIte, ↓if_bi0, hp_tg, hp_rR, hp_rI, hp_wI, eq_self, bi_t, bi_f, i10, if_true, if_false, Bool.false_eq_true, hL.t]
  refine Eq.trans (bnd W3) ?_
  simp only [↓reduceIte, ↓if_bi0, hp_tg, hp_rR, hp_rI, hp_wI, eq_self, bi_t, bi_f, i10, if_true, if_false, Bool.false_eq_true, hL.t, h5]
  rfl
theorem x_dead15_b (hL : ML S m) (h5 : I m 9 = ic 5) {β : Type} (f9 : AH → Option β) : (p_X9_readMachine_15 m (hp S I L)).bind f9 = f9 (hp S I L) := bnd (by apply x_dead15 <;> assumption)
theorem x_lM (hL : ML S m) (ha : tR S m 4 = a) (hA : MCL S a) (hm : m + 6 < a) (h : RS I L m b n tk) (hM : MR I a T) (h8 : tP T ≤ 8) (hk : tk.1 ≠ 4) : XO S I m a b n (p_X9_readMachine m (hp S I L)) (lM b n T tk) := by
  unfold lM
  have r0 : I a 0 = ic (tP T) := hM.1
  have l0 := hA.1
  by_cases c0 : tP T ≠ 0
  · rw [if_pos c0]
    have F := h.flaw hL 3
    have D := x_dead15 (L := L) hL (xF_9 I m 3 tk.2.1)
    refine ⟨xF I m 3 tk.2.1, L, ?_, xF_9 _ _ _ _, xF_12 _ _ _ _, xF_13 _ _ _ _, (Rf.refl I m a).xF 3 tk.2.1⟩
    unfold p_X9_readMachine
    simp only [↓reduceIte, ↓if_bi0, hp_tg, hp_rR, hp_rI, hp_wI, eq_self, bi_t, bi_f, i10, if_true, if_false, Bool.false_eq_true, hL.t, ha, l0, r0]
    rw [if_pos (by rw [ic_0lt (by omega)]; omega)]
    refine Eq.trans (bnd F) ?_
    exact D
  · rw [if_neg c0]
    have c0' : tP T = 0 := by omega
    rw [c0'] at r0
    have g0 : p_X9_readMachine m (hp S I L) = p_X9_readMachine_15 m (hp S I L) := by
      unfold p_X9_readMachine
      simp only [↓reduceIte, ↓if_bi0, hp_tg, hp_rR, hp_rI, hp_wI, eq_self, bi_t, bi_f, i10, if_true, if_false, Bool.false_eq_true, hL.t, ha, l0, r0]
      rw [if_neg (by decide)]
    rw [g0]
    unfold p_X9_readMachine_15
    simp only [↓reduceIte, ↓if_bi0, hp_tg, hp_rR, hp_rI, hp_wI, eq_self, bi_t, bi_f, i10, if_true, if_false, Bool.false_eq_true, hL.t]
    obtain ⟨I1, L1, e1, s1, f1⟩ := x_next hL h hk
    generalize nt b n tk = k1 at *
    have t1 := (Rf.refl I m a).yf f1
    by_cases c1 : nm b k1 2 = false
    · rw [if_pos c1]
      have A := x_nd0 hL s1 (k := 2) (by omega) (by omega) c1
      have h5 := xF_9 I1 m 1 k1.2.1
      have N3 := x_nd5 (L := L1) hL h5 3
      have W2 := x_rwh5 (L := L1) hL h5 3 8
      have W3 := x_rwh5 (L := L1) hL h5 0 15
      refine ⟨xF I1 m 1 k1.2.1, L1, ?_, h5, xF_12 _ _ _ _, xF_13 _ _ _ _, t1.xF 1 k1.2.1⟩
      refine Eq.trans (bnd e1) ?_
      simp only [↓reduceIte, ↓if_bi0, hp_tg, hp_rR, hp_rI, hp_wI, eq_self, bi_t, bi_f, i10, if_true, if_false, Bool.false_eq_true, hL.t]
      refine Eq.trans (bnd A) ?_
      simp only [↓reduceIte, ↓if_bi0, hp_tg, hp_rR, hp_rI, hp_wI, eq_self, bi_t, bi_f, i10, if_true, if_false, Bool.false_eq_true, hL.t]
      refine Eq.trans (bnd W2) ?_
      simp only [↓reduceIte, ↓if_bi0, hp_tg, hp_rR, hp_rI, hp_wI, eq_self, bi_t, bi_f, i10, if_true, if_false, Bool.false_eq_true, hL.t]
      refine Eq.trans (bnd N3) ?_
      simp only [↓reduceIte, ↓if_bi0, hp_tg, hp_rR, hp_rI, hp_wI, eq_self, bi_t, bi_f, i10, if_true, if_false, Bool.false_eq_true, hL.t]
      refine Eq.trans (bnd W3) ?_
      simp only [↓reduceIte, ↓if_bi0, hp_tg, hp_rR, hp_rI, hp_wI, eq_self, bi_t, bi_f, i10, if_true, if_false, Bool.false_eq_true, hL.t, h5]
      rfl
    · rw [if_neg c1]
      obtain ⟨I2, L2, e2, s2, f2⟩ := x_nd1 hL s1 (k := 2) (by omega) (by omega) (by simpa using c1)
      generalize nt b n k1 = k2 at *
      have t2 := t1.yf f2
      by_cases c2 : wf k2 3 8 ≠ 0
      · rw [if_pos c2]
        have A := x_rwh1 hL s2 (a := 3) (c := 8) (by omega) (by omega) c2
        have h5 := xF_9 I2 m (wf k2 3 8) k2.2.1
        have N3 := x_nd5 (L := L2) hL h5 3
        have W3 := x_rwh5 (L := L2) hL h5 0 15
        refine ⟨xF I2 m (wf k2 3 8) k2.2.1, L2, ?_, h5, xF_12 _ _ _ _, xF_13 _ _ _ _, t2.xF _ _⟩
        refine Eq.trans (bnd e1) ?_
        simp only [↓reduceIte, ↓if_bi0, hp_tg, hp_rR, hp_rI, hp_wI, eq_self, bi_t, bi_f, i10, if_true, if_false, Bool.false_eq_true, hL.t]
        refine Eq.trans (bnd e2) ?_
        simp only [↓reduceIte, ↓if_bi0, hp_tg, hp_rR, hp_rI, hp_wI, eq_self, bi_t, bi_f, i10, if_true, if_false, Bool.false_eq_true, hL.t]
        refine Eq.trans (bnd A) ?_
        simp only [↓reduceIte, ↓if_bi0, hp_tg, hp_rR, hp_rI, hp_wI, eq_self, bi_t, bi_f, i10, if_true, if_false, Bool.false_eq_true, hL.t]
        refine Eq.trans (bnd N3) ?_
        simp only [↓reduceIte, ↓if_bi0, hp_tg, hp_rR, hp_rI, hp_wI, eq_self, bi_t, bi_f, i10, if_true, if_false, Bool.false_eq_true, hL.t]
        refine Eq.trans (bnd W3) ?_
        simp only [↓reduceIte, ↓if_bi0, hp_tg, hp_rR, hp_rI, hp_wI, eq_self, bi_t, bi_f, i10, if_true, if_false, Bool.false_eq_true, hL.t, h5]
        rfl
      · rw [if_neg c2]
        obtain ⟨I3, L3, e3, s3, f3⟩ := x_rwh0 hL s2 (a := 3) (c := 8) (by omega) (by omega) (by omega)
        generalize nt b n k2 = k3 at *
        have t3 := t2.yf f3
        by_cases c3 : nm b k3 3 = false
        · rw [if_pos c3]
          have A := x_nd0 hL s3 (k := 3) (by omega) (by omega) c3
          have h5 := xF_9 I3 m 1 k3.2.1
          have W3 := x_rwh5 (L := L3) hL h5 0 15
          refine ⟨xF I3 m 1 k3.2.1, L3, ?_, h5, xF_12 _ _ _ _, xF_13 _ _ _ _, t3.xF _ _⟩
          refine Eq.trans (bnd e1) ?_
          simp only [↓reduceIte, ↓if_bi0, hp_tg, hp_rR, hp_rI, hp_wI, eq_self, bi_t, bi_f, i10, if_true, if_false, Bool.false_eq_true, hL.t]
          refine Eq.trans (bnd e2) ?_
          simp only [↓reduceIte, ↓if_bi0, hp_tg, hp_rR, hp_rI, hp_wI, eq_self, bi_t, bi_f, i10, if_true, if_false, Bool.false_eq_true, hL.t]
          refine Eq.trans (bnd e3) ?_
          simp only [↓reduceIte, ↓if_bi0, hp_tg, hp_rR, hp_rI, hp_wI, eq_self, bi_t, bi_f, i10, if_true, if_false, Bool.false_eq_true, hL.t]
          refine Eq.trans (bnd A) ?_
          simp only [↓reduceIte, ↓if_bi0, hp_tg, hp_rR, hp_rI, hp_wI, eq_self, bi_t, bi_f, i10, if_true, if_false, Bool.false_eq_true, hL.t]
          refine Eq.trans (bnd W3) ?_
          simp only [↓reduceIte, ↓if_bi0, hp_tg, hp_rR, hp_rI, hp_wI, eq_self, bi_t, bi_f, i10, if_true, if_false, Bool.false_eq_true, hL.t, h5]
          rfl
        · rw [if_neg c3]
          obtain ⟨I4, L4, e4, s4, f4⟩ := x_nd1 hL s3 (k := 3) (by omega) (by omega) (by simpa using c3)
          generalize nt b n k3 = k4 at *
          have t4 := t3.yf f4
          by_cases c4 : wf k4 0 15 ≠ 0
          · rw [if_pos c4]
            have A := x_rwh1 hL s4 (a := 0) (c := 15) (by omega) (by omega) c4
            rw [ic_zero] at A
            have h5 := xF_9 I4 m (wf k4 0 15) k4.2.1
            refine ⟨xF I4 m (wf k4 0 15) k4.2.1, L4, ?_, h5, xF_12 _ _ _ _, xF_13 _ _ _ _, t4.xF _ _⟩
            refine Eq.trans (bnd e1) ?_
            simp only [↓reduceIte, ↓if_bi0, hp_tg, hp_rR, hp_rI, hp_wI, eq_self, bi_t, bi_f, i10, if_true, if_false, Bool.false_eq_true, hL.t]
            refine Eq.trans (bnd e2) ?_
            simp only [↓reduceIte, ↓if_bi0, hp_tg, hp_rR, hp_rI, hp_wI, eq_self, bi_t, bi_f, i10, if_true, if_false, Bool.false_eq_true, hL.t]
            refine Eq.trans (bnd e3) ?_
            simp only [↓reduceIte, ↓if_bi0, hp_tg, hp_rR, hp_rI, hp_wI, eq_self, bi_t, bi_f, i10, if_true, if_false, Bool.false_eq_true, hL.t]
            refine Eq.trans (bnd e4) ?_
            simp only [↓reduceIte, ↓if_bi0, hp_tg, hp_rR, hp_rI, hp_wI, eq_self, bi_t, bi_f, i10, if_true, if_false, Bool.false_eq_true, hL.t]
            refine Eq.trans (bnd A) ?_
            simp only [↓reduceIte, ↓if_bi0, hp_tg, hp_rR, hp_rI, hp_wI, eq_self, bi_t, bi_f, i10, if_true, if_false, Bool.false_eq_true, hL.t, h5]
            rfl
          · rw [if_neg c4]
            obtain ⟨I5, L5, e5, s5, f5⟩ := x_rwh0 hL s4 (a := 0) (c := 15) (by omega) (by omega) (by omega)
            rw [ic_zero] at e5
            have t5 := t4.yf f5
            have M5 := (((((hM.yf f1 hm).yf f2 hm).yf f3 hm).yf f4 hm).yf f5 hm).uPR k2.2.2.2 k4.2.2.2
            have q : ∀ j, 11 < j → up2 (up2 I5 a 0 (ic k2.2.2.2)) a 1 (ic k4.2.2.2) m j = I m j := fun j hj => by rw [up_a (by omega), up_a (by omega), f5.1 j (by omega), f4.1 j (by omega), f3.1 j (by omega), f2.1 j (by omega), f1.1 j (by omega)]
            have n5 : ¬ (I5 m 9 = 5) := by
              have h9 := srt_5 (nt b n k4).1
              rw [s5.2.2.1.1, show (5 : Int32) = ic 5 from rfl, ic_inj (by omega) (by omega)]
              omega
            refine ⟨up2 (up2 I5 a 0 (ic k2.2.2.2)) a 1 (ic k4.2.2.2), L5, ?_, (s5.up (by omega) 0 _).up (by omega) 1 _, M5, q 12 (by omega), q 13 (by omega), (t5.up hm (by omega) (by omega) 0 _).up hm (by omega) (by omega) 1 _⟩
            refine Eq.trans (bnd e1) ?_
            simp only [↓reduceIte, ↓if_bi0, hp_tg, hp_rR, hp_rI, hp_wI, eq_self, bi_t, bi_f, i10, if_true, if_false, Bool.false_eq_true, hL.t]
            refine Eq.trans (bnd e2) ?_
            simp only [↓reduceIte, ↓if_bi0, hp_tg, hp_rR, hp_rI, hp_wI, eq_self, bi_t, bi_f, i10, if_true, if_false, Bool.false_eq_true, hL.t]
            refine Eq.trans (bnd e3) ?_
            simp only [↓reduceIte, ↓if_bi0, hp_tg, hp_rR, hp_rI, hp_wI, eq_self, bi_t, bi_f, i10, if_true, if_false, Bool.false_eq_true, hL.t]
            refine Eq.trans (bnd e4) ?_
            simp only [↓reduceIte, ↓if_bi0, hp_tg, hp_rR, hp_rI, hp_wI, eq_self, bi_t, bi_f, i10, if_true, if_false, Bool.false_eq_true, hL.t]
            refine Eq.trans (bnd e5) ?_
            simp only [↓reduceIte, ↓if_bi0, hp_tg, hp_rR, hp_rI, hp_wI, eq_self, bi_t, bi_f, i10, if_true, if_false, Bool.false_eq_true, hL.t, n5, ha, l0]
end XLM
