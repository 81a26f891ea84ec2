/-! ===== rings of scenes anew; the reference anew ===== -/
section NEW3
variable {S S1 S2 S' : SH} {I I1 I2 I' : II} {L : LL} {a k t n b j c u u2 n2 g v r i N : Nat}
theorem sl_nw (h : SL S t) (hn : Nw S I S' I' r n u) (h1 : r < t ∨ t + 8 < r) (hb : t + 8 < nS S) : SL S' t := by
  have b3 := hn.2.2.1
  have b4 := hn.2.2.2.1
  exact ⟨by rw [b3 t (by omega)]; exact h.1, by rw [b4 t _ (by omega) (by omega)]; exact h.2.1, by rw [b4 t _ (by omega) (by omega)]; exact h.2.2.1, gl_nw h.2.2.2.1 hn (by omega) (by omega), ql_nw h.2.2.2.2 hn (by omega) (by omega)⟩
theorem sl_sw (h : SL S t) (h1 : r < t ∨ t + 8 < r) : SL (swR S r i v) t :=
  ⟨h.1, by rw [sw_a (by omega)]; exact h.2.1, by rw [sw_a (by omega)]; exact h.2.2.1, gl_sw h.2.2.2.1 (by omega), ql_sw h.2.2.2.2 (by omega)⟩
/-- a scene into an array -/
theorem ar_new (hr : tT S r = (104, N)) (hi : i < N) (hN : N < 1000) (hb : r < nS S) (h0 : 0 < nS S) : ∃ S3 I3 L3, p_X4_init (nS S) (hp (alS S 3 2) (zrI I (nS S)) (zrL L (nS S))) = some (hp S3 I3 L3) ∧ inB (hp S3 I3 L3) r 104 (ic i) = true ∧ (tT S3 (nS S)).1 = 3 ∧ Nw S I (swR S3 r i (nS S)) I3 r 9 246 ∧ tR (swR S3 r i (nS S)) r i = nS S ∧ (∀ k, k ≠ i → tR (swR S3 r i (nS S)) r k = tR S r k) ∧ SL (swR S3 r i (nS S)) (nS S) := by
  obtain ⟨S3, I3, L3, e, ⟨b1, b2, b3, b4, b5, b6⟩, s3⟩ := sc_new (S := alS S 3 2) (I := zrI I (nS S)) (L := zrL L (nS S)) (a := nS S) (al_n S 3 2) h0 (al_Tn rfl)
  rw [al_n] at b1 b3 b4 b5 b6
  have rT : tT S3 r = (104, N) := by rw [b3 r (by omega), al_T (by omega)]; exact hr
  refine ⟨S3, I3, L3, e, if_inB rT hi (by omega), by rw [s3.1], ⟨by show nS S3 = _; omega, by show uS S3 = _; rw [b2, al_u], fun y hy => ?_, fun y j hy hg => ?_, fun y hy => ?_, fun y j q1 q2 => ?_⟩, sw_s _ _ _ _, fun k hk => ?_, sl_sw s3 (by omega)⟩
  · show tT S3 y = _; rw [b3 y (by omega), al_T (by omega)]
  · rw [sw_a hg, b4 y j (by omega) (by omega), al_R (by omega)]
  · rw [b5 y (by omega), zr_n (by omega)]
  · by_cases q : y = nS S
    · rw [b5 y (by omega)]; exact zr_z q
    · exact b6 y j (by omega) (by omega)
  · rw [sw_k hk, b4 r k (by omega) (by omega), al_R (by omega)]
theorem lp_78 (a0 : a ≠ r) : ∀ (d f k : Nat) (S : SH) (I : II) (L : LL), k + d = 16 → d < f → tT S r = (104, 16) → tT S a = (6, 12) → tR S a 6 = r → r < nS S → a < nS S → ∃ S' I' L', p_X7_init_78 f a (ic k) (hp S I L) = p_X7_init_105 FU a 0 (hp S' I' L') ∧ Nw S I S' I' r (9 * d) (246 * d) ∧ (∀ i, i < k → tR S' r i = tR S r i) ∧ ∀ i, k ≤ i → i < 16 → tR S' r i = nS S + 9 * (i - k) ∧ SL S' (nS S + 9 * (i - k)) := by
  intro d
  induction d with
  | zero =>
    intro f k S I L hk hf hr ha h6 hb hb2
    obtain ⟨f, rfl⟩ : ∃ f9, f = f9 + 1 := ⟨f - 1, by omega⟩
    refine ⟨S, I, L, ?_, Nw.refl r, fun _ _ => rfl, fun i q1 q2 => by omega⟩
    unfold p_X7_init_78
    rw [if_neg (show ¬ ic k < 16 by rw [lt_16, ic_lt (by omega) (by omega)]; omega)]
  | succ d ih =>
    intro f k S I L hk hf hr ha h6 hb hb2
    obtain ⟨f, rfl⟩ : ∃ f9, f = f9 + 1 := ⟨f - 1, by omega⟩
    obtain ⟨S3, I3, L3, e, i3, t3, n3, r3, k3, s3⟩ := ar_new (S := S) (I := I) (L := L) (i := k) hr (by omega) (by omega) hb (by omega)
    have N3 := n3.1
    obtain ⟨S', I', L', e2, n2, k2, s2⟩ := ih f (k + 1) (swR S3 r k (nS S)) I3 L3 (by omega) (by omega) (by rw [n3.2.2.1 r hb]; exact hr) (by rw [n3.2.2.1 a hb2]; exact ha) (by rw [n3.2.2.2.1 a 6 hb2 a0]; exact h6) (by omega) (by omega)
    refine ⟨S', I', L', ?_, ?_, fun i hi => by rw [k2 i (by omega), k3 i (by omega)], fun i q1 q2 => ?_⟩
    · refine Eq.trans ?_ e2
      conv => lhs; unfold p_X7_init_78
      rw [if_pos (show ic k < 16 by rw [lt_16, ic_lt (by omega) (by omega)]; omega), if_pos (show (tg (hp S I L) a).1 = 6 by rw [hp_tg, ha])]
      show (if nx (hp S I L) = 0 then none else (p_X4_init (nx (hp S I L)) (al (hp S I L) 3 2)).bind _) = _
      rw [hp_nx, if_neg (show ¬ nS S = 0 by omega), hp_al]
      refine Eq.trans (bnd e) ?_
      rw [hp_rR, h6, if_pos (show inB (hp S3 I3 L3) r 104 (ic k) = true ∧ (tg (hp S3 I3 L3) (nS S)).1 = 3 from ⟨i3, by rw [hp_tg]; exact t3⟩)]
      show p_X7_init_78 f a (ic k + 1) (wR (hp S3 I3 L3) r (ic k).toNatClampNeg (nS S)) = _
      rw [ic_add1, ic_clamp (by omega), hp_wR]
    · have := n3.trans n2
      rw [show 9 * (d + 1) = 9 + 9 * d by omega, show 246 * (d + 1) = 246 + 246 * d by omega]
      exact this
    · by_cases q : i = k
      · subst q
        rw [Nat.sub_self, Nat.mul_zero, Nat.add_zero]
        exact ⟨by rw [k2 i (by omega)]; exact r3, sl_nw s3 n2 (by omega) (by omega)⟩
      · have := s2 i (by omega) q2
        rw [N3, show nS S + 9 + 9 * (i - (k + 1)) = nS S + 9 * (i - k) by omega] at this
        exact this
theorem lp_105 (a0 : a ≠ r) : ∀ (d f k : Nat) (S : SH) (I : II) (L : LL), k + d = 3 → d < f → tT S r = (104, 3) → tT S a = (6, 12) → tR S a 9 = r → r < nS S → a < nS S → ∃ S' I' L', p_X7_init_105 f a (ic k) (hp S I L) = some (hp S' I' L') ∧ Nw S I S' I' r (9 * d) (246 * d) ∧ (∀ i, i < k → tR S' r i = tR S r i) ∧ ∀ i, k ≤ i → i < 3 → tR S' r i = nS S + 9 * (i - k) ∧ SL S' (nS S + 9 * (i - k)) := by
  intro d
  induction d with
  | zero =>
    intro f k S I L hk hf hr ha h6 hb hb2
    obtain ⟨f, rfl⟩ : ∃ f9, f = f9 + 1 := ⟨f - 1, by omega⟩
    refine ⟨S, I, L, ?_, Nw.refl r, fun _ _ => rfl, fun i q1 q2 => by omega⟩
    unfold p_X7_init_105
    rw [if_neg (show ¬ ic k < 3 by rw [lt_3, ic_lt (by omega) (by omega)]; omega)]
  | succ d ih =>
    intro f k S I L hk hf hr ha h6 hb hb2
    obtain ⟨f, rfl⟩ : ∃ f9, f = f9 + 1 := ⟨f - 1, by omega⟩
    obtain ⟨S3, I3, L3, e, i3, t3, n3, r3, k3, s3⟩ := ar_new (S := S) (I := I) (L := L) (i := k) hr (by omega) (by omega) hb (by omega)
    have N3 := n3.1
    obtain ⟨S', I', L', e2, n2, k2, s2⟩ := ih f (k + 1) (swR S3 r k (nS S)) I3 L3 (by omega) (by omega) (by rw [n3.2.2.1 r hb]; exact hr) (by rw [n3.2.2.1 a hb2]; exact ha) (by rw [n3.2.2.2.1 a 9 hb2 a0]; exact h6) (by omega) (by omega)
    refine ⟨S', I', L', ?_, ?_, fun i hi => by rw [k2 i (by omega), k3 i (by omega)], fun i q1 q2 => ?_⟩
    · refine Eq.trans ?_ e2
      conv => lhs; unfold p_X7_init_105
      rw [if_pos (show ic k < 3 by rw [lt_3, ic_lt (by omega) (by omega)]; omega), if_pos (show (tg (hp S I L) a).1 = 6 by rw [hp_tg, ha])]
      show (if nx (hp S I L) = 0 then none else (p_X4_init (nx (hp S I L)) (al (hp S I L) 3 2)).bind _) = _
      rw [hp_nx, if_neg (show ¬ nS S = 0 by omega), hp_al]
      refine Eq.trans (bnd e) ?_
      rw [hp_rR, h6, if_pos (show inB (hp S3 I3 L3) r 104 (ic k) = true ∧ (tg (hp S3 I3 L3) (nS S)).1 = 3 from ⟨i3, by rw [hp_tg]; exact t3⟩)]
      show p_X7_init_105 f a (ic k + 1) (wR (hp S3 I3 L3) r (ic k).toNatClampNeg (nS S)) = _
      rw [ic_add1, ic_clamp (by omega), hp_wR]
    · have := n3.trans n2
      rw [show 9 * (d + 1) = 9 + 9 * d by omega, show 246 * (d + 1) = 246 + 246 * d by omega]
      exact this
    · by_cases q : i = k
      · subst q
        rw [Nat.sub_self, Nat.mul_zero, Nat.add_zero]
        exact ⟨by rw [k2 i (by omega)]; exact r3, sl_nw s3 n2 (by omega) (by omega)⟩
      · have := s2 i (by omega) q2
        rw [N3, show nS S + 9 + 9 * (i - (k + 1)) = nS S + 9 * (i - k) by omega] at this
        exact this
def wi9 (c a k : Nat) (v : Int32) (G : AH → Option AH) (h : AH) : Option AH := if (tg h a).1 = c then (let h1 := wI h a k v; G h1) else none
theorem st_X9 (a : Nat) (h : AH) : p_X9_init a h = if a = 0 then none else wi9 8 a 2 (-1 : Int32) (s20 8 a 5 101 (900 : Int32) (s20 8 a 15 100 (244 : Int32) (s20 8 a 16 100 (244 : Int32) (s20 8 a 17 100 (3904 : Int32) (s20 8 a 18 100 (732 : Int32) (s20 8 a 39 100 (4 : Int32) (fun h => some h))))))) h := rfl
theorem md_new (ha : nS S = a + 1) (ha0 : 0 < a) (hT : tT S a = (8, 41)) : ∃ S' I' L', p_X9_init a (hp S I L) = some (hp S' I' L') ∧ Nw S (up2 I a 2 m1) S' I' a 6 6028 ∧ ML S' a ∧ ∀ k, k ≠ 5 → k ≠ 15 → k ≠ 16 → k ≠ 17 → k ≠ 18 → k ≠ 39 → tR S' a k = tR S a k := by
  rw [st_X9, if_neg (show ¬ a = 0 by omega)]
  have ew : wi9 8 a 2 (-1 : Int32) (s20 8 a 5 101 (900 : Int32) (s20 8 a 15 100 (244 : Int32) (s20 8 a 16 100 (244 : Int32) (s20 8 a 17 100 (3904 : Int32) (s20 8 a 18 100 (732 : Int32) (s20 8 a 39 100 (4 : Int32) (fun h => some h))))))) (hp S I L) = (s20 8 a 5 101 (900 : Int32) (s20 8 a 15 100 (244 : Int32) (s20 8 a 16 100 (244 : Int32) (s20 8 a 17 100 (3904 : Int32) (s20 8 a 18 100 (732 : Int32) (s20 8 a 39 100 (4 : Int32) (fun h => some h))))))) (hp S (up2 I a 2 m1) L) := by
    unfold wi9
    rw [if_pos (show (tg (hp S I L) a).1 = 8 by rw [hp_tg, hT])]
    rfl
  rw [ew]
  obtain ⟨S1, I1, L1, e1, n1, r1, k1, t1⟩ := x_s20 (S := S) (I := up2 I a 2 m1) (L := L) (a := a) (c := 8) (k := 5) (t := 101) (n := 900) (s20 8 a 15 100 (244 : Int32) (s20 8 a 16 100 (244 : Int32) (s20 8 a 17 100 (3904 : Int32) (s20 8 a 18 100 (732 : Int32) (s20 8 a 39 100 (4 : Int32) (fun h => some h)))))) (by rw [hT]) (by omega) (by omega) (900 : Int32) rfl
  rw [ha] at r1 t1
  have T1 : tT S1 a = (8, 41) := by rw [n1.2.2.1 a (by omega)]; exact hT
  have N1 : nS S1 = a + 2 := by have := n1.1; omega
  obtain ⟨S2, I2, L2, e2, n2, r2, k2, t2⟩ := x_s20 (S := S1) (I := I1) (L := L1) (a := a) (c := 8) (k := 15) (t := 100) (n := 244) (s20 8 a 16 100 (244 : Int32) (s20 8 a 17 100 (3904 : Int32) (s20 8 a 18 100 (732 : Int32) (s20 8 a 39 100 (4 : Int32) (fun h => some h))))) (by rw [T1]) (by omega) (by omega) (244 : Int32) rfl
  rw [N1] at r2 t2
  have T2 : tT S2 a = (8, 41) := by rw [n2.2.2.1 a (by omega)]; exact T1
  have N2 : nS S2 = a + 3 := by have := n2.1; omega
  obtain ⟨S3, I3, L3, e3, n3, r3, k3, t3⟩ := x_s20 (S := S2) (I := I2) (L := L2) (a := a) (c := 8) (k := 16) (t := 100) (n := 244) (s20 8 a 17 100 (3904 : Int32) (s20 8 a 18 100 (732 : Int32) (s20 8 a 39 100 (4 : Int32) (fun h => some h)))) (by rw [T2]) (by omega) (by omega) (244 : Int32) rfl
  rw [N2] at r3 t3
  have T3 : tT S3 a = (8, 41) := by rw [n3.2.2.1 a (by omega)]; exact T2
  have N3 : nS S3 = a + 4 := by have := n3.1; omega
  obtain ⟨S4, I4, L4, e4, n4, r4, k4, t4⟩ := x_s20 (S := S3) (I := I3) (L := L3) (a := a) (c := 8) (k := 17) (t := 100) (n := 3904) (s20 8 a 18 100 (732 : Int32) (s20 8 a 39 100 (4 : Int32) (fun h => some h))) (by rw [T3]) (by omega) (by omega) (3904 : Int32) rfl
  rw [N3] at r4 t4
  have T4 : tT S4 a = (8, 41) := by rw [n4.2.2.1 a (by omega)]; exact T3
  have N4 : nS S4 = a + 5 := by have := n4.1; omega
  obtain ⟨S5, I5, L5, e5, n5, r5, k5, t5⟩ := x_s20 (S := S4) (I := I4) (L := L4) (a := a) (c := 8) (k := 18) (t := 100) (n := 732) (s20 8 a 39 100 (4 : Int32) (fun h => some h)) (by rw [T4]) (by omega) (by omega) (732 : Int32) rfl
  rw [N4] at r5 t5
  have T5 : tT S5 a = (8, 41) := by rw [n5.2.2.1 a (by omega)]; exact T4
  have N5 : nS S5 = a + 6 := by have := n5.1; omega
  obtain ⟨S6, I6, L6, e6, n6, r6, k6, t6⟩ := x_s20 (S := S5) (I := I5) (L := L5) (a := a) (c := 8) (k := 39) (t := 100) (n := 4) (fun h => some h) (by rw [T5]) (by omega) (by omega) (4 : Int32) rfl
  rw [N5] at r6 t6
  have T6 : tT S6 a = (8, 41) := by rw [n6.2.2.1 a (by omega)]; exact T5
  have N6 : nS S6 = a + 7 := by have := n6.1; omega
  refine ⟨S6, I6, L6, by rw [e1, e2, e3, e4, e5, e6], ((((n1.trans n2).trans n3).trans n4).trans n5).trans n6, ⟨T6, ⟨by rw [k6 5 (by omega), k5 5 (by omega), k4 5 (by omega), k3 5 (by omega), k2 5 (by omega)]; exact r1, by rw [n6.2.2.1 _ (by omega), n5.2.2.1 _ (by omega), n4.2.2.1 _ (by omega), n3.2.2.1 _ (by omega), n2.2.2.1 _ (by omega)]; exact t1⟩, ⟨by rw [k6 15 (by omega), k5 15 (by omega), k4 15 (by omega), k3 15 (by omega)]; exact r2, by rw [n6.2.2.1 _ (by omega), n5.2.2.1 _ (by omega), n4.2.2.1 _ (by omega), n3.2.2.1 _ (by omega)]; exact t2⟩, ⟨by rw [k6 16 (by omega), k5 16 (by omega), k4 16 (by omega)]; exact r3, by rw [n6.2.2.1 _ (by omega), n5.2.2.1 _ (by omega), n4.2.2.1 _ (by omega)]; exact t3⟩, ⟨by rw [k6 17 (by omega), k5 17 (by omega)]; exact r4, by rw [n6.2.2.1 _ (by omega), n5.2.2.1 _ (by omega)]; exact t4⟩, ⟨by rw [k6 18 (by omega)]; exact r5, by rw [n6.2.2.1 _ (by omega)]; exact t5⟩, ⟨r6, t6⟩⟩, fun k q1 q2 q3 q4 q5 q6 => by rw [k6 k q6, k5 k q5, k4 k q4, k3 k q3, k2 k q2, k1 k q1]⟩
end NEW3
