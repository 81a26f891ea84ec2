/-! ===== scenes, pagers, what is told, texts: anew ===== -/
section NEW2
variable {S S1 S2 S' : SH} {I I1 I2 I' : II} {L : LL} {a k t n b j c u u2 n2 g v : Nat}
theorem gl_sw (h : GL S g) (hg : g ≠ a) : GL (swR S a k v) g := by
  unfold GL at h ⊢
  simp only [sw_T, sw_a hg]
  exact h
theorem ql_sw (h : QL S g) (hg : g ≠ a) : QL (swR S a k v) g := by
  unfold QL at h ⊢
  simp only [sw_T, sw_a hg]
  exact h
theorem gl_nw (h : GL S g) (hn : Nw S I S' I' a n u) (hg : g ≠ a) (hb : g + 2 < nS S) : GL S' g := by
  obtain ⟨b1, b2, b3, b4, b5, b6⟩ := hn
  unfold GL at h ⊢
  rw [b3 g (by omega), b3 (g + 1) (by omega), b3 (g + 2) (by omega), b4 g _ (by omega) hg, b4 g _ (by omega) hg]
  exact h
theorem ql_nw (h : QL S g) (hn : Nw S I S' I' a n u) (hg : g ≠ a) (hb : g + 4 < nS S) : QL S' g := by
  obtain ⟨b1, b2, b3, b4, b5, b6⟩ := hn
  unfold QL at h ⊢
  rw [b3 g (by omega), b3 (g + 1) (by omega), b3 (g + 2) (by omega), b3 (g + 3) (by omega), b3 (g + 4) (by omega), b4 g _ (by omega) hg, b4 g _ (by omega) hg, b4 g _ (by omega) hg, b4 g _ (by omega) hg]
  exact h
theorem sc_new (ha : nS S = a + 1) (ha0 : 0 < a) (hT : tT S a = (3, 2)) : ∃ S' I' L', p_X4_init a (hp S I L) = some (hp S' I' L') ∧ Nw S I S' I' a 8 244 ∧ SL S' a := by
  rw [st_X4, if_neg (show ¬ a = 0 by omega)]
  obtain ⟨S2, I2, L2, e1, n1, r1, k1, t1, G1⟩ := x_o20 (S := S) (I := I) (L := L) (a := a) (c := 3) (k := 0) (t := 0) (n := 5) (n2 := 2) (u := 144) (init := p_X1_init) (o20 3 a 1 2 7 p_X3_init (fun h => some h)) (P := fun X => GL X (nS S)) (by rw [hT]) (by omega) ha0 (fun S1 I1 L1 h1 h2 => g_new h1 (by omega) h2)
  have N1 : nS (swR S2 a 0 (nS S)) = a + 4 := by have := n1.1; omega
  have T1 : tT (swR S2 a 0 (nS S)) a = (3, 2) := by rw [n1.2.2.1 a (by omega)]; exact hT
  have G1' : GL (swR S2 a 0 (nS S)) (a + 1) := by rw [ha] at G1; exact gl_sw G1 (by omega)
  rw [ha] at *
  generalize swR S2 a 0 (a + 1) = S3 at *
  obtain ⟨S4, I4, L4, e2, n2, r2, k2, t2, Q2⟩ := x_o20 (S := S3) (I := I2) (L := L2) (a := a) (c := 3) (k := 1) (t := 2) (n := 7) (n2 := 4) (u := 88) (init := p_X3_init) (fun h => some h) (P := fun X => QL X (nS S3)) (by rw [T1]) (by omega) ha0 (fun S1 I1 L1 h1 h2 => q_new h1 (by omega) h2)
  have T2 : tT (swR S4 a 1 (nS S3)) a = (3, 2) := by rw [n2.2.2.1 a (by omega)]; exact T1
  have G2 := gl_nw G1' n2 (by omega) (by omega)
  rw [N1] at *
  have Q2' : QL (swR S4 a 1 (a + 4)) (a + 4) := ql_sw Q2 (by omega)
  generalize swR S4 a 1 (a + 4) = S5 at *
  refine ⟨S5, I4, L4, by rw [e1, e2], ?_, T2, by rw [k2 0 (by omega)]; exact r1, r2, G2, Q2'⟩
  have := n1.trans n2
  exact this
def pz9 (a : Nat) (h103 : AH) : Option AH := if (tg h103 a).1 = 1 then (if (tg h103 (rR h103 a 0)).1 = 3 then (if (tg h103 a).1 = 1 then (let h104 := wR h103 a 1 (rR h103 (rR h103 a 0) 0); if (tg h104 a).1 = 1 then (if (tg h104 (rR h104 a 0)).1 = 3 then (if (tg h104 a).1 = 1 then (let h105 := wR h104 a 2 (rR h104 (rR h104 a 0) 1); some h105) else none) else none) else none) else none) else none) else none
theorem st_X2 (a : Nat) (h : AH) : p_X2_init a h = if a = 0 then none else o20 1 a 0 3 2 p_X4_init (pz9 a) h := rfl
theorem pg_new (ha : nS S = a + 1) (ha0 : 0 < a) (hT : tT S a = (1, 8)) : ∃ S' I' L', p_X2_init a (hp S I L) = some (hp S' I' L') ∧ Nw S I S' I' a 9 246 ∧ PL S' a := by
  rw [st_X2, if_neg (show ¬ a = 0 by omega)]
  obtain ⟨S2, I2, L2, e1, n1, r1, k1, t1, C1⟩ := x_o20 (S := S) (I := I) (L := L) (a := a) (c := 1) (k := 0) (t := 3) (n := 2) (n2 := 8) (u := 244) (init := p_X4_init) (pz9 a) (P := fun X => SL X (nS S)) (by rw [hT]) (by omega) ha0 (fun S1 I1 L1 h1 h2 => sc_new h1 (by omega) h2)
  have N1 : nS (swR S2 a 0 (nS S)) = a + 10 := by have := n1.1; omega
  have T1 : tT (swR S2 a 0 (nS S)) a = (1, 8) := by rw [n1.2.2.1 a (by omega)]; exact hT
  rw [ha] at *
  obtain ⟨c1, c2, c3, c4, c5⟩ := C1
  have c1' : tT (swR S2 a 0 (a + 1)) (a + 1) = (3, 2) := c1
  have c2' : tR (swR S2 a 0 (a + 1)) (a + 1) 0 = a + 2 := by rw [sw_a (by omega)]; exact c2
  have c3' : tR (swR S2 a 0 (a + 1)) (a + 1) 1 = a + 5 := by rw [sw_a (by omega)]; exact c3
  have c4' : GL (swR S2 a 0 (a + 1)) (a + 2) := gl_sw c4 (by omega)
  have c5' : QL (swR S2 a 0 (a + 1)) (a + 5) := ql_sw c5 (by omega)
  generalize swR S2 a 0 (a + 1) = S3 at *
  have f1 : tR (swR S3 a 1 (a + 2)) a 0 = a + 1 := by rw [sw_k (by omega)]; exact r1
  have f2 : tR (swR S3 a 1 (a + 2)) (a + 1) 1 = a + 5 := by rw [sw_a (by omega)]; exact c3'
  refine ⟨swR (swR S3 a 1 (a + 2)) a 2 (a + 5), I2, L2, ?_, ⟨n1.1, n1.2.1, n1.2.2.1, fun y j hy hg => by rw [sw_a hg, sw_a hg]; exact n1.2.2.2.1 y j hy hg, n1.2.2.2.2.1, n1.2.2.2.2.2⟩, T1, by rw [sw_k (by omega)]; exact f1, by rw [sw_k (by omega), sw_s], sw_s _ _ _ _, gl_sw (gl_sw c4' (by omega)) (by omega), ql_sw (ql_sw c5' (by omega)) (by omega), c1', by rw [sw_a (by omega), sw_a (by omega)]; exact c2', by rw [sw_a (by omega)]; exact f2⟩
  rw [e1]
  unfold pz9
  rw [if_pos (show (tg (hp S3 I2 L2) a).1 = 1 by rw [hp_tg, T1]), hp_rR, r1, if_pos (show (tg (hp S3 I2 L2) (a + 1)).1 = 3 by rw [hp_tg, c1']), if_pos (show (tg (hp S3 I2 L2) a).1 = 1 by rw [hp_tg, T1]), hp_rR, c2']
  show (if (tg (wR (hp S3 I2 L2) a 1 (a + 2)) a).1 = 1 then _ else none) = _
  rw [hp_wR, if_pos (show (tg (hp (swR S3 a 1 (a + 2)) I2 L2) a).1 = 1 by rw [hp_tg, sw_T, T1]), hp_rR, f1, if_pos (show (tg (hp (swR S3 a 1 (a + 2)) I2 L2) (a + 1)).1 = 3 by rw [hp_tg, sw_T, c1']), if_pos (show (tg (hp (swR S3 a 1 (a + 2)) I2 L2) a).1 = 1 by rw [hp_tg, sw_T, T1]), hp_rR, f2]
  rfl
theorem tx_new (ha : nS S = a + 1) (ha0 : 0 < a) (hT : (tT S a).1 = 4) : ∃ S' I' L', p_X5_init a (hp S I L) = some (hp S' I' L') ∧ Nw S I S' I' a 1 900 ∧ XL S' a := by
  rw [st_X5, if_neg (show ¬ a = 0 by omega)]
  obtain ⟨S1, I1, L1, e1, n1, r1, k1, t1⟩ := x_s20 (S := S) (I := I) (L := L) (a := a) (c := 4) (k := 0) (t := 101) (n := 900) (fun h => some h) hT (by omega) (by omega) (900 : Int32) rfl
  rw [ha] at r1 t1
  exact ⟨S1, I1, L1, e1, n1, by rw [n1.2.2.1 a (by omega)]; exact hT, r1, t1⟩
theorem td_new (ha : nS S = a + 1) (ha0 : 0 < a) (hT : tT S a = (5, 13)) : ∃ S' I' L', p_X6_init a (hp S I L) = some (hp S' I' L') ∧ Nw S I S' I' a 9 307 ∧ TL S' a ∧ (tR S' a 10 = a + 8 ∧ tT S' (a + 8) = (100, 6)) ∧ (tR S' a 11 = a + 9 ∧ tT S' (a + 9) = (100, 6)) := by
  rw [st_X6, if_neg (show ¬ a = 0 by omega)]
  obtain ⟨S9, I0, L0, e0, n0, r0, k0, t0, G0⟩ := x_o20 (S := S) (I := I) (L := L) (a := a) (c := 5) (k := 0) (t := 0) (n := 5) (n2 := 2) (u := 144) (init := p_X1_init) (s20 5 a 3 102 (128 : Int32) (s20 5 a 5 100 (10 : Int32) (s20 5 a 7 100 (4 : Int32) (s20 5 a 8 100 (4 : Int32) (s20 5 a 10 100 (6 : Int32) (s20 5 a 11 100 (6 : Int32) (fun h => some h))))))) (P := fun X => GL X (nS S)) (by rw [hT]) (by omega) ha0 (fun S1 I1 L1 h1 h2 => g_new h1 (by omega) h2)
  have N0 : nS (swR S9 a 0 (nS S)) = a + 4 := by have := n0.1; omega
  have T0 : tT (swR S9 a 0 (nS S)) a = (5, 13) := by rw [n0.2.2.1 a (by omega)]; exact hT
  have G0' : GL (swR S9 a 0 (nS S)) (a + 1) := by rw [ha] at G0; exact gl_sw G0 (by omega)
  rw [ha] at *
  generalize swR S9 a 0 (a + 1) = S0 at *
  obtain ⟨S1, I1, L1, e1, n1, r1, k1, t1⟩ := x_s20 (S := S0) (I := I0) (L := L0) (a := a) (c := 5) (k := 3) (t := 102) (n := 128) (s20 5 a 5 100 (10 : Int32) (s20 5 a 7 100 (4 : Int32) (s20 5 a 8 100 (4 : Int32) (s20 5 a 10 100 (6 : Int32) (s20 5 a 11 100 (6 : Int32) (fun h => some h)))))) (by rw [T0]) (by omega) (by omega) (128 : Int32) rfl
  rw [N0] at r1 t1
  have T1 : tT S1 a = (5, 13) := by rw [n1.2.2.1 a (by omega)]; exact T0
  have N1 : nS S1 = a + 5 := by have := n1.1; omega
  obtain ⟨S2, I2, L2, e2, n2, r2, k2, t2⟩ := x_s20 (S := S1) (I := I1) (L := L1) (a := a) (c := 5) (k := 5) (t := 100) (n := 10) (s20 5 a 7 100 (4 : Int32) (s20 5 a 8 100 (4 : Int32) (s20 5 a 10 100 (6 : Int32) (s20 5 a 11 100 (6 : Int32) (fun h => some h))))) (by rw [T1]) (by omega) (by omega) (10 : Int32) rfl
  rw [N1] at r2 t2
  have T2 : tT S2 a = (5, 13) := by rw [n2.2.2.1 a (by omega)]; exact T1
  have N2 : nS S2 = a + 6 := by have := n2.1; omega
  obtain ⟨S3, I3, L3, e3, n3, r3, k3, t3⟩ := x_s20 (S := S2) (I := I2) (L := L2) (a := a) (c := 5) (k := 7) (t := 100) (n := 4) (s20 5 a 8 100 (4 : Int32) (s20 5 a 10 100 (6 : Int32) (s20 5 a 11 100 (6 : Int32) (fun h => some h)))) (by rw [T2]) (by omega) (by omega) (4 : Int32) rfl
  rw [N2] at r3 t3
  have T3 : tT S3 a = (5, 13) := by rw [n3.2.2.1 a (by omega)]; exact T2
  have N3 : nS S3 = a + 7 := by have := n3.1; omega
  obtain ⟨S4, I4, L4, e4, n4, r4, k4, t4⟩ := x_s20 (S := S3) (I := I3) (L := L3) (a := a) (c := 5) (k := 8) (t := 100) (n := 4) (s20 5 a 10 100 (6 : Int32) (s20 5 a 11 100 (6 : Int32) (fun h => some h))) (by rw [T3]) (by omega) (by omega) (4 : Int32) rfl
  rw [N3] at r4 t4
  have T4 : tT S4 a = (5, 13) := by rw [n4.2.2.1 a (by omega)]; exact T3
  have N4 : nS S4 = a + 8 := by have := n4.1; omega
  obtain ⟨S5, I5, L5, e5, n5, r5, k5, t5⟩ := x_s20 (S := S4) (I := I4) (L := L4) (a := a) (c := 5) (k := 10) (t := 100) (n := 6) (s20 5 a 11 100 (6 : Int32) (fun h => some h)) (by rw [T4]) (by omega) (by omega) (6 : Int32) rfl
  rw [N4] at r5 t5
  have T5 : tT S5 a = (5, 13) := by rw [n5.2.2.1 a (by omega)]; exact T4
  have N5 : nS S5 = a + 9 := by have := n5.1; omega
  obtain ⟨S6, I6, L6, e6, n6, r6, k6, t6⟩ := x_s20 (S := S5) (I := I5) (L := L5) (a := a) (c := 5) (k := 11) (t := 100) (n := 6) (fun h => some h) (by rw [T5]) (by omega) (by omega) (6 : Int32) rfl
  rw [N5] at r6 t6
  have T6 : tT S6 a = (5, 13) := by rw [n6.2.2.1 a (by omega)]; exact T5
  have N6 : nS S6 = a + 10 := by have := n6.1; omega
  have G1 := gl_nw G0' n1 (by omega) (by omega)
  have G2 := gl_nw G1 n2 (by omega) (by omega)
  have G3 := gl_nw G2 n3 (by omega) (by omega)
  have G4 := gl_nw G3 n4 (by omega) (by omega)
  have G5 := gl_nw G4 n5 (by omega) (by omega)
  have G6 := gl_nw G5 n6 (by omega) (by omega)
  refine ⟨S6, I6, L6, by rw [e0, e1, e2, e3, e4, e5, e6], (((((n0.trans n1).trans n2).trans n3).trans n4).trans n5).trans n6, ?_, ?_, ?_⟩
  · exact ⟨T6, by rw [k6 0 (by omega), k5 0 (by omega), k4 0 (by omega), k3 0 (by omega), k2 0 (by omega), k1 0 (by omega)]; exact r0, G6, ⟨by rw [k6 3 (by omega), k5 3 (by omega), k4 3 (by omega), k3 3 (by omega), k2 3 (by omega)]; exact r1, by rw [n6.2.2.1 _ (by omega), n5.2.2.1 _ (by omega), n4.2.2.1 _ (by omega), n3.2.2.1 _ (by omega), n2.2.2.1 _ (by omega)]; exact t1⟩, ⟨by rw [k6 5 (by omega), k5 5 (by omega), k4 5 (by omega), k3 5 (by omega)]; exact r2, by rw [n6.2.2.1 _ (by omega), n5.2.2.1 _ (by omega), n4.2.2.1 _ (by omega), n3.2.2.1 _ (by omega)]; exact t2⟩, ⟨by rw [k6 7 (by omega), k5 7 (by omega), k4 7 (by omega)]; exact r3, by rw [n6.2.2.1 _ (by omega), n5.2.2.1 _ (by omega), n4.2.2.1 _ (by omega)]; exact t3⟩, ⟨by rw [k6 8 (by omega), k5 8 (by omega)]; exact r4, by rw [n6.2.2.1 _ (by omega), n5.2.2.1 _ (by omega)]; exact t4⟩, ⟨by rw [k6 10 (by omega)]; exact r5, by rw [n6.2.2.1 _ (by omega)]; exact t5⟩, ⟨r6, t6⟩⟩
  · exact ⟨by rw [k6 10 (by omega)]; exact r5, by rw [n6.2.2.1 _ (by omega)]; exact t5⟩
  · exact ⟨r6, t6⟩
end NEW2
