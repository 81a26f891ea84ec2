/-! ===== objects anew ===== -/
/-- what a constructor of the object g does: new cells behind, all of nothing; old ones as they were, but for g's own references -/
def Nw (S : SH) (I : II) (S' : SH) (I' : II) (g n u : Nat) : Prop := nS S' = nS S + n ∧ uS S' = uS S + u ∧ (∀ y, y < nS S → tT S' y = tT S y) ∧ (∀ y k, y < nS S → y ≠ g → tR S' y k = tR S y k) ∧ (∀ y, y < nS S → I' y = I y) ∧ ∀ y j, nS S ≤ y → y < nS S + n → I' y j = 0
def s20 (c a k t : Nat) (v : Int32) (G : AH → Option AH) (h : AH) : Option AH := if v < 0 ∨ 100000 < v.toNatClampNeg then none else let h101 := al h t v.toNatClampNeg; if (tg h101 a).1 = c then (let h102 := wR h101 a k (nx h); G h102) else none
def o20 (c a k t n : Nat) (init : Nat → AH → Option AH) (G : AH → Option AH) (h : AH) : Option AH := let h1 := al h t n; if (nx h) = 0 then none else (init (nx h) h1).bind fun h2 => if (tg h2 a).1 = c then (let h3 := wR h2 a k (nx h); G h3) else none
section NEW
variable {S S1 S2 : SH} {I I1 I2 : II} {L : LL} {a k t n b j c u u2 n2 : Nat}
theorem Nw.refl (g : Nat) : Nw S I S I g 0 0 := ⟨rfl, rfl, fun _ _ => rfl, fun _ _ _ _ => rfl, fun _ _ => rfl, fun y j h1 h2 => by omega⟩
theorem Nw.trans (h : Nw S I S1 I1 a n u) (h2 : Nw S1 I1 S2 I2 a n2 u2) : Nw S I S2 I2 a (n + n2) (u + u2) := by
  obtain ⟨a1, a2, a3, a4, a5, a6⟩ := h
  obtain ⟨b1, b2, b3, b4, b5, b6⟩ := h2
  refine ⟨by omega, by omega, fun y hy => (b3 y (by omega)).trans (a3 y hy), fun y k hy hg => (b4 y k (by omega) hg).trans (a4 y k hy hg), fun y hy => (b5 y (by omega)).trans (a5 y hy), fun y j q1 q2 => ?_⟩
  by_cases q : y < nS S1
  · rw [b5 y q]; exact a6 y j q1 (by omega)
  · exact b6 y j (by omega) (by omega)
/-- an array of its own -/
theorem x_s20 (G : AH → Option AH) (hT : (tT S a).1 = c) (ha : a < nS S) (hn : n < 5000) (v : Int32) (hv : v = ic n) : ∃ S1 I1 L1, s20 c a k t v G (hp S I L) = G (hp S1 I1 L1) ∧ Nw S I S1 I1 a 1 n ∧ tR S1 a k = nS S ∧ (∀ i, i ≠ k → tR S1 a i = tR S a i) ∧ tT S1 (nS S) = (t, n) := by
  subst hv
  refine ⟨st9 S a k t n, zrI I (nS S), zrL L (nS S), ?_, ⟨st_n, st_u, fun y hy => st_T (by omega), fun y j hy hg => st_R (by omega) hg, fun y hy => zr_n (by omega), fun y j q1 q2 => zr_z (by omega)⟩, st_Rs, fun i hi => st_Rk (by omega) hi, st_Tn rfl⟩
  unfold s20
  rw [if_neg (show ¬ (ic n < 0 ∨ 100000 < (ic n).toNatClampNeg) by
    rw [ic_clamp (by omega)]
    rintro (q | q)
    · rw [ic_lt0 (by omega)] at q; exact q
    · omega), ic_clamp (by omega)]
  show (if (tg (al (hp S I L) t n) a).1 = c then _ else none) = _
  rw [hp_al, if_pos (show (tg (hp (alS S t n) (zrI I (nS S)) (zrL L (nS S))) a).1 = c by rw [hp_tg, al_T (by omega)]; exact hT)]
  rfl
/-- an object of its own -/
theorem x_o20 {init : Nat → AH → Option AH} (G : AH → Option AH) {P : SH → Prop} (hT : (tT S a).1 = c) (ha : a < nS S) (ha0 : 0 < a)
    (hi : ∀ (S1 : SH) (I1 : II) (L1 : LL), nS S1 = nS S + 1 → tT S1 (nS S) = (t, n) → ∃ S2 I2 L2, init (nS S) (hp S1 I1 L1) = some (hp S2 I2 L2) ∧ Nw S1 I1 S2 I2 (nS S) n2 u ∧ P S2) :
    ∃ S2 I2 L2, o20 c a k t n init G (hp S I L) = G (hp (swR S2 a k (nS S)) I2 L2) ∧ Nw S I (swR S2 a k (nS S)) I2 a (1 + n2) (n + u) ∧ tR (swR S2 a k (nS S)) a k = nS S ∧ (∀ i, i ≠ k → tR (swR S2 a k (nS S)) a i = tR S a i) ∧ tT S2 (nS S) = (t, n) ∧ P S2 := by
  obtain ⟨S2, I2, L2, e, ⟨b1, b2, b3, b4, b5, b6⟩, p2⟩ := hi (alS S t n) (zrI I (nS S)) (zrL L (nS S)) (al_n S t n) (al_Tn rfl)
  rw [al_n] at b1 b3 b4 b5 b6
  refine ⟨S2, I2, L2, ?_, ⟨by show nS S2 = _; omega, by show uS S2 = _; rw [b2, al_u]; omega, fun y hy => ?_, fun y j hy hg => ?_, fun y hy => ?_, fun y j q1 q2 => ?_⟩, sw_s _ _ _ _, fun i hi => ?_, ?_, p2⟩
  · unfold o20
    show (if nx (hp S I L) = 0 then none else _) = _
    rw [hp_nx, if_neg (show ¬ nS S = 0 by omega), hp_al]
    refine Eq.trans (bnd e) ?_
    rw [if_pos (show (tg (hp S2 I2 L2) a).1 = c by rw [hp_tg, b3 a (by omega), al_T (by omega)]; exact hT)]
    rfl
  · show tT S2 y = _; rw [b3 y (by omega), al_T (by omega)]
  · rw [sw_a hg, b4 y j (by omega) (by omega), al_R (by omega)]
  · rw [b5 y (by omega), zr_n (by omega)]
  · by_cases q : y = nS S
    · rw [b5 y (by omega)]; exact zr_z q
    · exact b6 y j (by omega) (by omega)
  · rw [sw_k hi, b4 a i (by omega) (by omega), al_R (by omega)]
  · rw [b3 (nS S) (by omega)]; exact al_Tn rfl
theorem st_X1 (a : Nat) (h : AH) : p_X1_init a h = if a = 0 then none else s20 0 a 0 100 (128 : Int32) (s20 0 a 1 100 (16 : Int32) (fun h => some h)) h := rfl
theorem st_X3 (a : Nat) (h : AH) : p_X3_init a h = if a = 0 then none else s20 2 a 0 100 (8 : Int32) (s20 2 a 1 100 (8 : Int32) (s20 2 a 2 100 (8 : Int32) (s20 2 a 3 100 (64 : Int32) (fun h => some h)))) h := rfl
theorem st_X4 (a : Nat) (h : AH) : p_X4_init a h = if a = 0 then none else o20 3 a 0 0 5 p_X1_init (o20 3 a 1 2 7 p_X3_init (fun h => some h)) h := rfl
theorem st_X5 (a : Nat) (h : AH) : p_X5_init a h = if a = 0 then none else s20 4 a 0 101 (900 : Int32) (fun h => some h) h := rfl
theorem st_X6 (a : Nat) (h : AH) : p_X6_init a h = if a = 0 then none else o20 5 a 0 0 5 p_X1_init (s20 5 a 3 102 (128 : Int32) (s20 5 a 5 100 (10 : Int32) (s20 5 a 7 100 (4 : Int32) (s20 5 a 8 100 (4 : Int32) (s20 5 a 10 100 (6 : Int32) (s20 5 a 11 100 (6 : Int32) (fun h => some h))))))) h := rfl
theorem g_new (ha : nS S = a + 1) (ha0 : 0 < a) (hT : tT S a = (0, 5)) : ∃ S' I' L', p_X1_init a (hp S I L) = some (hp S' I' L') ∧ Nw S I S' I' a 2 144 ∧ GL S' a := by
  rw [st_X1, if_neg (show ¬ a = 0 by omega)]
  obtain ⟨S1, I1, L1, e1, n1, r1, k1, t1⟩ := x_s20 (S := S) (I := I) (L := L) (a := a) (c := 0) (k := 0) (t := 100) (n := 128) (s20 0 a 1 100 (16 : Int32) (fun h => some h)) (by rw [hT]) (by omega) (by omega) (128 : Int32) rfl
  have T1 : tT S1 a = (0, 5) := by rw [n1.2.2.1 a (by omega)]; exact hT
  have N1 : nS S1 = a + 2 := by have := n1.1; omega
  obtain ⟨S2, I2, L2, e2, n2, r2, k2, t2⟩ := x_s20 (S := S1) (I := I1) (L := L1) (a := a) (c := 0) (k := 1) (t := 100) (n := 16) (fun h => some h) (by rw [T1]) (by omega) (by omega) (16 : Int32) rfl
  refine ⟨S2, I2, L2, by rw [e1, e2], n1.trans n2, ?_⟩
  rw [ha] at r1 t1
  rw [N1] at r2 t2
  exact ⟨by rw [n2.2.2.1 a (by omega)]; exact T1, by rw [k2 0 (by omega)]; exact r1, r2, by rw [n2.2.2.1 (a + 1) (by omega)]; exact t1, t2⟩
theorem q_new (ha : nS S = a + 1) (ha0 : 0 < a) (hT : tT S a = (2, 7)) : ∃ S' I' L', p_X3_init a (hp S I L) = some (hp S' I' L') ∧ Nw S I S' I' a 4 88 ∧ QL S' a := by
  rw [st_X3, if_neg (show ¬ a = 0 by omega)]
  obtain ⟨S1, I1, L1, e1, n1, r1, k1, t1⟩ := x_s20 (S := S) (I := I) (L := L) (a := a) (c := 2) (k := 0) (t := 100) (n := 8) (s20 2 a 1 100 (8 : Int32) (s20 2 a 2 100 (8 : Int32) (s20 2 a 3 100 (64 : Int32) (fun h => some h)))) (by rw [hT]) (by omega) (by omega) (8 : Int32) rfl
  have T1 : tT S1 a = (2, 7) := by rw [n1.2.2.1 a (by omega)]; exact hT
  have N1 : nS S1 = a + 2 := by have := n1.1; omega
  obtain ⟨S2, I2, L2, e2, n2, r2, k2, t2⟩ := x_s20 (S := S1) (I := I1) (L := L1) (a := a) (c := 2) (k := 1) (t := 100) (n := 8) (s20 2 a 2 100 (8 : Int32) (s20 2 a 3 100 (64 : Int32) (fun h => some h))) (by rw [T1]) (by omega) (by omega) (8 : Int32) rfl
  have T2 : tT S2 a = (2, 7) := by rw [n2.2.2.1 a (by omega)]; exact T1
  have N2 : nS S2 = a + 3 := by have := n2.1; omega
  obtain ⟨S3, I3, L3, e3, n3, r3, k3, t3⟩ := x_s20 (S := S2) (I := I2) (L := L2) (a := a) (c := 2) (k := 2) (t := 100) (n := 8) (s20 2 a 3 100 (64 : Int32) (fun h => some h)) (by rw [T2]) (by omega) (by omega) (8 : Int32) rfl
  have T3 : tT S3 a = (2, 7) := by rw [n3.2.2.1 a (by omega)]; exact T2
  have N3 : nS S3 = a + 4 := by have := n3.1; omega
  obtain ⟨S4, I4, L4, e4, n4, r4, k4, t4⟩ := x_s20 (S := S3) (I := I3) (L := L3) (a := a) (c := 2) (k := 3) (t := 100) (n := 64) (fun h => some h) (by rw [T3]) (by omega) (by omega) (64 : Int32) rfl
  refine ⟨S4, I4, L4, by rw [e1, e2, e3, e4], ((n1.trans n2).trans n3).trans n4, ?_⟩
  rw [ha] at r1 t1
  rw [N1] at r2 t2
  rw [N2] at r3 t3
  rw [N3] at r4 t4
  exact ⟨by rw [n4.2.2.1 a (by omega)]; exact T3, by rw [k4 0 (by omega), k3 0 (by omega), k2 0 (by omega)]; exact r1, by rw [k4 1 (by omega), k3 1 (by omega)]; exact r2, by rw [k4 2 (by omega)]; exact r3, r4, by rw [n4.2.2.1 _ (by omega), n3.2.2.1 _ (by omega), n2.2.2.1 _ (by omega)]; exact t1, by rw [n4.2.2.1 _ (by omega), n3.2.2.1 _ (by omega)]; exact t2, by rw [n4.2.2.1 _ (by omega)]; exact t3, t4⟩
end NEW
