/-! ===== machine: the reference ===== -/
def alS (S : SH) (t n : Nat) : SH := ((nS S + 1, uS S + n), (fun b => if b = nS S then (t, n) else tT S b), (fun b j => if b = nS S then 0 else tR S b j))
def zrI (I : II) (a : Nat) : II := fun b j => if b = a then 0 else I b j
def zrL (L : LL) (a : Nat) : LL := fun b j => if b = a then 0 else L b j
theorem hp_al (S : SH) (I : II) (L : LL) (t n : Nat) : al (hp S I L) t n = hp (alS S t n) (zrI I (nS S)) (zrL L (nS S)) := rfl
theorem hp_nx (S : SH) (I : II) (L : LL) : nx (hp S I L) = nS S := rfl
theorem al_n (S : SH) (t n : Nat) : nS (alS S t n) = nS S + 1 := rfl
theorem al_u (S : SH) (t n : Nat) : uS (alS S t n) = uS S + n := rfl
theorem al_T {S : SH} {t n b : Nat} (h : b ≠ nS S) : tT (alS S t n) b = tT S b := if_neg h
theorem al_Tn {S : SH} {t n b : Nat} (h : b = nS S) : tT (alS S t n) b = (t, n) := if_pos h
theorem al_R {S : SH} {t n b j : Nat} (h : b ≠ nS S) : tR (alS S t n) b j = tR S b j := if_neg h
theorem sw_n (S : SH) (a k v : Nat) : nS (swR S a k v) = nS S := rfl
theorem sw_u (S : SH) (a k v : Nat) : uS (swR S a k v) = uS S := rfl
theorem zr_n {I : II} {a b : Nat} (h : b ≠ a) : zrI I a b = I b := funext fun j => if_neg h
theorem zr_z {I : II} {a b j : Nat} (h : b = a) : zrI I a b j = 0 := if_pos h
theorem zr_0 {I : II} {a b j : Nat} (h : I b j = 0) : zrI I a b j = 0 := by
  unfold zrI
  split
  · rfl
  · exact h
/-- one array more, and its place -/
def st9 (S : SH) (a k t n : Nat) : SH := swR (alS S t n) a k (nS S)
section XMC
variable {S : SH} {I J J' : II} {L L' : LL} {m a c e pl : Nat} {W : WD} {s : St} {T : TS} {k t n b j : Nat}
theorem st_n : nS (st9 S a k t n) = nS S + 1 := rfl
theorem st_u : uS (st9 S a k t n) = uS S + n := rfl
theorem st_T (h : b ≠ nS S) : tT (st9 S a k t n) b = tT S b := if_neg h
theorem st_Tn (h : b = nS S) : tT (st9 S a k t n) b = (t, n) := if_pos h
theorem st_R (h : b ≠ nS S) (h2 : b ≠ a) : tR (st9 S a k t n) b j = tR S b j := by unfold st9; rw [sw_a h2, al_R h]
theorem st_Rk (h : a ≠ nS S) (h2 : j ≠ k) : tR (st9 S a k t n) a j = tR S a j := by unfold st9; rw [sw_k h2, al_R h]
theorem st_Rs : tR (st9 S a k t n) a k = nS S := sw_s _ _ _ _
def s19 (a k t : Nat) (v : Int32) (G : AH → Option AH) (h : AH) : Option AH := if v < 0 ∨ 100000 < v.toNatClampNeg then none else let h101 := al h t v.toNatClampNeg; if (tg h101 a).1 = 7 then (let h102 := wR h101 a k (nx h); G h102) else none
def StP (S S1 : SH) (a k t n : Nat) : Prop := nS S1 = nS S + 1 ∧ uS S1 = uS S + n ∧ (∀ b, b ≠ nS S → tT S1 b = tT S b) ∧ tT S1 (nS S) = (t, n) ∧ (∀ b j, b ≠ nS S → b ≠ a → tR S1 b j = tR S b j) ∧ (∀ j, a ≠ nS S → j ≠ k → tR S1 a j = tR S a j) ∧ tR S1 a k = nS S
theorem x_s19 (G : AH → Option AH) (hT : (tT S a).1 = 7) (ha : a < nS S) (hn : n < 1000) (v : Int32) (hv : v = ic n) : ∃ S1, s19 a k t v G (hp S I L) = G (hp S1 (zrI I (nS S)) (zrL L (nS S))) ∧ StP S S1 a k t n := by
  subst hv
  refine ⟨st9 S a k t n, ?_, st_n, st_u, fun b h => st_T h, st_Tn rfl, fun b j h h2 => st_R h h2, fun j h h2 => st_Rk h h2, st_Rs⟩
  unfold s19
  rw [if_neg (show ¬ (ic n < 0 ∨ 100000 < (ic n).toNatClampNeg) by
    rw [ic_clamp (by omega)]
    rintro (q | q)
    · rw [ic_lt0 (by omega)] at q; exact q
    · omega), ic_clamp (by omega)]
  show (if (tg (al (hp S I L) t n) a).1 = 7 then _ else none) = _
  rw [hp_al, if_pos (show (tg (hp (alS S t n) (zrI I (nS S)) (zrL L (nS S))) a).1 = 7 by rw [hp_tg, al_T (by omega)]; exact hT)]
  rfl
def zs (I : II) (a : Nat) : Nat → II
  | 0 => I
  | i + 1 => zrI (zs I a i) (a + i)
theorem zs_lo (I : II) (a : Nat) : ∀ i b, b < a → zs I a i b = I b := by
  intro i
  induction i with
  | zero => intro b _; rfl
  | succ i ih => intro b hb; rw [show zs I a (i + 1) = zrI (zs I a i) (a + i) from rfl, zr_n (by omega)]; exact ih b hb
theorem zs_in (I : II) (a : Nat) : ∀ i b j, a ≤ b → b < a + i → zs I a i b j = 0 := by
  intro i
  induction i with
  | zero => intro b j h1 h2; omega
  | succ i ih =>
    intro b j h1 h2
    rw [show zs I a (i + 1) = zrI (zs I a i) (a + i) from rfl]
    by_cases e : b = a + i
    · exact zr_z e
    · exact zr_0 (ih b j h1 (by omega))
theorem x_stg (a : Nat) (h : AH) : p_X8_init a h = if a = 0 then none else (s19 a 8 100 (16 : Int32) (s19 a 9 100 (128 : Int32) (s19 a 10 102 (128 : Int32) (s19 a 11 100 (10 : Int32) (s19 a 12 100 (10 : Int32) (s19 a 13 100 (4 : Int32) (s19 a 14 100 (4 : Int32) (s19 a 15 100 (6 : Int32) (s19 a 16 100 (6 : Int32) (s19 a 17 100 (6 : Int32) (fun h => some h))))))))))) h := rfl
/-- a Machine anew: its eleven cells -/
theorem x_new (ha : nS S = a) (ha0 : 0 < a) : ∃ S' L', p_X8_init a (hp (alS S 7 18) (zs I a 1) L) = some (hp S' (zs I a 11) L') ∧ nS S' = a + 11 ∧ uS S' = uS S + 336 ∧ MCL S' a ∧ (∀ y, y < a → tT S' y = tT S y) ∧ ∀ y k, y < a → tR S' y k = tR S y k := by
  have n0 : nS (alS S 7 18) = a + 1 := by rw [al_n, ha]
  have u0 : uS (alS S 7 18) = uS S + 18 := rfl
  have t0 : tT (alS S 7 18) a = (7, 18) := al_Tn ha.symm
  have T0 : ∀ y, y < a → tT (alS S 7 18) y = tT S y := fun y hy => al_T (by omega)
  have R0 : ∀ y k, y < a → tR (alS S 7 18) y k = tR S y k := fun y k hy => al_R (by omega)
  rw [x_stg, if_neg (show ¬ a = 0 by omega)]
  generalize alS S 7 18 = S0 at *
  have f0 : (tT S0 a).1 = 7 := by rw [t0]
  obtain ⟨S1, e1, n1, u1, T1, N1, R1, K1, Z1⟩ := x_s19 (S := S0) (I := zs I a 1) (L := L) (a := a) (k := 8) (t := 100) (n := 16) (s19 a 9 100 (128 : Int32) (s19 a 10 102 (128 : Int32) (s19 a 11 100 (10 : Int32) (s19 a 12 100 (10 : Int32) (s19 a 13 100 (4 : Int32) (s19 a 14 100 (4 : Int32) (s19 a 15 100 (6 : Int32) (s19 a 16 100 (6 : Int32) (s19 a 17 100 (6 : Int32) (fun h => some h)))))))))) f0 (by rw [n0]; exact Nat.lt_add_of_pos_right (by decide)) (by decide) (16 : Int32) rfl
  rw [n0] at n1 T1 N1 R1 K1 Z1
  replace n1 : nS S1 = a + 2 := n1
  rw [n0, show zrI (zs I a 1) (a + 1) = zs I a 2 from rfl] at e1
  generalize zrL L (a + 1) = L1 at e1
  have f1 : (tT S1 a).1 = 7 := by rw [T1 a (Nat.ne_of_lt (Nat.lt_add_of_pos_right (by decide))), t0]
  obtain ⟨S2, e2, n2, u2, T2, N2, R2, K2, Z2⟩ := x_s19 (S := S1) (I := zs I a 2) (L := L1) (a := a) (k := 9) (t := 100) (n := 128) (s19 a 10 102 (128 : Int32) (s19 a 11 100 (10 : Int32) (s19 a 12 100 (10 : Int32) (s19 a 13 100 (4 : Int32) (s19 a 14 100 (4 : Int32) (s19 a 15 100 (6 : Int32) (s19 a 16 100 (6 : Int32) (s19 a 17 100 (6 : Int32) (fun h => some h))))))))) f1 (by rw [n1]; exact Nat.lt_add_of_pos_right (by decide)) (by decide) (128 : Int32) rfl
  rw [n1] at n2 T2 N2 R2 K2 Z2
  replace n2 : nS S2 = a + 3 := n2
  rw [n1, show zrI (zs I a 2) (a + 2) = zs I a 3 from rfl] at e2
  generalize zrL L1 (a + 2) = L2 at e2
  have f2 : (tT S2 a).1 = 7 := by rw [T2 a (Nat.ne_of_lt (Nat.lt_add_of_pos_right (by decide))), T1 a (Nat.ne_of_lt (Nat.lt_add_of_pos_right (by decide))), t0]
  obtain ⟨S3, e3, n3, u3, T3, N3, R3, K3, Z3⟩ := x_s19 (S := S2) (I := zs I a 3) (L := L2) (a := a) (k := 10) (t := 102) (n := 128) (s19 a 11 100 (10 : Int32) (s19 a 12 100 (10 : Int32) (s19 a 13 100 (4 : Int32) (s19 a 14 100 (4 : Int32) (s19 a 15 100 (6 : Int32) (s19 a 16 100 (6 : Int32) (s19 a 17 100 (6 : Int32) (fun h => some h)))))))) f2 (by rw [n2]; exact Nat.lt_add_of_pos_right (by decide)) (by decide) (128 : Int32) rfl
  rw [n2] at n3 T3 N3 R3 K3 Z3
  replace n3 : nS S3 = a + 4 := n3
  rw [n2, show zrI (zs I a 3) (a + 3) = zs I a 4 from rfl] at e3
  generalize zrL L2 (a + 3) = L3 at e3
  have f3 : (tT S3 a).1 = 7 := by rw [T3 a (Nat.ne_of_lt (Nat.lt_add_of_pos_right (by decide))), T2 a (Nat.ne_of_lt (Nat.lt_add_of_pos_right (by decide))), T1 a (Nat.ne_of_lt (Nat.lt_add_of_pos_right (by decide))), t0]
  obtain ⟨S4, e4, n4, u4, T4, N4, R4, K4, Z4⟩ := x_s19 (S := S3) (I := zs I a 4) (L := L3) (a := a) (k := 11) (t := 100) (n := 10) (s19 a 12 100 (10 : Int32) (s19 a 13 100 (4 : Int32) (s19 a 14 100 (4 : Int32) (s19 a 15 100 (6 : Int32) (s19 a 16 100 (6 : Int32) (s19 a 17 100 (6 : Int32) (fun h => some h))))))) f3 (by rw [n3]; exact Nat.lt_add_of_pos_right (by decide)) (by decide) (10 : Int32) rfl
  rw [n3] at n4 T4 N4 R4 K4 Z4
  replace n4 : nS S4 = a + 5 := n4
  rw [n3, show zrI (zs I a 4) (a + 4) = zs I a 5 from rfl] at e4
  generalize zrL L3 (a + 4) = L4 at e4
  have f4 : (tT S4 a).1 = 7 := by rw [T4 a (Nat.ne_of_lt (Nat.lt_add_of_pos_right (by decide))), T3 a (Nat.ne_of_lt (Nat.lt_add_of_pos_right (by decide))), T2 a (Nat.ne_of_lt (Nat.lt_add_of_pos_right (by decide))), T1 a (Nat.ne_of_lt (Nat.lt_add_of_pos_right (by decide))), t0]
  obtain ⟨S5, e5, n5, u5, T5, N5, R5, K5, Z5⟩ := x_s19 (S := S4) (I := zs I a 5) (L := L4) (a := a) (k := 12) (t := 100) (n := 10) (s19 a 13 100 (4 : Int32) (s19 a 14 100 (4 : Int32) (s19 a 15 100 (6 : Int32) (s19 a 16 100 (6 : Int32) (s19 a 17 100 (6 : Int32) (fun h => some h)))))) f4 (by rw [n4]; exact Nat.lt_add_of_pos_right (by decide)) (by decide) (10 : Int32) rfl
  rw [n4] at n5 T5 N5 R5 K5 Z5
  replace n5 : nS S5 = a + 6 := n5
  rw [n4, show zrI (zs I a 5) (a + 5) = zs I a 6 from rfl] at e5
  generalize zrL L4 (a + 5) = L5 at e5
  have f5 : (tT S5 a).1 = 7 := by rw [T5 a (Nat.ne_of_lt (Nat.lt_add_of_pos_right (by decide))), T4 a (Nat.ne_of_lt (Nat.lt_add_of_pos_right (by decide))), T3 a (Nat.ne_of_lt (Nat.lt_add_of_pos_right (by decide))), T2 a (Nat.ne_of_lt (Nat.lt_add_of_pos_right (by decide))), T1 a (Nat.ne_of_lt (Nat.lt_add_of_pos_right (by decide))), t0]
  obtain ⟨S6, e6, n6, u6, T6, N6, R6, K6, Z6⟩ := x_s19 (S := S5) (I := zs I a 6) (L := L5) (a := a) (k := 13) (t := 100) (n := 4) (s19 a 14 100 (4 : Int32) (s19 a 15 100 (6 : Int32) (s19 a 16 100 (6 : Int32) (s19 a 17 100 (6 : Int32) (fun h => some h))))) f5 (by rw [n5]; exact Nat.lt_add_of_pos_right (by decide)) (by decide) (4 : Int32) rfl
  rw [n5] at n6 T6 N6 R6 K6 Z6
  replace n6 : nS S6 = a + 7 := n6
  rw [n5, show zrI (zs I a 6) (a + 6) = zs I a 7 from rfl] at e6
  generalize zrL L5 (a + 6) = L6 at e6
  have f6 : (tT S6 a).1 = 7 := by rw [T6 a (Nat.ne_of_lt (Nat.lt_add_of_pos_right (by decide))), T5 a (Nat.ne_of_lt (Nat.lt_add_of_pos_right (by decide))), T4 a (Nat.ne_of_lt (Nat.lt_add_of_pos_right (by decide))), T3 a (Nat.ne_of_lt (Nat.lt_add_of_pos_right (by decide))), T2 a (Nat.ne_of_lt (Nat.lt_add_of_pos_right (by decide))), T1 a (Nat.ne_of_lt (Nat.lt_add_of_pos_right (by decide))), t0]
  obtain ⟨S7, e7, n7, u7, T7, N7, R7, K7, Z7⟩ := x_s19 (S := S6) (I := zs I a 7) (L := L6) (a := a) (k := 14) (t := 100) (n := 4) (s19 a 15 100 (6 : Int32) (s19 a 16 100 (6 : Int32) (s19 a 17 100 (6 : Int32) (fun h => some h)))) f6 (by rw [n6]; exact Nat.lt_add_of_pos_right (by decide)) (by decide) (4 : Int32) rfl
  rw [n6] at n7 T7 N7 R7 K7 Z7
  replace n7 : nS S7 = a + 8 := n7
  rw [n6, show zrI (zs I a 7) (a + 7) = zs I a 8 from rfl] at e7
  generalize zrL L6 (a + 7) = L7 at e7
  have f7 : (tT S7 a).1 = 7 := by rw [T7 a (Nat.ne_of_lt (Nat.lt_add_of_pos_right (by decide))), T6 a (Nat.ne_of_lt (Nat.lt_add_of_pos_right (by decide))), T5 a (Nat.ne_of_lt (Nat.lt_add_of_pos_right (by decide))), T4 a (Nat.ne_of_lt (Nat.lt_add_of_pos_right (by decide))), T3 a (Nat.ne_of_lt (Nat.lt_add_of_pos_right (by decide))), T2 a (Nat.ne_of_lt (Nat.lt_add_of_pos_right (by decide))), T1 a (Nat.ne_of_lt (Nat.lt_add_of_pos_right (by decide))), t0]
  obtain ⟨S8, e8, n8, u8, T8, N8, R8, K8, Z8⟩ := x_s19 (S := S7) (I := zs I a 8) (L := L7) (a := a) (k := 15) (t := 100) (n := 6) (s19 a 16 100 (6 : Int32) (s19 a 17 100 (6 : Int32) (fun h => some h))) f7 (by rw [n7]; exact Nat.lt_add_of_pos_right (by decide)) (by decide) (6 : Int32) rfl
  rw [n7] at n8 T8 N8 R8 K8 Z8
  replace n8 : nS S8 = a + 9 := n8
  rw [n7, show zrI (zs I a 8) (a + 8) = zs I a 9 from rfl] at e8
  generalize zrL L7 (a + 8) = L8 at e8
  have f8 : (tT S8 a).1 = 7 := by rw [T8 a (Nat.ne_of_lt (Nat.lt_add_of_pos_right (by decide))), T7 a (Nat.ne_of_lt (Nat.lt_add_of_pos_right (by decide))), T6 a (Nat.ne_of_lt (Nat.lt_add_of_pos_right (by decide))), T5 a (Nat.ne_of_lt (Nat.lt_add_of_pos_right (by decide))), T4 a (Nat.ne_of_lt (Nat.lt_add_of_pos_right (by decide))), T3 a (Nat.ne_of_lt (Nat.lt_add_of_pos_right (by decide))), T2 a (Nat.ne_of_lt (Nat.lt_add_of_pos_right (by decide))), T1 a (Nat.ne_of_lt (Nat.lt_add_of_pos_right (by decide))), t0]
  obtain ⟨S9, e9, n9, u9, T9, N9, R9, K9, Z9⟩ := x_s19 (S := S8) (I := zs I a 9) (L := L8) (a := a) (k := 16) (t := 100) (n := 6) (s19 a 17 100 (6 : Int32) (fun h => some h)) f8 (by rw [n8]; exact Nat.lt_add_of_pos_right (by decide)) (by decide) (6 : Int32) rfl
  rw [n8] at n9 T9 N9 R9 K9 Z9
  replace n9 : nS S9 = a + 10 := n9
  rw [n8, show zrI (zs I a 9) (a + 9) = zs I a 10 from rfl] at e9
  generalize zrL L8 (a + 9) = L9 at e9
  have f9 : (tT S9 a).1 = 7 := by rw [T9 a (Nat.ne_of_lt (Nat.lt_add_of_pos_right (by decide))), T8 a (Nat.ne_of_lt (Nat.lt_add_of_pos_right (by decide))), T7 a (Nat.ne_of_lt (Nat.lt_add_of_pos_right (by decide))), T6 a (Nat.ne_of_lt (Nat.lt_add_of_pos_right (by decide))), T5 a (Nat.ne_of_lt (Nat.lt_add_of_pos_right (by decide))), T4 a (Nat.ne_of_lt (Nat.lt_add_of_pos_right (by decide))), T3 a (Nat.ne_of_lt (Nat.lt_add_of_pos_right (by decide))), T2 a (Nat.ne_of_lt (Nat.lt_add_of_pos_right (by decide))), T1 a (Nat.ne_of_lt (Nat.lt_add_of_pos_right (by decide))), t0]
  obtain ⟨S10, e10, n10, u10, T10, N10, R10, K10, Z10⟩ := x_s19 (S := S9) (I := zs I a 10) (L := L9) (a := a) (k := 17) (t := 100) (n := 6) (fun h => some h) f9 (by rw [n9]; exact Nat.lt_add_of_pos_right (by decide)) (by decide) (6 : Int32) rfl
  rw [n9] at n10 T10 N10 R10 K10 Z10
  replace n10 : nS S10 = a + 11 := n10
  rw [n9, show zrI (zs I a 10) (a + 10) = zs I a 11 from rfl] at e10
  generalize zrL L9 (a + 10) = L10 at e10
  have ne : ∀ i j : Nat, i ≠ j → a + i ≠ a + j := fun i j h q => h (Nat.add_left_cancel q)
  have na : ∀ j : Nat, 0 < j → a ≠ a + j := fun j h q => by omega
  refine ⟨S10, L10, ?_, n10, ?_, ?_, fun y hy => ?_, fun y k hy => ?_⟩
  · rw [e1, e2, e3, e4, e5, e6, e7, e8, e9, e10]
  · rw [u10, u9, u8, u7, u6, u5, u4, u3, u2, u1, u0]
  · exact ⟨by rw [T10 _ (na 10 (by decide)), T9 _ (na 9 (by decide)), T8 _ (na 8 (by decide)), T7 _ (na 7 (by decide)), T6 _ (na 6 (by decide)), T5 _ (na 5 (by decide)), T4 _ (na 4 (by decide)), T3 _ (na 3 (by decide)), T2 _ (na 2 (by decide)), T1 _ (na 1 (by decide)), t0], ⟨by rw [K10 _ (na 10 (by decide)) (by decide), K9 _ (na 9 (by decide)) (by decide), K8 _ (na 8 (by decide)) (by decide), K7 _ (na 7 (by decide)) (by decide), K6 _ (na 6 (by decide)) (by decide), K5 _ (na 5 (by decide)) (by decide), K4 _ (na 4 (by decide)) (by decide), K3 _ (na 3 (by decide)) (by decide), K2 _ (na 2 (by decide)) (by decide), Z1], by rw [T10 _ (ne 1 10 (by decide)), T9 _ (ne 1 9 (by decide)), T8 _ (ne 1 8 (by decide)), T7 _ (ne 1 7 (by decide)), T6 _ (ne 1 6 (by decide)), T5 _ (ne 1 5 (by decide)), T4 _ (ne 1 4 (by decide)), T3 _ (ne 1 3 (by decide)), T2 _ (ne 1 2 (by decide)), N1]⟩, ⟨by rw [K10 _ (na 10 (by decide)) (by decide), K9 _ (na 9 (by decide)) (by decide), K8 _ (na 8 (by decide)) (by decide), K7 _ (na 7 (by decide)) (by decide), K6 _ (na 6 (by decide)) (by decide), K5 _ (na 5 (by decide)) (by decide), K4 _ (na 4 (by decide)) (by decide), K3 _ (na 3 (by decide)) (by decide), Z2], by rw [T10 _ (ne 2 10 (by decide)), T9 _ (ne 2 9 (by decide)), T8 _ (ne 2 8 (by decide)), T7 _ (ne 2 7 (by decide)), T6 _ (ne 2 6 (by decide)), T5 _ (ne 2 5 (by decide)), T4 _ (ne 2 4 (by decide)), T3 _ (ne 2 3 (by decide)), N2]⟩, ⟨by rw [K10 _ (na 10 (by decide)) (by decide), K9 _ (na 9 (by decide)) (by decide), K8 _ (na 8 (by decide)) (by decide), K7 _ (na 7 (by decide)) (by decide), K6 _ (na 6 (by decide)) (by decide), K5 _ (na 5 (by decide)) (by decide), K4 _ (na 4 (by decide)) (by decide), Z3], by rw [T10 _ (ne 3 10 (by decide)), T9 _ (ne 3 9 (by decide)), T8 _ (ne 3 8 (by decide)), T7 _ (ne 3 7 (by decide)), T6 _ (ne 3 6 (by decide)), T5 _ (ne 3 5 (by decide)), T4 _ (ne 3 4 (by decide)), N3]⟩, ⟨by rw [K10 _ (na 10 (by decide)) (by decide), K9 _ (na 9 (by decide)) (by decide), K8 _ (na 8 (by decide)) (by decide), K7 _ (na 7 (by decide)) (by decide), K6 _ (na 6 (by decide)) (by decide), K5 _ (na 5 (by decide)) (by decide), Z4], by rw [T10 _ (ne 4 10 (by decide)), T9 _ (ne 4 9 (by decide)), T8 _ (ne 4 8 (by decide)), T7 _ (ne 4 7 (by decide)), T6 _ (ne 4 6 (by decide)), T5 _ (ne 4 5 (by decide)), N4]⟩, ⟨by rw [K10 _ (na 10 (by decide)) (by decide), K9 _ (na 9 (by decide)) (by decide), K8 _ (na 8 (by decide)) (by decide), K7 _ (na 7 (by decide)) (by decide), K6 _ (na 6 (by decide)) (by decide), Z5], by rw [T10 _ (ne 5 10 (by decide)), T9 _ (ne 5 9 (by decide)), T8 _ (ne 5 8 (by decide)), T7 _ (ne 5 7 (by decide)), T6 _ (ne 5 6 (by decide)), N5]⟩, ⟨by rw [K10 _ (na 10 (by decide)) (by decide), K9 _ (na 9 (by decide)) (by decide), K8 _ (na 8 (by decide)) (by decide), K7 _ (na 7 (by decide)) (by decide), Z6], by rw [T10 _ (ne 6 10 (by decide)), T9 _ (ne 6 9 (by decide)), T8 _ (ne 6 8 (by decide)), T7 _ (ne 6 7 (by decide)), N6]⟩, ⟨by rw [K10 _ (na 10 (by decide)) (by decide), K9 _ (na 9 (by decide)) (by decide), K8 _ (na 8 (by decide)) (by decide), Z7], by rw [T10 _ (ne 7 10 (by decide)), T9 _ (ne 7 9 (by decide)), T8 _ (ne 7 8 (by decide)), N7]⟩, ⟨by rw [K10 _ (na 10 (by decide)) (by decide), K9 _ (na 9 (by decide)) (by decide), Z8], by rw [T10 _ (ne 8 10 (by decide)), T9 _ (ne 8 9 (by decide)), N8]⟩, ⟨by rw [K10 _ (na 10 (by decide)) (by decide), Z9], by rw [T10 _ (ne 9 10 (by decide)), N9]⟩, ⟨by rw [Z10], by rw [N10]⟩⟩
  · have yn : ∀ j, y ≠ a + j := fun j q => by rw [q] at hy; exact absurd hy (Nat.not_lt.mpr (Nat.le_add_right a j))
    rw [T10 _ (yn 10), T9 _ (yn 9), T8 _ (yn 8), T7 _ (yn 7), T6 _ (yn 6), T5 _ (yn 5), T4 _ (yn 4), T3 _ (yn 3), T2 _ (yn 2), T1 _ (yn 1), T0 y hy]
  · have yn : ∀ j, y ≠ a + j := fun j q => by rw [q] at hy; exact absurd hy (Nat.not_lt.mpr (Nat.le_add_right a j))
    rw [R10 _ _ (yn 10) (Nat.ne_of_lt hy), R9 _ _ (yn 9) (Nat.ne_of_lt hy), R8 _ _ (yn 8) (Nat.ne_of_lt hy), R7 _ _ (yn 7) (Nat.ne_of_lt hy), R6 _ _ (yn 6) (Nat.ne_of_lt hy), R5 _ _ (yn 5) (Nat.ne_of_lt hy), R4 _ _ (yn 4) (Nat.ne_of_lt hy), R3 _ _ (yn 3) (Nat.ne_of_lt hy), R2 _ _ (yn 2) (Nat.ne_of_lt hy), R1 _ _ (yn 1) (Nat.ne_of_lt hy), R0 y k hy]
theorem mr_00 (h : ∀ y j, a ≤ y → y ≤ a + 10 → I y j = 0) : MR I a T00 := by
  refine ⟨h a 0 (by omega) (by omega), h a 1 (by omega) (by omega), ⟨0, by omega, h a 2 (by omega) (by omega), fun f _ => Nat.zero_testBit f⟩, h a 3 (by omega) (by omega), h a 4 (by omega) (by omega), ⟨h a 5 (by omega) (by omega), fun i hi => absurd hi (Nat.not_lt_zero i)⟩, ⟨h a 6 (by omega) (by omega), fun i hi => absurd hi (Nat.not_lt_zero i)⟩, ⟨h a 7 (by omega) (by omega), fun i hi => absurd hi (Nat.not_lt_zero i)⟩, fun f _ => h (a + 1) f (by omega) (by omega), fun k _ => h (a + 2) k (by omega) (by omega), fun k _ => h (a + 3) k (by omega) (by omega)⟩
end XMC
