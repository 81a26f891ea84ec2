/-! ===== machine: the reference's call ===== -/
def wq (m j : Nat) (v : Int32) (G : AH → Option (Int32 × AH)) (h : AH) : Option (Int32 × AH) := if (tg h m).1 = 8 then (let h1 := wI h m j v; G h1) else none
def xt9 (m : Nat) (h : AH) : Option (Int32 × AH) := if (tg h m).1 = 8 then (if 0 < (rI h m 12) then (wq m 1 4 (fun h134 => if (tg h134 m).1 = 8 then (if (tg h134 m).1 = 8 then (let h135 := wI h134 m 2 (rI h134 m 13); some (((-1 : Int32)), h135)) else none) else none) h) else p_X9_machine_89 m h) else none
def xr9 (m : Nat) (h : AH) : Option (Int32 × AH) := if (tg h m).1 = 8 then ((p_X9_goesOn m h).bind fun h121 => if (tg h121 m).1 = 8 then ((p_X9_readAll m h121).bind fun h122 => xt9 m h122) else none) else none
theorem x_m23 (m : Nat) (x : Int32) (h : AH) : p_X9_machine_23 m x h = wq m 7 x (wq m 6 0 (wq m 8 0 (wq m 12 0 (fun h116 => if nx h116 = 0 then none else (p_X8_init (nx h116) (al h116 7 18)).bind fun h118 => if (tg h118 m).1 = 8 then wq m 9 0 (xr9 m) (wR h118 m 4 (nx h116)) else none)))) h := rfl
def xe9 (m : Nat) (h : AH) : Option (Int32 × AH) := if (tg h m).1 = 8 then (if (tg h (rR h m 3)).1 = 7 then (if (tg h m).1 = 8 then ((p_X9_good m (rI h (rR h m 3) 0) h).bind fun q112 => some (q112.1, q112.2)) else none) else none) else none
def xz9 (m : Nat) (h : AH) : Option (Int32 × AH) := if (tg h m).1 = 8 then ((p_X9_asTold m 0 h).bind fun h103 => if (tg h103 m).1 = 8 then ((p_X9_remains m h103).bind fun h104 => wq m 19 0 (wq m 20 0 (wq m 21 0 (wq m 22 0 (wq m 23 0 (wq m 24 0 (wq m 25 0 (xe9 m))))))) h104) else none) else none
theorem x_m89 (m : Nat) (h : AH) : p_X9_machine_89 m h = if (tg h m).1 = 8 then (if (tg h m).1 = 8 then xz9 m (wR h m 3 (rR h m 4)) else none) else none := rfl
section XMD
variable {S : SH} {I J J' : II} {L L' : LL} {m a c e pl : Nat} {W : WD} {s : St} {T : TS} {k t n b j : Nat}
theorem wq_ok (h8 : tT S m = (8, 41)) (j : Nat) (v : Int32) (G : AH → Option (Int32 × AH)) : wq m j v G (hp S I L) = G (hp S (up2 I m j v) L) := by
  unfold wq
  rw [if_pos (show (tg (hp S I L) m).1 = 8 by rw [hp_tg, h8])]
  rfl
/-- what a call of the reference says, when Machines may come -/
def XD (S : SH) (I : II) (m : Nat) (oo : Option (Int32 × AH)) (z : Int32 × WD) : Prop := ∃ S' J L' a, oo = some (z.1, hp S' J L') ∧ (∀ y, y < nS S → tT S' y = tT S y) ∧ (∀ y k, y < nS S → y ≠ m → tR S' y k = tR S y k) ∧ (∀ k, k ≠ 3 → k ≠ 4 → tR S' m k = tR S m k) ∧ nS S ≤ nS S' ∧ nS S' ≤ nS S + 11 ∧ uS S ≤ uS S' ∧ uS S' ≤ uS S + 336 ∧ m + 6 < a ∧ LM S' m a (vR z.2) ∧ XI J m a z.2 ∧ ∀ y, y < m → J y = I y
theorem xd_of {oo : Option (Int32 × AH)} {z : Int32 × WD} (H : XH S I m a W c) (hz : vR z.2 = vR W) (h : XC S I m a oo z) : XD S I m oo z := by
  obtain ⟨J, L', h1, h2, h3⟩ := h
  exact ⟨S, J, L', a, h1, fun _ _ => rfl, fun _ _ _ _ => rfl, fun _ _ _ => rfl, Nat.le_refl _, by omega, Nat.le_refl _, by omega, H.2.1, by rw [hz]; exact H.2.2.1, h2, h3⟩
theorem ML.lc {S' : SH} (h : ML S m) (eT : ∀ y, m ≤ y → y ≤ m + 6 → tT S' y = tT S y) (eR : ∀ k, k ≠ 3 → k ≠ 4 → tR S' m k = tR S m k) : ML S' m := by
  unfold ML at h ⊢
  rw [eT m (by omega) (by omega), eT (m + 1) (by omega) (by omega), eT (m + 2) (by omega) (by omega), eT (m + 3) (by omega) (by omega), eT (m + 4) (by omega) (by omega), eT (m + 5) (by omega) (by omega), eT (m + 6) (by omega) (by omega), eR 5 (by omega) (by omega), eR 15 (by omega) (by omega), eR 16 (by omega) (by omega), eR 17 (by omega) (by omega), eR 18 (by omega) (by omega), eR 39 (by omega) (by omega)]
  exact h
theorem MCL.lc {S' : SH} (h : MCL S a) (eT : ∀ y, a ≤ y → y ≤ a + 10 → tT S' y = tT S y) (eR : ∀ k, tR S' a k = tR S a k) : MCL S' a := by
  unfold MCL at h ⊢
  rw [eT a (by omega) (by omega), eT (a + 1) (by omega) (by omega), eT (a + 2) (by omega) (by omega), eT (a + 3) (by omega) (by omega), eT (a + 4) (by omega) (by omega), eT (a + 5) (by omega) (by omega), eT (a + 6) (by omega) (by omega), eT (a + 7) (by omega) (by omega), eT (a + 8) (by omega) (by omega), eT (a + 9) (by omega) (by omega), eT (a + 10) (by omega) (by omega), eR 8, eR 9, eR 10, eR 11, eR 12, eR 13, eR 14, eR 15, eR 16, eR 17]
  exact h
theorem xc_machine (H : XH S I m a W c) (h217 : m = 217) (hN : 225 ≤ nS S) (v : Int32) : XD S I m (p_X9_machine m v (hp S I L)) (mcD W v) := by
  have H9 := H
  obtain ⟨hL, hm, hM, hX, hV⟩ := H9
  have hn := hV.1
  have t8 := hL.t
  have X0 : XI (up2 I m 0 0) m a W := hX.q0 hm (Xq.z I m) (up_k (by omega)) (up_k (by omega))
  have c6 := X0.2.1
  unfold mcD
  by_cases z : ok true (vN W + 1) v = true
  · rw [if_pos z]
    obtain ⟨-, k, hk, rfl⟩ := ok_t (by omega) z
    rw [ic_clamp (show k < 2147483648 by omega)]
    have Q : p_X9_machine m (ic k) (hp S I L) = p_X9_machine_23 m (ic k) (hp S (up2 I m 0 0) L) := by
      unfold p_X9_machine
      rw [if_pos (show (tg (hp S I L) m).1 = 8 by rw [hp_tg, t8])]
      show (if ic k < 0 then _ else _) = _
      rw [if_neg (show ¬ ic k < 0 by rw [ic_lt0 (by omega)]; exact not_false), hp_wI, if_pos (show (tg (hp S (up2 I m 0 0) L) m).1 = 8 by rw [hp_tg, t8]), if_neg (show ¬ rI (hp S (up2 I m 0 0) L) m 6 < ic k by rw [hp_rI, c6, ic_lt (by omega) (by omega)]; omega)]
      rfl
    rw [Q, x_m23, wq_ok t8, wq_ok t8, wq_ok t8, wq_ok t8]
    obtain ⟨x1, x6, xt, x12, d19, d20, d21, d22, d23, d24, d25, xp, xk, xr⟩ := hX
    obtain ⟨I4, h4⟩ : ∃ I4, I4 = up2 (up2 (up2 (up2 (up2 I m 0 0) m 7 (ic k)) m 6 0) m 8 0) m 12 0 := ⟨_, rfl⟩
    have i4y : ∀ y, y ≠ m → I4 y = I y := fun y hy => funext fun j => by rw [h4, up_a hy, up_a hy, up_a hy, up_a hy, up_a hy]
    have i4j : ∀ j, 12 < j → I4 m j = I m j := fun j hj => by rw [h4, up_k (by omega), up_k (by omega), up_k (by omega), up_k (by omega), up_k (by omega)]
    have i46 : I4 m 6 = 0 := by rw [h4, up_k (by omega), up_k (by omega), up_s]
    have i47 : I4 m 7 = ic k := by rw [h4, up_k (by omega), up_k (by omega), up_k (by omega), up_s]
    have i48 : I4 m 8 = 0 := by rw [h4, up_k (by omega), up_s]
    have i412 : I4 m 12 = 0 := by rw [h4, up_s]
    rw [← h4]
    obtain ⟨a', ha'⟩ : ∃ a', a' = nS S := ⟨_, rfl⟩
    obtain ⟨S1, L1, e1, n1, u1, M1, T1, R1⟩ := x_new (S := S) (I := I4) (L := zrL L a') (a := a') ha'.symm (by omega)
    have e1' : p_X8_init (nx (hp S I4 L)) (al (hp S I4 L) 7 18) = some (hp S1 (zs I4 a' 11) L1) := by
      rw [hp_al, hp_nx, ← ha']
      exact e1
    have t81 : tT S1 m = (8, 41) := by rw [T1 m (by omega)]; exact t8
    obtain ⟨S2, h2⟩ : ∃ S2, S2 = swR S1 m 4 a' := ⟨_, rfl⟩
    have T2 : ∀ y, tT S2 y = tT S1 y := fun y => by rw [h2]; rfl
    have R2 : ∀ y k, y ≠ m → tR S2 y k = tR S1 y k := fun y k hy => by rw [h2, sw_a hy]
    have R2m : ∀ k, k ≠ 4 → tR S2 m k = tR S1 m k := fun k hk => by rw [h2, sw_k hk]
    have R24 : tR S2 m 4 = a' := by rw [h2, sw_s]
    have N2 : nS S2 = a' + 11 := by rw [h2]; exact n1
    have U2 : uS S2 = uS S + 336 := by rw [h2]; exact u1
    have hL2 : ML S2 m := hL.lc (fun y q1 q2 => by rw [T2, T1 y (by omega)]) (fun j q1 q2 => by rw [R2m j q2, R1 m j (by omega)])
    have M2 : MCL S2 a' := M1.lc (fun y _ _ => T2 y) (fun j => R2 a' j (by omega))
    obtain ⟨I5, h5⟩ : ∃ I5, I5 = up2 (zs I4 a' 11) m 9 0 := ⟨_, rfl⟩
    have i5lo : ∀ y, y ≠ m → y < a' → I5 y = I y := fun y q1 q2 => by rw [← i4y y q1, ← zs_lo I4 a' 11 y q2, h5]; exact funext fun j => up_a q1
    have i5j : ∀ j, j ≠ 9 → I5 m j = I4 m j := fun j hj => by rw [h5, up_k hj, zs_lo I4 a' 11 m (by omega)]
    have i5z : ∀ y j, a' ≤ y → y ≤ a' + 10 → I5 y j = 0 := fun y j q1 q2 => by rw [h5, up_a (by omega)]; exact zs_in I4 a' 11 y j q1 (by omega)
    have i59 : I5 m 9 = 0 := by rw [h5, up_s]
    have Q2 : (if nx (hp S I4 L) = 0 then none else (p_X8_init (nx (hp S I4 L)) (al (hp S I4 L) 7 18)).bind fun h118 => if (tg h118 m).1 = 8 then wq m 9 0 (xr9 m) (wR h118 m 4 (nx (hp S I4 L))) else none) = xr9 m (hp S2 I5 L1) := by
      rw [if_neg (show ¬ nx (hp S I4 L) = 0 by rw [hp_nx]; omega)]
      refine Eq.trans (bnd e1') ?_
      rw [if_pos (show (tg (hp S1 (zs I4 a' 11) L1) m).1 = 8 by rw [hp_tg, t81]), hp_nx, ← ha', hp_wR, ← h2, wq_ok (by rw [T2]; exact t81), ← h5]
    rw [Q2]
    have tp5 : TP I5 (m + 1) (vY W) := fun j hj => by rw [i5lo (m + 1) (by omega) (by omega)]; exact xt j hj
    obtain ⟨I6, L6, e6, rt6, g6, f6⟩ := x_goes (S := S2) (I := I5) (L := L1) (b := vY W) (n := k) (p := 0) hL2 tp5 (by rw [i5j 7 (by omega)]; exact i47) (by omega) (by rw [i5j 8 (by omega)]; exact i48) (by omega) (s9 := 0) i59 (by omega)
    have i6lo : ∀ y, y ≠ m → y < a' → I6 y = I y := fun y q1 q2 => (f6 y q1).trans (i5lo y q1 q2)
    have i6z : ∀ y j, a' ≤ y → y ≤ a' + 10 → I6 y j = 0 := fun y j q1 q2 => by rw [f6 y (by omega)]; exact i5z y j q1 q2
    have i6j : ∀ j, 12 < j → I6 m j = I m j := fun j hj => by rw [g6 j (by omega), i5j j (by omega), i4j j hj]
    have i66 : I6 m 6 = 0 := by rw [g6 6 (by omega), i5j 6 (by omega)]; exact i46
    have i67 : I6 m 7 = ic k := by rw [g6 7 (by omega), i5j 7 (by omega)]; exact i47
    have i612 : I6 m 12 = 0 := by rw [g6 12 (by omega), i5j 12 (by omega)]; exact i412
    have rs6 : RS I6 L6 m (vY W) k (tok (vY W) k 0) := ⟨i67, fun j hj => by rw [i6lo (m + 1) (by omega) (by omega)]; exact xt j hj, rt6, tok_ok (Nat.zero_le k), by omega⟩
    have RD := x_rd (S := S2) (b := vY W) (n := k) hL2 R24 M2 (by omega) 901 FU rs6 (mr_00 i6z) tv_00 px_00 (by omega) (fu_lt (by decide))
    have s8 : ∀ (K : II) (L9 : LL), (tg (hp S2 K L9) m).1 = 8 := fun K L9 => by rw [hp_tg, hL2.t]
    have RD2 : XO S2 I6 m a' (vY W) k (p_X9_readAll m (hp S2 I6 L6)) (rr (vY W) k) := RD
    have Q4 : xr9 m (hp S2 I5 L1) = (p_X9_readAll m (hp S2 I6 L6)).bind fun h122 => xt9 m h122 := by
      unfold xr9
      rw [if_pos (s8 _ _)]
      refine Eq.trans (bnd e6) ?_
      rw [if_pos (s8 _ _)]
    rw [Q4]
    cases q9 : rr (vY W) k with
    | inl r =>
      obtain ⟨r1, r2⟩ := rr_inl (by omega) q9
      rw [q9] at RD2
      obtain ⟨J, L7, e7, j9, j12, j13, fj, fy⟩ := RD2
      have ylo : ∀ y, y ≠ m → y < a' → up2 (up2 J m 1 4) m 2 (ic r.2) y = I y := fun y q1 q2 => by rw [← i6lo y q1 q2, ← fy y q1 (Or.inl q2)]; exact funext fun j => by rw [up_a q1, up_a q1]
      have ej : ∀ j, 13 < j → up2 (up2 J m 1 4) m 2 (ic r.2) m j = I m j := fun j hj => by rw [up_k (by omega), up_k (by omega), fj j (by omega), i6j j (by omega)]
      have e13 : up2 J m 1 4 m 13 = ic r.2 := by rw [up_k (by omega)]; exact j13
      refine ⟨S2, up2 (up2 J m 1 4) m 2 (ic r.2), L7, a, ?_, fun y hy => by rw [T2, T1 y (by omega)], fun y j hy hy2 => by rw [R2 y j hy2, R1 y j (by omega)], fun j q1 q2 => by rw [R2m j q2, R1 m j (by omega)], by omega, by omega, by omega, by omega, hm, ⟨fun zr => ?_, fun zr => ?_⟩, ⟨⟨by rw [up_k (by omega), up_s]; rfl, up_s _ _ _ _⟩, by rw [up_k (by omega), up_k (by omega), fj 6 (by omega)]; exact i66, fun j hj => by rw [ylo (m + 1) (by omega) (by omega)]; exact xt j hj, by rw [up_k (by omega), up_k (by omega)]; exact j12, by rw [ej 19 (by omega)]; exact d19, by rw [ej 20 (by omega)]; exact d20, by rw [ej 21 (by omega)]; exact d21, by rw [ej 22 (by omega)]; exact d22, by rw [ej 23 (by omega)]; exact d23, by rw [ej 24 (by omega)]; exact d24, by rw [ej 25 (by omega)]; exact d25, ?_, ?_, fun zr => ?_⟩, fun y hy => ylo y (by omega) (by omega)⟩
      · refine Eq.trans (bnd e7) ?_
        unfold xt9
        rw [if_pos (s8 _ _), hp_rI, j12, if_pos (show (0 : Int32) < ic r.1 by rw [ic_0lt (by omega)]; exact r1), wq_ok hL2.t]
        show (if (tg (hp S2 (up2 J m 1 4) L7) m).1 = 8 then _ else none) = _
        rw [if_pos (s8 _ _), if_pos (s8 _ _), hp_rI, e13]
        rfl
      · obtain ⟨l1, l2, l3, l4⟩ := hM.1 zr
        exact ⟨by rw [R2m 3 (by omega), R1 m 3 (by omega)]; exact l1, l2, by omega, l4.lc (fun y q1 q2 => by rw [T2, T1 y (by omega)]) (fun j => by rw [R2 a j (by omega), R1 a j (by omega)])⟩
      · rw [R2m 3 (by omega), R1 m 3 (by omega)]; exact hM.2 zr
      · unfold PW; rw [ylo (m + 4) (by omega) (by omega)]; exact xp
      · rw [ylo (m + 5) (by omega) (by omega)]; exact xk
      · obtain ⟨l1, l2, l3, l4⟩ := hM.1 zr
        exact ⟨(xr zr).1.lc fun y _ _ => ylo y (by omega) (by omega), by rw [ylo (m + 2) (by omega) (by omega)]; exact (xr zr).2⟩
    | inr r =>
      obtain ⟨T, k'⟩ := r
      obtain ⟨r1, r2⟩ := rr_inr q9
      rw [q9] at RD2
      obtain ⟨J, L7, e7, -, jM, j12, j13, fj, fy⟩ := RD2
      obtain ⟨S3, h3⟩ : ∃ S3, S3 = swR S2 m 3 a' := ⟨_, rfl⟩
      have T3 : ∀ y, tT S3 y = tT S2 y := fun y => by rw [h3]; rfl
      have R3 : ∀ y k, y ≠ m → tR S3 y k = tR S2 y k := fun y k hy => by rw [h3, sw_a hy]
      have R3m : ∀ k, k ≠ 3 → tR S3 m k = tR S2 m k := fun k hk => by rw [h3, sw_k hk]
      have R33 : tR S3 m 3 = a' := by rw [h3, sw_s]
      have N3 : nS S3 = a' + 11 := by rw [h3]; exact N2
      have U3 : uS S3 = uS S + 336 := by rw [h3]; exact U2
      have hL3 : ML S3 m := hL2.lc (fun y _ _ => T3 y) (fun j q1 _ => R3m j q1)
      have M3' : MCL S3 a' := M2.lc (fun y _ _ => T3 y) (fun j => R3 a' j (by omega))
      have s3 : ∀ (K : II) (L9 : LL), (tg (hp S3 K L9) m).1 = 8 := fun K L9 => by rw [hp_tg, hL3.t]
      obtain ⟨I7, e8, w7, f7, b26, b27, b28, b29, bj⟩ := x_asTold (S := S3) (I := J) (L := L7) hL3 R33 M3' (by omega) jM r1 (o := 0) (by omega)
      obtain ⟨I8, e9, w8, f8⟩ := x_remains (S := S3) (I := I7) (L := L7) hL3
      rw [ic_zero] at e8
      rw [oth0] at w7
      obtain ⟨I9, h9⟩ : ∃ I9, I9 = up2 (up2 (up2 (up2 (up2 (up2 (up2 I8 m 19 0) m 20 0) m 21 0) m 22 0) m 23 0) m 24 0) m 25 0 := ⟨_, rfl⟩
      have i9y : ∀ y, y ≠ m → I9 y = I8 y := fun y hy => funext fun j => by rw [h9, up_a hy, up_a hy, up_a hy, up_a hy, up_a hy, up_a hy, up_a hy]
      have i9j : ∀ j, j < 19 → I9 m j = I8 m j := fun j hj => by rw [h9, up_k (by omega), up_k (by omega), up_k (by omega), up_k (by omega), up_k (by omega), up_k (by omega), up_k (by omega)]
      have i8m : ∀ j, j < 26 → I8 m j = J m j := fun j hj => by rw [f8 m (by omega), bj j (by omega)]
      have i919 : I9 m 19 = 0 := by rw [h9, up_k (by omega), up_k (by omega), up_k (by omega), up_k (by omega), up_k (by omega), up_k (by omega), up_s]
      have i920 : I9 m 20 = 0 := by rw [h9, up_k (by omega), up_k (by omega), up_k (by omega), up_k (by omega), up_k (by omega), up_s]
      have i921 : I9 m 21 = 0 := by rw [h9, up_k (by omega), up_k (by omega), up_k (by omega), up_k (by omega), up_s]
      have i922 : I9 m 22 = 0 := by rw [h9, up_k (by omega), up_k (by omega), up_k (by omega), up_s]
      have i923 : I9 m 23 = 0 := by rw [h9, up_k (by omega), up_k (by omega), up_s]
      have i924 : I9 m 24 = 0 := by rw [h9, up_k (by omega), up_s]
      have i925 : I9 m 25 = 0 := by rw [h9, up_s]
      have i9a : ∀ y, y ≠ m → y ≠ m + 2 → y ≠ m + 3 → I9 y = J y := fun y q1 q2 q3 => by rw [i9y y q1, f8 y q2, f7 y q1 q3]
      have i9lo : ∀ y, y ≠ m → y ≠ m + 2 → y ≠ m + 3 → y < a' → I9 y = I y := fun y q1 q2 q3 q4 => by rw [i9a y q1 q2 q3, fy y q1 (Or.inl q4), i6lo y q1 q4]
      have eu : ∀ j, 2 < j → up2 (up2 I9 m 1 0) m 2 m1 m j = I9 m j := fun j q => by rw [up_k (by omega), up_k (by omega)]
      have eb : ∀ y, y ≠ m → up2 (up2 I9 m 1 0) m 2 m1 y = I9 y := fun y q => funext fun j => by rw [up_a q, up_a q]
      refine ⟨S3, up2 (up2 I9 m 1 0) m 2 m1, L7, a', ?_, fun y hy => by rw [T3, T2, T1 y (by omega)], fun y j hy hy2 => by rw [R3 y j hy2, R2 y j hy2, R1 y j (by omega)], fun j q1 q2 => by rw [R3m j q1, R2m j q2, R1 m j (by omega)], by omega, by omega, by omega, by omega, by omega, ⟨fun _ => ⟨R33, by omega, by omega, M3'⟩, fun zr => by cases zr⟩, ⟨⟨by rw [up_k (by omega), up_s]; rfl, up_s _ _ _ _⟩, by rw [eu 6 (by omega), i9j 6 (by omega), i8m 6 (by omega), fj 6 (by omega)]; exact i66, fun j hj => by rw [eb (m + 1) (by omega), i9lo (m + 1) (by omega) (by omega) (by omega) (by omega)]; exact xt j hj, by rw [eu 12 (by omega), i9j 12 (by omega), i8m 12 (by omega), j12]; exact i612, by rw [eu 19 (by omega)]; exact i919, by rw [eu 20 (by omega)]; exact i920, by rw [eu 21 (by omega)]; exact i921, by rw [eu 22 (by omega)]; exact i922, by rw [eu 23 (by omega)]; exact i923, by rw [eu 24 (by omega)]; exact i924, by rw [eu 25 (by omega)]; exact i925, fun j hj => absurd hj (Nat.not_lt_zero j), fun j hj => absurd hj (Nat.not_lt_zero j), fun _ => ⟨jM.lc fun y _ _ => by rw [eb y (by omega), i9a y (by omega) (by omega) (by omega)], ?_⟩⟩, fun y hy => by rw [eb y (by omega), i9lo y (by omega) (by omega) (by omega) (by omega)]⟩
      · refine Eq.trans (bnd e7) ?_
        unfold xt9
        rw [if_pos (s8 _ _), hp_rI, j12, i612, if_neg (show ¬ (0 : Int32) < 0 by decide), x_m89, if_pos (s8 _ _), if_pos (s8 _ _), hp_rR, R24, hp_wR, ← h3]
        unfold xz9
        rw [if_pos (s3 _ _)]
        refine Eq.trans (bnd e8) ?_
        rw [if_pos (s3 _ _)]
        refine Eq.trans (bnd e9) ?_
        rw [wq_ok hL3.t, wq_ok hL3.t, wq_ok hL3.t, wq_ok hL3.t, wq_ok hL3.t, wq_ok hL3.t, wq_ok hL3.t, ← h9]
        unfold xe9
        have E0 : I9 a' 0 = ic (tP T) := by rw [i9a a' (by omega) (by omega) (by omega)]; exact jM.1
        have G := x_good (S := S3) (I := I9) (L := L7) hL3 (ic (tP T))
        rw [if_pos (s3 _ _), hp_rR, R33, if_pos (show (tg (hp S3 I9 L7) a').1 = 7 by rw [hp_tg, M3'.1]), if_pos (s3 _ _), hp_rI, E0]
        refine Eq.trans (bnd G) ?_
        rfl
      · rw [eb (m + 2) (by omega), i9y (m + 2) (by omega)]
        exact w7.cong fun j hj => w8 j hj
  · rw [if_neg z]
    refine xd_of H rfl (xc_to (L' := L) (e := 2) H (Xq.z I m) (by decide) ?_)
    rcases i_cases v with g | ⟨k, hk, rfl⟩
    · unfold p_X9_machine
      rw [if_pos (show (tg (hp S I L) m).1 = 8 by rw [hp_tg, t8])]
      show (if v < 0 then _ else _) = _
      rw [if_pos g, hp_wI]
      simp (maxSteps := 1000000) (disch := omega) only [↓reduceIte, ↓if_bi0, ↓if_bi1, hp_tg, hp_rI, hp_rR, hp_rL, hp_wI, hp_wL, Option.bind_some, if_11, if_01, bi_and1, i10, i01, bi_t, bi_f, ic_add, mr_4, ml_4, mr_8, ml_8, mr_10, ml_10, ic_add1, ic_sub1, ic_clamp, ic_div, ic_irm, ic_lt0, ic_0lt, ic_eq0, ic_lt, ic_inj, and15, and7, and31, and63, shl1, shr_ok, neg_1, neg_2, neg_3, neg_4, kc_lt0, kc_ic, kc_m2, kc_1, kc_0, i0_add, add_i0, or_i0, z_8, z_4, z_64, z_256, ic_m2, ec_m1, ic_m1, m1_lt0, m2_lt0, m3_lt0, m4_lt0, up_s, if_true, if_false, ne_eq, not_true_eq_false, not_false_eq_true, Bool.false_eq_true, eq_self, or_self, or_false, false_or, and_self, and_true, true_and, ite_self, Nat.reduceEqDiff, Nat.reduceLT, Nat.reduceMod, Nat.reduceMul, Nat.reduceAdd, Nat.reducePow, Nat.reduceDiv, lt_2, lt_3, lt_4, lt_5, lt_6, lt_7, lt_8, lt_10, lt_11, lt_12, lt_15, lt_16, lt_18, lt_20, lt_24, lt_31, lt_32, lt_48, lt_57, lt_59, lt_63, lt_64, lt_74, lt_75, lt_97, lt_122, lt_128, lt_144, lt_145, lt_146, lt_147, lt_155, lt_163, lt_171, lt_179, lt_200, lt_243, lt_244, lt_255, lt_256, lt_732, lt_900, lt_3660, lt_3904, lt_4095, lt_65536, lt_65537, lt_252645135, lt_858993459, lt_1431655765, ↓p_has_b, p_has, ↓p_has9_b, p_has9, ↓p_bit_b, p_bit, ↓p_bit1_b, p_bit1, ↓p_bit0_b, p_bit0, p_X9_machine_17, t8, ↓x_refused_b hL, x_refused hL]
    · rw [ok_ic (by omega) hk] at z
      have : ¬ k < vN W + 1 := fun q => z (decide_eq_true q)
      unfold p_X9_machine
      rw [if_pos (show (tg (hp S I L) m).1 = 8 by rw [hp_tg, t8])]
      show (if ic k < 0 then _ else _) = _
      rw [if_neg (show ¬ ic k < 0 by rw [ic_lt0 (by omega)]; exact not_false), hp_wI, if_pos (show (tg (hp S (up2 I m 0 0) L) m).1 = 8 by rw [hp_tg, t8]), if_pos (show rI (hp S (up2 I m 0 0) L) m 6 < ic k by rw [hp_rI, c6, ic_lt (by omega) (by omega)]; omega)]
      simp (maxSteps := 1000000) (disch := omega) only [↓reduceIte, ↓if_bi0, ↓if_bi1, hp_tg, hp_rI, hp_rR, hp_rL, hp_wI, hp_wL, Option.bind_some, if_11, if_01, bi_and1, i10, i01, bi_t, bi_f, ic_add, mr_4, ml_4, mr_8, ml_8, mr_10, ml_10, ic_add1, ic_sub1, ic_clamp, ic_div, ic_irm, ic_lt0, ic_0lt, ic_eq0, ic_lt, ic_inj, and15, and7, and31, and63, shl1, shr_ok, neg_1, neg_2, neg_3, neg_4, kc_lt0, kc_ic, kc_m2, kc_1, kc_0, i0_add, add_i0, or_i0, z_8, z_4, z_64, z_256, ic_m2, ec_m1, ic_m1, m1_lt0, m2_lt0, m3_lt0, m4_lt0, up_s, if_true, if_false, ne_eq, not_true_eq_false, not_false_eq_true, Bool.false_eq_true, eq_self, or_self, or_false, false_or, and_self, and_true, true_and, ite_self, Nat.reduceEqDiff, Nat.reduceLT, Nat.reduceMod, Nat.reduceMul, Nat.reduceAdd, Nat.reducePow, Nat.reduceDiv, lt_2, lt_3, lt_4, lt_5, lt_6, lt_7, lt_8, lt_10, lt_11, lt_12, lt_15, lt_16, lt_18, lt_20, lt_24, lt_31, lt_32, lt_48, lt_57, lt_59, lt_63, lt_64, lt_74, lt_75, lt_97, lt_122, lt_128, lt_144, lt_145, lt_146, lt_147, lt_155, lt_163, lt_171, lt_179, lt_200, lt_243, lt_244, lt_255, lt_256, lt_732, lt_900, lt_3660, lt_3904, lt_4095, lt_65536, lt_65537, lt_252645135, lt_858993459, lt_1431655765, ↓p_has_b, p_has, ↓p_has9_b, p_has9, ↓p_bit_b, p_bit, ↓p_bit1_b, p_bit1, ↓p_bit0_b, p_bit0, p_X9_machine_17, t8, ↓x_refused_b hL, x_refused hL]
end XMD
