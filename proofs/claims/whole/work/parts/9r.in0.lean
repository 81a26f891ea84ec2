/-! ===== what holds at the start ===== -/
theorem h00_hp : h00 = hp SH0 (fun _ _ => 0) (fun _ _ => 0) := rfl
set_option maxRecDepth 100000 in
theorem in_start : ∃ h1 h2, p_X7_init 1 (al h00 6 12) = some h1 ∧ nx h1 = 217 ∧ p_X9_init 217 (al h1 8 41) = some h2 ∧ nx h2 = 224 ∧ IN (al h2 103 1) W00 0 := by
  obtain ⟨S1, I1, L1, e1, N1, U1, ⟨T1, a0, a1, a2, a4, a5, a6, a9⟩, hx, hT, hT2, hP, hQ, ⟨yr, ys⟩, ⟨yp, yq⟩, i1, iz⟩ := cl_new (S := alS SH0 6 12) (I := zrI (fun _ _ => 0) 1) (L := zrL (fun _ _ => 0) 1) rfl rfl
  have i1z : ∀ j, I1 1 j = 0 := fun j => by rw [i1]; exact zr_z rfl
  have n2 : nS (alS S1 8 41) = 218 := by rw [al_n, N1]
  have t2 : tT (alS S1 8 41) 217 = (8, 41) := al_Tn N1.symm
  have r2 : ∀ k, tR (alS S1 8 41) 217 k = 0 := fun k => if_pos N1.symm
  have T2 : ∀ y, y < 217 → tT (alS S1 8 41) y = tT S1 y := fun y hy => al_T (by omega)
  have R2 : ∀ y k, y < 217 → tR (alS S1 8 41) y k = tR S1 y k := fun y k hy => al_R (by omega)
  have U2 : uS (alS S1 8 41) = uS S1 + 41 := rfl
  obtain ⟨S3, I3, L3, e3, ⟨N3, U3, T3, R3, J3, Z3⟩, M3', K3⟩ := md_new (S := alS S1 8 41) (I := zrI I1 217) (L := zrL L1 217) (a := 217) n2 (by omega) t2
  have hal1 : al (hp S1 I1 L1) 8 41 = hp (alS S1 8 41) (zrI I1 217) (zrL L1 217) := by rw [hp_al, N1]
  generalize alS S1 8 41 = S2 at *
  rw [n2] at N3 T3 R3 J3 Z3
  have T4 : ∀ y, y < 224 → tT (alS S3 103 1) y = tT S3 y := fun y hy => al_T (by omega)
  have R4 : ∀ y k, y < 224 → tR (alS S3 103 1) y k = tR S3 y k := fun y k hy => al_R (by omega)
  have t4 : tT (alS S3 103 1) 224 = (103, 1) := al_Tn (by omega)
  have N4 : nS (alS S3 103 1) = 225 := by rw [al_n, N3]
  have U4 : uS (alS S3 103 1) = uS S3 + 1 := rfl
  have T5 : ∀ y, y < 217 → tT (alS S3 103 1) y = tT S1 y := fun y hy => by rw [T4 y (by omega), T3 y (by omega), T2 y hy]
  have R5 : ∀ y k, y < 217 → tR (alS S3 103 1) y k = tR S1 y k := fun y k hy => by rw [R4 y k (by omega), R3 y k (by omega) (by omega), R2 y k hy]
  have I4 : ∀ y, y < 217 → zrI I3 224 y = I1 y := fun y hy => by rw [zr_n (by omega), J3 y (by omega), ← zr_n (I := I1) (a := 217) (show y ≠ 217 by omega)]; exact funext fun j => up_a (by omega)
  have Im : ∀ j, zrI I3 224 217 j = if j = 2 then m1 else 0 := fun j => by
    rw [zr_n (by omega), J3 217 (by omega), up_i]
    by_cases q : j = 2
    · rw [if_pos q, if_pos q]
    · rw [if_neg q, if_neg q]; exact zr_z rfl
  have In : ∀ y j, 217 < y → y < 224 → zrI I3 224 y j = 0 := fun y j q1 q2 => by rw [zr_n (by omega)]; exact Z3 y j (by omega) (by omega)
  have M4 : ML (alS S3 103 1) 217 := M3'.lc (fun y q1 q2 => T4 y (by omega)) (fun k _ _ => R4 217 k (by omega))
  have LM4 : tR (alS S3 103 1) 217 3 = 0 := by rw [R4 217 3 (by omega), K3 3 (by omega) (by omega) (by omega) (by omega) (by omega) (by omega)]; exact r2 3
  have zz : ∀ y j, 1 ≤ y → y < 217 → zrI I3 224 y j = 0 := fun y j q1 q2 => by
    rw [I4 y q2]
    by_cases q : y = 1
    · rw [q]; exact i1z j
    · exact iz y j (by omega) q2
  have u0 : uS (alS SH0 6 12) = 12 := rfl
  have hal : al (hp S3 I3 L3) 103 1 = hp (alS S3 103 1) (zrI I3 224) (zrL L3 224) := by rw [hp_al, N3]
  generalize alS S3 103 1 = S4 at *
  have hN : Nw S1 I1 S4 (fun y => if y < 217 then I1 y else fun _ => 0) 0 8 (uS S4 - uS S1) := ⟨by omega, by omega, fun y hy => T5 y (by omega), fun y k hy _ => R5 y k (by omega), fun y hy => if_pos (by omega), fun y j q1 q2 => by show (if y < 217 then I1 y else fun _ => 0) j = 0; rw [if_neg (by omega)]⟩
  refine ⟨hp S1 I1 L1, hp S3 I3 L3, e1, N1, ?_, N3, ?_⟩
  · rw [hal1]
    exact e3
  · rw [hal]
    refine ⟨S4, zrI I3 224, zrL L3 224, 4, 14, 224, rfl, ⟨⟨rfl, rfl, rfl, rfl, rfl, rfl, rfl, rfl, rfl, rfl, Or.inl ⟨rfl, rfl⟩⟩, ⟨by rw [T5 1 (by omega)]; exact T1, by rw [R5 1 _ (by omega)]; exact a0, by rw [R5 1 _ (by omega)]; exact a1, by rw [R5 1 _ (by omega)]; exact a2, by rw [R5 1 _ (by omega)]; exact a4, by rw [R5 1 _ (by omega)]; exact a5, by rw [R5 1 _ (by omega)]; exact a6, by rw [R5 1 _ (by omega)]; exact a9, xl_nw hx hN (by omega) (by omega), tl_nw hT hN (by omega) (by omega), tl_nw hT2 hN (by omega) (by omega), pl_nw hP hN (by omega) (by omega), pl_nw hQ hN (by omega) (by omega), ⟨by rw [T5 44 (by omega)]; exact yr, fun i hi => ⟨by rw [R5 44 i (by omega)]; exact (ys i hi).1, sl_nw (ys i hi).2 hN (by omega) (by omega)⟩⟩, ⟨by rw [T5 45 (by omega)]; exact yp, fun i hi => ⟨by rw [R5 45 i (by omega)]; exact (yq i hi).1, sl_nw (yq i hi).2 hN (by omega) (by omega)⟩⟩, M4, t4⟩, ?_, wv_00⟩, by omega, ⟨fun z => (by cases z), fun _ => LM4⟩, ?_, by omega, by omega, by omega⟩
    · exact ⟨zz 1 3 (by omega) (by omega), ⟨0, by omega, zz 1 7 (by omega) (by omega), fun j hj => absurd hj (Nat.not_lt_zero j)⟩, zz 1 8 (by omega) (by omega), zz 1 10 (by omega) (by omega), fun j hj => absurd hj (Nat.not_lt_zero j), zz 1 11 (by omega) (by omega), zz 2 1 (by omega) (by omega), fun k hk => ⟨by show 0 < 256; omega, zz 3 k (by omega) (by omega)⟩, zz 2 7 (by omega) (by omega), fun z => (by cases z), ⟨0, by omega, zz 29 4 (by omega) (by omega)⟩, ⟨0, by omega, zz 39 4 (by omega) (by omega)⟩, fun z => (by cases z), zz 24 3 (by omega) (by omega), zz 24 4 (by omega) (by omega), zz 24 6 (by omega) (by omega), zz 24 7 (by omega) (by omega)⟩
    · exact ⟨⟨Im 1, Im 2⟩, Im 6, fun k hk => ⟨by show 0 < 256; omega, In 218 k (by omega) (by omega)⟩, Im 12, Im 19, Im 20, Im 21, Im 22, Im 23, Im 24, Im 25, fun j hj => absurd hj (Nat.not_lt_zero j), fun j hj => absurd hj (Nat.not_lt_zero j), fun z => (by cases z)⟩
