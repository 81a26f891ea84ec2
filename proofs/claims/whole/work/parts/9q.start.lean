/-! ===== the start ===== -/
def SH0 : SH := ((1, 0), (fun _ => (999, 0)), fun _ _ => 0)
def W00 : WD := ((fun _ => 0, 0), (false, T00, s00), (0, 0, 0, 0), (0, fun _ => s00), (0, fun _ => s00), (0, 0, 0))
theorem wv_00 : WV W00 0 := ⟨Nat.zero_le _, Nat.zero_le _, Nat.zero_le _, Nat.le_refl _, by show (0 : Nat) < 7; omega, by show (0 : Nat) < 7; omega, fun z => (by cases z), fun _ => ⟨rfl, rfl⟩⟩
section START
variable {S S' : SH} {I I' : II} {L : LL} {a k t n u g v i : Nat}
theorem xl_sw (h : XL S t) (h1 : g ≠ t) : XL (swR S g k v) t := ⟨h.1, by rw [sw_a (Ne.symm h1)]; exact h.2.1, h.2.2⟩
theorem xl_nw (h : XL S t) (hn : Nw S I S' I' g n u) (h1 : g ≠ t) (hb : t + 1 < nS S) : XL S' t := ⟨by rw [hn.2.2.1 t (by omega)]; exact h.1, by rw [hn.2.2.2.1 t _ (by omega) (Ne.symm h1)]; exact h.2.1, by rw [hn.2.2.1 _ (by omega)]; exact h.2.2⟩
theorem tl_sw (h : TL S t) (h1 : g < t ∨ t + 9 < g) : TL (swR S g k v) t := by
  have hg := gl_sw (a := g) (k := k) (v := v) h.2.2.1 (by omega)
  unfold TL at h ⊢
  obtain ⟨h1', h2, -, h4⟩ := h
  refine ⟨h1', by rw [sw_a (by omega)]; exact h2, hg, ?_⟩
  simp only [sw_T, sw_a (show t ≠ g by omega)]
  exact h4
theorem tl_nw (h : TL S t) (hn : Nw S I S' I' g n u) (h1 : g < t ∨ t + 9 < g) (hb : t + 9 < nS S) : TL S' t := by
  have hg := gl_nw h.2.2.1 hn (by omega) (by omega)
  have b3 := hn.2.2.1
  have b4 := hn.2.2.2.1
  unfold TL at h ⊢
  obtain ⟨h1', h2, -, h4⟩ := h
  refine ⟨by rw [b3 t (by omega)]; exact h1', by rw [b4 t _ (by omega) (by omega)]; exact h2, hg, ?_⟩
  simp only [b4 t _ (show t < nS S by omega) (show t ≠ g by omega), b3 (t + 4) (show t + 4 < nS S by omega), b3 (t + 5) (show t + 5 < nS S by omega), b3 (t + 6) (show t + 6 < nS S by omega), b3 (t + 7) (show t + 7 < nS S by omega), b3 (t + 8) (show t + 8 < nS S by omega), b3 (t + 9) (show t + 9 < nS S by omega)]
  exact h4
theorem pl_sw (h : PL S t) (h1 : g < t ∨ t + 9 < g) : PL (swR S g k v) t :=
  ⟨h.1, by rw [sw_a (by omega)]; exact h.2.1, by rw [sw_a (by omega)]; exact h.2.2.1, by rw [sw_a (by omega)]; exact h.2.2.2.1, gl_sw h.G (by omega), ql_sw h.Q (by omega), h.2.2.2.2.2.2.1, by rw [sw_a (by omega)]; exact h.2.2.2.2.2.2.2.1, by rw [sw_a (by omega)]; exact h.2.2.2.2.2.2.2.2⟩
theorem pl_nw (h : PL S t) (hn : Nw S I S' I' g n u) (h1 : g < t ∨ t + 9 < g) (hb : t + 9 < nS S) : PL S' t := by
  have b3 := hn.2.2.1
  have b4 := hn.2.2.2.1
  exact ⟨by rw [b3 t (by omega)]; exact h.1, by rw [b4 t _ (by omega) (by omega)]; exact h.2.1, by rw [b4 t _ (by omega) (by omega)]; exact h.2.2.1, by rw [b4 t _ (by omega) (by omega)]; exact h.2.2.2.1, gl_nw h.G hn (by omega) (by omega), ql_nw h.Q hn (by omega) (by omega), by rw [b3 (t + 1) (by omega)]; exact h.2.2.2.2.2.2.1, by rw [b4 (t + 1) _ (by omega) (by omega)]; exact h.2.2.2.2.2.2.2.1, by rw [b4 (t + 1) _ (by omega) (by omega)]; exact h.2.2.2.2.2.2.2.2⟩
theorem st_X7 (a : Nat) (h : AH) : p_X7_init a h = if a = 0 then none else o20 6 a 0 4 9 p_X5_init (o20 6 a 1 5 13 p_X6_init (o20 6 a 2 5 13 p_X6_init (o20 6 a 4 1 8 p_X2_init (o20 6 a 5 1 8 p_X2_init (s20 6 a 6 104 (16 : Int32) (s20 6 a 9 104 (3 : Int32) (fun h125 => p_X7_init_78 FU a 0 h125))))))) h := rfl
/-- the class anew, at the cell 1 -/
theorem cl_new (hS : nS S = 2) (hT : tT S 1 = (6, 12)) : ∃ S' I' L', p_X7_init 1 (hp S I L) = some (hp S' I' L') ∧ nS S' = 217 ∧ uS S' = uS S + 6750 ∧ (tT S' 1 = (6, 12) ∧ tR S' 1 0 = 2 ∧ tR S' 1 1 = 4 ∧ tR S' 1 2 = 14 ∧ tR S' 1 4 = 24 ∧ tR S' 1 5 = 34 ∧ tR S' 1 6 = 44 ∧ tR S' 1 9 = 45) ∧ XL S' 2 ∧ TL S' 4 ∧ TL S' 14 ∧ PL S' 24 ∧ PL S' 34 ∧ (tT S' 44 = (104, 16) ∧ ∀ i, i < 16 → tR S' 44 i = 46 + 9 * i ∧ SL S' (46 + 9 * i)) ∧ (tT S' 45 = (104, 3) ∧ ∀ i, i < 3 → tR S' 45 i = 190 + 9 * i ∧ SL S' (190 + 9 * i)) ∧ I' 1 = I 1 ∧ ∀ y j, 2 ≤ y → y < 217 → I' y j = 0 := by
  rw [st_X7, if_neg (show ¬ 1 = 0 by omega)]
  obtain ⟨Sa, Ia, La, ea, na, ra, ka, ta, Pa⟩ := x_o20 (S := S) (I := I) (L := L) (a := 1) (c := 6) (k := 0) (t := 4) (n := 9) (n2 := 1) (u := 900) (init := p_X5_init) (o20 6 1 1 5 13 p_X6_init (o20 6 1 2 5 13 p_X6_init (o20 6 1 4 1 8 p_X2_init (o20 6 1 5 1 8 p_X2_init (s20 6 1 6 104 (16 : Int32) (s20 6 1 9 104 (3 : Int32) (fun h125 => p_X7_init_78 FU 1 0 h125))))))) (P := fun X => XL X (nS S)) (by rw [hT]) (by omega) (by omega) (fun S1 I1 L1 h1 h2 => tx_new h1 (by omega) (by rw [h2]))
  have Ta : tT (swR Sa 1 0 (nS S)) 1 = (6, 12) := by rw [na.2.2.1 1 (by omega)]; exact hT
  have Na : nS (swR Sa 1 0 (nS S)) = 4 := by have := na.1; omega
  rw [hS] at ea na ra ka Ta Na Pa
  have xa : XL (swR Sa 1 0 2) 2 := xl_sw Pa (by omega)
  clear Pa ta
  generalize swR Sa 1 0 2 = S1 at ea na ra ka Ta Na xa
  rw [ea]
  obtain ⟨Sb, Ib, Lb, eb, nb, rb, kb, tb, Pb⟩ := x_o20 (S := S1) (I := Ia) (L := La) (a := 1) (c := 6) (k := 1) (t := 5) (n := 13) (n2 := 9) (u := 307) (init := p_X6_init) (o20 6 1 2 5 13 p_X6_init (o20 6 1 4 1 8 p_X2_init (o20 6 1 5 1 8 p_X2_init (s20 6 1 6 104 (16 : Int32) (s20 6 1 9 104 (3 : Int32) (fun h125 => p_X7_init_78 FU 1 0 h125)))))) (P := fun X => TL X (nS S1)) (by rw [Ta]) (by omega) (by omega) (fun S1 I1 L1 h1 h2 => by obtain ⟨X, Y, Z, q1, q2, q3, -⟩ := td_new (S := S1) (I := I1) (L := L1) h1 (by omega) h2; exact ⟨X, Y, Z, q1, q2, q3⟩)
  have Tb : tT (swR Sb 1 1 (nS S1)) 1 = (6, 12) := by rw [nb.2.2.1 1 (by omega)]; exact Ta
  have Nb : nS (swR Sb 1 1 (nS S1)) = 14 := by have := nb.1; omega
  have xb := xl_nw xa nb (by omega) (by omega)
  rw [Na] at eb nb rb kb Tb Nb Pb xb
  have t4b : TL (swR Sb 1 1 4) 4 := tl_sw Pb (by omega)
  clear Pb tb
  generalize swR Sb 1 1 4 = S2 at eb nb rb kb Tb Nb xb t4b
  rw [eb]
  obtain ⟨Sc, Ic, Lc, ec', nc, rc, kc', tc, Pc'⟩ := x_o20 (S := S2) (I := Ib) (L := Lb) (a := 1) (c := 6) (k := 2) (t := 5) (n := 13) (n2 := 9) (u := 307) (init := p_X6_init) (o20 6 1 4 1 8 p_X2_init (o20 6 1 5 1 8 p_X2_init (s20 6 1 6 104 (16 : Int32) (s20 6 1 9 104 (3 : Int32) (fun h125 => p_X7_init_78 FU 1 0 h125))))) (P := fun X => TL X (nS S2)) (by rw [Tb]) (by omega) (by omega) (fun S1 I1 L1 h1 h2 => by obtain ⟨X, Y, Z, q1, q2, q3, -⟩ := td_new (S := S1) (I := I1) (L := L1) h1 (by omega) h2; exact ⟨X, Y, Z, q1, q2, q3⟩)
  have Tc : tT (swR Sc 1 2 (nS S2)) 1 = (6, 12) := by rw [nc.2.2.1 1 (by omega)]; exact Tb
  have Nc : nS (swR Sc 1 2 (nS S2)) = 24 := by have := nc.1; omega
  have xc := xl_nw xb nc (by omega) (by omega)
  have t4c := tl_nw t4b nc (by omega) (by omega)
  rw [Nb] at ec' nc rc kc' Tc Nc Pc' xc t4c
  have t14c : TL (swR Sc 1 2 14) 14 := tl_sw Pc' (by omega)
  clear Pc' tc
  generalize swR Sc 1 2 14 = S3 at ec' nc rc kc' Tc Nc xc t4c t14c
  rw [ec']
  obtain ⟨Sd, Id, Ld, ed, nd, rd', kd', td, Pd⟩ := x_o20 (S := S3) (I := Ic) (L := Lc) (a := 1) (c := 6) (k := 4) (t := 1) (n := 8) (n2 := 9) (u := 246) (init := p_X2_init) (o20 6 1 5 1 8 p_X2_init (s20 6 1 6 104 (16 : Int32) (s20 6 1 9 104 (3 : Int32) (fun h125 => p_X7_init_78 FU 1 0 h125)))) (P := fun X => PL X (nS S3)) (by rw [Tc]) (by omega) (by omega) (fun S1 I1 L1 h1 h2 => pg_new h1 (by omega) h2)
  have Td : tT (swR Sd 1 4 (nS S3)) 1 = (6, 12) := by rw [nd.2.2.1 1 (by omega)]; exact Tc
  have Nd : nS (swR Sd 1 4 (nS S3)) = 34 := by have := nd.1; omega
  have xd := xl_nw xc nd (by omega) (by omega)
  have t4d := tl_nw t4c nd (by omega) (by omega)
  have t14d := tl_nw t14c nd (by omega) (by omega)
  rw [Nc] at ed nd rd' kd' Td Nd Pd xd t4d t14d
  have p24d : PL (swR Sd 1 4 24) 24 := pl_sw Pd (by omega)
  clear Pd td
  generalize swR Sd 1 4 24 = S4 at ed nd rd' kd' Td Nd xd t4d t14d p24d
  rw [ed]
  obtain ⟨Se, Ie, Le, ee, ne', re', ke, te, Pe⟩ := x_o20 (S := S4) (I := Id) (L := Ld) (a := 1) (c := 6) (k := 5) (t := 1) (n := 8) (n2 := 9) (u := 246) (init := p_X2_init) (s20 6 1 6 104 (16 : Int32) (s20 6 1 9 104 (3 : Int32) (fun h125 => p_X7_init_78 FU 1 0 h125))) (P := fun X => PL X (nS S4)) (by rw [Td]) (by omega) (by omega) (fun S1 I1 L1 h1 h2 => pg_new h1 (by omega) h2)
  have Te : tT (swR Se 1 5 (nS S4)) 1 = (6, 12) := by rw [ne'.2.2.1 1 (by omega)]; exact Td
  have Ne : nS (swR Se 1 5 (nS S4)) = 44 := by have := ne'.1; omega
  have xe := xl_nw xd ne' (by omega) (by omega)
  have t4e := tl_nw t4d ne' (by omega) (by omega)
  have t14e := tl_nw t14d ne' (by omega) (by omega)
  have p24e := pl_nw p24d ne' (by omega) (by omega)
  rw [Nd] at ee ne' re' ke Te Ne Pe xe t4e t14e p24e
  have p34e : PL (swR Se 1 5 34) 34 := pl_sw Pe (by omega)
  clear Pe te
  generalize swR Se 1 5 34 = S5 at ee ne' re' ke Te Ne xe t4e t14e p24e p34e
  rw [ee]
  obtain ⟨S6, I6, L6, e6, n6, r6, k6, t6⟩ := x_s20 (S := S5) (I := Ie) (L := Le) (a := 1) (c := 6) (k := 6) (t := 104) (n := 16) (s20 6 1 9 104 (3 : Int32) (fun h125 => p_X7_init_78 FU 1 0 h125)) (by rw [Te]) (by omega) (by omega) (16 : Int32) rfl
  have T6 : tT S6 1 = (6, 12) := by rw [n6.2.2.1 1 (by omega)]; exact Te
  have N6 : nS S6 = 45 := by have := n6.1; omega
  have x6 := xl_nw xe n6 (by omega) (by omega)
  have t46 := tl_nw t4e n6 (by omega) (by omega)
  have t146 := tl_nw t14e n6 (by omega) (by omega)
  have p246 := pl_nw p24e n6 (by omega) (by omega)
  have p346 := pl_nw p34e n6 (by omega) (by omega)
  rw [Ne] at r6 t6
  rw [e6]
  obtain ⟨S7, I7, L7, e7, n7, r7, k7, t7⟩ := x_s20 (S := S6) (I := I6) (L := L6) (a := 1) (c := 6) (k := 9) (t := 104) (n := 3) (fun h125 => p_X7_init_78 FU 1 0 h125) (by rw [T6]) (by omega) (by omega) (3 : Int32) rfl
  have T7 : tT S7 1 = (6, 12) := by rw [n7.2.2.1 1 (by omega)]; exact T6
  have N7 : nS S7 = 46 := by have := n7.1; omega
  have x7 := xl_nw x6 n7 (by omega) (by omega)
  have t47 := tl_nw t46 n7 (by omega) (by omega)
  have t147 := tl_nw t146 n7 (by omega) (by omega)
  have p247 := pl_nw p246 n7 (by omega) (by omega)
  have p347 := pl_nw p346 n7 (by omega) (by omega)
  rw [N6] at r7 t7
  have t447 : tT S7 44 = (104, 16) := by rw [n7.2.2.1 44 (by omega)]; exact t6
  rw [e7]
  have r67 : tR S7 1 6 = 44 := by rw [k7 6 (by omega)]; exact r6
  obtain ⟨S8, I8, L8, e8, n8, k8, s8⟩ := lp_78 (a := 1) (r := 44) (by omega) 16 FU 0 S7 I7 L7 (by omega) (fu_lt (by decide)) t447 T7 r67 (by omega) (by omega)
  have N8 : nS S8 = 190 := by have := n8.1; omega
  have T8 : tT S8 1 = (6, 12) := by rw [n8.2.2.1 1 (by omega)]; exact T7
  have R8 : ∀ k, tR S8 1 k = tR S7 1 k := fun k => n8.2.2.2.1 1 k (by omega) (by omega)
  have t458 : tT S8 45 = (104, 3) := by rw [n8.2.2.1 45 (by omega)]; exact t7
  obtain ⟨S9, I9, L9, e9, n9, k9, s9⟩ := lp_105 (a := 1) (r := 45) (by omega) 3 FU 0 S8 I8 L8 (by omega) (fu_lt (by decide)) t458 T8 (by rw [R8]; exact r7) (by omega) (by omega)
  have R9 : ∀ k, tR S9 1 k = tR S7 1 k := fun k => (n9.2.2.2.1 1 k (by omega) (by omega)).trans (R8 k)
  refine ⟨S9, I9, L9, ?_, by have := n9.1; omega, ?_, ⟨by rw [n9.2.2.1 1 (by omega)]; exact T8, ?_, ?_, ?_, ?_, ?_, by rw [R9]; exact r67, by rw [R9]; exact r7⟩, xl_nw (xl_nw x7 n8 (by omega) (by omega)) n9 (by omega) (by omega), tl_nw (tl_nw t47 n8 (by omega) (by omega)) n9 (by omega) (by omega), tl_nw (tl_nw t147 n8 (by omega) (by omega)) n9 (by omega) (by omega), pl_nw (pl_nw p247 n8 (by omega) (by omega)) n9 (by omega) (by omega), pl_nw (pl_nw p347 n8 (by omega) (by omega)) n9 (by omega) (by omega), ⟨by rw [n9.2.2.1 44 (by omega), n8.2.2.1 44 (by omega)]; exact t447, fun i hi => ?_⟩, ⟨by rw [n9.2.2.1 45 (by omega)]; exact t458, fun i hi => ?_⟩, ?_, fun y j q1 q2 => ?_⟩
  · exact (show p_X7_init_78 FU 1 (ic 0) (hp S7 I7 L7) = _ from e8).trans e9
  · have := na.2.1; have := nb.2.1; have := nc.2.1; have := nd.2.1; have := ne'.2.1; have := n6.2.1; have := n7.2.1; have := n8.2.1; have := n9.2.1; omega
  · rw [R9, k7 0 (by omega), k6 0 (by omega), ke 0 (by omega), kd' 0 (by omega), kc' 0 (by omega), kb 0 (by omega)]; exact ra
  · rw [R9, k7 1 (by omega), k6 1 (by omega), ke 1 (by omega), kd' 1 (by omega), kc' 1 (by omega)]; exact rb
  · rw [R9, k7 2 (by omega), k6 2 (by omega), ke 2 (by omega), kd' 2 (by omega)]; exact rc
  · rw [R9, k7 4 (by omega), k6 4 (by omega), ke 4 (by omega)]; exact rd'
  · rw [R9, k7 5 (by omega), k6 5 (by omega)]; exact re'
  · have := s8 i (by omega) hi
    rw [N7, Nat.sub_zero] at this
    exact ⟨by rw [n9.2.2.2.1 44 i (by omega) (by omega)]; exact this.1, sl_nw this.2 n9 (by omega) (by omega)⟩
  · have := s9 i (by omega) hi
    rw [N8, Nat.sub_zero] at this
    exact this
  · rw [n9.2.2.2.2.1 1 (by omega), n8.2.2.2.2.1 1 (by omega), n7.2.2.2.2.1 1 (by omega), n6.2.2.2.2.1 1 (by omega), ne'.2.2.2.2.1 1 (by omega), nd.2.2.2.2.1 1 (by omega), nc.2.2.2.2.1 1 (by omega), nb.2.2.2.2.1 1 (by omega), na.2.2.2.2.1 1 (by omega)]
  · by_cases c9 : 190 ≤ y
    · exact n9.2.2.2.2.2 y j (by omega) (by omega)
    rw [n9.2.2.2.2.1 y (by omega)]
    by_cases c8 : 46 ≤ y
    · exact n8.2.2.2.2.2 y j (by omega) (by omega)
    rw [n8.2.2.2.2.1 y (by omega)]
    by_cases c7 : 45 ≤ y
    · exact n7.2.2.2.2.2 y j (by omega) (by omega)
    rw [n7.2.2.2.2.1 y (by omega)]
    by_cases c6 : 44 ≤ y
    · exact n6.2.2.2.2.2 y j (by omega) (by omega)
    rw [n6.2.2.2.2.1 y (by omega)]
    by_cases c5 : 34 ≤ y
    · exact ne'.2.2.2.2.2 y j (by omega) (by omega)
    rw [ne'.2.2.2.2.1 y (by omega)]
    by_cases c4 : 24 ≤ y
    · exact nd.2.2.2.2.2 y j (by omega) (by omega)
    rw [nd.2.2.2.2.1 y (by omega)]
    by_cases c3 : 14 ≤ y
    · exact nc.2.2.2.2.2 y j (by omega) (by omega)
    rw [nc.2.2.2.2.1 y (by omega)]
    by_cases c2 : 4 ≤ y
    · exact nb.2.2.2.2.2 y j (by omega) (by omega)
    rw [nb.2.2.2.2.1 y (by omega)]
    exact na.2.2.2.2.2 y j (by omega) (by omega)
end START
