/-! ===== the world: what both sides are told of ===== -/
abbrev WD : Type := ((Nat → Nat) × Nat) × (Bool × TS × St) × (Nat × Nat × Nat × Nat) × (Nat × (Nat → St)) × (Nat × (Nat → St)) × (Nat × Nat × Nat)
def vY (W : WD) : Nat → Nat := W.1.1
def vN (W : WD) : Nat := W.1.2
def vR (W : WD) : Bool := W.2.1.1
def vT (W : WD) : TS := W.2.1.2.1
def vS (W : WD) : St := W.2.1.2.2
def vF (W : WD) : Nat := W.2.2.1.1
def vP (W : WD) : Nat := W.2.2.1.2.1
def vD (W : WD) : Nat := W.2.2.1.2.2.1
def vH (W : WD) : Nat := W.2.2.1.2.2.2
def vK (W : WD) : Nat := W.2.2.2.1.1
def vU (W : WD) : Nat → St := W.2.2.2.1.2
def vI (W : WD) : Nat := W.2.2.2.2.1.1
def vJ (W : WD) : Nat → St := W.2.2.2.2.1.2
def vE (W : WD) : Nat := W.2.2.2.2.2.1
def vQ (W : WD) : Nat := W.2.2.2.2.2.2.1
def vA (W : WD) : Nat := W.2.2.2.2.2.2.2
def uE (W : WD) (e : Nat) : WD := (W.1, W.2.1, W.2.2.1, W.2.2.2.1, W.2.2.2.2.1, (e, vQ W, vA W))
def SV (s : St) (pl c : Nat) : Prop := Inv s pl ∧ sc s ≤ 2 * c
/-- what holds of a world behind c calls -/
def WV (W : WD) (c : Nat) : Prop := vN W ≤ 900 ∧ vK W ≤ 16 ∧ vI W ≤ 3 ∧ vH W + vF W ≤ c ∧ vE W < 7 ∧ vQ W < 7 ∧ (vR W = true → TV (vT W) ∧ 3 ≤ tP (vT W) ∧ SV (vS W) (tP (vT W)) c ∧ (∀ j, j < vK W → SV (vU W j) (tP (vT W)) c) ∧ ∀ j, j < vI W → SV (vJ W j) (tP (vT W)) c) ∧ (vR W = false → vK W = 0 ∧ vI W = 0)
def nS (S : SH) : Nat := S.1.1
def uS (S : SH) : Nat := S.1.2
/-- where all lies -/
def AD (o x ta tb p q rg pc rs ps m ou : Nat) : Prop := o = 1 ∧ x = 2 ∧ p = 24 ∧ q = 34 ∧ rg = 44 ∧ pc = 45 ∧ rs = 46 ∧ ps = 190 ∧ m = 217 ∧ ou = 224 ∧ ((ta = 4 ∧ tb = 14) ∨ (ta = 14 ∧ tb = 4))
def LY (S : SH) (o x ta tb p q rg pc rs ps m ou : Nat) : Prop := tT S o = (6, 12) ∧ tR S o 0 = x ∧ tR S o 1 = ta ∧ tR S o 2 = tb ∧ tR S o 4 = p ∧ tR S o 5 = q ∧ tR S o 6 = rg ∧ tR S o 9 = pc ∧ XL S x ∧ TL S ta ∧ TL S tb ∧ PL S p ∧ PL S q ∧ (tT S rg = (104, 16) ∧ ∀ i, i < 16 → tR S rg i = rs + 9 * i ∧ SL S (rs + 9 * i)) ∧ (tT S pc = (104, 3) ∧ ∀ i, i < 3 → tR S pc i = ps + 9 * i ∧ SL S (ps + 9 * i)) ∧ ML S m ∧ tT S ou = (103, 1)
def LM (S : SH) (m a : Nat) (rdy : Bool) : Prop := (rdy = true → tR S m 3 = a ∧ 225 ≤ a ∧ a + 10 < nS S ∧ MCL S a) ∧ (rdy = false → tR S m 3 = 0)
def CI (I : II) (o x ta p q rs ps : Nat) (W : WD) : Prop := I o 3 = bi (vR W) ∧ (∃ nw, nw < 16 ∧ I o 7 = ic nw ∧ ∀ j, j < vK W → SR I (rs + 9 * ((nw + 16 - j) % 16)) (vU W j) (tP (vT W))) ∧ I o 8 = ic (vK W) ∧ I o 10 = ic (vI W) ∧ (∀ j, j < vI W → SR I (ps + 9 * j) (vJ W j) (tP (vT W))) ∧ I o 11 = ic (vE W) ∧ I x 1 = ic (vN W) ∧ TP I (x + 1) (vY W) ∧ I x 7 = ic (vQ W) ∧ (vE W = 4 → I x 8 = ic (vA W)) ∧ (∃ w, w < 256 ∧ I (p + 5) 4 = ic w) ∧ (∃ w, w < 256 ∧ I (q + 5) 4 = ic w) ∧ (vR W = true → TR I ta (vT W) ∧ PR I p (vS W) (tP (vT W))) ∧ I p 3 = ic (vH W) ∧ I p 4 = ic (vF W) ∧ I p 6 = ic (vP W) ∧ I p 7 = ic (vD W)
def XI (I : II) (m a : Nat) (W : WD) : Prop := (I m 1 = ic (vE W) ∧ I m 2 = if vE W = 4 then ic (vA W) else m1) ∧ I m 6 = ic (vN W) ∧ TP I (m + 1) (vY W) ∧ I m 12 = ic (vQ W) ∧ I m 19 = ic (vK W) ∧ I m 20 = ic (vI W) ∧ I m 21 = ic (vF W) ∧ I m 22 = ic (vP W) ∧ I m 23 = ic (vD W) ∧ I m 24 = ic (vH W) ∧ I m 25 = ic (vH W + vF W) ∧ PW I m (vK W) (vU W) ∧ (∀ j, j < vI W → RW (fun k => I (m + 5) (244 * j + k)) (vJ W j)) ∧ (vR W = true → MR I a (vT W) ∧ RW (I (m + 2)) (vS W))
section WORLD
variable {S : SH} {I J : II} {L : LL} {o x ta tb p q rg pc rs ps m ou a g c e : Nat} {s : St} {pl : Nat} {T : TS} {W : WD}
theorem GR.lc (h : GR I g s) (e : ∀ y, g ≤ y → y ≤ g + 2 → J y = I y) : GR J g s := by
  unfold GR
  rw [e g (by omega) (by omega), e (g + 1) (by omega) (by omega), e (g + 2) (by omega) (by omega)]
  exact h
theorem QR.lc (h : QR I g s pl) (e : ∀ y, g ≤ y → y ≤ g + 4 → J y = I y) : QR J g s pl := by
  unfold QR
  rw [e g (by omega) (by omega), e (g + 1) (by omega) (by omega), e (g + 2) (by omega) (by omega), e (g + 3) (by omega) (by omega), e (g + 4) (by omega) (by omega)]
  exact h
theorem SR.lc (h : SR I g s pl) (e : ∀ y, g ≤ y → y ≤ g + 8 → J y = I y) : SR J g s pl := ⟨h.1.lc fun y h1 h2 => e y (by omega) (by omega), h.2.lc fun y h1 h2 => e y (by omega) (by omega)⟩
theorem PR.lc (h : PR I g s pl) (e : ∀ y, g ≤ y → y ≤ g + 9 → J y = I y) : PR J g s pl := ⟨h.1.lc fun y h1 h2 => e y (by omega) (by omega), h.2.lc fun y h1 h2 => e y (by omega) (by omega)⟩
theorem TR.lc (h : TR I g T) (e : ∀ y, g ≤ y → y ≤ g + 9 → J y = I y) : TR J g T := by
  refine ⟨h.1.lc fun y h1 h2 => e y (by omega) (by omega), ?_⟩
  have h2 := h.2
  rw [e g (by omega) (by omega), e (g + 4) (by omega) (by omega), e (g + 5) (by omega) (by omega), e (g + 6) (by omega) (by omega), e (g + 7) (by omega) (by omega), e (g + 8) (by omega) (by omega), e (g + 9) (by omega) (by omega)]
  exact h2
theorem MR.lc (h : MR I a T) (e : ∀ y, a ≤ y → y ≤ a + 10 → J y = I y) : MR J a T := by
  unfold MR
  rw [e a (by omega) (by omega), e (a + 1) (by omega) (by omega), e (a + 2) (by omega) (by omega), e (a + 3) (by omega) (by omega), e (a + 4) (by omega) (by omega), e (a + 5) (by omega) (by omega), e (a + 6) (by omega) (by omega), e (a + 7) (by omega) (by omega), e (a + 8) (by omega) (by omega), e (a + 9) (by omega) (by omega), e (a + 10) (by omega) (by omega)]
  exact h
theorem CI.lo (hA : AD o x ta tb p q rg pc rs ps m ou) (h : CI I o x ta p q rs ps W) (hK : vK W ≤ 16) (hI : vI W ≤ 3) (e : ∀ y, y < m → J y = I y) : CI J o x ta p q rs ps W := by
  obtain ⟨d1, d2, d3, d4, d5, d6, d7, d8, d9, d10, d11⟩ := hA
  obtain ⟨h1, ⟨nw, h2, h3, h4⟩, h5, h6, h7, h8, h9, h10, h11, h12, h13, h14, h15, h16, h17, h18, h19⟩ := h
  have eo := e o (by omega)
  have ex := e x (by omega)
  have ep := e p (by omega)
  exact ⟨by rw [eo]; exact h1, ⟨nw, h2, by rw [eo]; exact h3, fun j hj => (h4 j hj).lc fun y _ _ => e y (by omega)⟩, by rw [eo]; exact h5, by rw [eo]; exact h6, fun j hj => (h7 j hj).lc fun y _ _ => e y (by omega), by rw [eo]; exact h8, by rw [ex]; exact h9, fun k hk => by rw [e (x + 1) (by omega)]; exact h10 k hk, by rw [ex]; exact h11, fun z => by rw [ex]; exact h12 z, by rw [e (p + 5) (by omega)]; exact h13, by rw [e (q + 5) (by omega)]; exact h14, fun z => ⟨(h15 z).1.lc fun y _ _ => e y (by omega), (h15 z).2.lc fun y _ _ => e y (by omega)⟩, by rw [ep]; exact h16, by rw [ep]; exact h17, by rw [ep]; exact h18, by rw [ep]; exact h19⟩
theorem XI.hi (hm : m + 6 < a) (h : XI I m a W) (e : ∀ y, m ≤ y → J y = I y) : XI J m a W := by
  obtain ⟨h1, h2, h3, h4, h5, h6, h7, h8, h9, h10, h11, h12, h13, h14⟩ := h
  have em := e m (by omega)
  refine ⟨by rw [em]; exact h1, by rw [em]; exact h2, fun k hk => by rw [e (m + 1) (by omega)]; exact h3 k hk, by rw [em]; exact h4, by rw [em]; exact h5, by rw [em]; exact h6, by rw [em]; exact h7, by rw [em]; exact h8, by rw [em]; exact h9, by rw [em]; exact h10, by rw [em]; exact h11, ?_, ?_, fun z => ⟨(h14 z).1.lc fun y _ _ => e y (by omega), ?_⟩⟩
  · unfold PW; rw [e (m + 4) (by omega)]; exact h12
  · rw [e (m + 5) (by omega)]; exact h13
  · rw [e (m + 2) (by omega)]; exact (h14 z).2
/-- a refusal, or none, set down by the class -/
theorem CI.ee (hA : AD o x ta tb p q rg pc rs ps m ou) (h : CI I o x ta p q rs ps W) (hK : vK W ≤ 16) (hI : vI W ≤ 3) (h4 : e ≠ 4) : CI (up2 I o 11 (ic e)) o x ta p q rs ps (uE W e) := by
  obtain ⟨d1, d2, d3, d4, d5, d6, d7, d8, d9, d10, d11⟩ := hA
  obtain ⟨h1, ⟨nw, h2, h3, h9⟩, h5, h6, h7, h8, h10, h11, h12, h13, h14, h15, h16, h17, h18, h19, h20⟩ := h
  have e : ∀ y, y ≠ o → up2 I o 11 (ic e) y = I y := fun y hy => funext fun j => up_a hy
  exact ⟨by rw [up_k (by omega)]; exact h1, ⟨nw, h2, by rw [up_k (by omega)]; exact h3, fun j hj => (h9 j hj).lc fun y _ _ => e y (by omega)⟩, by rw [up_k (by omega)]; exact h5, by rw [up_k (by omega)]; exact h6, fun j hj => (h7 j hj).lc fun y _ _ => e y (by omega), up_s _ _ _ _, by rw [e x (by omega)]; exact h10, fun k hk => by rw [e (x + 1) (by omega)]; exact h11 k hk, by rw [e x (by omega)]; exact h12, fun z => absurd z h4, by rw [e (p + 5) (by omega)]; exact h14, by rw [e (q + 5) (by omega)]; exact h15, fun z => ⟨(h16 z).1.lc fun y _ _ => e y (by omega), (h16 z).2.lc fun y _ _ => e y (by omega)⟩, by rw [e p (by omega)]; exact h17, by rw [e p (by omega)]; exact h18, by rw [e p (by omega)]; exact h19, by rw [e p (by omega)]; exact h20⟩
/-- the trial alone has changed -/
theorem CI.qq (hA : AD o x ta tb p q rg pc rs ps m ou) (h : CI I o x ta p q rs ps W) (hK : vK W ≤ 16) (hI : vI W ≤ 3) (f : Fr I J q (q + 9)) (hw : ∃ w, w < 256 ∧ J (q + 5) 4 = ic w) : CI J o x ta p q rs ps W := by
  obtain ⟨d1, d2, d3, d4, d5, d6, d7, d8, d9, d10, d11⟩ := hA
  obtain ⟨h1, ⟨nw, h2, h3, h4⟩, h5, h6, h7, h8, h9, h10, h11, h12, h13, h14, h15, h16, h17, h18, h19⟩ := h
  have e : ∀ y, y < 34 ∨ 43 < y → J y = I y := fun y hy => f y (by omega)
  have eo := e o (by omega)
  have ex := e x (by omega)
  have ep := e p (by omega)
  exact ⟨by rw [eo]; exact h1, ⟨nw, h2, by rw [eo]; exact h3, fun j hj => (h4 j hj).lc fun y _ _ => e y (by omega)⟩, by rw [eo]; exact h5, by rw [eo]; exact h6, fun j hj => (h7 j hj).lc fun y _ _ => e y (by omega), by rw [eo]; exact h8, by rw [ex]; exact h9, fun k hk => by rw [e (x + 1) (by omega)]; exact h10 k hk, by rw [ex]; exact h11, fun z => by rw [ex]; exact h12 z, by rw [e (p + 5) (by omega)]; exact h13, hw, fun z => ⟨(h15 z).1.lc fun y _ _ => e y (by omega), (h15 z).2.lc fun y _ _ => e y (by omega)⟩, by rw [ep]; exact h16, by rw [ep]; exact h17, by rw [ep]; exact h18, by rw [ep]; exact h19⟩
/-- a question answered by the reference -/
def Xq (I J : II) (m : Nat) : Prop := (∀ y, y ≠ m → y ≠ m + 3 → y ≠ m + 6 → J y = I y) ∧ ∀ j, 2 < j → j < 26 → J m j = I m j
theorem Xq.refl (I : II) (m : Nat) : Xq I I m := ⟨fun _ _ _ _ => rfl, fun _ _ _ => rfl⟩
theorem Xq.trans {K : II} (h : Xq I J m) (k : Xq J K m) : Xq I K m := ⟨fun y h1 h2 h3 => (k.1 y h1 h2 h3).trans (h.1 y h1 h2 h3), fun j h1 h2 => (k.2 j h1 h2).trans (h.2 j h1 h2)⟩
theorem Xq.up (h : Xq I J m) {j : Nat} (hj : j < 3 ∨ 25 < j) (v : Int32) : Xq I (up2 J m j v) m := ⟨fun y h1 h2 h3 => by rw [← h.1 y h1 h2 h3]; exact funext fun i => up_a h1, fun i h1 h2 => by rw [up_k (by omega)]; exact h.2 i h1 h2⟩
theorem XI.qq (hm : m + 6 < a) (h : XI I m a W) (f : Xq I J m) (h4 : e ≠ 4) (h1 : J m 1 = ic e) (h2 : J m 2 = m1) : XI J m a (uE W e) := by
  obtain ⟨-, g2, g3, g4, g5, g6, g7, g8, g9, g10, g11, g12, g13, g14⟩ := h
  have e9 : ∀ y, y ≠ m → y ≠ m + 3 → y ≠ m + 6 → J y = I y := f.1
  refine ⟨⟨h1, by rw [h2]; exact (if_neg h4).symm⟩, by rw [f.2 6 (by omega) (by omega)]; exact g2, fun k hk => by rw [e9 (m + 1) (by omega) (by omega) (by omega)]; exact g3 k hk, by rw [f.2 12 (by omega) (by omega)]; exact g4, by rw [f.2 19 (by omega) (by omega)]; exact g5, by rw [f.2 20 (by omega) (by omega)]; exact g6, by rw [f.2 21 (by omega) (by omega)]; exact g7, by rw [f.2 22 (by omega) (by omega)]; exact g8, by rw [f.2 23 (by omega) (by omega)]; exact g9, by rw [f.2 24 (by omega) (by omega)]; exact g10, by rw [f.2 25 (by omega) (by omega)]; exact g11, ?_, ?_, fun z => ⟨(g14 z).1.lc fun y _ _ => e9 y (by omega) (by omega) (by omega), ?_⟩⟩
  · unfold PW; rw [e9 (m + 4) (by omega) (by omega) (by omega)]; exact g12
  · rw [e9 (m + 5) (by omega) (by omega) (by omega)]; exact g13
  · rw [e9 (m + 2) (by omega) (by omega) (by omega)]; exact (g14 z).2
/-- a question that says nothing of trouble -/
theorem XI.q0 (hm : m + 6 < a) (h : XI I m a W) (f : Xq I J m) (h1 : J m 1 = I m 1) (h2 : J m 2 = I m 2) : XI J m a W := by
  obtain ⟨g1, g2, g3, g4, g5, g6, g7, g8, g9, g10, g11, g12, g13, g14⟩ := h
  have e9 : ∀ y, y ≠ m → y ≠ m + 3 → y ≠ m + 6 → J y = I y := f.1
  refine ⟨by rw [h1, h2]; exact g1, by rw [f.2 6 (by omega) (by omega)]; exact g2, fun k hk => by rw [e9 (m + 1) (by omega) (by omega) (by omega)]; exact g3 k hk, by rw [f.2 12 (by omega) (by omega)]; exact g4, by rw [f.2 19 (by omega) (by omega)]; exact g5, by rw [f.2 20 (by omega) (by omega)]; exact g6, by rw [f.2 21 (by omega) (by omega)]; exact g7, by rw [f.2 22 (by omega) (by omega)]; exact g8, by rw [f.2 23 (by omega) (by omega)]; exact g9, by rw [f.2 24 (by omega) (by omega)]; exact g10, by rw [f.2 25 (by omega) (by omega)]; exact g11, ?_, ?_, fun z => ⟨(g14 z).1.lc fun y _ _ => e9 y (by omega) (by omega) (by omega), ?_⟩⟩
  · unfold PW; rw [e9 (m + 4) (by omega) (by omega) (by omega)]; exact g12
  · rw [e9 (m + 5) (by omega) (by omega) (by omega)]; exact g13
  · rw [e9 (m + 2) (by omega) (by omega) (by omega)]; exact (g14 z).2
theorem WV.ee (h : WV W c) (he : e < 7) : WV (uE W e) (c + 1) := by
  obtain ⟨h1, h2, h3, h4, h5, h6, h7, h8⟩ := h
  have up : ∀ s pl, SV s pl c → SV s pl (c + 1) := fun s pl h => ⟨h.1, by have := h.2; omega⟩
  exact ⟨h1, h2, h3, by show vH W + vF W ≤ c + 1; omega, he, h6, fun z => ⟨(h7 z).1, (h7 z).2.1, up _ _ (h7 z).2.2.1, fun j hj => up _ _ ((h7 z).2.2.2.1 j hj), fun j hj => up _ _ ((h7 z).2.2.2.2 j hj)⟩, h8⟩
theorem WV.up (h : WV W c) : WV W (c + 1) := by
  obtain ⟨h1, h2, h3, h4, h5, h6, h7, h8⟩ := h
  have up : ∀ s pl, SV s pl c → SV s pl (c + 1) := fun s pl h => ⟨h.1, by have := h.2; omega⟩
  exact ⟨h1, h2, h3, by omega, h5, h6, fun z => ⟨(h7 z).1, (h7 z).2.1, up _ _ (h7 z).2.2.1, fun j hj => up _ _ ((h7 z).2.2.2.1 j hj), fun j hj => up _ _ ((h7 z).2.2.2.2 j hj)⟩, h8⟩
end WORLD
/-- any int is negative or a Nat -/
theorem i_cases (v : Int32) : v < 0 ∨ ∃ n, n < 2147483648 ∧ v = ic n := by
  by_cases c : v < 0
  · exact Or.inl c
  · refine Or.inr ⟨v.toNatClampNeg, ?_, ?_⟩
    · have := v.toInt_lt
      unfold Int32.toNatClampNeg
      omega
    · have h0 : 0 ≤ v.toInt := by
        have h1 : ¬ v.toInt < (0 : Int32).toInt := fun q => c (Int32.lt_iff_toInt_lt.mpr q)
        have h00 : (0 : Int32).toInt = 0 := rfl
        omega
      apply Int32.toInt_inj.mp
      have := v.toInt_lt
      rw [show ic v.toNatClampNeg = Int32.ofNat v.toNatClampNeg from rfl, Int32.toInt_ofNat_of_lt (by unfold Int32.toNatClampNeg; omega)]
      unfold Int32.toNatClampNeg
      omega
