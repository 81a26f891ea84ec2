/-! ===== the line of the machine: the reference ===== -/
def Rf (I J : II) (m a : Nat) : Prop := (∀ j, j < 8 ∨ 13 < j → J m j = I m j) ∧ ∀ y, y ≠ m → (y < a ∨ a + 10 < y) → J y = I y
def XO (S : SH) (I : II) (m a : Nat) (b : Nat → Nat) (n : Nat) (o : Option AH) : LR → Prop
  | .inl r => ∃ J L', o = some (hp S J L') ∧ J m 9 = ic 5 ∧ J m 12 = ic r.1 ∧ J m 13 = ic r.2 ∧ Rf I J m a
  | .inr r => ∃ J L', o = some (hp S J L') ∧ RS J L' m b n r.2 ∧ MR J a r.1 ∧ J m 12 = I m 12 ∧ J m 13 = I m 13 ∧ Rf I J m a
section XMACH
variable {S : SH} {I J : II} {L : LL} {t m n a c : Nat} {b : Nat → Nat} {tk : TK} {T : TS}
theorem MR.yf (h : MR I a T) (f : Yf I J m) (hm : m + 6 < a) : MR J a T := by
  have e : ∀ y, a ≤ y → J y = I y := fun y hy => f.2 y (by omega)
  unfold MR
  rw [e a (by omega), e (a + 1) (by omega), e (a + 2) (by omega), e (a + 3) (by omega), e (a + 4) (by omega), e (a + 5) (by omega), e (a + 6) (by omega), e (a + 7) (by omega), e (a + 8) (by omega), e (a + 9) (by omega), e (a + 10) (by omega)]
  exact h
theorem Rf.refl (I : II) (m a : Nat) : Rf I I m a := ⟨fun _ _ => rfl, fun _ _ _ => rfl⟩
theorem Rf.yf (h : Rf I J m a) {K : II} (f : Yf J K m) : Rf I K m a := ⟨fun j hj => (f.1 j (by omega)).trans (h.1 j hj), fun y h1 h2 => (f.2 y h1).trans (h.2 y h1 h2)⟩
theorem Rf.up (h : Rf I J m a) {y : Nat} (hm : m + 6 < a) (h1 : a ≤ y) (h2 : y ≤ a + 10) (j : Nat) (v : Int32) : Rf I (up2 J y j v) m a := ⟨fun k hk => by rw [up_a (by omega)]; exact h.1 k hk, fun z h3 h4 => by rw [← h.2 z h3 h4]; exact funext fun k => up_a (by omega)⟩
theorem Rf.xF (h : Rf I J m a) (v f : Nat) : Rf I (xF J m v f) m a := ⟨fun k hk => by unfold _root_.Jvm.Pilot.CShadowPagerLaw_law_r1758_84b6f1.xF; rw [up_k (by omega), up_k (by omega), up_k (by omega)]; exact h.1 k hk, fun z h3 h4 => by rw [← h.2 z h3 h4]; unfold _root_.Jvm.Pilot.CShadowPagerLaw_law_r1758_84b6f1.xF; exact funext fun k => by rw [up_a h3, up_a h3, up_a h3]⟩
theorem xF_12 (J : II) (m v f : Nat) : xF J m v f m 12 = ic v := by unfold xF; rw [up_k (by omega), up_k (by omega), up_s]
theorem xF_13 (J : II) (m v f : Nat) : xF J m v f m 13 = ic f := by unfold xF; rw [up_k (by omega), up_s]
theorem RS.up (h : RS I L m b n tk) {y : Nat} (hy : m + 6 < y) (j : Nat) (v : Int32) : RS (up2 I y j v) L m b n tk := by
  obtain ⟨h2, hT, ⟨c1, c2, c3, c4, c5⟩, hK, hn⟩ := h
  exact ⟨by rw [up_a (by omega)]; exact h2, fun k hk => by rw [up_a (by omega)]; exact hT k hk, ⟨by rw [up_a (by omega)]; exact c1, by rw [up_a (by omega)]; exact c2, fun q => by rw [up_a (by omega)]; exact c3 q, fun q => by rw [up_a (by omega)]; exact c4 q, c5⟩, hK, hn⟩
theorem MR.uPR (h : MR I a T) (v w : Nat) : MR (up2 (up2 I a 0 (ic v)) a 1 (ic w)) a (uG (uP T v) (ur (tG T) w)) := by
  obtain ⟨r0, r1, r2, r3, r4, ⟨r5, r5'⟩, ⟨r6, r6'⟩, ⟨r7, r7'⟩, r8, r9, r10⟩ := h
  have e : ∀ y, y ≠ a → up2 (up2 I a 0 (ic v)) a 1 (ic w) y = I y := fun y hy => funext fun j => by rw [up_a hy, up_a hy]
  have k : ∀ j, j ≠ 0 → j ≠ 1 → up2 (up2 I a 0 (ic v)) a 1 (ic w) a j = I a j := fun j h1 h2 => by rw [up_k h2, up_k h1]
  exact ⟨by rw [up_k (by omega), up_s]; rfl, up_s _ _ _ _, by rw [k 2 (by omega) (by omega)]; exact r2, by rw [k 3 (by omega) (by omega)]; exact r3, by rw [k 4 (by omega) (by omega)]; exact r4, ⟨by rw [k 5 (by omega) (by omega)]; exact r5, fun i hi => by rw [e _ (by omega), e _ (by omega)]; exact r5' i hi⟩, ⟨by rw [k 6 (by omega) (by omega)]; exact r6, fun i hi => by rw [e _ (by omega), e _ (by omega)]; exact r6' i hi⟩, ⟨by rw [k 7 (by omega) (by omega)]; exact r7, fun i hi => by rw [e _ (by omega), e _ (by omega), e _ (by omega)]; exact r7' i hi⟩, fun f hf => by rw [e _ (by omega)]; exact r8 f hf, fun i hi => by rw [e _ (by omega)]; exact r9 i hi, fun i hi => by rw [e _ (by omega)]; exact r10 i hi⟩
end XMACH
