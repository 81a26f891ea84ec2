/-! ===== the line of the machine: class ===== -/
def uP (T : TS) (v : Nat) : TS := (v, T.2)
def uG (T : TS) (s : St) : TS := (T.1, s, T.2.2)
abbrev LR : Type := (Nat × Nat) ⊕ (TS × TK)
def lM (b : Nat → Nat) (n : Nat) (T : TS) (tk : TK) : LR :=
  if tP T ≠ 0 then .inl (3, tk.2.1)
  else if nm b (nt b n tk) 2 = false then .inl (1, (nt b n tk).2.1)
  else if wf (nt b n (nt b n tk)) 3 8 ≠ 0 then .inl (wf (nt b n (nt b n tk)) 3 8, (nt b n (nt b n tk)).2.1)
  else if nm b (nt b n (nt b n (nt b n tk))) 3 = false then .inl (1, (nt b n (nt b n (nt b n tk))).2.1)
  else if wf (nt b n (nt b n (nt b n (nt b n tk)))) 0 15 ≠ 0 then .inl (wf (nt b n (nt b n (nt b n (nt b n tk)))) 0 15, (nt b n (nt b n (nt b n (nt b n tk)))).2.1)
  else .inr (uG (uP T (nt b n (nt b n tk)).2.2.2) (ur (tG T) (nt b n (nt b n (nt b n (nt b n tk)))).2.2.2), nt b n (nt b n (nt b n (nt b n (nt b n tk)))))
def Tf (I J : II) (x t : Nat) : Prop := (∀ j, j < 3 → J x j = I x j) ∧ ∀ y, y ≠ x → (y < t ∨ t + 9 < y) → J y = I y
/-- what the class says behind a line -/
def KO (S : SH) (I : II) (L : LL) (x t : Nat) (b : Nat → Nat) (n : Nat) (o : Option (Int32 × AH)) : LR → Prop
  | .inl r => ∃ J, o = some (0, hp S J L) ∧ J x 7 = ic r.1 ∧ J x 8 = ic r.2 ∧ Tf I J x t
  | .inr r => ∃ J, o = some (1, hp S J L) ∧ CS J x b n r.2 ∧ TR J t r.1 ∧ J x 7 = I x 7 ∧ J x 8 = I x 8 ∧ Tf I J x t
section LMACH
variable {S : SH} {I J : II} {L : LL} {x t m n a c : Nat} {b : Nat → Nat} {tk : TK} {T : TS}
theorem TR.xf (h : TR I t T) (f : Xf I J x) (hx : x + 1 < t) : TR J t T := by
  obtain ⟨q1, q2⟩ := h
  have e : ∀ y, t ≤ y → J y = I y := fun y hy => f.2 y (by omega)
  refine ⟨?_, ?_⟩
  · unfold GR
    rw [e (t + 1) (by omega), e (t + 1 + 1) (by omega), e (t + 1 + 2) (by omega)]
    exact q1
  · rw [e t (by omega), e (t + 4) (by omega), e (t + 5) (by omega), e (t + 6) (by omega), e (t + 7) (by omega), e (t + 8) (by omega), e (t + 9) (by omega)]
    exact q2
theorem CS.up (h : CS I x b n tk) {y : Nat} (hy : x + 1 < y) (j : Nat) (v : Int32) : CS (up2 I y j v) x b n tk := by
  obtain ⟨h2, hT, ⟨c3, c4, c5, c6⟩, hK, hn⟩ := h
  exact ⟨by rw [up_a (by omega)]; exact h2, fun k hk => by rw [up_a (by omega)]; exact hT k hk, ⟨by rw [up_a (by omega)]; exact c3, by rw [up_a (by omega)]; exact c4, by rw [up_a (by omega)]; exact c5, fun q => by rw [up_a (by omega)]; exact c6 q⟩, hK, hn⟩
theorem Tf.refl (I : II) (x t : Nat) : Tf I I x t := ⟨fun _ _ => rfl, fun _ _ _ => rfl⟩
theorem Tf.xf (h : Tf I J x t) {K : II} (f : Xf J K x) : Tf I K x t := ⟨fun j hj => (f.1 j (by omega)).trans (h.1 j hj), fun y h1 h2 => (f.2 y h1).trans (h.2 y h1 h2)⟩
theorem Tf.up (h : Tf I J x t) {y : Nat} (hx : x + 1 < t) (h1 : t ≤ y) (h2 : y ≤ t + 9) (j : Nat) (v : Int32) : Tf I (up2 J y j v) x t := ⟨fun k hk => by rw [up_a (by omega)]; exact h.1 k hk, fun z h3 h4 => by rw [← h.2 z h3 h4]; exact funext fun k => up_a (by omega)⟩
theorem Tf.kF (h : Tf I J x t) (v f : Nat) : Tf I (kF J x v f) x t := ⟨fun k hk => by unfold _root_.Jvm.Pilot.CShadowPagerLaw_law_r1758_84b6f1.kF; rw [up_k (by omega), up_k (by omega)]; exact h.1 k hk, fun z h3 h4 => by rw [← h.2 z h3 h4]; unfold _root_.Jvm.Pilot.CShadowPagerLaw_law_r1758_84b6f1.kF; exact funext fun k => by rw [up_a h3, up_a h3]⟩
theorem kF_7 (J : II) (x v f : Nat) : kF J x v f x 7 = ic v := by unfold kF; rw [up_k (by omega), up_s]
theorem kF_8 (J : II) (x v f : Nat) : kF J x v f x 8 = ic f := by unfold kF; rw [up_s]
end LMACH
