/-! ===== names ===== -/
def sln (k : Nat) : Nat := (strBytes.getD k []).length
def sch (k i : Nat) : Nat := ((strBytes.getD k []).getD i 0).toNatClampNeg
theorem stn_ok : ∀ k, k < 19 → k = 0 ∨ (1 ≤ sln k ∧ sln k ≤ 8 ∧ ∀ i, i < 8 → i < sln k → (97 ≤ sch k i ∧ sch k i ≤ 122 ∧ (strBytes.getD k []).getD i 0 = ic (sch k i))) := by decide +kernel
theorem stn_n : 18 ≤ nStr := by decide
theorem stn_len {k : Nat} (h0 : 0 < k) (h : k < 19) : strLen k = some (ic (sln k)) := by
  unfold strLen
  rw [if_pos ⟨h0, Nat.le_trans (by omega) stn_n⟩]; rfl
theorem stn_ch {k i : Nat} (h0 : 0 < k) (h : k < 19) (hi : i < sln k) : strCh k (ic i) = some (ic (sch k i)) ∧ 97 ≤ sch k i ∧ sch k i ≤ 122 := by
  rcases stn_ok k h with e | ⟨-, l8, hc⟩
  · omega
  · obtain ⟨c1, c2, c3⟩ := hc i (by omega) hi
    refine ⟨?_, c1, c2⟩
    unfold strCh
    have hi9 : i < (strBytes.getD k []).length := hi
    rw [ic_clamp (by omega), if_pos ⟨⟨h0, Nat.le_trans (by omega) stn_n⟩, fun q => by
      rcases q with q | q
      · rw [ic_lt0 (by omega)] at q; exact q
      · omega⟩, c3]
theorem pkc_inj {b c : Nat → Nat} {f g : Nat} : ∀ {n l : Nat}, (∀ i, i < n → 97 ≤ b (f + i) ∧ b (f + i) ≤ 122) → (∀ i, i < l → 97 ≤ c (g + i) ∧ c (g + i) ≤ 122) → pk b f n = pk c g l → n = l ∧ ∀ i, i < n → b (f + i) = c (g + i) := by
  intro n
  induction n with
  | zero =>
    intro l h1 h2 e
    cases l with
    | zero => exact ⟨rfl, fun i h => by omega⟩
    | succ l => have := h2 l (by omega); unfold pk at e; omega
  | succ n ih =>
    intro l h1 h2 e
    have a1 := h1 n (by omega)
    cases l with
    | zero => unfold pk at e; omega
    | succ l =>
      have a2 := h2 l (by omega)
      have e' : 32 * pk b f n + (b (f + n) - 96) = 32 * pk c g l + (c (g + l) - 96) := e
      obtain ⟨r1, r2⟩ := ih (fun i h => h1 i (by omega)) (fun i h => h2 i (by omega)) (show pk b f n = pk c g l by omega)
      subst r1
      refine ⟨rfl, fun i hi => ?_⟩
      by_cases q : i = n
      · subst q; omega
      · exact r2 i (by omega)
theorem pkc_eq {b c : Nat → Nat} {f g : Nat} : ∀ {n : Nat}, (∀ i, i < n → b (f + i) = c (g + i)) → pk b f n = pk c g n := by
  intro n
  induction n with
  | zero => intro _; rfl
  | succ n ih =>
    intro h
    show 32 * pk b f n + (b (f + n) - 96) = 32 * pk c g n + (c (g + n) - 96)
    rw [ih fun i hi => h i (by omega), h n (by omega)]
theorem pkc_lt {b : Nat → Nat} {f : Nat} : ∀ {n : Nat}, (∀ i, i < n → b (f + i) ≤ 122) → pk b f n < 32 ^ n := by
  intro n
  induction n with
  | zero => intro _; exact Nat.one_pos
  | succ n ih =>
    intro h
    have h1 := ih fun i hi => h i (by omega)
    have h2 := h n (by omega)
    show 32 * pk b f n + (b (f + n) - 96) < 32 ^ (n + 1)
    rw [Nat.pow_succ]
    omega
/-- what holds of a token -/
def TKV (b : Nat → Nat) (n : Nat) (k : Nat × Nat × Nat × Nat) : Prop := k.1 ≤ 4 ∧ k.2.1 ≤ k.2.2.1 ∧ k.2.2.1 ≤ n ∧ (k.1 = 1 → k.2.2.1 - k.2.1 ≤ 8 ∧ ∀ i, i < k.2.2.1 - k.2.1 → 97 ≤ b (k.2.1 + i) ∧ b (k.2.1 + i) ≤ 122) ∧ (k.1 = 2 → k.2.2.2 < 10000) ∧ (k.1 ≠ 0 → k.2.1 < k.2.2.1)
theorem vnm_lt {b : Nat → Nat} {f : Nat} : ∀ {n : Nat}, (∀ i, i < n → 48 ≤ b (f + i) ∧ b (f + i) ≤ 57) → vnm b f n < 10 ^ n := by
  intro n
  induction n with
  | zero => intro _; exact Nat.one_pos
  | succ n ih =>
    intro h
    have h1 := ih fun i hi => h i (by omega)
    have h2 := h n (by omega)
    show vnm b f n * 10 + b (f + n) - 48 < 10 ^ (n + 1)
    rw [Nat.pow_succ]
    omega
theorem tok_ok {b : Nat → Nat} {n p : Nat} (hp9 : p ≤ n) : TKV b n (tok b n p) := by
  obtain ⟨f1, f2⟩ := @fr_le n p b hp9
  unfold tok
  generalize tFr b n p = f at *
  by_cases c1 : n ≤ f
  · rw [if_pos c1]; exact ⟨by show 0 ≤ 4; omega, Nat.le_refl _, f2, fun h => (by dsimp only at h; omega), fun h => (by dsimp only at h; omega), fun h => absurd rfl h⟩
  · rw [if_neg c1]
    by_cases c2 : sml (b f) = true
    · rw [if_pos c2]
      have rb := @rl_le (fun k => sml (b k)) (n - f) f
      have ri := @rl_in (fun k => sml (b k)) (n - f) f
      have r1 : f < rl (fun k => sml (b k)) (n - f) f := by
        rw [show n - f = (n - f - 1) + 1 by omega, rl_t (q := fun k => sml (b k)) c2]
        have := @rl_le (fun k => sml (b k)) (n - f - 1) (f + 1)
        omega
      generalize rl (fun k => sml (b k)) (n - f) f = t at *
      have hl : ∀ i, i < t - f → 97 ≤ b (f + i) ∧ b (f + i) ≤ 122 := fun i hi => of_decide_eq_true (ri (k := f + i) (by omega) (by omega))
      by_cases c3 : t - f ≤ 8
      · rw [if_pos c3]; exact ⟨by show 1 ≤ 4; omega, rb.1, by show t ≤ n; omega, fun _ => ⟨c3, hl⟩, fun h => (by dsimp only at h; omega), fun _ => r1⟩
      · rw [if_neg c3]; exact ⟨Nat.le_refl _, rb.1, by show t ≤ n; omega, fun h => (by dsimp only at h; omega), fun h => (by dsimp only at h; omega), fun _ => r1⟩
    · rw [if_neg c2]
      by_cases c3 : dgt (b f) = true
      · rw [if_pos c3]
        have rb := @rl_le (fun k => dgt (b k)) (n - f) f
        have ri := @rl_in (fun k => dgt (b k)) (n - f) f
        have r1 : f < rl (fun k => dgt (b k)) (n - f) f := by
          rw [show n - f = (n - f - 1) + 1 by omega, rl_t (q := fun k => dgt (b k)) c3]
          have := @rl_le (fun k => dgt (b k)) (n - f - 1) (f + 1)
          omega
        generalize rl (fun k => dgt (b k)) (n - f) f = t at *
        by_cases c4 : t - f ≤ 4
        · rw [if_pos c4]
          have hv := @vnm_lt b f (t - f) (fun i hi => of_decide_eq_true (ri (k := f + i) (by omega) (by omega)))
          have h4 : 10 ^ (t - f) ≤ 10 ^ 4 := Nat.pow_le_pow_right (by decide) c4
          exact ⟨by show 2 ≤ 4; omega, rb.1, by show t ≤ n; omega, fun h => (by dsimp only at h; omega), fun _ => (by dsimp only; omega), fun _ => r1⟩
        · rw [if_neg c4]; exact ⟨Nat.le_refl _, rb.1, by show t ≤ n; omega, fun h => (by dsimp only at h; omega), fun h => (by dsimp only at h; omega), fun _ => r1⟩
      · rw [if_neg c3]
        by_cases c4 : b f = 59
        · rw [if_pos c4]; exact ⟨by show 3 ≤ 4; omega, by show f ≤ f + 1; omega, by show f + 1 ≤ n; omega, fun h => (by dsimp only at h; omega), fun h => (by dsimp only at h; omega), fun _ => (by show f < f + 1; omega)⟩
        · rw [if_neg c4]; exact ⟨by show 4 ≤ 4; omega, by show f ≤ f + 1; omega, by show f + 1 ≤ n; omega, fun h => (by dsimp only at h; omega), fun h => (by dsimp only at h; omega), fun _ => (by show f < f + 1; omega)⟩
/-- is the token the string k? -/
def nm (b : Nat → Nat) (tk : Nat × Nat × Nat × Nat) (k : Nat) : Bool := decide (tk.1 = 1 ∧ pk b tk.2.1 (tk.2.2.1 - tk.2.1) = pk (sch k) 0 (sln k))
