/-! ===== what holds of every state stays so ===== -/
section INV
variable {s : St} {pl : Nat}
theorem Inv.e64 (h : Inv s pl) {a : Nat} (ha : a < 64) : se s a ≤ 64 := by
  by_cases e : se s a = 0
  · omega
  · obtain ⟨h1, h2, h3⟩ := h.2.2 a ha e
    by_cases k : sk s (a / 8) = 1
    · have := (h2 k).1; omega
    · have := (h3 (by omega)).1; omega
theorem rt_i (h : IG s) {v : Nat} (hv : v < 64) : 8 * sr s + v / 8 < 128 := by have := h.2.2.2.2; omega
theorem rt_lt (h : IG s) {v : Nat} (hv : v < 64) : rtW s v < 4096 := h.1 _ (rt_i h hv)
theorem lf_i (h : IG s) {v : Nat} (hv : v < 64) : 8 * (rtW s v / 256) + v % 8 < 128 := by have := rt_lt h hv; omega
theorem lf_lt (h : IG s) {v : Nat} (hv : v < 64) : lfW s v < 4096 := h.1 _ (lf_i h hv)
theorem lg8_le (w : Nat) : lg8 w ≤ 8 := by unfold lg8; by_cases h : w / 256 < 8 <;> simp [h]
theorem lg8_8 (w : Nat) : lg8 w = 0 ∨ lg8 w = 8 := by unfold lg8; by_cases h : w / 256 < 8 <;> simp [h]
theorem frm_lt (h : IG s) {v : Nat} (hv : v < 64) : frm s v < 16 := by
  unfold frm
  by_cases e : (rtW s v).testBit 5 = true
  · rw [if_pos e]; have := lg8_le (rtW s v); have := lg8_8 (rtW s v); omega
  · rw [if_neg e]; have := lf_lt h hv; omega
theorem lst_lt (h : IG s) {v : Nat} (hv : v < 64) : lst s v < 4096 := by
  unfold lst
  by_cases e : (rtW s v).testBit 5 = true
  · rw [if_pos e]; exact rt_lt h hv
  · rw [if_neg e]; exact lf_lt h hv
theorem inv_ent (h : Inv s pl) {f : Nat → Nat} (he : ∀ a, a < 64 → f a = 0 ∨ (se s a ≠ 0 ∧ (f a - 1) / 4 = (se s a - 1) / 4)) : Inv (ue s f) pl := by
  refine ⟨h.1, h.2.1, fun a ha hn => ?_⟩
  rcases he a ha with e | ⟨e1, e2⟩
  · exact absurd e hn
  · have := h.2.2 a ha e1
    show sk s (a / 8) ≠ 0 ∧ (sk s (a / 8) = 1 → (f a - 1) / 4 < 8 ∧ 2 ≤ sk s ((f a - 1) / 4)) ∧ (2 ≤ sk s (a / 8) → (f a - 1) / 4 < 16 ∧ 0 < sH s ((f a - 1) / 4))
    rw [e2]
    exact this
theorem tb1_4 {e : Nat} (h : e.testBit 1 = true) : 2 ≤ e ∧ (e - 2) / 4 = e / 4 := by
  rw [Nat.testBit_eq_decide_div_mod_eq, decide_eq_true_eq] at h
  simp only [Nat.pow_one] at h
  omega
theorem isM_iff {a f : Nat} : isM s a f = true ↔ 2 ≤ sk s (a / 8) ∧ se s a ≠ 0 ∧ (se s a - 1) / 4 = f := by unfold isM; rw [decide_eq_true_eq]
theorem isR_iff {a f : Nat} : isR s a f = true ↔ sk s (a / 8) = 1 ∧ se s a ≠ 0 ∧ (se s a - 1) / 4 = f := by unfold isR; rw [decide_eq_true_eq]
theorem isMW_iff {a f : Nat} : isMW s a f = true ↔ (2 ≤ sk s (a / 8) ∧ se s a ≠ 0 ∧ (se s a - 1) / 4 = f) ∧ (se s a - 1).testBit 1 = true := by unfold isMW; rw [Bool.and_eq_true, isM_iff]
theorem inv_tkW (h : Inv s pl) (f : Nat) : Inv (tkW s f) pl := by
  refine inv_ent h fun a ha => ?_
  by_cases e : isMW s a f = true
  · rw [if_pos e]
    obtain ⟨⟨-, e1, -⟩, e2⟩ := isMW_iff.mp e
    have := tb1_4 e2
    right
    refine ⟨e1, ?_⟩
    rw [show se s a - 2 - 1 = se s a - 1 - 2 by omega]
    exact this.2
  · rw [if_neg e]
    by_cases e0 : se s a = 0
    · exact Or.inl e0
    · exact Or.inr ⟨e0, rfl⟩
theorem inv_rmM (h : Inv s pl) (f : Nat) : Inv (rmM s f) pl := by
  refine inv_ent h fun a ha => ?_
  by_cases e : isM s a f = true
  · rw [if_pos e]; exact Or.inl rfl
  · rw [if_neg e]
    by_cases e0 : se s a = 0
    · exact Or.inl e0
    · exact Or.inr ⟨e0, rfl⟩
theorem inv_rm1 (h : Inv s pl) (b : Nat) : Inv (ue s (up1 (se s) b 0)) pl := by
  refine inv_ent h fun a ha => ?_
  by_cases e : a = b
  · left; subst e; exact up1_s _ _ _
  · rw [up1_n e]
    by_cases e0 : se s a = 0
    · exact Or.inl e0
    · exact Or.inr ⟨e0, rfl⟩
/-- one entry told -/
theorem inv_put (h : Inv s pl) {b e : Nat} (hb : b < 64) (h0 : sk s (b / 8) ≠ 0) (h1 : sk s (b / 8) = 1 → e / 4 < 8 ∧ 2 ≤ sk s (e / 4)) (h2 : 2 ≤ sk s (b / 8) → e / 4 < 16 ∧ 0 < sH s (e / 4)) : Inv (ue s (up1 (se s) b (e + 1))) pl := by
  refine ⟨h.1, h.2.1, fun a ha hn => ?_⟩
  by_cases q : a = b
  · subst q
    show sk s (a / 8) ≠ 0 ∧ (sk s (a / 8) = 1 → (up1 (se s) a (e + 1) a - 1) / 4 < 8 ∧ 2 ≤ sk s ((up1 (se s) a (e + 1) a - 1) / 4)) ∧ (2 ≤ sk s (a / 8) → (up1 (se s) a (e + 1) a - 1) / 4 < 16 ∧ 0 < sH s ((up1 (se s) a (e + 1) a - 1) / 4))
    rw [up1_s, show e + 1 - 1 = e by omega]
    exact ⟨h0, h1, h2⟩
  · have hn' : se s a ≠ 0 := by have : up1 (se s) b (e + 1) a ≠ 0 := hn; rwa [up1_n q] at this
    have := h.2.2 a ha hn'
    show sk s (a / 8) ≠ 0 ∧ (sk s (a / 8) = 1 → (up1 (se s) b (e + 1) a - 1) / 4 < 8 ∧ 2 ≤ sk s ((up1 (se s) b (e + 1) a - 1) / 4)) ∧ (2 ≤ sk s (a / 8) → (up1 (se s) b (e + 1) a - 1) / 4 < 16 ∧ 0 < sH s ((up1 (se s) b (e + 1) a - 1) / 4))
    rw [up1_n q]
    exact this
theorem inv_drp (h : Inv s pl) {n : Nat} (hn : n < 8) : Inv (drp s n) pl := by
  obtain ⟨hg, ⟨p1, p2, p3, p4, p5, p6, p7⟩, he⟩ := h
  refine ⟨hg, ⟨p1, fun m hm => ?_, fun m hm h0 => ?_, fun m hm h0 => ?_, fun m h1 hm => ?_, fun m q hm hq h0 h1 h2 => ?_, fun m hm => ?_⟩, fun a ha h0 => ?_⟩
  · show up1 (sk s) n 0 m ≤ 3
    by_cases e : m = n
    · subst e; rw [up1_s]; omega
    · rw [up1_n e]; exact p2 m hm
  · replace h0 : up1 (sk s) n 0 m ≠ 0 := h0
    show 1 ≤ up1 (so s) n 0 m ∧ up1 (so s) n 0 m ≤ 16
    by_cases e : m = n
    · subst e; rw [up1_s] at h0; exact absurd rfl h0
    · rw [up1_n e] at h0 ⊢; exact p3 m hm h0
  · replace h0 : up1 (sk s) n 0 m = 0 := h0
    show up1 (so s) n 0 m = 0 ∧ up1 (sb s) n 0 m = 0 ∧ up1 (su s) n false m = false
    by_cases e : m = n
    · subst e; rw [up1_s, up1_s, up1_s]; exact ⟨rfl, rfl, rfl⟩
    · rw [up1_n e] at h0; rw [up1_n e, up1_n e, up1_n e]; exact p4 m hm h0
  · show up1 (sk s) n 0 m = 0
    by_cases e : m = n
    · subst e; rw [up1_s]
    · rw [up1_n e]; exact p5 m h1 hm
  · replace h0 : up1 (sk s) n 0 m ≠ 0 := h0
    replace h1 : up1 (sk s) n 0 m = up1 (sk s) n 0 q := h1
    replace h2 : up1 (so s) n 0 m = up1 (so s) n 0 q := h2
    by_cases e : m = n
    · subst e; rw [up1_s] at h0; exact absurd rfl h0
    · rw [up1_n e] at h0 h1 h2
      by_cases e' : q = n
      · subst e'; rw [up1_s] at h1; exact absurd h1 h0
      · rw [up1_n e'] at h1 h2; exact p6 m q hm hq h0 h1 h2
  · show up1 (sb s) n 0 m ≤ sc s
    by_cases e : m = n
    · subst e; rw [up1_s]; omega
    · rw [up1_n e]; exact p7 m hm
  · replace h0 : (if (isR s a n || decide (a / 8 = n)) = true then 0 else se s a) ≠ 0 := h0
    show up1 (sk s) n 0 (a / 8) ≠ 0 ∧ (up1 (sk s) n 0 (a / 8) = 1 → ((if (isR s a n || decide (a / 8 = n)) = true then 0 else se s a) - 1) / 4 < 8 ∧ 2 ≤ up1 (sk s) n 0 (((if (isR s a n || decide (a / 8 = n)) = true then 0 else se s a) - 1) / 4)) ∧ (2 ≤ up1 (sk s) n 0 (a / 8) → ((if (isR s a n || decide (a / 8 = n)) = true then 0 else se s a) - 1) / 4 < 16 ∧ 0 < sH s (((if (isR s a n || decide (a / 8 = n)) = true then 0 else se s a) - 1) / 4))
    by_cases c : (isR s a n || decide (a / 8 = n)) = true
    · rw [if_pos c] at h0; exact absurd rfl h0
    · rw [if_neg c] at h0
      rw [if_neg c]
      rw [Bool.or_eq_true, decide_eq_true_eq, isR_iff] at c
      have c2 : a / 8 ≠ n := fun e => c (Or.inr e)
      have := he a ha h0
      rw [up1_n c2]
      refine ⟨this.1, fun k => ?_, this.2.2⟩
      have k2 := this.2.1 k
      rw [up1_n (fun e => c (Or.inl ⟨k, h0, e⟩))]
      exact k2
theorem fnd_none {k o : Nat} (h : fnd s k o = none) : ∀ n, n < 8 → ¬ (sk s n = k + 1 ∧ so s n = o + 1) := by
  intro n hn e
  have := fs_none h n (by omega) (by omega)
  rw [decide_eq_false_iff_not] at this
  exact this e
theorem fnd_some {k o n : Nat} (h : fnd s k o = some n) : n < 8 ∧ sk s n = k + 1 ∧ so s n = o + 1 := by
  obtain ⟨-, h2, h3, -⟩ := fs_some h
  rw [decide_eq_true_eq] at h3
  exact ⟨by omega, h3⟩
theorem inv_mkT (h : Inv s pl) {n k o : Nat} (hn : n < pl) (h0 : sk s n = 0) (hk : k ≤ 2) (ho : o < 16) (hf : fnd s k o = none) : Inv (mkT s n k o) pl := by
  obtain ⟨hg, ⟨p1, p2, p3, p4, p5, p6, p7⟩, he⟩ := h
  have hf := fnd_none hf
  refine ⟨hg, ⟨p1, fun m hm => ?_, fun m hm q0 => ?_, fun m hm q0 => ?_, fun m h1 hm => ?_, fun m q hm hq q0 h1 h2 => ?_, fun m hm => ?_⟩, fun a ha q0 => ?_⟩
  · show up1 (sk s) n (k + 1) m ≤ 3
    by_cases e : m = n
    · subst e; rw [up1_s]; omega
    · rw [up1_n e]; exact p2 m hm
  · replace q0 : up1 (sk s) n (k + 1) m ≠ 0 := q0
    show 1 ≤ up1 (so s) n (o + 1) m ∧ up1 (so s) n (o + 1) m ≤ 16
    by_cases e : m = n
    · subst e; rw [up1_s]; omega
    · rw [up1_n e] at q0 ⊢; exact p3 m hm q0
  · replace q0 : up1 (sk s) n (k + 1) m = 0 := q0
    show up1 (so s) n (o + 1) m = 0 ∧ up1 (sb s) n (sc s + 1) m = 0 ∧ su s m = false
    by_cases e : m = n
    · subst e; rw [up1_s] at q0; omega
    · rw [up1_n e] at q0; rw [up1_n e, up1_n e]; exact p4 m hm q0
  · show up1 (sk s) n (k + 1) m = 0
    rw [up1_n (by omega)]; exact p5 m h1 hm
  · replace q0 : up1 (sk s) n (k + 1) m ≠ 0 := q0
    replace h1 : up1 (sk s) n (k + 1) m = up1 (sk s) n (k + 1) q := h1
    replace h2 : up1 (so s) n (o + 1) m = up1 (so s) n (o + 1) q := h2
    by_cases e : m = n
    · subst e
      by_cases e' : q = m
      · exact e'.symm
      · rw [up1_s, up1_n e'] at h1 h2
        exact absurd ⟨h1.symm, h2.symm⟩ (hf q hq)
    · by_cases e' : q = n
      · subst e'
        rw [up1_s, up1_n e] at h1 h2
        exact absurd ⟨h1, h2⟩ (hf m hm)
      · rw [up1_n e] at q0
        rw [up1_n e, up1_n e'] at h1 h2
        exact p6 m q hm hq q0 h1 h2
  · show up1 (sb s) n (sc s + 1) m ≤ sc s + 1
    by_cases e : m = n
    · subst e; rw [up1_s]; omega
    · rw [up1_n e]; have := p7 m hm; omega
  · replace q0 : se s a ≠ 0 := q0
    have := he a ha q0
    show up1 (sk s) n (k + 1) (a / 8) ≠ 0 ∧ (up1 (sk s) n (k + 1) (a / 8) = 1 → (se s a - 1) / 4 < 8 ∧ 2 ≤ up1 (sk s) n (k + 1) ((se s a - 1) / 4)) ∧ (2 ≤ up1 (sk s) n (k + 1) (a / 8) → (se s a - 1) / 4 < 16 ∧ 0 < sH s ((se s a - 1) / 4))
    have e1 : a / 8 ≠ n := fun e => this.1 (by rw [e]; exact h0)
    rw [up1_n e1]
    refine ⟨this.1, fun q => ?_, this.2.2⟩
    have q2 := this.2.1 q
    rw [up1_n (fun e => by have := q2.2; rw [e, h0] at this; omega)]
    exact q2
theorem old_inv (s : St) (d : Nat) : (old s d = none → ∀ j, j < d → spd s j = true) ∧ ∀ j, old s d = some j → j < d ∧ spd s j = false := by
  have := fo_inv (g := old1 s) (P := fun k b => (b = none → ∀ j, j < k → spd s j = true) ∧ ∀ j, b = some j → j < k ∧ spd s j = false) (d := d) (k := 0) (s := none) ⟨fun _ j h => by omega, fun j h => by cases h⟩ (fun i b _ _ hb => ?_)
  · rw [Nat.zero_add] at this; exact this
  · unfold old1
    by_cases e : spd s i = true
    · rw [if_pos e]
      refine ⟨fun h j hj => ?_, fun j h => ⟨by have := (hb.2 j h).1; omega, (hb.2 j h).2⟩⟩
      by_cases q : j = i
      · subst q; exact e
      · exact hb.1 h j (by omega)
    · rw [if_neg e]
      have e2 : spd s i = false := by simpa using e
      cases b with
      | none => rw [om_none]; exact ⟨fun h => (nomatch h), fun j h => by cases h; exact ⟨by omega, e2⟩⟩
      | some q =>
        rw [om_some]
        by_cases c : sb s i < sb s q
        · rw [if_pos c]; exact ⟨fun h => (nomatch h), fun j h => by cases h; exact ⟨by omega, e2⟩⟩
        · rw [if_neg c]; exact ⟨fun h => (nomatch h), fun j h => by cases h; have := hb.2 q rfl; exact ⟨by omega, this.2⟩⟩
theorem spd_iff {n : Nat} : spd s n = true ↔ sk s n = 0 ∨ sk s n = 1 ∧ so s n = sr s + 1 := by unfold spd; rw [decide_eq_true_eq]
theorem fre_none (h : fre s pl = none) : ∀ n, n < pl → sk s n ≠ 0 := by
  intro n hn e
  have := fs_none h n (by omega) (by omega)
  rw [decide_eq_false_iff_not] at this
  exact this e
theorem fre_some {n : Nat} (h : fre s pl = some n) : n < pl ∧ sk s n = 0 ∧ ∀ i, i < n → sk s i ≠ 0 := by
  obtain ⟨-, h2, h3, h4⟩ := fs_some h
  rw [decide_eq_true_eq] at h3
  refine ⟨by omega, h3, fun i hi e => ?_⟩
  have := h4 i (by omega) hi
  rw [decide_eq_false_iff_not] at this
  exact this e
/-- where none is free, one can go -/
theorem old_some (h : Inv s pl) (hf : fre s pl = none) : ∃ n, old s 8 = some n ∧ n < pl ∧ sk s n ≠ 0 ∧ ¬ (sk s n = 1 ∧ so s n = sr s + 1) := by
  obtain ⟨-, ⟨p1, p2, p3, p4, p5, p6, p7⟩, -⟩ := h
  have hf := fre_none hf
  cases e : old s 8 with
  | none =>
    have h0 := spd_iff.mp ((old_inv s 8).1 e 0 (by omega))
    have h1 := spd_iff.mp ((old_inv s 8).1 e 1 (by omega))
    have a0 := hf 0 (by omega)
    have a1 := hf 1 (by omega)
    have b0 : sk s 0 = 1 ∧ so s 0 = sr s + 1 := by rcases h0 with h | h; exact absurd h a0; exact h
    have b1 : sk s 1 = 1 ∧ so s 1 = sr s + 1 := by rcases h1 with h | h; exact absurd h a1; exact h
    have := p6 0 1 (by omega) (by omega) a0 (by rw [b0.1, b1.1]) (by rw [b0.2, b1.2])
    omega
  | some n =>
    obtain ⟨h1, h2⟩ := (old_inv s 8).2 n e
    have h3 : ¬ (sk s n = 0 ∨ sk s n = 1 ∧ so s n = sr s + 1) := fun q => by rw [spd_iff.mpr q] at h2; cases h2
    refine ⟨n, rfl, ?_, fun q => h3 (Or.inl q), fun q => h3 (Or.inr q)⟩
    by_cases q : n < pl
    · exact q
    · exact absurd (p5 n (by omega) h1) (fun q => h3 (Or.inl q))
theorem fre_drp (h : Inv s pl) (hf : fre s pl = none) {n : Nat} (hn : n < pl) : fre (drp s n) pl = some n := by
  have hf := fre_none hf
  refine fs_of (by omega) (by omega) ?_ (fun i _ hi => ?_)
  · rw [decide_eq_true_eq]; exact up1_s _ _ _
  · rw [decide_eq_false_iff_not]
    show ¬ up1 (sk s) n 0 i = 0
    rw [up1_n (by omega)]
    exact hf i (by omega)
/-- the guest's part is as it was -/
def SG (s t : St) : Prop := sW t = sW s ∧ sH t = sH s ∧ sw t = sw s ∧ sm t = sm s ∧ sr t = sr s
theorem SG.refl (s : St) : SG s s := ⟨rfl, rfl, rfl, rfl, rfl⟩
theorem SG.trans {s t u : St} (a : SG s t) (b : SG t u) : SG s u := ⟨b.1.trans a.1, b.2.1.trans a.2.1, b.2.2.1.trans a.2.2.1, b.2.2.2.1.trans a.2.2.2.1, b.2.2.2.2.trans a.2.2.2.2⟩
theorem mk2_sk (s : St) (n k o : Nat) : sk (mk2 s n k o) = up1 (sk s) n (k + 1) := by unfold mk2; by_cases e : k = 2 <;> simp only [e, if_true, if_false] <;> rfl
theorem mk2_so (s : St) (n k o : Nat) : so (mk2 s n k o) = up1 (so s) n (o + 1) := by unfold mk2; by_cases e : k = 2 <;> simp only [e, if_true, if_false] <;> rfl
theorem mk2_sc (s : St) (n k o : Nat) : sc (mk2 s n k o) = sc s + 1 := by unfold mk2; by_cases e : k = 2 <;> simp only [e, if_true, if_false] <;> rfl
theorem mk2_SG (s : St) (n k o : Nat) : SG s (mk2 s n k o) := by unfold mk2; by_cases e : k = 2 <;> simp only [e, if_true, if_false] <;> exact ⟨rfl, rfl, rfl, rfl, rfl⟩
theorem drp_SG (s : St) (n : Nat) : SG s (drp s n) := ⟨rfl, rfl, rfl, rfl, rfl⟩
theorem inv_mk2 (h : Inv s pl) {n k o : Nat} (hn : n < pl) (h0 : sk s n = 0) (hk : k ≤ 2) (ho : o < 16) (hf : fnd s k o = none) : Inv (mk2 s n k o) pl := by
  unfold mk2
  by_cases e : k = 2
  · rw [if_pos e]; exact inv_mkT h hn h0 hk ho hf
  · rw [if_neg e]; exact inv_tkW (inv_mkT h hn h0 hk ho hf) _
theorem fnd_drp {k o n : Nat} (hf : fnd s k o = none) : fnd (drp s n) k o = none := by
  have hf := fnd_none hf
  refine fs_no fun i _ hi => ?_
  rw [decide_eq_false_iff_not]
  show ¬ (up1 (sk s) n 0 i = k + 1 ∧ up1 (so s) n 0 i = o + 1)
  by_cases e : i = n
  · subst e; rw [up1_s]; omega
  · rw [up1_n e, up1_n e]; exact hf i (by omega)
theorem inv_need (h : Inv s pl) {k o : Nat} (hk : k ≤ 2) (ho : o < 16) : Inv (need s pl k o).2.1 pl ∧ (need s pl k o).1 < 8 ∧ sk (need s pl k o).2.1 (need s pl k o).1 = k + 1 ∧ so (need s pl k o).2.1 (need s pl k o).1 = o + 1 ∧ SG s (need s pl k o).2.1 ∧ sc (need s pl k o).2.1 ≤ sc s + 1 ∧ (need s pl k o).2.2 ≤ 1 ∧
    ∀ m, m < 8 → sk s m = 1 → so s m = sr s + 1 → sk (need s pl k o).2.1 m = 1 ∧ so (need s pl k o).2.1 m = sr s + 1 := by
  have hpl : pl ≤ 8 := h.2.1.1.2
  unfold need
  cases e : fnd s k o with
  | some n =>
    rw [om_some]
    obtain ⟨h1, h2, h3⟩ := fnd_some e
    exact ⟨h, h1, h2, h3, SG.refl s, by simp, by simp, fun m _ a b => ⟨a, b⟩⟩
  | none =>
    rw [om_none]
    cases e2 : fre s pl with
    | some n =>
      rw [om_some]
      obtain ⟨h1, h2, -⟩ := fre_some e2
      refine ⟨inv_mk2 h h1 h2 hk ho e, by show n < 8; omega, ?_, ?_, mk2_SG s n k o, Nat.le_of_eq (mk2_sc s n k o), by simp, fun m hm a b => ?_⟩
      · show sk (mk2 s n k o) n = k + 1
        rw [mk2_sk, up1_s]
      · show so (mk2 s n k o) n = o + 1
        rw [mk2_so, up1_s]
      · show sk (mk2 s n k o) m = 1 ∧ so (mk2 s n k o) m = sr s + 1
        have : m ≠ n := fun q => by rw [q, h2] at a; omega
        rw [mk2_sk, mk2_so, up1_n this, up1_n this]
        exact ⟨a, b⟩
    | none =>
      rw [om_none]
      obtain ⟨n, e3, h1, h2, h3⟩ := old_some h e2
      rw [e3, om_some]
      have h8 : n < 8 := by omega
      refine ⟨inv_mk2 (inv_drp h h8) h1 (up1_s _ _ _) hk ho (fnd_drp e), h8, ?_, ?_, (drp_SG s n).trans (mk2_SG (drp s n) n k o), Nat.le_of_eq (mk2_sc (drp s n) n k o), by simp, fun m hm a b => ?_⟩
      · show sk (mk2 (drp s n) n k o) n = k + 1
        rw [mk2_sk, up1_s]
      · show so (mk2 (drp s n) n k o) n = o + 1
        rw [mk2_so, up1_s]
      · show sk (mk2 (drp s n) n k o) m = 1 ∧ so (mk2 (drp s n) n k o) m = sr s + 1
        have : m ≠ n := fun q => h3 (by rw [← q]; exact ⟨a, b⟩)
        rw [mk2_sk, mk2_so, up1_n this, up1_n this]
        show up1 (sk s) n 0 m = 1 ∧ up1 (so s) n 0 m = sr s + 1
        rw [up1_n this, up1_n this]
        exact ⟨a, b⟩
theorem rtW_SG {t : St} (h : SG s t) (v : Nat) : rtW t v = rtW s v := by unfold rtW; rw [h.1, h.2.2.2.2]
theorem lfW_SG {t : St} (h : SG s t) (v : Nat) : lfW t v = lfW s v := by unfold lfW; rw [rtW_SG h, h.1]
theorem frm_SG {t : St} (h : SG s t) (v : Nat) : frm t v = frm s v := by unfold frm; rw [rtW_SG h, lfW_SG h]
theorem lst_SG {t : St} (h : SG s t) (v : Nat) : lst t v = lst s v := by unfold lst; rw [rtW_SG h, lfW_SG h]
theorem b2_le (b : Bool) (n : Nat) : b2 b n ≤ n := by unfold b2; cases b <;> simp
theorem en1_4 (s : St) (v lo : Nat) : en1 s v lo / 4 = lo := by
  unfold en1
  have := b2_le ((rtW s v).testBit 1 && (!(rtW s v).testBit 5 || (rtW s v).testBit 4)) 2
  have := b2_le ((rtW s v).testBit 2) 1
  omega
theorem en2_4 (s : St) (v : Nat) : en2 s v / 4 = frm s v := by
  unfold en2
  have := b2_le (((rtW s v).testBit 5 || ((lst s v).testBit 1 && (lst s v).testBit 4)) && sw s (frm s v) && (sm s).testBit (frm s v) && !wat s (frm s v)) 2
  have := b2_le ((rtW s v).testBit 5 || (lst s v).testBit 2) 1
  omega
theorem inv_fl2 (h : Inv s pl) {v : Nat} (hv : v < 64) : Inv (fl2 s pl v).2.1 pl ∧ (fl2 s pl v).1 < 8 ∧ 2 ≤ sk (fl2 s pl v).2.1 (fl2 s pl v).1 ∧ SG s (fl2 s pl v).2.1 ∧ sc (fl2 s pl v).2.1 ≤ sc s + 1 ∧ (fl2 s pl v).2.2 ≤ 1 ∧ ∀ m, m < 8 → sk s m = 1 → so s m = sr s + 1 → sk (fl2 s pl v).2.1 m = 1 ∧ so (fl2 s pl v).2.1 m = sr s + 1 := by
  unfold fl2
  by_cases e : (rtW s v).testBit 5 = true
  · rw [if_pos e]
    obtain ⟨a1, a2, a3, a4, a5, a6, a7, a8⟩ := inv_need h (k := 2) (o := lg8 (rtW s v)) (by omega) (by have := lg8_le (rtW s v); omega)
    exact ⟨a1, a2, by rw [a3]; omega, a5, a6, a7, a8⟩
  · rw [if_neg e]
    obtain ⟨a1, a2, a3, a4, a5, a6, a7, a8⟩ := inv_need h (k := 1) (o := rtW s v / 256) (by omega) (by have := rt_lt h.1 hv; omega)
    exact ⟨a1, a2, by rw [a3]; omega, a5, a6, a7, a8⟩
/-- a fault done keeps all; what its pieces are -/
theorem inv_fil (h : Inv s pl) {v : Nat} (hv : v < 64) (hh : 0 < sH s (frm s v)) : Inv (fil s pl v).1 pl ∧ SG s (fil s pl v).1 ∧ sc (fil s pl v).1 ≤ sc s + 2 ∧ (fil s pl v).2.1 ≤ 2 ∧ (fil s pl v).2.2 < 64 ∧ se (fil s pl v).1 (fil s pl v).2.2 ≠ 0 ∧ (se (fil s pl v).1 (fil s pl v).2.2 - 1) / 4 = frm s v := by
  have A := inv_need h (k := 0) (o := sr s) (by omega) h.1.2.2.2.2
  rw [show need s pl 0 (sr s) = fl1 s pl from rfl] at A
  obtain ⟨a1, a2, a3, a4, a5, a6, a7, a8⟩ := A
  obtain ⟨b1, b2, b3, b4, b5, b6, b7⟩ := inv_fl2 a1 hv
  have r := b7 (fl1 s pl).1 a2 a3 (by rw [a5.2.2.2.2]; exact a4)
  have g : SG s (fl2 (fl1 s pl).2.1 pl v).2.1 := a5.trans b4
  have i4 : Inv (ue (fl2 (fl1 s pl).2.1 pl v).2.1 (up1 (se (fl2 (fl1 s pl).2.1 pl v).2.1) (8 * (fl1 s pl).1 + v / 8) (en1 s v (fl2 (fl1 s pl).2.1 pl v).1 + 1))) pl := by
    have q : (8 * (fl1 s pl).1 + v / 8) / 8 = (fl1 s pl).1 := by omega
    refine inv_put b1 (by omega) ?_ ?_ ?_
    · rw [q, r.1]; omega
    · intro _; rw [en1_4]; exact ⟨b2, b3⟩
    · rw [q, r.1]; omega
  refine ⟨?_, g, by show sc (fl2 (fl1 s pl).2.1 pl v).2.1 ≤ sc s + 2; omega, by show (fl1 s pl).2.2 + (fl2 (fl1 s pl).2.1 pl v).2.2 ≤ 2; omega, by show 8 * (fl2 (fl1 s pl).2.1 pl v).1 + v % 8 < 64; omega, ?_, ?_⟩
  · have q : (8 * (fl2 (fl1 s pl).2.1 pl v).1 + v % 8) / 8 = (fl2 (fl1 s pl).2.1 pl v).1 := by omega
    refine inv_put i4 (by omega) ?_ ?_ ?_
    · rw [q]; show sk (fl2 (fl1 s pl).2.1 pl v).2.1 _ ≠ 0; omega
    · intro e; rw [q] at e; have e : sk (fl2 (fl1 s pl).2.1 pl v).2.1 _ = 1 := e; omega
    · intro _
      rw [en2_4]
      rw [show frm (ue (fl2 (fl1 s pl).2.1 pl v).2.1 (up1 (se (fl2 (fl1 s pl).2.1 pl v).2.1) (8 * (fl1 s pl).1 + v / 8) (en1 s v (fl2 (fl1 s pl).2.1 pl v).1 + 1))) v = frm s v from frm_SG g v]
      refine ⟨frm_lt h.1 hv, ?_⟩
      show 0 < sH (fl2 (fl1 s pl).2.1 pl v).2.1 (frm s v)
      rw [g.2.1]; exact hh
  · show up1 _ _ _ _ ≠ 0
    rw [show (fil s pl v).2.2 = 8 * (fl2 (fl1 s pl).2.1 pl v).1 + v % 8 from rfl, up1_s]; omega
  · show (up1 _ _ _ _ - 1) / 4 = frm s v
    rw [show (fil s pl v).2.2 = 8 * (fl2 (fl1 s pl).2.1 pl v).1 + v % 8 from rfl, up1_s, Nat.add_sub_cancel, en2_4]
    exact frm_SG g v
theorem or_lt12 {w b : Nat} (h : w < 4096) (hb : b < 4096) : w ||| b < 4096 := Nat.or_lt_two_pow (n := 12) h hb
theorem ntW_lt (h : IG s) {v : Nat} (wr : Bool) {k : Nat} (hk : k < 128) (hv : v < 64) : ntW s v wr k < 4096 := by
  have h1 : ∀ j, j < 128 → up1 (sW s) (rAt s v) (sW s (rAt s v) ||| 8) j < 4096 := by
    intro j hj
    by_cases e : j = rAt s v
    · subst e; rw [up1_s]; exact or_lt12 (h.1 _ hj) (by omega)
    · rw [up1_n e]; exact h.1 j hj
  unfold ntW
  by_cases e : k = lAt s v
  · subst e; rw [up1_s]; exact or_lt12 (h1 _ hk) (by cases wr <;> simp)
  · rw [up1_n e]; exact h1 k hk
theorem inv_note (h : Inv s pl) {v : Nat} (hv : v < 64) (wr : Bool) : Inv (note s v wr) pl := by
  obtain ⟨⟨g1, g2, g3, g4, g5⟩, hp, he⟩ := h
  refine ⟨⟨fun k hk => ntW_lt ⟨g1, g2, g3, g4, g5⟩ wr hk hv, g2, g3, ?_, g5⟩, hp, he⟩
  show (if wr = true then sbt (sm s) (frm s v) else sm s) < 65536
  cases wr
  · exact g4
  · exact sbt_lt (n := 16) g4 (frm_lt ⟨g1, g2, g3, g4, g5⟩ hv)
end INV
