/-! ===== acts on the state ===== -/
def stoW (s : St) (f i x : Nat) : St := uW s (up1 (sW s) (8 * f + i) x)
def sto3 (s : St) (f i : Nat) : St := om (fnd s 0 f) s (fun r => ue s (up1 (se s) (8 * r + i) 0))
def sto4 (s : St) (f i : Nat) : St := om (fnd s 1 f) (sto3 s f i) (fun l => uu (sto3 s f i) (up1 (su (sto3 s f i)) l true))
def or2 (s : St) (a : Nat) : St := if se s a = 0 then s else ue s (up1 (se s) a (((se s a - 1) ||| 2) + 1))
def sto2 (s : St) (f i spot : Nat) : St := if wat (sto4 s f i) f = true then sto4 s f i else or2 (sto4 s f i) spot
def rfr (r : St × Nat × Nat × Nat × Bool) : Nat := (se r.1 r.2.2.2.1 - 1) / 4
def trp (r : St × Nat × Nat × Nat × Bool) : Bool := !r.2.2.2.2 && wat r.1 (rfr r)
/-- a store: the state; did it trap -/
def stS (r : St × Nat × Nat × Nat × Bool) (i x : Nat) : St := if r.2.1 < 3 then r.1 else if trp r = true then sto2 (stoW r.1 (rfr r) i x) (rfr r) i r.2.2.2.1 else stoW r.1 (rfr r) i x
def stT (r : St × Nat × Nat × Nat × Bool) : Bool := decide (3 ≤ r.2.1) && trp r
def bbE (s : St) (e w : Nat) : Nat := if e = 0 then 0 else if w.testBit 0 = true ∧ w / 256 = (e - 1) / 4 then 4 * ((e - 1) / 4) + b2 ((e - 1).testBit 1 && (w.testBit 1 && w.testBit 4)) 2 + b2 ((e - 1).testBit 0 && w.testBit 2) 1 + 1 else 0
def bbA (s : St) (a : Nat) : Nat := if su s (a / 8) = true then bbE s (se s a) (sW s (8 * (so s (a / 8) - 1) + a % 8)) else se s a
def ldW (s : St) (d : Nat) : St := fo (fun f s => if wat s f = true then tkW s f else s) d 0 s
def ld1 (s : St) (f : Nat) : St := uu (ue (ur s f) (bbA s)) (fun _ => false)
def loa (s : St) (f : Nat) : St := ldW (ld1 s f) 16
def fls (s : St) (v : Nat) : St := if upe s v = 0 then s else ue s (up1 (se s) (8 * ((upe s v - 1) / 4) + v % 8) 0)
def flN (s : St) (v : Nat) : Nat := if upe s v = 0 then 0 else b2 (decide (se s (8 * ((upe s v - 1) / 4) + v % 8) ≠ 0)) 1
/-- an entry taken, where there is a table -/
def tke (s : St) (o : Option Nat) (i : Nat) : St := om o s (fun n => ue s (up1 (se s) (8 * n + i) 0))
def tkN (s : St) (o : Option Nat) (i : Nat) : Nat := om o 0 (fun n => b2 (decide (se s (8 * n + i) ≠ 0)) 1)
def inst (s : St) (o : Option Nat) : Option Nat := om o none (fun l => if su s l = true then none else some l)
def dv1 (s : St) (f i x : Nat) : St := um (stoW s f i x) (sbt (sm s) f)
def dev (s : St) (f i x : Nat) : St := tke (tke (dv1 s f i x) (fnd s 0 f) i) (inst s (fnd s 1 f)) i
def dvN (s : St) (f i : Nat) : Nat := tkN s (fnd s 0 f) i + tkN s (inst s (fnd s 1 f)) i
def unm (s : St) (f : Nat) : St := rmM (uw (uH s (up1 (sH s) f 0)) (up1 (sw s) f false)) f
def giv (s : St) (f h : Nat) (w : Bool) : St := um (uw (uH s (up1 (sH s) f (h + 1))) (up1 (sw s) f w)) (cbt (sm s) f)
def pro (s : St) (f : Nat) : St := tkW (uw s (up1 (sw s) f false)) f
def cle (s : St) (f : Nat) : St := tkW (um s (cbt (sm s) f)) f
section ACTS
variable {s : St} {pl : Nat}
theorem inv_stoW (h : Inv s pl) {f i x : Nat} (hx : x < 4096) : Inv (stoW s f i x) pl := by
  obtain ⟨⟨g1, g2, g3, g4, g5⟩, hp, he⟩ := h
  refine ⟨⟨fun k hk => ?_, g2, g3, g4, g5⟩, hp, he⟩
  show up1 (sW s) (8 * f + i) x k < 4096
  by_cases c : k = 8 * f + i
  · subst c; rw [up1_s]; exact hx
  · rw [up1_n c]; exact g1 k hk
theorem inv_um (h : Inv s pl) {x : Nat} (hx : x < 65536) : Inv (um s x) pl := by
  obtain ⟨⟨g1, g2, g3, g4, g5⟩, hp, he⟩ := h
  exact ⟨⟨g1, g2, g3, hx, g5⟩, hp, he⟩
theorem inv_ur (h : Inv s pl) {x : Nat} (hx : x < 16) : Inv (ur s x) pl := by
  obtain ⟨⟨g1, g2, g3, g4, g5⟩, hp, he⟩ := h
  exact ⟨⟨g1, g2, g3, g4, hx⟩, hp, he⟩
theorem inv_uu (h : Inv s pl) {f : Nat → Bool} (hf : ∀ n, n < 8 → sk s n = 0 → f n = false) : Inv (uu s f) pl := by
  obtain ⟨hg, ⟨p1, p2, p3, p4, p5, p6, p7⟩, he⟩ := h
  exact ⟨hg, ⟨p1, p2, p3, fun n hn h0 => ⟨(p4 n hn h0).1, (p4 n hn h0).2.1, hf n hn h0⟩, p5, p6, p7⟩, he⟩
theorem inv_uw (h : Inv s pl) {f : Nat → Bool} (hf : ∀ n, n < 16 → f n = true → 0 < sH s n) : Inv (uw s f) pl := by
  obtain ⟨⟨g1, g2, g3, g4, g5⟩, hp, he⟩ := h
  exact ⟨⟨g1, g2, hf, g4, g5⟩, hp, he⟩
theorem or2_4 {e : Nat} : (e ||| 2) / 4 = e / 4 := by
  have h := Nat.or_div_two_pow (a := e) (b := 2) (n := 2)
  rw [show 2 / 2 ^ 2 = 0 from rfl, Nat.or_zero] at h
  exact h
theorem inv_or2 (h : Inv s pl) (a : Nat) : Inv (or2 s a) pl := by
  unfold or2
  by_cases c : se s a = 0
  · rw [if_pos c]; exact h
  · rw [if_neg c]
    refine inv_ent h fun b hb => ?_
    by_cases d : b = a
    · subst d; rw [up1_s, Nat.add_sub_cancel, or2_4]; exact Or.inr ⟨c, rfl⟩
    · rw [up1_n d]
      by_cases e0 : se s b = 0
      · exact Or.inl e0
      · exact Or.inr ⟨e0, rfl⟩
theorem inv_sto3 (h : Inv s pl) (f i : Nat) : Inv (sto3 s f i) pl := by
  unfold sto3
  cases fnd s 0 f with
  | none => exact h
  | some r => exact inv_rm1 h _
theorem sto3_sk (s : St) (f i : Nat) : sk (sto3 s f i) = sk s := by
  unfold sto3
  cases fnd s 0 f <;> rfl
theorem inv_sto4 (h : Inv s pl) (f i : Nat) : Inv (sto4 s f i) pl := by
  unfold sto4
  cases e : fnd s 1 f with
  | none => exact inv_sto3 h f i
  | some l =>
    rw [om_some]
    refine inv_uu (inv_sto3 h f i) fun n hn h0 => ?_
    rw [sto3_sk] at h0
    have := (fnd_some e).2.1
    rw [up1_n (fun q => by rw [q] at h0; omega)]
    exact ((inv_sto3 h f i).2.1.2.2.2.1 n hn (by rw [sto3_sk]; exact h0)).2.2
theorem inv_sto2 (h : Inv s pl) (f i a : Nat) : Inv (sto2 s f i a) pl := by
  unfold sto2
  by_cases c : wat (sto4 s f i) f = true
  · rw [if_pos c]; exact inv_sto4 h f i
  · rw [if_neg c]; exact inv_or2 (inv_sto4 h f i) a
theorem inv_rch (h : Inv s pl) {v : Nat} (hv : v < 64) (wr us : Bool) : Inv (rch s pl v wr us).1 pl ∧ sc (rch s pl v wr us).1 ≤ sc s + 2 ∧ (rch s pl v wr us).2.2.1 ≤ 2 ∧ (3 ≤ (rch s pl v wr us).2.1 → (rch s pl v wr us).2.2.2.1 < 64 ∧ se (rch s pl v wr us).1 (rch s pl v wr us).2.2.2.1 ≠ 0 ∧ rfr (rch s pl v wr us) < 16) ∧ (rch s pl v wr us).2.1 < 100 := by
  have hl := lok_lt h.1 hv wr us
  unfold rfr
  unfold rch
  cases e : hit s v wr us with
  | some a =>
    obtain ⟨h1, h2, h3, h4⟩ := hit_some h hv e
    have h5 := h.1.2.1 _ h3
    exact ⟨h, by show sc s ≤ sc s + 2; omega, by show 0 ≤ 2; omega, fun _ => ⟨h1, h2, h3⟩, by show sH s ((se s a - 1) / 4) + 2 < 100; omega⟩
  | none =>
    rw [om_none]
    by_cases c : lok s v wr us < 3
    · simp only [if_pos c]
      exact ⟨h, by omega, by omega, fun q => by omega, by omega⟩
    · simp only [if_neg c]
      have hh : 0 < sH (note s v wr) (frm (note s v wr) v) := by rw [note_frm h.1 hv]; exact lok_host (wr := wr) (us := us) (by omega)
      obtain ⟨a1, a2, a3, a4, a5, a6, a7⟩ := inv_fil (inv_note h hv wr) hv hh
      exact ⟨a1, a3, a4, fun _ => ⟨a5, a6, by rw [a7]; exact frm_lt (inv_note h hv wr).1 hv⟩, by omega⟩
theorem inv_stS (h : Inv s pl) {v : Nat} (hv : v < 64) (us : Bool) {i x : Nat} (hx : x < 4096) : Inv (stS (rch s pl v true us) i x) pl := by
  have r := (inv_rch h hv true us).1
  unfold stS
  by_cases c : (rch s pl v true us).2.1 < 3
  · rw [if_pos c]; exact r
  · rw [if_neg c]
    by_cases d : trp (rch s pl v true us) = true
    · rw [if_pos d]; exact inv_sto2 (inv_stoW r hx) _ _ _
    · rw [if_neg d]; exact inv_stoW r hx
theorem bbE_0 {e w : Nat} (h : bbE s e w ≠ 0) : e ≠ 0 ∧ (bbE s e w - 1) / 4 = (e - 1) / 4 := by
  unfold bbE at h ⊢
  by_cases c : e = 0
  · rw [if_pos c] at h; exact absurd rfl h
  · rw [if_neg c] at h ⊢
    by_cases d : w.testBit 0 = true ∧ w / 256 = (e - 1) / 4
    · rw [if_pos d]
      have := b2_le ((e - 1).testBit 1 && (w.testBit 1 && w.testBit 4)) 2
      have := b2_le ((e - 1).testBit 0 && w.testBit 2) 1
      exact ⟨c, by omega⟩
    · rw [if_neg d] at h; exact absurd rfl h
theorem inv_ld1 (h : Inv s pl) {f : Nat} (hf : f < 16) : Inv (ld1 s f) pl := by
  unfold ld1
  refine inv_uu (inv_ent (inv_ur h hf) fun a ha => ?_) (fun _ _ _ => rfl)
  show bbA s a = 0 ∨ _
  unfold bbA
  by_cases c : su s (a / 8) = true
  · rw [if_pos c]
    by_cases d : bbE s (se s a) (sW s (8 * (so s (a / 8) - 1) + a % 8)) = 0
    · exact Or.inl d
    · exact Or.inr (bbE_0 d)
  · rw [if_neg c]
    by_cases e0 : se s a = 0
    · exact Or.inl e0
    · exact Or.inr ⟨e0, rfl⟩
theorem ldW_succ (s : St) (d : Nat) : ldW s (d + 1) = if wat (ldW s d) d = true then tkW (ldW s d) d else ldW s d := by
  unfold ldW
  rw [fo_last, Nat.zero_add]
theorem inv_ldW (h : Inv s pl) (d : Nat) : Inv (ldW s d) pl := by
  induction d with
  | zero => exact h
  | succ d ih =>
    rw [ldW_succ]
    by_cases c : wat (ldW s d) d = true
    · rw [if_pos c]; exact inv_tkW ih d
    · rw [if_neg c]; exact ih
theorem inv_loa (h : Inv s pl) {f : Nat} (hf : f < 16) : Inv (loa s f) pl := inv_ldW (inv_ld1 h hf) 16
theorem ldW_sc (s : St) (d : Nat) : sc (ldW s d) = sc s := by
  induction d with
  | zero => rfl
  | succ d ih =>
    rw [ldW_succ]
    by_cases c : wat (ldW s d) d = true
    · rw [if_pos c]; exact ih
    · rw [if_neg c]; exact ih
theorem inv_fls (h : Inv s pl) (v : Nat) : Inv (fls s v) pl := by
  unfold fls
  by_cases c : upe s v = 0
  · rw [if_pos c]; exact h
  · rw [if_neg c]; exact inv_rm1 h _
theorem inv_tke (h : Inv s pl) (o : Option Nat) (i : Nat) : Inv (tke s o i) pl := by
  unfold tke
  cases o with
  | none => exact h
  | some n => exact inv_rm1 h _
theorem inv_dev (h : Inv s pl) {f i x : Nat} (hf : f < 16) (hx : x < 4096) : Inv (dev s f i x) pl := inv_tke (inv_tke (inv_um (inv_stoW h hx) (sbt_lt (n := 16) h.1.2.2.2.1 hf)) _ _) _ _
theorem inv_unm (h : Inv s pl) (f : Nat) : Inv (unm s f) pl := by
  unfold unm
  obtain ⟨⟨g1, g2, g3, g4, g5⟩, hp, he⟩ := h
  refine ⟨⟨g1, fun k hk => ?_, fun k hk hw => ?_, g4, g5⟩, hp, fun a ha hn => ?_⟩
  · show up1 (sH s) f 0 k ≤ 32
    by_cases c : k = f
    · subst c; rw [up1_s]; omega
    · rw [up1_n c]; exact g2 k hk
  · have hw : up1 (sw s) f false k = true := hw
    show 0 < up1 (sH s) f 0 k
    by_cases c : k = f
    · subst c; rw [up1_s] at hw; cases hw
    · rw [up1_n c] at hw ⊢; exact g3 k hk hw
  · replace hn : (if isM s a f = true then 0 else se s a) ≠ 0 := hn
    show sk s (a / 8) ≠ 0 ∧ (sk s (a / 8) = 1 → ((if isM s a f = true then 0 else se s a) - 1) / 4 < 8 ∧ 2 ≤ sk s (((if isM s a f = true then 0 else se s a) - 1) / 4)) ∧ (2 ≤ sk s (a / 8) → ((if isM s a f = true then 0 else se s a) - 1) / 4 < 16 ∧ 0 < up1 (sH s) f 0 (((if isM s a f = true then 0 else se s a) - 1) / 4))
    by_cases c : isM s a f = true
    · rw [if_pos c] at hn; exact absurd rfl hn
    · rw [if_neg c] at hn
      rw [if_neg c]
      obtain ⟨e1, e2, e3⟩ := he a ha hn
      refine ⟨e1, e2, fun k => ?_⟩
      rw [isM_iff] at c
      rw [up1_n (fun q => c ⟨k, hn, q⟩)]
      exact e3 k
theorem inv_giv (h : Inv s pl) {f x : Nat} (hf : f < 16) (hx : x < 32) (w : Bool) (h0 : sH s f = 0) : Inv (giv s f x w) pl := by
  unfold giv
  obtain ⟨⟨g1, g2, g3, g4, g5⟩, hp, he⟩ := h
  refine ⟨⟨g1, fun k hk => ?_, fun k hk hw => ?_, cbt_lt (n := 16) g4, g5⟩, hp, fun a ha hn => ?_⟩
  · show up1 (sH s) f (x + 1) k ≤ 32
    by_cases c : k = f
    · subst c; rw [up1_s]; omega
    · rw [up1_n c]; exact g2 k hk
  · have hw : up1 (sw s) f w k = true := hw
    show 0 < up1 (sH s) f (x + 1) k
    by_cases c : k = f
    · subst c; rw [up1_s]; omega
    · rw [up1_n c] at hw ⊢; exact g3 k hk hw
  · replace hn : se s a ≠ 0 := hn
    obtain ⟨e1, e2, e3⟩ := he a ha hn
    refine ⟨e1, e2, fun k => ?_⟩
    have e4 := e3 k
    refine ⟨e4.1, ?_⟩
    show 0 < up1 (sH s) f (x + 1) ((se s a - 1) / 4)
    by_cases c : (se s a - 1) / 4 = f
    · rw [c, up1_s]; omega
    · rw [up1_n c]; exact e4.2
theorem inv_pro (h : Inv s pl) (f : Nat) : Inv (pro s f) pl := by
  refine inv_tkW (inv_uw h fun n hn hw => ?_) f
  by_cases c : n = f
  · subst c; rw [up1_s] at hw; cases hw
  · rw [up1_n c] at hw; exact h.1.2.2.1 n hn hw
theorem inv_cle (h : Inv s pl) (f : Nat) : Inv (cle s f) pl := inv_tkW (inv_um h (cbt_lt (n := 16) h.1.2.2.2.1)) f
end ACTS
