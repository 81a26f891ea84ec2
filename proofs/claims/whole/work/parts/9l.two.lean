/-! ===== what both sides keep, call by call ===== -/
theorem sc_tke (s : St) (o : Option Nat) (i : Nat) : sc (tke s o i) = sc s := by cases o <;> rfl
theorem sc_sto3 (s : St) (f i : Nat) : sc (sto3 s f i) = sc s := by unfold sto3; cases fnd s 0 f <;> rfl
theorem sc_sto4 (s : St) (f i : Nat) : sc (sto4 s f i) = sc s := by
  unfold sto4
  cases fnd s 1 f with
  | none => exact sc_sto3 s f i
  | some l => exact sc_sto3 s f i
theorem sc_or2 (s : St) (a : Nat) : sc (or2 s a) = sc s := by unfold or2; split <;> rfl
theorem sc_sto2 (s : St) (f i p : Nat) : sc (sto2 s f i p) = sc s := by
  unfold sto2
  split
  · exact sc_sto4 s f i
  · rw [sc_or2]; exact sc_sto4 s f i
theorem sc_stS (r : St × Nat × Nat × Nat × Bool) (i x : Nat) : sc (stS r i x) = sc r.1 := by
  unfold stS
  split
  · rfl
  · split
    · rw [sc_sto2]; rfl
    · rfl
theorem sc_ldW (d : Nat) : ∀ (k : Nat) (s : St), sc (fo (fun f s => if wat s f = true then tkW s f else s) d k s) = sc s := by
  induction d with
  | zero => intro k s; rfl
  | succ d ih =>
    intro k s
    show sc (fo _ d (k + 1) (if wat s k = true then tkW s k else s)) = _
    rw [ih]
    split <;> rfl
theorem sc_loa (s : St) (f : Nat) : sc (loa s f) = sc s := by unfold loa ldW; rw [sc_ldW]; rfl
theorem sc_fls (s : St) (v : Nat) : sc (fls s v) = sc s := by unfold fls; split <;> rfl
theorem sc_dev (s : St) (f i x : Nat) : sc (dev s f i x) = sc s := by unfold dev; rw [sc_tke, sc_tke]; rfl
theorem b2_sum (b : Bool) : b2 (!b) 1 + b2 b 1 ≤ 1 := by cases b <;> decide
section WVS
variable {W : WD} {c : Nat}
theorem wv_ans (h : WV W c) (b : Bool) (r : Int32) : WV (ans W b r).2 (c + 1) := by unfold ans; split <;> exact h.ee (by omega)
theorem wv_ans2 (h : WV W c) (b : Bool) (r : Int32) : WV (ans2 W b r).2 (c + 1) := by unfold ans2; split <;> (try split) <;> exact h.ee (by omega)
theorem wv_ans3 (h : WV W c) (a b : Bool) (r : Int32) : WV (ans3 W a b r).2 (c + 1) := by unfold ans3; split <;> (try split) <;> exact h.ee (by omega)
theorem wv_ra (h : WV W c) (b : Bool) : WV (ra W b).2 (c + 1) := by unfold ra; split <;> exact h.ee (by omega)
theorem wv_uF (h : WV W c) (hn : vN W + 1 ≤ 900) (b : Nat) : WV (uF W b) c := h.fd (by omega) b
theorem wv_ap4 (h : WV W c) (hn : vN W + 4 ≤ 900) (z : Int32) : WV (ap4 W z) c := by
  unfold ap4
  exact (((h.fd (by omega) _).fd (show vN W + 1 < 900 by omega) _).fd (show vN W + 1 + 1 < 900 by omega) _).fd (show vN W + 1 + 1 + 1 < 900 by omega) _
theorem wv_fed (h : WV W c) (v1 v2 v3 v4 v5 : Int32) : WV (fed W v1 v2 v3 v4 v5).2 (c + 1) := by
  unfold fed
  split
  · exact h.up
  · rename_i d
    have h1 := wv_ap4 h (by omega) v1
    have h2 := wv_ap4 h1 (show vN W + 1 + 1 + 1 + 1 + 4 ≤ 900 by omega) v2
    have h3 := wv_ap4 h2 (show vN W + 1 + 1 + 1 + 1 + 1 + 1 + 1 + 1 + 4 ≤ 900 by omega) v3
    have h4 := wv_ap4 h3 (show vN W + 1 + 1 + 1 + 1 + 1 + 1 + 1 + 1 + 1 + 1 + 1 + 1 + 4 ≤ 900 by omega) v4
    have h5 := wv_ap4 h4 (show vN W + 1 + 1 + 1 + 1 + 1 + 1 + 1 + 1 + 1 + 1 + 1 + 1 + 1 + 1 + 1 + 1 + 4 ≤ 900 by omega) v5
    exact h5.up
theorem ok_r {r : Bool} {n : Nat} {v : Int32} (h : ok r n v = true) : r = true := by
  cases r
  · rw [ok_ff] at h; cases h
  · rfl
theorem wv_acc (h : WV W c) (v : Int32) (wr us : Bool) : WV (acc W v wr us).2 (c + 1) := by
  unfold acc
  split
  · rename_i z
    have hr := ok_r z
    obtain ⟨-, f, hf, rfl⟩ := ok_t (by omega) z
    rw [ic_clamp (show f < 2147483648 by omega)]
    obtain ⟨V1, V2, V3, -⟩ := h.2.2.2.2.2.2.1 hr
    obtain ⟨i1, i2, -⟩ := inv_rch V3.1 hf wr us
    exact h.act hr i1 i2 (b2_sum _)
  · exact h.ee (by omega)
theorem wv_sto (h : WV W c) (v i x : Int32) (us : Bool) : WV (sto W v i x us).2 (c + 1) := by
  unfold sto
  split
  · rename_i z
    split
    · rename_i z3
      rw [Bool.and_eq_true] at z
      have hr := ok_r z.1
      obtain ⟨-, f, hf, rfl⟩ := ok_t (by omega) z.1
      obtain ⟨-, n, hn, rfl⟩ := ok_t (by omega) z3
      rw [ic_clamp (show f < 2147483648 by omega), ic_clamp (show n < 2147483648 by omega)]
      obtain ⟨V1, V2, V3, -⟩ := h.2.2.2.2.2.2.1 hr
      obtain ⟨i1, i2, -⟩ := inv_rch V3.1 hf true us
      exact h.act hr (inv_stS V3.1 hf us hn) (by rw [sc_stS]; exact i2) (b2_sum _)
    · exact h.ee (by omega)
  · exact h.ee (by omega)
theorem wv_lod (h : WV W c) (v : Int32) : WV (lod W v).2 (c + 1) := by
  unfold lod
  split
  · rename_i z
    have hr := ok_r z
    obtain ⟨-, f, hf, rfl⟩ := ok_t (by omega) z
    rw [ic_clamp (show f < 2147483648 by omega)]
    exact h.act hr (inv_loa (h.2.2.2.2.2.2.1 hr).2.2.1.1 hf) (by rw [sc_loa]; omega) (by omega)
  · exact h.ee (by omega)
theorem wv_flu (h : WV W c) (v : Int32) : WV (flu W v).2 (c + 1) := by
  unfold flu
  split
  · rename_i z
    have hr := ok_r z
    exact h.act hr (inv_fls (h.2.2.2.2.2.2.1 hr).2.2.1.1 _) (by rw [sc_fls]; omega) (by omega)
  · exact h.ee (by omega)
theorem wv_dv (h : WV W c) (v i x : Int32) : WV (dvW W v i x).2 (c + 1) := by
  unfold dvW
  split
  · rename_i z
    split
    · rename_i z3
      split
      · rw [Bool.and_eq_true] at z
        have hr := ok_r z.1
        obtain ⟨-, f, hf, rfl⟩ := ok_t (by omega) z.1
        obtain ⟨-, n, hn, rfl⟩ := ok_t (by omega) z3
        rw [ic_clamp (show f < 2147483648 by omega), ic_clamp (show n < 2147483648 by omega)]
        exact h.act hr (inv_dev (h.2.2.2.2.2.2.1 hr).2.2.1.1 hf hn) (by rw [sc_dev]; omega) (by omega)
      · exact h.ee (by omega)
    · exact h.ee (by omega)
  · exact h.ee (by omega)
theorem wv_un (h : WV W c) (v : Int32) : WV (unW W v).2 (c + 1) := by
  unfold unW
  split
  · rename_i z
    split
    · have hr := ok_r z
      exact h.act hr (inv_unm (h.2.2.2.2.2.2.1 hr).2.2.1.1 _) (show sc (vS W) ≤ _ by omega) (by omega)
    · exact h.ee (by omega)
  · exact h.ee (by omega)
theorem wv_gi (h : WV W c) (v x : Int32) (b : Bool) : WV (giW W v x b).2 (c + 1) := by
  unfold giW
  split
  · rename_i z
    split
    · rename_i z3
      split
      · rename_i q
        have hr := ok_r z
        obtain ⟨-, f, hf, rfl⟩ := ok_t (by omega) z
        obtain ⟨-, n, hn, rfl⟩ := ok_t (by omega) z3
        rw [ic_clamp (show f < 2147483648 by omega), ic_clamp (show n < 2147483648 by omega)] at *
        exact h.act hr (inv_giv (h.2.2.2.2.2.2.1 hr).2.2.1.1 hf hn b q.1) (show sc (vS W) ≤ _ by omega) (by omega)
      · exact h.ee (by omega)
    · exact h.ee (by omega)
  · exact h.ee (by omega)
theorem wv_pr (h : WV W c) (v : Int32) : WV (prW W v).2 (c + 1) := by
  unfold prW
  split
  · rename_i z
    split
    · have hr := ok_r z
      exact h.act hr (inv_pro (h.2.2.2.2.2.2.1 hr).2.2.1.1 _) (show sc (vS W) ≤ _ by omega) (by omega)
    · exact h.ee (by omega)
  · exact h.ee (by omega)
theorem wv_cl (h : WV W c) (v : Int32) : WV (clW W v).2 (c + 1) := by
  unfold clW
  split
  · rename_i z
    have hr := ok_r z
    exact h.act hr (inv_cle (h.2.2.2.2.2.2.1 hr).2.2.1.1 _) (show sc (vS W) ≤ _ by omega) (by omega)
  · exact h.ee (by omega)
theorem wv_und (h : WV W c) : WV (unD W).2 (c + 1) := by
  unfold unD
  split
  · exact h.ee (by omega)
  · rename_i d; exact (h.un d).ee (by omega)
theorem wv_im (h : WV W c) : WV (imD W).2 (c + 1) := by
  unfold imD
  split
  · rename_i hr
    split
    · exact h.ee (by omega)
    · rename_i d; exact (h.im hr d).ee (by omega)
  · exact h.ee (by omega)
theorem wv_bk (h : WV W c) (v : Int32) : WV (bkD W v).2 (c + 1) := by
  unfold bkD
  have h3 := h.2.2.1
  split
  · rename_i z
    obtain ⟨-, k, hk, rfl⟩ := ok_t (by omega) z
    rw [ic_clamp (show k < 2147483648 by omega)]
    exact (h.bk hk).ee (by omega)
  · exact h.ee (by omega)
end WVS
/-- what holds between two calls -/
def IN (h : AH) (W : WD) (c : Nat) : Prop := ∃ S I L ta tb a, h = hp S I L ∧ KH S I 1 2 ta tb 24 34 44 45 46 190 217 224 W c ∧ 223 < a ∧ LM S 217 a (vR W) ∧ XI I 217 a W ∧ 225 ≤ nS S ∧ nS S ≤ 225 + 12 * c ∧ uS S ≤ 100000 + 342 * c
section TWO
variable {S S2 : SH} {I J : II} {L : LL} {o x ta tb p q rg pc rs ps m ou a c e : Nat} {W : WD}
set_option maxRecDepth 100000 in
theorem LY.lc (h : LY S 1 2 ta tb 24 34 44 45 46 190 217 224) (hA : AD 1 2 ta tb 24 34 44 45 46 190 217 224) (eT : ∀ y, y < 225 → tT S2 y = tT S y) (eR : ∀ y k, y < 225 → y ≠ 217 → tR S2 y k = tR S y k) (eM : ∀ k, k ≠ 3 → k ≠ 4 → tR S2 217 k = tR S 217 k) : LY S2 1 2 ta tb 24 34 44 45 46 190 217 224 := by
  obtain ⟨y0, yx, y1, y2, y4, y5, y6, y9, hx, hT, hT2, hP, hQ, ⟨yr, ys⟩, ⟨yp, yq⟩, hM, hO⟩ := h
  have hab : (ta = 4 ∧ tb = 14) ∨ (ta = 14 ∧ tb = 4) := hA.2.2.2.2.2.2.2.2.2.2
  have gl : ∀ g, g < 215 → GL S g → GL S2 g := fun g hg h => by
    unfold GL at h ⊢
    rw [eT g (by omega), eT (g + 1) (by omega), eT (g + 2) (by omega), eR g _ (by omega) (by omega), eR g _ (by omega) (by omega)]
    exact h
  have ql : ∀ g, g < 212 → QL S g → QL S2 g := fun g hg h => by
    unfold QL at h ⊢
    rw [eT g (by omega), eT (g + 1) (by omega), eT (g + 2) (by omega), eT (g + 3) (by omega), eT (g + 4) (by omega), eR g _ (by omega) (by omega), eR g _ (by omega) (by omega), eR g _ (by omega) (by omega), eR g _ (by omega) (by omega)]
    exact h
  have tl : ∀ t, t < 100 → TL S t → TL S2 t := fun t ht h => by
    have hg := gl (t + 1) (by omega) h.2.2.1
    unfold TL at h ⊢
    obtain ⟨h1, h2, -, h4⟩ := h
    refine ⟨by rw [eT t (by omega)]; exact h1, by rw [eR t _ (by omega) (by omega)]; exact h2, hg, ?_⟩
    simp only [eR t _ (show t < 225 by omega) (show t ≠ 217 by omega), eT (t + 4) (show t + 4 < 225 by omega), eT (t + 5) (show t + 5 < 225 by omega), eT (t + 6) (show t + 6 < 225 by omega), eT (t + 7) (show t + 7 < 225 by omega), eT (t + 8) (show t + 8 < 225 by omega), eT (t + 9) (show t + 9 < 225 by omega)]
    exact h4
  have pl9 : ∀ t, t < 100 → PL S t → PL S2 t := fun t ht h => by
    have hg := gl (t + 2) (by omega) h.G
    have hq := ql (t + 5) (by omega) h.Q
    exact ⟨by rw [eT t (by omega)]; exact h.1, by rw [eR t _ (by omega) (by omega)]; exact h.2.1, by rw [eR t _ (by omega) (by omega)]; exact h.2.2.1, by rw [eR t _ (by omega) (by omega)]; exact h.2.2.2.1, hg, hq, by rw [eT (t + 1) (by omega)]; exact h.2.2.2.2.2.2.1, by rw [eR (t + 1) _ (by omega) (by omega)]; exact h.2.2.2.2.2.2.2.1, by rw [eR (t + 1) _ (by omega) (by omega)]; exact h.2.2.2.2.2.2.2.2⟩
  have sl : ∀ t, t ≤ 208 → SL S t → SL S2 t := fun t ht h => by
    have hg := gl (t + 1) (by omega) h.2.2.2.1
    have hq : QL S2 (t + 4) := by
      have h5 := h.2.2.2.2
      unfold QL at h5 ⊢
      rw [eT (t + 4) (by omega), eT (t + 4 + 1) (by omega), eT (t + 4 + 2) (by omega), eT (t + 4 + 3) (by omega), eT (t + 4 + 4) (by omega), eR (t + 4) _ (by omega) (by omega), eR (t + 4) _ (by omega) (by omega), eR (t + 4) _ (by omega) (by omega), eR (t + 4) _ (by omega) (by omega)]
      exact h5
    exact ⟨by rw [eT t (by omega)]; exact h.1, by rw [eR t _ (by omega) (by omega)]; exact h.2.1, by rw [eR t _ (by omega) (by omega)]; exact h.2.2.1, hg, hq⟩
  refine ⟨by rw [eT 1 (by omega)]; exact y0, by rw [eR 1 _ (by omega) (by omega)]; exact yx, by rw [eR 1 _ (by omega) (by omega)]; exact y1, by rw [eR 1 _ (by omega) (by omega)]; exact y2, by rw [eR 1 _ (by omega) (by omega)]; exact y4, by rw [eR 1 _ (by omega) (by omega)]; exact y5, by rw [eR 1 _ (by omega) (by omega)]; exact y6, by rw [eR 1 _ (by omega) (by omega)]; exact y9, ⟨by rw [eT 2 (by omega)]; exact hx.1, by rw [eR 2 _ (by omega) (by omega)]; exact hx.2.1, by rw [eT (2 + 1) (by omega)]; exact hx.2.2⟩, tl ta (by omega) hT, tl tb (by omega) hT2, pl9 24 (by omega) hP, pl9 34 (by omega) hQ, ⟨by rw [eT 44 (by omega)]; exact yr, fun i hi => ⟨by rw [eR 44 _ (by omega) (by omega)]; exact (ys i hi).1, sl _ (by omega) (ys i hi).2⟩⟩, ⟨by rw [eT 45 (by omega)]; exact yp, fun i hi => ⟨by rw [eR 45 _ (by omega) (by omega)]; exact (yq i hi).1, sl _ (by omega) (yq i hi).2⟩⟩, hM.lc (fun y q1 q2 => eT y (by omega)) eM, by rw [eT 224 (by omega)]; exact hO⟩
def KF (f : AH → Option (Int32 × AH)) (F : WD → Int32 × WD) : Prop := ∀ S I L ta tb W c, c < 1000000 → KH S I 1 2 ta tb 24 34 44 45 46 190 217 224 W c → KD S I L 1 2 24 34 44 45 46 190 217 224 (f (hp S I L)) (F W)
def XF (g : AH → Option (Int32 × AH)) (F : WD → Int32 × WD) : Prop := ∀ S I L a W c, c < 1000000 → XH S I 217 a W c → 225 ≤ nS S → XD S I 217 (g (hp S I L)) (F W)
/-- a call on both sides -/
def Two (f g : AH → Option (Int32 × AH)) : Prop := ∀ h W c, c < 1000000 → IN h W c → ∃ r h1 h2 W', f h = some (r, h1) ∧ g h1 = some (r, h2) ∧ (tg h1 217).1 = 8 ∧ IN h2 W' (c + 1)
set_option maxRecDepth 100000 in
theorem two_of {f g : AH → Option (Int32 × AH)} (F : WD → Int32 × WD) (hk : KF f F) (hx : XF g F) (hw : ∀ W c, WV W c → WV (F W).2 (c + 1)) : Two f g := by
  intro h W c hc hI
  obtain ⟨S, I, L, ta, tb, a, rfl, H, ha, hM, hX, n1, n2, u1⟩ := hI
  obtain ⟨S', J, ta', tb', e1, s1, eT, eR, hA', hY', hC', fJ⟩ := hk S I L ta tb W c hc H
  have nS' : nS S' = nS S := by unfold nS; rw [s1]
  have uS' : uS S' = uS S := by unfold uS; rw [s1]
  have hM' : LM S' 217 a (vR W) := by
    refine ⟨fun z => ?_, fun z => by rw [eR 217 3 (by omega)]; exact hM.2 z⟩
    obtain ⟨l1, l2, l3, l4⟩ := hM.1 z
    exact ⟨by rw [eR 217 3 (by omega)]; exact l1, l2, by rw [nS']; exact l3, l4.lc (fun y _ _ => eT y) (fun k => eR a k (by omega))⟩
  have HX : XH S' J 217 a W c := ⟨hY'.2.2.2.2.2.2.2.2.2.2.2.2.2.2.2.1, ha, hM', hX.hi ha (fun y hy => fJ y hy), H.2.2.2⟩
  obtain ⟨S2, J2, L2, a2, e2, eT2, eR2, eM2, m1', m2', v1, v2, ha2, hM2, hX2, f2⟩ := hx S' J L a W c hc HX (by omega)
  have hV2 := hw W c H.2.2.2
  refine ⟨_, _, _, _, e1, e2, (show (tT S' 217).1 = 8 from by rw [HX.1.1]), S2, J2, L2, ta', tb', a2, rfl, ⟨hA', hY'.lc hA' (fun y hy => eT2 y (by omega)) (fun y k q1 q2 => eR2 y k (by omega) q2) eM2, hC'.lo hA' hV2.2.1 hV2.2.2.1 f2, hV2⟩, ha2, hM2, hX2, by omega, by omega, by omega⟩
end TWO
