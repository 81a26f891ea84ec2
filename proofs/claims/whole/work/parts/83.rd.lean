/-! ===== what a line leaves, all lines ===== -/
def PX (T : TS) : Prop := (tP T = 0 ∧ hN T = 0 ∧ wN T = 0 ∧ tN T = 0 ∧ dN T = 0 ∧ zN T = 0) ∨ 3 ≤ tP T
theorem PX.pv {T : TS} (h : PX T) : PV T := by
  intro z
  rcases h with h | h
  · exact h.2
  · omega
def rd (b : Nat → Nat) (n : Nat) : Nat → TS → TK → LR
  | 0, _, _ => .inl (0, 0)
  | f + 1, T, tk => match ln b n T tk with
    | .inl r => .inl r
    | .inr (T', k') => if k'.1 = 0 then .inr (T', k') else if k'.1 = 3 then rd b n f T' (nt b n k') else .inl (1, k'.2.1)
section RD
variable {b : Nat → Nat} {n : Nat} {tk k1 k' : TK} {T T' : TS}
theorem tok_fr (b : Nat → Nat) (n p : Nat) : (tok b n p).2.1 = tFr b n p := by
  unfold tok
  by_cases c1 : n ≤ tFr b n p
  · rw [if_pos c1]
  · rw [if_neg c1]
    by_cases c2 : sml (b (tFr b n p)) = true
    · rw [if_pos c2]
    · rw [if_neg c2]
      by_cases c3 : dgt (b (tFr b n p)) = true
      · rw [if_pos c3]
      · rw [if_neg c3]
theorem nt_ge (b : Nat → Nat) (n : Nat) (tk : TK) : tk.2.2.1 ≤ (nt b n tk).2.1 := by
  unfold nt
  rw [tok_fr]
  exact rl_le.1
theorem nt_v (h : TKV b n tk) : TKV b n (nt b n tk) := tok_ok h.2.2.1
theorem nt_le (h : TKV b n tk) : tk.2.1 ≤ (nt b n tk).2.1 := Nat.le_trans h.2.1 (nt_ge b n tk)
theorem tv_uHo (h : TV T) {f h9 : Nat} (hh : h9 < 32) (hn : hN T < 16) (bb : Bool) : TV (uHo T f h9 bb) := by
  obtain ⟨g1, g2, g3, g4, g5⟩ := h.2.1
  refine ⟨h.1, ?_, ?_, h.2.2.2.1, h.2.2.2.2.1, h.2.2.2.2.2.1, ?_, h.2.2.2.2.2.2.2⟩
  · show IG (uw (uH (tG T) (up1 (sH (tG T)) f (h9 + 1))) (up1 (sw (tG T)) f bb))
    unfold IG
    simp only [sWuW, sWuH, sWuw, sWum, sWur, sWuk, sWuo, sWub, sWuu, sWue, sWuc, sHuW, sHuH, sHuw, sHum, sHur, sHuk, sHuo, sHub, sHuu, sHue, sHuc, swuW, swuH, swuw, swum, swur, swuk, swuo, swub, swuu, swue, swuc, smuW, smuH, smuw, smum, smur, smuk, smuo, smub, smuu, smue, smuc, sruW, sruH, sruw, srum, srur, sruk, sruo, srub, sruu, srue, sruc, skuW, skuH, skuw, skum, skur, skuk, skuo, skub, skuu, skue, skuc, souW, souH, souw, soum, sour, souk, souo, soub, souu, soue, souc, sbuW, sbuH, sbuw, sbum, sbur, sbuk, sbuo, sbub, sbuu, sbue, sbuc, suuW, suuH, suuw, suum, suur, suuk, suuo, suub, suuu, suue, suuc, seuW, seuH, seuw, seum, seur, seuk, seuo, seub, seuu, seue, seuc, scuW, scuH, scuw, scum, scur, scuk, scuo, scub, scuu, scue, scuc]
    refine ⟨g1, fun g hg => ?_, fun g hg q => ?_, g4, g5⟩
    · by_cases d : g = f
      · rw [d, up1_s]; omega
      · rw [up1_n d]; exact g2 g hg
    · by_cases d : g = f
      · rw [d, up1_s]; omega
      · rw [up1_n d] at q ⊢; exact g3 g hg q
  · show sm (uw (uH (tG T) (up1 (sH (tG T)) f (h9 + 1))) (up1 (sw (tG T)) f bb)) = 0
    simp only [sWuW, sWuH, sWuw, sWum, sWur, sWuk, sWuo, sWub, sWuu, sWue, sWuc, sHuW, sHuH, sHuw, sHum, sHur, sHuk, sHuo, sHub, sHuu, sHue, sHuc, swuW, swuH, swuw, swum, swur, swuk, swuo, swub, swuu, swue, swuc, smuW, smuH, smuw, smum, smur, smuk, smuo, smub, smuu, smue, smuc, sruW, sruH, sruw, srum, srur, sruk, sruo, srub, sruu, srue, sruc, skuW, skuH, skuw, skum, skur, skuk, skuo, skub, skuu, skue, skuc, souW, souH, souw, soum, sour, souk, souo, soub, souu, soue, souc, sbuW, sbuH, sbuw, sbum, sbur, sbuk, sbuo, sbub, sbuu, sbue, sbuc, suuW, suuH, suuw, suum, suur, suuk, suuo, suub, suuu, suue, suuc, seuW, seuH, seuw, seum, seur, seuk, seuo, seub, seuu, seue, seuc, scuW, scuH, scuw, scum, scur, scuk, scuo, scub, scuu, scue, scuc]
    exact h.2.2.1
  · show hN T + 1 ≤ 16
    omega
theorem tv_uWo (h : TV T) {k v : Nat} (hv : v < 4096) (hn : wN T < 24) : TV (uWo T k v) := by
  obtain ⟨g1, g2, g3, g4, g5⟩ := h.2.1
  refine ⟨h.1, ?_, ?_, h.2.2.2.1, h.2.2.2.2.1, h.2.2.2.2.2.1, h.2.2.2.2.2.2.1, ?_⟩
  · show IG (uW (tG T) (up1 (sW (tG T)) k v))
    unfold IG
    simp only [sWuW, sWuH, sWuw, sWum, sWur, sWuk, sWuo, sWub, sWuu, sWue, sWuc, sHuW, sHuH, sHuw, sHum, sHur, sHuk, sHuo, sHub, sHuu, sHue, sHuc, swuW, swuH, swuw, swum, swur, swuk, swuo, swub, swuu, swue, swuc, smuW, smuH, smuw, smum, smur, smuk, smuo, smub, smuu, smue, smuc, sruW, sruH, sruw, srum, srur, sruk, sruo, srub, sruu, srue, sruc, skuW, skuH, skuw, skum, skur, skuk, skuo, skub, skuu, skue, skuc, souW, souH, souw, soum, sour, souk, souo, soub, souu, soue, souc, sbuW, sbuH, sbuw, sbum, sbur, sbuk, sbuo, sbub, sbuu, sbue, sbuc, suuW, suuH, suuw, suum, suur, suuk, suuo, suub, suuu, suue, suuc, seuW, seuH, seuw, seum, seur, seuk, seuo, seub, seuu, seue, seuc, scuW, scuH, scuw, scum, scur, scuk, scuo, scub, scuu, scue, scuc]
    refine ⟨fun g hg => ?_, g2, g3, g4, g5⟩
    by_cases d : g = k
    · rw [d, up1_s]; omega
    · rw [up1_n d]; exact g1 g hg
  · show sm (uW (tG T) (up1 (sW (tG T)) k v)) = 0
    simp only [sWuW, sWuH, sWuw, sWum, sWur, sWuk, sWuo, sWub, sWuu, sWue, sWuc, sHuW, sHuH, sHuw, sHum, sHur, sHuk, sHuo, sHub, sHuu, sHue, sHuc, swuW, swuH, swuw, swum, swur, swuk, swuo, swub, swuu, swue, swuc, smuW, smuH, smuw, smum, smur, smuk, smuo, smub, smuu, smue, smuc, sruW, sruH, sruw, srum, srur, sruk, sruo, srub, sruu, srue, sruc, skuW, skuH, skuw, skum, skur, skuk, skuo, skub, skuu, skue, skuc, souW, souH, souw, soum, sour, souk, souo, soub, souu, soue, souc, sbuW, sbuH, sbuw, sbum, sbur, sbuk, sbuo, sbub, sbuu, sbue, sbuc, suuW, suuH, suuw, suum, suur, suuk, suuo, suub, suuu, suue, suuc, seuW, seuH, seuw, seum, seur, seuk, seuo, seub, seuu, seue, seuc, scuW, scuH, scuw, scum, scur, scuk, scuo, scub, scuu, scue, scuc]
    exact h.2.2.1
  · show wN T + 1 ≤ 24
    omega
theorem tv_uD (h : TV T) {k v : Nat} (hk : k < 128) (hv : v < 4096) (hn : dN T < 4) : TV (uD T k v) := by
  refine ⟨h.1, h.2.1, h.2.2.1, h.2.2.2.1, ⟨show dN T + 1 ≤ 4 by omega, fun i hi => ?_⟩, h.2.2.2.2.2.1, h.2.2.2.2.2.2.1, h.2.2.2.2.2.2.2⟩
  have hi9 : i < dN T + 1 := hi
  show up1 (dS T) (dN T) k i < 128 ∧ up1 (dD T) (dN T) v i < 4096
  by_cases d : i = dN T
  · rw [d, up1_s, up1_s]; exact ⟨hk, hv⟩
  · rw [up1_n d, up1_n d]; exact h.2.2.2.2.1.2 i (by omega)
theorem tv_uN (h : TV T) {y : Nat} (hy : y < 256) (hn : tN T < 10) : TV (uN T y) := by
  refine ⟨h.1, h.2.1, h.2.2.1, ⟨show tN T + 1 ≤ 10 by omega, fun i hi => ?_⟩, h.2.2.2.2.1, h.2.2.2.2.2.1, h.2.2.2.2.2.2.1, h.2.2.2.2.2.2.2⟩
  have hi9 : i < tN T + 1 := hi
  show up1 (tY T) (tN T) y i < 256
  by_cases d : i = tN T
  · rw [d, up1_s]; exact hy
  · rw [up1_n d]; exact h.2.2.2.1.2 i (by omega)
theorem tv_uZ (h : TV T) {y : Nat} (hy : y < 256) (hn : zN T < 6) (z : Int32) : TV (uZ T y z) := by
  refine ⟨h.1, h.2.1, h.2.2.1, h.2.2.2.1, h.2.2.2.2.1, ⟨show zN T + 1 ≤ 6 by omega, fun i hi => ?_⟩, h.2.2.2.2.2.2.1, h.2.2.2.2.2.2.2⟩
  have hi9 : i < zN T + 1 := hi
  show up1 (zY T) (zN T) y i < 256
  by_cases d : i = zN T
  · rw [d, up1_s]; exact hy
  · rw [up1_n d]; exact h.2.2.2.2.2.1.2 i (by omega)
def LK (b : Nat → Nat) (n : Nat) (T : TS) (k1 : TK) (T' : TS) (k' : TK) : Prop := TV T' ∧ tP T' = tP T ∧ TKV b n k' ∧ k1.2.1 ≤ k'.2.1
theorem lH_ok (hK : TKV b n k1) (hV : TV T) (hn : hN T < 16) (h : lH b n T k1 = .inr (T', k')) : LK b n T k1 T' k' := by
  unfold lH at h
  by_cases c1 : wf k1 0 15 ≠ 0
  · rw [if_pos c1] at h; cases h
  · rw [if_neg c1] at h
    by_cases c2 : 0 < sH (tG T) k1.2.2.2
    · rw [if_pos c2] at h; cases h
    · rw [if_neg c2] at h
      by_cases c3 : wf (nt b n k1) 0 31 ≠ 0
      · rw [if_pos c3] at h; cases h
      · rw [if_neg c3] at h
        by_cases c4 : isH T (nt b n k1).2.2.2 = true
        · rw [if_pos c4] at h; cases h
        · rw [if_neg c4] at h
          by_cases c5 : nm b (nt b n (nt b n k1)) 9 = false ∧ nm b (nt b n (nt b n k1)) 10 = false
          · rw [if_pos c5] at h; cases h
          · rw [if_neg c5] at h
            have w := (wf_2 (a := 0) (c := 31) (tk := nt b n k1) (by omega)).2.2
            cases h
            exact ⟨tv_uHo hV (by omega) hn _, rfl, nt_v (nt_v (nt_v hK)), Nat.le_trans (nt_le hK) (Nat.le_trans (nt_le (nt_v hK)) (nt_le (nt_v (nt_v hK))))⟩
theorem lW_ok (hK : TKV b n k1) (hV : TV T) (su : Bool) (hn : if su = true then wN T < 24 else dN T < 4) (h : lW b n su T k1 = .inr (T', k')) : LK b n T k1 T' k' := by
  unfold lW at h
  by_cases c1 : wf k1 0 15 ≠ 0
  · rw [if_pos c1] at h; cases h
  · rw [if_neg c1] at h
    by_cases c2 : wf (nt b n k1) 0 7 ≠ 0
    · rw [if_pos c2] at h; cases h
    · rw [if_neg c2] at h
      by_cases c3 : tw su T (8 * k1.2.2.2 + (nt b n k1).2.2.2) = true
      · rw [if_pos c3] at h; cases h
      · rw [if_neg c3] at h
        by_cases c4 : wf (nt b n (nt b n k1)) 0 4095 ≠ 0
        · rw [if_pos c4] at h; cases h
        · rw [if_neg c4] at h
          have w1 := (wf_2 (a := 0) (c := 15) (tk := k1) (by omega)).2.2
          have w2 := (wf_2 (a := 0) (c := 7) (tk := nt b n k1) (by omega)).2.2
          have w3 := (wf_2 (a := 0) (c := 4095) (tk := nt b n (nt b n k1)) (by omega)).2.2
          cases h
          refine ⟨?_, ?_, nt_v (nt_v (nt_v hK)), Nat.le_trans (nt_le hK) (Nat.le_trans (nt_le (nt_v hK)) (nt_le (nt_v (nt_v hK))))⟩
          · cases su
            · exact tv_uD hV (by omega) (by omega) hn
            · exact tv_uWo hV (by omega) hn
          · cases su <;> rfl
theorem lR_ok (hK : TKV b n k1) (hV : TV T) (hn : tN T < 10) (h : lR b n T k1 = .inr (T', k')) : LK b n T k1 T' k' := by
  unfold lR at h
  by_cases c1 : wf k1 0 63 ≠ 0
  · rw [if_pos c1] at h; cases h
  · rw [if_neg c1] at h
    have w1 := (wf_2 (a := 0) (c := 63) (tk := k1) (by omega)).2.2
    cases hm : mo b (nt b n k1) with
    | none => rw [hm] at h; cases h
    | some w =>
      rw [hm, om_some] at h
      have w4 := (mo_lt hm).1
      cases h
      exact ⟨tv_uN hV (by omega) hn, rfl, nt_v (nt_v hK), Nat.le_trans (nt_le hK) (nt_le (nt_v hK))⟩
theorem lS_ok (hK : TKV b n k1) (hV : TV T) (hn : zN T < 6) (h : lS b n T k1 = .inr (T', k')) : LK b n T k1 T' k' := by
  unfold lS at h
  by_cases c1 : wf k1 0 63 ≠ 0
  · rw [if_pos c1] at h; cases h
  · rw [if_neg c1] at h
    have w1 := (wf_2 (a := 0) (c := 63) (tk := k1) (by omega)).2.2
    cases hm : mo b (nt b n k1) with
    | none => rw [hm] at h; cases h
    | some w =>
      rw [hm, om_some] at h
      have w4 := (mo_lt hm).1
      by_cases c2 : isZ T (4 * k1.2.2.2 + w) = true
      · rw [if_pos c2] at h; cases h
      · rw [if_neg c2] at h
        by_cases c3 : ho b (nt b n (nt b n k1)) = 1
        · rw [if_pos c3] at h; cases h
        · rw [if_neg c3] at h
          cases h
          exact ⟨tv_uZ hV (by omega) hn _, rfl, nt_v (nt_v (nt_v hK)), Nat.le_trans (nt_le hK) (Nat.le_trans (nt_le (nt_v hK)) (nt_le (nt_v (nt_v hK))))⟩
theorem tv_lM (h : TV T) {p r : Nat} (hp9 : p ≤ 8) (hr : r < 16) : TV (uG (uP T p) (ur (tG T) r)) := by
  obtain ⟨g1, g2, g3, g4, g5⟩ := h.2.1
  refine ⟨hp9, ?_, ?_, h.2.2.2.1, h.2.2.2.2.1, h.2.2.2.2.2.1, h.2.2.2.2.2.2.1, h.2.2.2.2.2.2.2⟩
  · show IG (ur (tG T) r)
    unfold IG
    simp only [sWuW, sWuH, sWuw, sWum, sWur, sWuk, sWuo, sWub, sWuu, sWue, sWuc, sHuW, sHuH, sHuw, sHum, sHur, sHuk, sHuo, sHub, sHuu, sHue, sHuc, swuW, swuH, swuw, swum, swur, swuk, swuo, swub, swuu, swue, swuc, smuW, smuH, smuw, smum, smur, smuk, smuo, smub, smuu, smue, smuc, sruW, sruH, sruw, srum, srur, sruk, sruo, srub, sruu, srue, sruc, skuW, skuH, skuw, skum, skur, skuk, skuo, skub, skuu, skue, skuc, souW, souH, souw, soum, sour, souk, souo, soub, souu, soue, souc, sbuW, sbuH, sbuw, sbum, sbur, sbuk, sbuo, sbub, sbuu, sbue, sbuc, suuW, suuH, suuw, suum, suur, suuk, suuo, suub, suuu, suue, suuc, seuW, seuH, seuw, seum, seur, seuk, seuo, seub, seuu, seue, seuc, scuW, scuH, scuw, scum, scur, scuk, scuo, scub, scuu, scue, scuc]
    exact ⟨g1, g2, g3, g4, hr⟩
  · show sm (ur (tG T) r) = 0
    simp only [sWuW, sWuH, sWuw, sWum, sWur, sWuk, sWuo, sWub, sWuu, sWue, sWuc, sHuW, sHuH, sHuw, sHum, sHur, sHuk, sHuo, sHub, sHuu, sHue, sHuc, swuW, swuH, swuw, swum, swur, swuk, swuo, swub, swuu, swue, swuc, smuW, smuH, smuw, smum, smur, smuk, smuo, smub, smuu, smue, smuc, sruW, sruH, sruw, srum, srur, sruk, sruo, srub, sruu, srue, sruc, skuW, skuH, skuw, skum, skur, skuk, skuo, skub, skuu, skue, skuc, souW, souH, souw, soum, sour, souk, souo, soub, souu, soue, souc, sbuW, sbuH, sbuw, sbum, sbur, sbuk, sbuo, sbub, sbuu, sbue, sbuc, suuW, suuH, suuw, suum, suur, suuk, suuo, suub, suuu, suue, suuc, seuW, seuH, seuw, seum, seur, seuk, seuo, seub, seuu, seue, seuc, scuW, scuH, scuw, scum, scur, scuk, scuo, scub, scuu, scue, scuc]
    exact h.2.2.1
theorem lM_ok (hK : TKV b n tk) (hV : TV T) (h1 : tk.1 = 1) (h : lM b n T tk = .inr (T', k')) : TV T' ∧ 3 ≤ tP T' ∧ TKV b n k' ∧ tk.2.1 < k'.2.1 := by
  unfold lM at h
  by_cases c1 : tP T ≠ 0
  · rw [if_pos c1] at h; cases h
  · rw [if_neg c1] at h
    by_cases c2 : nm b (nt b n tk) 2 = false
    · rw [if_pos c2] at h; cases h
    · rw [if_neg c2] at h
      by_cases c3 : wf (nt b n (nt b n tk)) 3 8 ≠ 0
      · rw [if_pos c3] at h; cases h
      · rw [if_neg c3] at h
        by_cases c4 : nm b (nt b n (nt b n (nt b n tk))) 3 = false
        · rw [if_pos c4] at h; cases h
        · rw [if_neg c4] at h
          by_cases c5 : wf (nt b n (nt b n (nt b n (nt b n tk)))) 0 15 ≠ 0
          · rw [if_pos c5] at h; cases h
          · rw [if_neg c5] at h
            obtain ⟨-, w1, w2⟩ := wf_2 (a := 3) (c := 8) (tk := nt b n (nt b n tk)) (by omega)
            obtain ⟨-, w3, w4⟩ := wf_2 (a := 0) (c := 15) (tk := nt b n (nt b n (nt b n (nt b n tk)))) (by omega)
            cases h
            have v1 := nt_v hK
            have v2 := nt_v v1
            have v3 := nt_v v2
            have v4 := nt_v v3
            have v5 := nt_v v4
            have l0 := hK.2.2.2.2.2 (by omega)
            have l1 := nt_ge b n tk
            have l2 := nt_le v1
            have l3 := nt_le v2
            have l4 := nt_le v3
            have l5 := nt_le v4
            exact ⟨tv_lM hV w2 (by omega), w1, v5, by omega⟩
theorem lbg_ok {c d : Nat} {Z : LR} (h : lbg T c d tk Z = .inr (T', k')) : c ≠ d ∧ tP T ≠ 0 ∧ Z = .inr (T', k') := by
  unfold lbg lb at h
  by_cases e : c = d
  · rw [if_pos e, if_pos (by decide)] at h; cases h
  · rw [if_neg e] at h
    by_cases z : tP T = 0
    · rw [if_pos z, if_pos (by decide)] at h; cases h
    · rw [if_neg z, if_neg (by decide)] at h; exact ⟨e, z, h⟩
theorem ln_ok (hK : TKV b n tk) (hV : TV T) (hP : PX T) (h : ln b n T tk = .inr (T', k')) : TV T' ∧ 3 ≤ tP T' ∧ TKV b n k' ∧ tk.2.1 < k'.2.1 := by
  unfold ln at h
  have fin : tk.1 = 1 → tP T ≠ 0 → LK b n T (nt b n tk) T' k' → TV T' ∧ 3 ≤ tP T' ∧ TKV b n k' ∧ tk.2.1 < k'.2.1 := by
    intro h1 z ⟨q1, q2, q3, q4⟩
    have l0 := hK.2.2.2.2.2 (by omega)
    have l1 := nt_ge b n tk
    refine ⟨q1, ?_, q3, by omega⟩
    rcases hP with p | p
    · exact absurd p.1 z
    · omega
  have v1 := nt_v hK
  by_cases c1 : nm b tk 1 = true
  · rw [if_pos c1] at h
    exact lM_ok hK hV (nm_1 c1) h
  · rw [if_neg c1] at h
    by_cases c4 : nm b tk 4 = true
    · rw [if_pos c4] at h
      obtain ⟨e, z, h⟩ := lbg_ok h
      have := hV.2.2.2.2.2.2.1
      exact fin (nm_1 c4) z (lH_ok v1 hV (by omega) h)
    · rw [if_neg c4] at h
      by_cases c5 : nm b tk 5 = true
      · rw [if_pos c5] at h
        obtain ⟨e, z, h⟩ := lbg_ok h
        have := hV.2.2.2.2.2.2.2
        exact fin (nm_1 c5) z (lW_ok v1 hV true (show wN T < 24 by omega) h)
      · rw [if_neg c5] at h
        by_cases c6 : nm b tk 6 = true
        · rw [if_pos c6] at h
          obtain ⟨e, z, h⟩ := lbg_ok h
          have := hV.2.2.2.1.1
          exact fin (nm_1 c6) z (lR_ok v1 hV (by omega) h)
        · rw [if_neg c6] at h
          by_cases c7 : nm b tk 7 = true
          · rw [if_pos c7] at h
            obtain ⟨e, z, h⟩ := lbg_ok h
            have := hV.2.2.2.2.1.1
            exact fin (nm_1 c7) z (lW_ok v1 hV false (show dN T < 4 by omega) h)
          · rw [if_neg c7] at h
            by_cases c8 : nm b tk 8 = true
            · rw [if_pos c8] at h
              obtain ⟨e, z, h⟩ := lbg_ok h
              have := hV.2.2.2.2.2.1.1
              exact fin (nm_1 c8) z (lS_ok v1 hV (by omega) h)
            · rw [if_neg c8] at h; cases h
theorem rd_ok : ∀ (f : Nat) {T : TS} {tk : TK}, TKV b n tk → TV T → PX T → ∀ {T' k'}, rd b n f T tk = .inr (T', k') → TV T' ∧ 3 ≤ tP T' := by
  intro f
  induction f with
  | zero => intro T tk _ _ _ T' k' h; cases h
  | succ f ih =>
    intro T tk hK hV hP T' k' h
    unfold rd at h
    cases e : ln b n T tk with
    | inl r => rw [e] at h; cases h
    | inr r =>
      obtain ⟨T1, k2⟩ := r
      rw [e] at h
      obtain ⟨q1, q2, q3, q4⟩ := ln_ok hK hV hP e
      replace h : (if k2.1 = 0 then (Sum.inr (T1, k2) : LR) else if k2.1 = 3 then rd b n f T1 (nt b n k2) else .inl (1, k2.2.1)) = .inr (T', k') := h
      by_cases c1 : k2.1 = 0
      · rw [if_pos c1] at h; cases h; exact ⟨q1, q2⟩
      · rw [if_neg c1] at h
        by_cases c2 : k2.1 = 3
        · rw [if_pos c2] at h; exact ih (nt_v q3) q1 (Or.inr q2) h
        · rw [if_neg c2] at h; cases h
end RD
section RDK
variable {S : SH} {L : LL} {x t n m a : Nat} {b : Nat → Nat}
theorem k_rd (hL : XL S x) (hT : TL S t) (hx : x + 1 < t) : ∀ (f F j : Nat) {I : II} {T : TS} {tk : TK}, CS I x b n tk → TR I t T → TV T → PX T → n < tk.2.1 + f → f < F → j + f ≤ 901 → KO S I L x t b n (p_X5_reads_35 F x t (ic j) (hp S I L)) (rd b n f T tk) := by
  intro f
  induction f with
  | zero => intro F j I T tk h _ _ _ h1; have := h.2.2.2.1.2.1; have := h.2.2.2.1.2.2.1; omega
  | succ f ih =>
    intro F j I T tk h hR hV hP h1 h2 h3
    obtain ⟨F, rfl⟩ : ∃ F', F = F' + 1 := ⟨F - 1, by omega⟩
    have K := k_ln (L := L) hL hT hx h hR hV hP.pv
    have b1 : (1 : Int32) &&& 1 = 1 := by decide
    have b0 : (0 : Int32) &&& 1 = 0 := by decide
    unfold p_X5_reads_35 rd
    rw [if_neg (by rw [show (900 : Int32) = ic 900 from rfl, ic_lt (by omega) (by omega)]; omega)]
    simp only [↓reduceIte, ↓if_bi0, hp_tg, hp_rR, hp_rI, hp_wI, eq_self, bi_t, bi_f, i10, if_true, if_false, Bool.false_eq_true, hL.1]
    cases e : ln b n T tk with
    | inl r =>
      rw [e] at K
      obtain ⟨J, e1, q1, q2, q3⟩ := K
      refine ⟨J, ?_, q1, q2, q3⟩
      refine Eq.trans (bnd e1) ?_
      refine Eq.trans (if_pos (by rfl)) ?_
      exact if_pos b0
    | inr r =>
      obtain ⟨T1, k2⟩ := r
      rw [e] at K
      obtain ⟨q1, q2, q3, q4⟩ := ln_ok h.2.2.2.1 hV hP e
      obtain ⟨J, e1, s1, R1, j7, j8, t1⟩ := K
      replace s1 : CS J x b n k2 := s1
      replace R1 : TR J t T1 := R1
      have v3 : J x 3 = ic k2.1 := s1.2.2.1.1
      have k4 := q3.1
      show KO S I L x t b n _ (if k2.1 = 0 then (Sum.inr (T1, k2) : LR) else if k2.1 = 3 then rd b n f T1 (nt b n k2) else .inl (1, k2.2.1))
      rw [bnd e1]
      rw [if_neg (by show ¬ (1 : Int32) = 0; decide)]
      simp only [↓reduceIte, ↓if_bi0, hp_tg, hp_rR, hp_rI, hp_wI, eq_self, bi_t, bi_f, i10, if_true, if_false, Bool.false_eq_true, hL.1, v3]
      by_cases c1 : k2.1 = 0
      · rw [if_pos c1, if_pos (by rw [c1]; rfl), if_pos b1]
        exact ⟨J, rfl, s1, R1, j7, j8, t1⟩
      · rw [if_neg c1, if_neg (by rw [ic_eq0 (by omega)]; exact c1)]
        by_cases c2 : k2.1 = 3
        · rw [if_pos c2, if_pos (by rw [c2]; rfl)]
          obtain ⟨I3, e3, s3, f3⟩ := k_next (L := L) hL s1
          have g := nt_ge b n k2
          have g2 := q3.2.2.2.2.2 (by omega)
          have R := ih F (j + 1) s3 (R1.xf f3 hx) q1 (Or.inr q2) (by omega) (by omega) (by omega)
          rw [bnd e3, show ic j + 1 = ic (j + 1) from ic_add j 1]
          have R' := KO.xf f3 R
          cases er : rd b n f T1 (nt b n k2) with
          | inl r =>
            rw [er] at R'
            obtain ⟨K, e9, w1, w2, w3⟩ := R'
            exact ⟨K, e9, w1, w2, fun i hi => (w3.1 i hi).trans (t1.1 i hi), fun y y1 y2 => (w3.2 y y1 y2).trans (t1.2 y y1 y2)⟩
          | inr r =>
            rw [er] at R'
            obtain ⟨K, e9, w1, w2, w4, w5, w3⟩ := R'
            exact ⟨K, e9, w1, w2, w4.trans j7, w5.trans j8, fun i hi => (w3.1 i hi).trans (t1.1 i hi), fun y y1 y2 => (w3.2 y y1 y2).trans (t1.2 y y1 y2)⟩
        · rw [if_neg c2, if_neg (by rw [show (3 : Int32) = ic 3 from rfl, ic_inj (by omega) (by omega)]; exact c2)]
          have F1 := s1.fails (L := L) hL 1
          rw [show ic 1 = 1 from rfl] at F1
          rw [bnd F1, if_pos (by exact b0)]
          exact ⟨kF J x 1 k2.2.1, rfl, kF_7 _ _ _ _, kF_8 _ _ _ _, t1.kF _ _⟩
-- the reference
theorem x_end5 {I : II} (hL : ML S m) (ha : tR S m 4 = a) (hA : MCL S a) (h5 : I m 9 = ic 5) (F : Nat) : p_X9_readAll_2 (F + 1) m 0 (hp S I L) = some (hp S I L) := by
  have F1 := x_flaw5 (L := L) hL h5 1
  have F6 := x_flaw5 (L := L) hL h5 6
  have l0 := hA.1
  unfold p_X9_readAll_2
  simp only [↓reduceIte, ↓if_bi0, hp_tg, hp_rR, hp_rI, hp_wI, eq_self, bi_t, bi_f, i10, if_true, if_false, Bool.false_eq_true, hL.t, h5]
  rw [if_neg (by decide), bnd F1]
  unfold p_X9_readAll_31 p_X9_readAll_47
  simp only [↓reduceIte, ↓if_bi0, hp_tg, hp_rR, hp_rI, hp_wI, eq_self, bi_t, bi_f, i10, if_true, if_false, Bool.false_eq_true, hL.t, ha, l0]
  by_cases z : I a 0 = 0
  · rw [if_pos z, bnd F6]
  · rw [if_neg z]
theorem x_end5_b {I : II} (hL : ML S m) (ha : tR S m 4 = a) (hA : MCL S a) (h5 : I m 9 = ic 5) (F : Nat) {β : Type} (f9 : AH → Option β) : (p_X9_readAll_2 (F + 1) m 0 (hp S I L)).bind f9 = f9 (hp S I L) := bnd (by apply x_end5 <;> assumption)
theorem x_eat5 {I : II} (hL : ML S m) (h5 : I m 9 = ic 5) : p_X9_eatsSemicolon m (hp S I L) = some (0, hp S I L) := by
  unfold p_X9_eatsSemicolon
  simp only [↓reduceIte, ↓if_bi0, hp_tg, hp_rR, hp_rI, hp_wI, eq_self, bi_t, bi_f, i10, if_true, if_false, Bool.false_eq_true, hL.t, h5]
  rw [if_neg (by decide)]
  unfold p_X9_eatsSemicolon_13 p_X9_eatsSemicolon_22
  rw [if_pos rfl, if_pos (by decide)]
theorem x_eat5_b {I : II} (hL : ML S m) (h5 : I m 9 = ic 5) {β : Type} (f9 : Int32 × AH → Option β) : (p_X9_eatsSemicolon m (hp S I L)).bind f9 = f9 (0, hp S I L) := bnd (by apply x_eat5 <;> assumption)
theorem x_rd (hL : ML S m) (ha : tR S m 4 = a) (hA : MCL S a) (hm : m + 6 < a) : ∀ (f F : Nat) {I : II} {L : LL} {T : TS} {tk : TK}, RS I L m b n tk → MR I a T → TV T → PX T → n < tk.2.1 + f → f + 1 < F → XO S I m a b n (p_X9_readAll_2 F m 1 (hp S I L)) (rd b n f T tk) := by
  intro f
  induction f with
  | zero => intro F I L T tk h _ _ _ h1; have := h.2.2.2.1.2.1; have := h.2.2.2.1.2.2.1; omega
  | succ f ih =>
    intro F I L T tk h hM hV hP h1 h2
    obtain ⟨F, rfl⟩ : ∃ F', F = F' + 2 := ⟨F - 2, by omega⟩
    have K := x_ln (L := L) hL ha hA hm h hM hV
    have l0 := hA.1
    unfold rd
    show XO S I m a b n (p_X9_readAll_2 ((F + 1) + 1) m 1 (hp S I L)) _
    unfold p_X9_readAll_2
    rw [if_neg (by decide)]
    simp only [↓reduceIte, ↓if_bi0, hp_tg, hp_rR, hp_rI, hp_wI, eq_self, bi_t, bi_f, i10, if_true, if_false, Bool.false_eq_true, hL.t]
    cases e : ln b n T tk with
    | inl r =>
      rw [e] at K
      obtain ⟨J, L1, e1, q9, q1, q2, q3⟩ := K
      refine ⟨J, L1, ?_, q9, q1, q2, q3⟩
      have E := x_eat5 (L := L1) hL q9
      refine Eq.trans (bnd e1) ?_
      simp only [↓reduceIte, ↓if_bi0, hp_tg, hp_rR, hp_rI, hp_wI, eq_self, bi_t, bi_f, i10, if_true, if_false, Bool.false_eq_true, hL.t]
      refine Eq.trans (bnd E) ?_
      exact x_end5 hL ha hA q9 F
    | inr r =>
      obtain ⟨T1, k2⟩ := r
      rw [e] at K
      obtain ⟨q1, q2, q3, q4⟩ := ln_ok h.2.2.2.1 hV hP e
      obtain ⟨J, L1, e1, s1, M1, j12, j13, t1⟩ := K
      replace s1 : RS J L1 m b n k2 := s1
      replace M1 : MR J a T1 := M1
      have v9 : J m 9 = ic (srt k2.1) := s1.2.2.1.1
      have k4 := q3.1
      have r0 : J a 0 = ic (tP T1) := M1.1
      show XO S I m a b n _ (if k2.1 = 0 then (Sum.inr (T1, k2) : LR) else if k2.1 = 3 then rd b n f T1 (nt b n k2) else .inl (1, k2.2.1))
      rw [bnd e1]
      simp only [↓reduceIte, ↓if_bi0, hp_tg, hp_rR, hp_rI, hp_wI, eq_self, bi_t, bi_f, i10, if_true, if_false, Bool.false_eq_true, hL.t]
      by_cases c2 : k2.1 = 3
      · rw [if_neg (by omega), if_pos c2]
        obtain ⟨I3, L3, e3, s3, f3⟩ := x_next hL s1 (by omega)
        have E : p_X9_eatsSemicolon m (hp S J L1) = some (1, hp S I3 L3) := by
          unfold p_X9_eatsSemicolon
          simp only [↓reduceIte, ↓if_bi0, hp_tg, hp_rR, hp_rI, hp_wI, eq_self, bi_t, bi_f, i10, if_true, if_false, Bool.false_eq_true, hL.t, v9]
          rw [if_pos (by rw [c2]; rfl)]
          unfold p_X9_eatsSemicolon_13 p_X9_eatsSemicolon_22
          rw [if_neg (by decide)]
          simp only [↓reduceIte, ↓if_bi0, hp_tg, hp_rR, hp_rI, hp_wI, eq_self, bi_t, bi_f, i10, if_true, if_false, Bool.false_eq_true, hL.t]
          refine Eq.trans (bnd e3) ?_
          exact if_pos (by decide)
        have g := nt_ge b n k2
        have g2 := q3.2.2.2.2.2 (by omega)
        have R := ih (F + 1) s3 (M1.yf f3 hm) q1 (Or.inr q2) (by omega) (by omega)
        rw [bnd E]
        cases er : rd b n f T1 (nt b n k2) with
        | inl r =>
          rw [er] at R
          obtain ⟨K, L9, e9, w9, w1, w2, w3⟩ := R
          have t3 := t1.yf f3
          exact ⟨K, L9, e9, w9, w1, w2, fun i hi => (w3.1 i hi).trans (t3.1 i hi), fun y y1 y2 => (w3.2 y y1 y2).trans (t3.2 y y1 y2)⟩
        | inr r =>
          rw [er] at R
          obtain ⟨K, L9, e9, w1, w2, w4, w5, w3⟩ := R
          have t3 := t1.yf f3
          exact ⟨K, L9, e9, w1, w2, (w4.trans (f3.1 12 (by omega))).trans j12, (w5.trans (f3.1 13 (by omega))).trans j13, fun i hi => (w3.1 i hi).trans (t3.1 i hi), fun y y1 y2 => (w3.2 y y1 y2).trans (t3.2 y y1 y2)⟩
      · have n4 : ¬ (ic (srt k2.1) = 4) := by
          have : srt k2.1 ≠ 4 := by
            unfold srt
            by_cases a0 : k2.1 = 0
            · rw [if_pos a0]; decide
            · rw [if_neg a0]
              by_cases a1 : k2.1 = 1
              · rw [if_pos a1]; decide
              · rw [if_neg a1]
                by_cases a2 : k2.1 = 2
                · rw [if_pos a2]; decide
                · rw [if_neg a2, if_neg c2]; decide
          have := srt_5 k2.1
          rw [show (4 : Int32) = ic 4 from rfl, ic_inj (by omega) (by omega)]
          omega
        have E : p_X9_eatsSemicolon m (hp S J L1) = some (0, hp S J L1) := by
          unfold p_X9_eatsSemicolon
          simp only [↓reduceIte, ↓if_bi0, hp_tg, hp_rR, hp_rI, hp_wI, eq_self, bi_t, bi_f, i10, if_true, if_false, Bool.false_eq_true, hL.t, v9]
          rw [if_neg n4]
          unfold p_X9_eatsSemicolon_13 p_X9_eatsSemicolon_22
          rw [if_pos rfl, if_pos (by decide)]
        rw [bnd E]
        by_cases c1 : k2.1 = 0
        · rw [if_pos c1]
          refine ⟨J, L1, ?_, s1, M1, j12, j13, t1⟩
          unfold p_X9_readAll_2
          rw [if_pos rfl]
          simp only [↓reduceIte, ↓if_bi0, hp_tg, hp_rR, hp_rI, hp_wI, eq_self, bi_t, bi_f, i10, if_true, if_false, Bool.false_eq_true, hL.t, v9]
          rw [if_pos (by rw [c1]; rfl)]
          unfold p_X9_readAll_31 p_X9_readAll_47
          simp only [↓reduceIte, ↓if_bi0, hp_tg, hp_rR, hp_rI, hp_wI, eq_self, bi_t, bi_f, i10, if_true, if_false, Bool.false_eq_true, hL.t, ha, l0, r0]
          have := q1.1
          rw [if_neg (by rw [ic_eq0 (by omega)]; omega)]
        · rw [if_neg c1, if_neg c2]
          have F1 := s1.flaw hL 1
          rw [show ic 1 = 1 from rfl] at F1
          have h5 := xF_9 J m 1 k2.2.1
          have F6 := x_flaw5 (L := L1) hL h5 6
          refine ⟨xF J m 1 k2.2.1, L1, ?_, h5, xF_12 _ _ _ _, xF_13 _ _ _ _, t1.xF _ _⟩
          have n1 : ¬ (ic (srt k2.1) = 1) := by
            have : srt k2.1 ≠ 1 := by
              unfold srt
              rw [if_neg c1]
              by_cases a1 : k2.1 = 1
              · rw [if_pos a1]; decide
              · rw [if_neg a1]
                by_cases a2 : k2.1 = 2
                · rw [if_pos a2]; decide
                · rw [if_neg a2, if_neg c2]; decide
            have := srt_5 k2.1
            rw [show (1 : Int32) = ic 1 from rfl, ic_inj (by omega) (by omega)]
            omega
          unfold p_X9_readAll_2
          rw [if_pos rfl]
          simp only [↓reduceIte, ↓if_bi0, hp_tg, hp_rR, hp_rI, hp_wI, eq_self, bi_t, bi_f, i10, if_true, if_false, Bool.false_eq_true, hL.t, v9]
          rw [if_neg n1]
          refine Eq.trans (bnd F1) ?_
          unfold p_X9_readAll_31 p_X9_readAll_47
          simp only [↓reduceIte, ↓if_bi0, hp_tg, hp_rR, hp_rI, hp_wI, eq_self, bi_t, bi_f, i10, if_true, if_false, Bool.false_eq_true, hL.t, ha, l0]
          by_cases z : xF J m 1 k2.2.1 a 0 = 0
          · rw [if_pos z, bnd F6]
          · rw [if_neg z]
end RDK
