/-! ===== the reference: what it writes into its row ===== -/
theorem up_row {α : Type} (f : Nat → Nat → α) (a k : Nat) (v : α) : up2 f a k v a = up1 (f a) k v := funext fun j => up_i f a k j v
section ROWW
variable {r : Nat → Int32} {s : St}
theorem RW.setW (h : RW r s) {i : Nat} {e : Nat} (v : Int32) (hv : v = ic e) (hi : i < 128) : RW (up1 r (i) v) (uW s (up1 (sW s) i e)) := by
  refine ⟨fun j hj => by
    show up1 r (i) v (j) = ic (up1 (sW s) i e j)
    by_cases c : j = i
    · subst c; rw [up1_s, up1_s, hv]
    · rw [up1_n c, up1_n (by omega)]; exact h.W j hj,
  fun j hj => by rw [up1_n (by omega)]; exact h.H j hj,
  (by obtain ⟨w, a, b, c⟩ := h.w; exact ⟨w, a, by rw [up1_n (by omega)]; exact b, c⟩),
  by rw [up1_n (by omega)]; exact h.mk,
  by rw [up1_n (by omega)]; exact h.rt,
  fun j hj => by rw [up1_n (by omega)]; exact h.k j hj,
  fun j hj => by rw [up1_n (by omega)]; exact h.o j hj,
  fun j hj => by rw [up1_n (by omega)]; exact h.b j hj,
  fun j hj => by rw [up1_n (by omega)]; exact h.u j hj,
  fun j hj => by rw [up1_n (by omega)]; exact h.e j hj,
  by rw [up1_n (by omega)]; exact h.c⟩
theorem RW.setH (h : RW r s) {i : Nat} {e : Nat} (v : Int32) (hv : v = ic e) (hi : i < 16) : RW (up1 r (128 + i) v) (uH s (up1 (sH s) i e)) := by
  refine ⟨fun j hj => by rw [up1_n (by omega)]; exact h.W j hj,
  fun j hj => by
    show up1 r (128 + i) v (128 + j) = ic (up1 (sH s) i e j)
    by_cases c : j = i
    · subst c; rw [up1_s, up1_s, hv]
    · rw [up1_n c, up1_n (by omega)]; exact h.H j hj,
  (by obtain ⟨w, a, b, c⟩ := h.w; exact ⟨w, a, by rw [up1_n (by omega)]; exact b, c⟩),
  by rw [up1_n (by omega)]; exact h.mk,
  by rw [up1_n (by omega)]; exact h.rt,
  fun j hj => by rw [up1_n (by omega)]; exact h.k j hj,
  fun j hj => by rw [up1_n (by omega)]; exact h.o j hj,
  fun j hj => by rw [up1_n (by omega)]; exact h.b j hj,
  fun j hj => by rw [up1_n (by omega)]; exact h.u j hj,
  fun j hj => by rw [up1_n (by omega)]; exact h.e j hj,
  by rw [up1_n (by omega)]; exact h.c⟩
theorem RW.setw (h : RW r s) {x : Nat} {g : Nat → Bool} (v : Int32) (hv : v = ic x) (hx : x < 65536) (hg : ∀ f, f < 16 → x.testBit f = g f) : RW (up1 r 144 v) (uw s g) := by
  refine ⟨fun j hj => by rw [up1_n (by omega)]; exact h.W j hj,
  fun j hj => by rw [up1_n (by omega)]; exact h.H j hj,
  ⟨x, hx, by rw [up1_s, hv], hg⟩,
  by rw [up1_n (by omega)]; exact h.mk,
  by rw [up1_n (by omega)]; exact h.rt,
  fun j hj => by rw [up1_n (by omega)]; exact h.k j hj,
  fun j hj => by rw [up1_n (by omega)]; exact h.o j hj,
  fun j hj => by rw [up1_n (by omega)]; exact h.b j hj,
  fun j hj => by rw [up1_n (by omega)]; exact h.u j hj,
  fun j hj => by rw [up1_n (by omega)]; exact h.e j hj,
  by rw [up1_n (by omega)]; exact h.c⟩
theorem RW.setmk (h : RW r s) {e : Nat} (v : Int32) (hv : v = ic e) : RW (up1 r 145 v) (um s e) := by
  refine ⟨fun j hj => by rw [up1_n (by omega)]; exact h.W j hj,
  fun j hj => by rw [up1_n (by omega)]; exact h.H j hj,
  (by obtain ⟨w, a, b, c⟩ := h.w; exact ⟨w, a, by rw [up1_n (by omega)]; exact b, c⟩),
  by rw [up1_s, hv]; rfl,
  by rw [up1_n (by omega)]; exact h.rt,
  fun j hj => by rw [up1_n (by omega)]; exact h.k j hj,
  fun j hj => by rw [up1_n (by omega)]; exact h.o j hj,
  fun j hj => by rw [up1_n (by omega)]; exact h.b j hj,
  fun j hj => by rw [up1_n (by omega)]; exact h.u j hj,
  fun j hj => by rw [up1_n (by omega)]; exact h.e j hj,
  by rw [up1_n (by omega)]; exact h.c⟩
theorem RW.setrt (h : RW r s) {e : Nat} (v : Int32) (hv : v = ic e) : RW (up1 r 146 v) (ur s e) := by
  refine ⟨fun j hj => by rw [up1_n (by omega)]; exact h.W j hj,
  fun j hj => by rw [up1_n (by omega)]; exact h.H j hj,
  (by obtain ⟨w, a, b, c⟩ := h.w; exact ⟨w, a, by rw [up1_n (by omega)]; exact b, c⟩),
  by rw [up1_n (by omega)]; exact h.mk,
  by rw [up1_s, hv]; rfl,
  fun j hj => by rw [up1_n (by omega)]; exact h.k j hj,
  fun j hj => by rw [up1_n (by omega)]; exact h.o j hj,
  fun j hj => by rw [up1_n (by omega)]; exact h.b j hj,
  fun j hj => by rw [up1_n (by omega)]; exact h.u j hj,
  fun j hj => by rw [up1_n (by omega)]; exact h.e j hj,
  by rw [up1_n (by omega)]; exact h.c⟩
theorem RW.setk (h : RW r s) {i : Nat} {e : Nat} (v : Int32) (hv : v = kc e) (hi : i < 8) : RW (up1 r (147 + i) v) (uk s (up1 (sk s) i e)) := by
  refine ⟨fun j hj => by rw [up1_n (by omega)]; exact h.W j hj,
  fun j hj => by rw [up1_n (by omega)]; exact h.H j hj,
  (by obtain ⟨w, a, b, c⟩ := h.w; exact ⟨w, a, by rw [up1_n (by omega)]; exact b, c⟩),
  by rw [up1_n (by omega)]; exact h.mk,
  by rw [up1_n (by omega)]; exact h.rt,
  fun j hj => by
    show up1 r (147 + i) v (147 + j) = kc (up1 (sk s) i e j)
    by_cases c : j = i
    · subst c; rw [up1_s, up1_s, hv]
    · rw [up1_n c, up1_n (by omega)]; exact h.k j hj,
  fun j hj => by rw [up1_n (by omega)]; exact h.o j hj,
  fun j hj => by rw [up1_n (by omega)]; exact h.b j hj,
  fun j hj => by rw [up1_n (by omega)]; exact h.u j hj,
  fun j hj => by rw [up1_n (by omega)]; exact h.e j hj,
  by rw [up1_n (by omega)]; exact h.c⟩
theorem RW.seto (h : RW r s) {i : Nat} {e : Nat} (v : Int32) (hv : v = kc e) (hi : i < 8) : RW (up1 r (155 + i) v) (uo s (up1 (so s) i e)) := by
  refine ⟨fun j hj => by rw [up1_n (by omega)]; exact h.W j hj,
  fun j hj => by rw [up1_n (by omega)]; exact h.H j hj,
  (by obtain ⟨w, a, b, c⟩ := h.w; exact ⟨w, a, by rw [up1_n (by omega)]; exact b, c⟩),
  by rw [up1_n (by omega)]; exact h.mk,
  by rw [up1_n (by omega)]; exact h.rt,
  fun j hj => by rw [up1_n (by omega)]; exact h.k j hj,
  fun j hj => by
    show up1 r (155 + i) v (155 + j) = kc (up1 (so s) i e j)
    by_cases c : j = i
    · subst c; rw [up1_s, up1_s, hv]
    · rw [up1_n c, up1_n (by omega)]; exact h.o j hj,
  fun j hj => by rw [up1_n (by omega)]; exact h.b j hj,
  fun j hj => by rw [up1_n (by omega)]; exact h.u j hj,
  fun j hj => by rw [up1_n (by omega)]; exact h.e j hj,
  by rw [up1_n (by omega)]; exact h.c⟩
theorem RW.setb (h : RW r s) {i : Nat} {e : Nat} (v : Int32) (hv : v = ic e) (hi : i < 8) : RW (up1 r (163 + i) v) (ub s (up1 (sb s) i e)) := by
  refine ⟨fun j hj => by rw [up1_n (by omega)]; exact h.W j hj,
  fun j hj => by rw [up1_n (by omega)]; exact h.H j hj,
  (by obtain ⟨w, a, b, c⟩ := h.w; exact ⟨w, a, by rw [up1_n (by omega)]; exact b, c⟩),
  by rw [up1_n (by omega)]; exact h.mk,
  by rw [up1_n (by omega)]; exact h.rt,
  fun j hj => by rw [up1_n (by omega)]; exact h.k j hj,
  fun j hj => by rw [up1_n (by omega)]; exact h.o j hj,
  fun j hj => by
    show up1 r (163 + i) v (163 + j) = ic (up1 (sb s) i e j)
    by_cases c : j = i
    · subst c; rw [up1_s, up1_s, hv]
    · rw [up1_n c, up1_n (by omega)]; exact h.b j hj,
  fun j hj => by rw [up1_n (by omega)]; exact h.u j hj,
  fun j hj => by rw [up1_n (by omega)]; exact h.e j hj,
  by rw [up1_n (by omega)]; exact h.c⟩
theorem RW.setu (h : RW r s) {i : Nat} {e : Bool} (v : Int32) (hv : v = bi e) (hi : i < 8) : RW (up1 r (171 + i) v) (uu s (up1 (su s) i e)) := by
  refine ⟨fun j hj => by rw [up1_n (by omega)]; exact h.W j hj,
  fun j hj => by rw [up1_n (by omega)]; exact h.H j hj,
  (by obtain ⟨w, a, b, c⟩ := h.w; exact ⟨w, a, by rw [up1_n (by omega)]; exact b, c⟩),
  by rw [up1_n (by omega)]; exact h.mk,
  by rw [up1_n (by omega)]; exact h.rt,
  fun j hj => by rw [up1_n (by omega)]; exact h.k j hj,
  fun j hj => by rw [up1_n (by omega)]; exact h.o j hj,
  fun j hj => by rw [up1_n (by omega)]; exact h.b j hj,
  fun j hj => by
    show up1 r (171 + i) v (171 + j) = bi (up1 (su s) i e j)
    by_cases c : j = i
    · subst c; rw [up1_s, up1_s, hv]
    · rw [up1_n c, up1_n (by omega)]; exact h.u j hj,
  fun j hj => by rw [up1_n (by omega)]; exact h.e j hj,
  by rw [up1_n (by omega)]; exact h.c⟩
theorem RW.sete (h : RW r s) {i : Nat} {e : Nat} (v : Int32) (hv : v = ec e) (hi : i < 64) : RW (up1 r (179 + i) v) (ue s (up1 (se s) i e)) := by
  refine ⟨fun j hj => by rw [up1_n (by omega)]; exact h.W j hj,
  fun j hj => by rw [up1_n (by omega)]; exact h.H j hj,
  (by obtain ⟨w, a, b, c⟩ := h.w; exact ⟨w, a, by rw [up1_n (by omega)]; exact b, c⟩),
  by rw [up1_n (by omega)]; exact h.mk,
  by rw [up1_n (by omega)]; exact h.rt,
  fun j hj => by rw [up1_n (by omega)]; exact h.k j hj,
  fun j hj => by rw [up1_n (by omega)]; exact h.o j hj,
  fun j hj => by rw [up1_n (by omega)]; exact h.b j hj,
  fun j hj => by rw [up1_n (by omega)]; exact h.u j hj,
  fun j hj => by
    show up1 r (179 + i) v (179 + j) = ec (up1 (se s) i e j)
    by_cases c : j = i
    · subst c; rw [up1_s, up1_s, hv]
    · rw [up1_n c, up1_n (by omega)]; exact h.e j hj,
  by rw [up1_n (by omega)]; exact h.c⟩
theorem RW.setc (h : RW r s) {e : Nat} (v : Int32) (hv : v = ic e) : RW (up1 r 243 v) (uc s e) := by
  refine ⟨fun j hj => by rw [up1_n (by omega)]; exact h.W j hj,
  fun j hj => by rw [up1_n (by omega)]; exact h.H j hj,
  (by obtain ⟨w, a, b, c⟩ := h.w; exact ⟨w, a, by rw [up1_n (by omega)]; exact b, c⟩),
  by rw [up1_n (by omega)]; exact h.mk,
  by rw [up1_n (by omega)]; exact h.rt,
  fun j hj => by rw [up1_n (by omega)]; exact h.k j hj,
  fun j hj => by rw [up1_n (by omega)]; exact h.o j hj,
  fun j hj => by rw [up1_n (by omega)]; exact h.b j hj,
  fun j hj => by rw [up1_n (by omega)]; exact h.u j hj,
  fun j hj => by rw [up1_n (by omega)]; exact h.e j hj,
  by rw [up1_s, hv]; rfl⟩
theorem RW.eq {t : St} (h : RW r s) (eW : sW s = sW t) (eH : sH s = sH t) (ew : sw s = sw t) (em : sm s = sm t) (er : sr s = sr t) (ek : sk s = sk t) (eo : so s = so t) (eb : sb s = sb t) (eu : su s = su t) (he : ∀ a, a < 64 → se s a = se t a) (ecl : sc s = sc t) : RW r t := by
  obtain ⟨h1, h2, h3, h4, h5, h6, h7, h8, h9, h10, h11⟩ := h
  refine ⟨?_, ?_, ?_, ?_, ?_, ?_, ?_, ?_, ?_, fun a ha => ?_, ?_⟩
  · rw [← eW]; exact h1
  · rw [← eH]; exact h2
  · rw [← ew]; exact h3
  · rw [← em]; exact h4
  · rw [← er]; exact h5
  · rw [← ek]; exact h6
  · rw [← eo]; exact h7
  · rw [← eb]; exact h8
  · rw [← eu]; exact h9
  · rw [h10 a ha, he a ha]
  · rw [← ecl]; exact h11
theorem RW.toue (h : RW r s) {f : Nat → Nat} (hf : ∀ a, a < 64 → se s a = f a) : RW r (ue s f) := ⟨h.W, h.H, h.w, h.mk, h.rt, h.k, h.o, h.b, h.u, fun a ha => by rw [h.e a ha, hf a ha]; rfl, h.c⟩
theorem RW.ueq {f g : Nat → Nat} (h : RW r (ue s f)) (hf : ∀ a, a < 64 → f a = g a) : RW r (ue s g) := ⟨h.W, h.H, h.w, h.mk, h.rt, h.k, h.o, h.b, h.u, fun a ha => by rw [h.e a ha]; show ec (f a) = ec (g a); rw [hf a ha], h.c⟩
theorem RW.pe0 (h : RW r s) (f : Nat → Nat) : RW r (pe s f 0) := h.toue (fun a _ => by rw [if_neg (Nat.not_lt_zero a)])
theorem RW.pe1 {f : Nat → Nat} {k : Nat} (h : RW r (pe s f k)) (v : Int32) (hv : v = ec (f k)) (hk : k < 64) : RW (up1 r (179 + k) v) (pe s f (k + 1)) := by
  have h2 := h.sete (i := k) v hv hk
  have h3 : RW (up1 r (179 + k) v) (ue s (up1 (fun a => if a < k then f a else se s a) k (f k))) := h2
  refine h3.ueq (fun a _ => ?_)
  by_cases c : a = k
  · subst c; rw [up1_s, if_pos (by omega)]
  · rw [up1_n c]
    by_cases d : a < k
    · rw [if_pos d, if_pos (by omega)]
    · rw [if_neg d, if_neg (by omega)]
theorem RW.pe2 {f : Nat → Nat} {k : Nat} (h : RW r (pe s f k)) (hv : f k = se s k) : RW r (pe s f (k + 1)) := by
  have h3 : RW r (ue s (fun a => if a < k then f a else se s a)) := h
  refine h3.ueq (fun a _ => ?_)
  by_cases c : a = k
  · subst c; rw [if_neg (by omega), if_pos (by omega), hv]
  · by_cases d : a < k
    · rw [if_pos d, if_pos (by omega)]
    · rw [if_neg d, if_neg (by omega)]
theorem RW.pe9 {f : Nat → Nat} (h : RW r (pe s f 64)) : RW r (ue s f) := by
  have h3 : RW r (ue s (fun a => if a < 64 then f a else se s a)) := h
  exact h3.ueq (fun a ha => if_pos ha)
end ROWW
section REFW
variable {S : SH} {I : II} {L : LL} {m pl : Nat} {s : St}
theorem x_losesW (hL : ML S m) (hR : RW (I (m + 3)) s) (hV : Inv s pl) {f : Nat} (hf : f < 1000) : ∃ I', p_X9_losesW m (ic f) (hp S I L) = some (ic (cnt (fun a => isMW s a f) 64), hp S I' L) ∧ RW (I' (m + 3)) (tkW s f) ∧ Fr I I' (m + 3) (m + 3) := by
  have := lp_inv (fun n k (c : Nat × II) => p_X9_losesW_6 n m (ic f) (ic c.1) (ic (179 + k)) (hp S c.2 L)) 64
    (fun k c => c.1 = cnt (fun a => isMW s a f) k ∧ RW (c.2 (m + 3)) (pe s (fun a => if isMW s a f = true then se s a - 2 else se s a) k) ∧ Fr I c.2 (m + 3) (m + 3))
    (fun r => ∃ I', r = (ic (cnt (fun a => isMW s a f) 64), hp S I' L) ∧ RW (I' (m + 3)) (tkW s f) ∧ Fr I I' (m + 3) (m + 3)) (fun n k c hk hc => ?_) (fun n c hc => ?_) 64 0 FU (0, I) rfl (fu_lt (by decide)) ⟨rfl, hR.pe0 _, Fr.refl _ _ _⟩
  · obtain ⟨r, e, I', e2, h⟩ := this
    subst e2
    exact ⟨I', e, h⟩
  · obtain ⟨c, J⟩ := c
    obtain ⟨rfl, hQ, hF⟩ := hc
    dsimp only at hQ hF
    have h1 := hV.k3 (n := k / 8) (by omega)
    have h2 := hV.e64 hk
    have hk9 : 179 + k < 243 := by omega
    have hm := x_isMap (L := L) hL hQ hk (f := f) h1 (by rw [pe_at]; exact h2) hf
    rw [pe_isM] at hm
    have he := hQ.e k hk
    rw [pe_at] at he
    have hs : cnt (fun a => isMW s a f) (k + 1) = if isMW s k f = true then cnt (fun a => isMW s a f) k + 1 else cnt (fun a => isMW s a f) k := cnt_succ _ _
    by_cases e : isMW s k f = true
    · have e9 := isMW_iff.mp e
      have t9 := tb1_4 e9.2
      refine ⟨(cnt (fun a => isMW s a f) k + 1, up2 J (m + 3) (179 + k) (ic (se s k - 1 - 2))), ?_, by rw [hs, if_pos e], ?_, hF.trans (Fr.up (by omega) (by omega))⟩
      · simp (maxSteps := 1000000) (disch := omega) only [↓reduceIte, ↓if_bi0, ↓if_bi1, hp_tg, hp_rI, hp_rR, hp_rL, hp_wI, hp_wL, Option.bind_some, if_11, if_01, bi_and1, i10, i01, bi_t, bi_f, ic_add, mr_4, ml_4, mr_8, ml_8, mr_10, ml_10, ic_add1, ic_sub1, ic_clamp, ic_div, ic_irm, ic_lt0, ic_0lt, ic_eq0, ic_lt, ic_inj, and15, and7, and31, and63, shl1, shr_ok, neg_1, neg_2, neg_3, neg_4, kc_lt0, kc_ic, kc_m2, kc_1, kc_0, i0_add, add_i0, or_i0, z_8, z_4, z_64, z_256, ic_m2, ec_m1, ic_m1, m1_lt0, m2_lt0, m3_lt0, m4_lt0, up_s, if_true, if_false, ne_eq, not_true_eq_false, not_false_eq_true, Bool.false_eq_true, eq_self, or_self, or_false, false_or, and_self, and_true, true_and, ite_self, Nat.reduceEqDiff, Nat.reduceLT, Nat.reduceMod, Nat.reduceMul, Nat.reduceAdd, Nat.reducePow, Nat.reduceDiv, lt_2, lt_3, lt_4, lt_5, lt_6, lt_7, lt_8, lt_10, lt_11, lt_12, lt_15, lt_16, lt_18, lt_20, lt_24, lt_31, lt_32, lt_48, lt_57, lt_59, lt_63, lt_64, lt_74, lt_75, lt_97, lt_122, lt_128, lt_144, lt_145, lt_146, lt_147, lt_155, lt_163, lt_171, lt_179, lt_200, lt_243, lt_244, lt_255, lt_256, lt_732, lt_900, lt_3660, lt_3904, lt_4095, lt_65536, lt_65537, lt_252645135, lt_858993459, lt_1431655765, ↓p_has_b, p_has, ↓p_has9_b, p_has9, ↓p_bit_b, p_bit, ↓p_bit1_b, p_bit1, ↓p_bit0_b, p_bit0, p_X9_losesW_57, p_X9_losesW_51, p_X9_losesW_38, p_X9_losesW_6, p_X9_losesW, hL.t, hL.x, hk9, ↓bnd (hm), hm, isM_iff.mpr e9.1, if_inB hL.xt, he, ec_pos (show 0 < se s k by omega), hb2, e9.2, ic_sub, Nat.add_assoc]
      · show RW ((up2 J (m + 3) (179 + k) (ic (se s k - 1 - 2))) (m + 3)) _
        rw [up_row]
        refine hQ.pe1 _ ?_ hk
        rw [if_pos e, ec_pos (by omega)]
        exact congrArg ic (by omega)
    · refine ⟨(cnt (fun a => isMW s a f) k, J), ?_, by rw [hs, if_neg e], hQ.pe2 (if_neg e), hF⟩
      cases e1 : isM s k f
      · simp (maxSteps := 1000000) (disch := omega) only [↓reduceIte, ↓if_bi0, ↓if_bi1, hp_tg, hp_rI, hp_rR, hp_rL, hp_wI, hp_wL, Option.bind_some, if_11, if_01, bi_and1, i10, i01, bi_t, bi_f, ic_add, mr_4, ml_4, mr_8, ml_8, mr_10, ml_10, ic_add1, ic_sub1, ic_clamp, ic_div, ic_irm, ic_lt0, ic_0lt, ic_eq0, ic_lt, ic_inj, and15, and7, and31, and63, shl1, shr_ok, neg_1, neg_2, neg_3, neg_4, kc_lt0, kc_ic, kc_m2, kc_1, kc_0, i0_add, add_i0, or_i0, z_8, z_4, z_64, z_256, ic_m2, ec_m1, ic_m1, m1_lt0, m2_lt0, m3_lt0, m4_lt0, up_s, if_true, if_false, ne_eq, not_true_eq_false, not_false_eq_true, Bool.false_eq_true, eq_self, or_self, or_false, false_or, and_self, and_true, true_and, ite_self, Nat.reduceEqDiff, Nat.reduceLT, Nat.reduceMod, Nat.reduceMul, Nat.reduceAdd, Nat.reducePow, Nat.reduceDiv, lt_2, lt_3, lt_4, lt_5, lt_6, lt_7, lt_8, lt_10, lt_11, lt_12, lt_15, lt_16, lt_18, lt_20, lt_24, lt_31, lt_32, lt_48, lt_57, lt_59, lt_63, lt_64, lt_74, lt_75, lt_97, lt_122, lt_128, lt_144, lt_145, lt_146, lt_147, lt_155, lt_163, lt_171, lt_179, lt_200, lt_243, lt_244, lt_255, lt_256, lt_732, lt_900, lt_3660, lt_3904, lt_4095, lt_65536, lt_65537, lt_252645135, lt_858993459, lt_1431655765, ↓p_has_b, p_has, ↓p_has9_b, p_has9, ↓p_bit_b, p_bit, ↓p_bit1_b, p_bit1, ↓p_bit0_b, p_bit0, p_X9_losesW_57, p_X9_losesW_51, p_X9_losesW_38, p_X9_losesW_6, p_X9_losesW, hL.t, hL.x, hk9, ↓bnd (hm), hm, e1, Nat.add_assoc]
      · have h0 := (isM_iff.mp e1).2.1
        have e2 : (se s k - 1).testBit 1 = false := by unfold isMW at e; rw [e1] at e; simpa using e
        simp (maxSteps := 1000000) (disch := omega) only [↓reduceIte, ↓if_bi0, ↓if_bi1, hp_tg, hp_rI, hp_rR, hp_rL, hp_wI, hp_wL, Option.bind_some, if_11, if_01, bi_and1, i10, i01, bi_t, bi_f, ic_add, mr_4, ml_4, mr_8, ml_8, mr_10, ml_10, ic_add1, ic_sub1, ic_clamp, ic_div, ic_irm, ic_lt0, ic_0lt, ic_eq0, ic_lt, ic_inj, and15, and7, and31, and63, shl1, shr_ok, neg_1, neg_2, neg_3, neg_4, kc_lt0, kc_ic, kc_m2, kc_1, kc_0, i0_add, add_i0, or_i0, z_8, z_4, z_64, z_256, ic_m2, ec_m1, ic_m1, m1_lt0, m2_lt0, m3_lt0, m4_lt0, up_s, if_true, if_false, ne_eq, not_true_eq_false, not_false_eq_true, Bool.false_eq_true, eq_self, or_self, or_false, false_or, and_self, and_true, true_and, ite_self, Nat.reduceEqDiff, Nat.reduceLT, Nat.reduceMod, Nat.reduceMul, Nat.reduceAdd, Nat.reducePow, Nat.reduceDiv, lt_2, lt_3, lt_4, lt_5, lt_6, lt_7, lt_8, lt_10, lt_11, lt_12, lt_15, lt_16, lt_18, lt_20, lt_24, lt_31, lt_32, lt_48, lt_57, lt_59, lt_63, lt_64, lt_74, lt_75, lt_97, lt_122, lt_128, lt_144, lt_145, lt_146, lt_147, lt_155, lt_163, lt_171, lt_179, lt_200, lt_243, lt_244, lt_255, lt_256, lt_732, lt_900, lt_3660, lt_3904, lt_4095, lt_65536, lt_65537, lt_252645135, lt_858993459, lt_1431655765, ↓p_has_b, p_has, ↓p_has9_b, p_has9, ↓p_bit_b, p_bit, ↓p_bit1_b, p_bit1, ↓p_bit0_b, p_bit0, p_X9_losesW_57, p_X9_losesW_51, p_X9_losesW_38, p_X9_losesW_6, p_X9_losesW, hL.t, hL.x, hk9, ↓bnd (hm), hm, e1, if_inB hL.xt, he, ec_pos (show 0 < se s k by omega), hb2, e2, Nat.add_assoc]
  · obtain ⟨c, J⟩ := c
    obtain ⟨rfl, hQ, hF⟩ := hc
    exact ⟨_, by simp (maxSteps := 1000000) (disch := omega) only [↓reduceIte, ↓if_bi0, ↓if_bi1, hp_tg, hp_rI, hp_rR, hp_rL, hp_wI, hp_wL, Option.bind_some, if_11, if_01, bi_and1, i10, i01, bi_t, bi_f, ic_add, mr_4, ml_4, mr_8, ml_8, mr_10, ml_10, ic_add1, ic_sub1, ic_clamp, ic_div, ic_irm, ic_lt0, ic_0lt, ic_eq0, ic_lt, ic_inj, and15, and7, and31, and63, shl1, shr_ok, neg_1, neg_2, neg_3, neg_4, kc_lt0, kc_ic, kc_m2, kc_1, kc_0, i0_add, add_i0, or_i0, z_8, z_4, z_64, z_256, ic_m2, ec_m1, ic_m1, m1_lt0, m2_lt0, m3_lt0, m4_lt0, up_s, if_true, if_false, ne_eq, not_true_eq_false, not_false_eq_true, Bool.false_eq_true, eq_self, or_self, or_false, false_or, and_self, and_true, true_and, ite_self, Nat.reduceEqDiff, Nat.reduceLT, Nat.reduceMod, Nat.reduceMul, Nat.reduceAdd, Nat.reducePow, Nat.reduceDiv, lt_2, lt_3, lt_4, lt_5, lt_6, lt_7, lt_8, lt_10, lt_11, lt_12, lt_15, lt_16, lt_18, lt_20, lt_24, lt_31, lt_32, lt_48, lt_57, lt_59, lt_63, lt_64, lt_74, lt_75, lt_97, lt_122, lt_128, lt_144, lt_145, lt_146, lt_147, lt_155, lt_163, lt_171, lt_179, lt_200, lt_243, lt_244, lt_255, lt_256, lt_732, lt_900, lt_3660, lt_3904, lt_4095, lt_65536, lt_65537, lt_252645135, lt_858993459, lt_1431655765, ↓p_has_b, p_has, ↓p_has9_b, p_has9, ↓p_bit_b, p_bit, ↓p_bit1_b, p_bit1, ↓p_bit0_b, p_bit0, p_X9_losesW_57, p_X9_losesW_51, p_X9_losesW_38, p_X9_losesW_6, p_X9_losesW, Nat.lt_irrefl], J, rfl, hQ.pe9, hF⟩
theorem old_short (hV : Inv s pl) : old s pl = old s 8 := by
  have h8 := hV.2.1.1.2
  have : ∀ d, pl + d ≤ 8 → old s (pl + d) = old s pl := by
    intro d
    induction d with
    | zero => intro _; rfl
    | succ d ih =>
      intro h
      rw [show pl + (d + 1) = pl + d + 1 by omega, old_succ]
      unfold old1
      rw [if_pos (spd_iff.mpr (Or.inl (hV.2.1.2.2.2.2.1 (pl + d) (by omega) (by omega))))]
      exact ih (by omega)
  have h := this (8 - pl) (by omega)
  rw [show pl + (8 - pl) = 8 by omega] at h
  exact h.symm
theorem od_m1 {o : Option Nat} (h : ∀ n, o = some n → n < 1000) : (od o = m1) = (o = none) := by
  cases o with
  | none => exact propext ⟨fun _ => rfl, fun _ => rfl⟩
  | some n =>
    unfold od
    rw [om_some, ic_m1 (by have := h n rfl; omega)]
    exact propext ⟨fun h => h.elim, fun h => by cases h⟩
theorem x_longest (hL : ML S m) (hR : RW (I (m + 3)) s) (hV : Inv s pl) (hc : sc s < 1073741824) (hp9 : I m 26 = ic pl) : p_X9_longestAgo m (hp S I L) = some (od (old s 8), hp S I L) := by
  have h16 := hV.1.2.2.2.2
  have h8 := hV.2.1.1.2
  rw [← old_short hV]
  have := lp_inv (fun n k (b : Option Nat) => p_X9_longestAgo_4 n m (od b) (ic k) (hp S I L)) pl (fun k b => b = old s k) (fun r => r = (od (old s pl), hp S I L)) (fun n k b hk hb => ?_) (fun n b hb => ?_) pl 0 FU none (by omega) (fu_lt (by omega)) rfl
  · obtain ⟨r, e1, e2⟩ := this
    rw [e2] at e1
    exact e1
  · subst hb
    refine ⟨old s (k + 1), ?_, rfl⟩
    have hk8 : k < 8 := by omega
    have h1 := hV.k3 hk8
    have h2 := hV.o16 hk8
    have h3 := hV.bc hk8
    have hlt : ∀ j, old s k = some j → j < k := fun j e => ((old_inv s k).2 j e).1
    rw [old_succ]
    unfold old1
    by_cases c : spd s k = true
    · rw [if_pos c]
      rcases spd_iff.mp c with c0 | ⟨c1, c2⟩
      · simp (maxSteps := 1000000) (disch := omega) only [↓reduceIte, ↓if_bi0, ↓if_bi1, hp_tg, hp_rI, hp_rR, hp_rL, hp_wI, hp_wL, Option.bind_some, if_11, if_01, bi_and1, i10, i01, bi_t, bi_f, ic_add, mr_4, ml_4, mr_8, ml_8, mr_10, ml_10, ic_add1, ic_sub1, ic_clamp, ic_div, ic_irm, ic_lt0, ic_0lt, ic_eq0, ic_lt, ic_inj, and15, and7, and31, and63, shl1, shr_ok, neg_1, neg_2, neg_3, neg_4, kc_lt0, kc_ic, kc_m2, kc_1, kc_0, i0_add, add_i0, or_i0, z_8, z_4, z_64, z_256, ic_m2, ec_m1, ic_m1, m1_lt0, m2_lt0, m3_lt0, m4_lt0, up_s, if_true, if_false, ne_eq, not_true_eq_false, not_false_eq_true, Bool.false_eq_true, eq_self, or_self, or_false, false_or, and_self, and_true, true_and, ite_self, Nat.reduceEqDiff, Nat.reduceLT, Nat.reduceMod, Nat.reduceMul, Nat.reduceAdd, Nat.reducePow, Nat.reduceDiv, lt_2, lt_3, lt_4, lt_5, lt_6, lt_7, lt_8, lt_10, lt_11, lt_12, lt_15, lt_16, lt_18, lt_20, lt_24, lt_31, lt_32, lt_48, lt_57, lt_59, lt_63, lt_64, lt_74, lt_75, lt_97, lt_122, lt_128, lt_144, lt_145, lt_146, lt_147, lt_155, lt_163, lt_171, lt_179, lt_200, lt_243, lt_244, lt_255, lt_256, lt_732, lt_900, lt_3660, lt_3904, lt_4095, lt_65536, lt_65537, lt_252645135, lt_858993459, lt_1431655765, ↓p_has_b, p_has, ↓p_has9_b, p_has9, ↓p_bit_b, p_bit, ↓p_bit1_b, p_bit1, ↓p_bit0_b, p_bit0, p_X9_longestAgo_100, p_X9_longestAgo_94, p_X9_longestAgo_92, p_X9_longestAgo_64, p_X9_longestAgo_4, p_X9_longestAgo, hL.t, hL.x, if_inB hL.xt, hR.k, hp9, hk, c0]
      · simp (maxSteps := 1000000) (disch := omega) only [↓reduceIte, ↓if_bi0, ↓if_bi1, hp_tg, hp_rI, hp_rR, hp_rL, hp_wI, hp_wL, Option.bind_some, if_11, if_01, bi_and1, i10, i01, bi_t, bi_f, ic_add, mr_4, ml_4, mr_8, ml_8, mr_10, ml_10, ic_add1, ic_sub1, ic_clamp, ic_div, ic_irm, ic_lt0, ic_0lt, ic_eq0, ic_lt, ic_inj, and15, and7, and31, and63, shl1, shr_ok, neg_1, neg_2, neg_3, neg_4, kc_lt0, kc_ic, kc_m2, kc_1, kc_0, i0_add, add_i0, or_i0, z_8, z_4, z_64, z_256, ic_m2, ec_m1, ic_m1, m1_lt0, m2_lt0, m3_lt0, m4_lt0, up_s, if_true, if_false, ne_eq, not_true_eq_false, not_false_eq_true, Bool.false_eq_true, eq_self, or_self, or_false, false_or, and_self, and_true, true_and, ite_self, Nat.reduceEqDiff, Nat.reduceLT, Nat.reduceMod, Nat.reduceMul, Nat.reduceAdd, Nat.reducePow, Nat.reduceDiv, lt_2, lt_3, lt_4, lt_5, lt_6, lt_7, lt_8, lt_10, lt_11, lt_12, lt_15, lt_16, lt_18, lt_20, lt_24, lt_31, lt_32, lt_48, lt_57, lt_59, lt_63, lt_64, lt_74, lt_75, lt_97, lt_122, lt_128, lt_144, lt_145, lt_146, lt_147, lt_155, lt_163, lt_171, lt_179, lt_200, lt_243, lt_244, lt_255, lt_256, lt_732, lt_900, lt_3660, lt_3904, lt_4095, lt_65536, lt_65537, lt_252645135, lt_858993459, lt_1431655765, ↓p_has_b, p_has, ↓p_has9_b, p_has9, ↓p_bit_b, p_bit, ↓p_bit1_b, p_bit1, ↓p_bit0_b, p_bit0, p_X9_longestAgo_100, p_X9_longestAgo_94, p_X9_longestAgo_92, p_X9_longestAgo_64, p_X9_longestAgo_4, p_X9_longestAgo, hL.t, hL.x, if_inB hL.xt, hR.k, hR.o, hR.rt, hp9, hk, c1, c2]
    · rw [if_neg c]
      rw [spd_iff] at c
      have c0 : sk s k ≠ 0 := fun e => c (Or.inl e)
      have c1 : ¬ (sk s k = 1 ∧ so s k = sr s + 1) := fun e => c (Or.inr e)
      cases e : old s k with
      | none =>
        rw [om_none]
        by_cases d : sk s k = 1
        · have d2 : ¬ so s k = sr s + 1 := fun e => c1 ⟨d, e⟩
          simp (maxSteps := 1000000) (disch := omega) only [↓reduceIte, ↓if_bi0, ↓if_bi1, hp_tg, hp_rI, hp_rR, hp_rL, hp_wI, hp_wL, Option.bind_some, if_11, if_01, bi_and1, i10, i01, bi_t, bi_f, ic_add, mr_4, ml_4, mr_8, ml_8, mr_10, ml_10, ic_add1, ic_sub1, ic_clamp, ic_div, ic_irm, ic_lt0, ic_0lt, ic_eq0, ic_lt, ic_inj, and15, and7, and31, and63, shl1, shr_ok, neg_1, neg_2, neg_3, neg_4, kc_lt0, kc_ic, kc_m2, kc_1, kc_0, i0_add, add_i0, or_i0, z_8, z_4, z_64, z_256, ic_m2, ec_m1, ic_m1, m1_lt0, m2_lt0, m3_lt0, m4_lt0, up_s, if_true, if_false, ne_eq, not_true_eq_false, not_false_eq_true, Bool.false_eq_true, eq_self, or_self, or_false, false_or, and_self, and_true, true_and, ite_self, Nat.reduceEqDiff, Nat.reduceLT, Nat.reduceMod, Nat.reduceMul, Nat.reduceAdd, Nat.reducePow, Nat.reduceDiv, lt_2, lt_3, lt_4, lt_5, lt_6, lt_7, lt_8, lt_10, lt_11, lt_12, lt_15, lt_16, lt_18, lt_20, lt_24, lt_31, lt_32, lt_48, lt_57, lt_59, lt_63, lt_64, lt_74, lt_75, lt_97, lt_122, lt_128, lt_144, lt_145, lt_146, lt_147, lt_155, lt_163, lt_171, lt_179, lt_200, lt_243, lt_244, lt_255, lt_256, lt_732, lt_900, lt_3660, lt_3904, lt_4095, lt_65536, lt_65537, lt_252645135, lt_858993459, lt_1431655765, ↓p_has_b, p_has, ↓p_has9_b, p_has9, ↓p_bit_b, p_bit, ↓p_bit1_b, p_bit1, ↓p_bit0_b, p_bit0, p_X9_longestAgo_100, p_X9_longestAgo_94, p_X9_longestAgo_92, p_X9_longestAgo_64, p_X9_longestAgo_4, p_X9_longestAgo, hL.t, hL.x, if_inB hL.xt, hR.k, hR.o, hR.rt, hp9, hk, c0, d, d2, od, om_none, om_some]
        · simp (maxSteps := 1000000) (disch := omega) only [↓reduceIte, ↓if_bi0, ↓if_bi1, hp_tg, hp_rI, hp_rR, hp_rL, hp_wI, hp_wL, Option.bind_some, if_11, if_01, bi_and1, i10, i01, bi_t, bi_f, ic_add, mr_4, ml_4, mr_8, ml_8, mr_10, ml_10, ic_add1, ic_sub1, ic_clamp, ic_div, ic_irm, ic_lt0, ic_0lt, ic_eq0, ic_lt, ic_inj, and15, and7, and31, and63, shl1, shr_ok, neg_1, neg_2, neg_3, neg_4, kc_lt0, kc_ic, kc_m2, kc_1, kc_0, i0_add, add_i0, or_i0, z_8, z_4, z_64, z_256, ic_m2, ec_m1, ic_m1, m1_lt0, m2_lt0, m3_lt0, m4_lt0, up_s, if_true, if_false, ne_eq, not_true_eq_false, not_false_eq_true, Bool.false_eq_true, eq_self, or_self, or_false, false_or, and_self, and_true, true_and, ite_self, Nat.reduceEqDiff, Nat.reduceLT, Nat.reduceMod, Nat.reduceMul, Nat.reduceAdd, Nat.reducePow, Nat.reduceDiv, lt_2, lt_3, lt_4, lt_5, lt_6, lt_7, lt_8, lt_10, lt_11, lt_12, lt_15, lt_16, lt_18, lt_20, lt_24, lt_31, lt_32, lt_48, lt_57, lt_59, lt_63, lt_64, lt_74, lt_75, lt_97, lt_122, lt_128, lt_144, lt_145, lt_146, lt_147, lt_155, lt_163, lt_171, lt_179, lt_200, lt_243, lt_244, lt_255, lt_256, lt_732, lt_900, lt_3660, lt_3904, lt_4095, lt_65536, lt_65537, lt_252645135, lt_858993459, lt_1431655765, ↓p_has_b, p_has, ↓p_has9_b, p_has9, ↓p_bit_b, p_bit, ↓p_bit1_b, p_bit1, ↓p_bit0_b, p_bit0, p_X9_longestAgo_100, p_X9_longestAgo_94, p_X9_longestAgo_92, p_X9_longestAgo_64, p_X9_longestAgo_4, p_X9_longestAgo, hL.t, hL.x, if_inB hL.xt, hR.k, hR.o, hR.rt, hp9, hk, c0, d, od, om_none, om_some]
      | some j =>
        rw [om_some]
        have hj := hlt j e
        have h4 := hV.bc (n := j) (by omega)
        by_cases x : sb s k < sb s j
        · by_cases d : sk s k = 1
          · have d2 : ¬ so s k = sr s + 1 := fun e => c1 ⟨d, e⟩
            simp (maxSteps := 1000000) (disch := omega) only [↓reduceIte, ↓if_bi0, ↓if_bi1, hp_tg, hp_rI, hp_rR, hp_rL, hp_wI, hp_wL, Option.bind_some, if_11, if_01, bi_and1, i10, i01, bi_t, bi_f, ic_add, mr_4, ml_4, mr_8, ml_8, mr_10, ml_10, ic_add1, ic_sub1, ic_clamp, ic_div, ic_irm, ic_lt0, ic_0lt, ic_eq0, ic_lt, ic_inj, and15, and7, and31, and63, shl1, shr_ok, neg_1, neg_2, neg_3, neg_4, kc_lt0, kc_ic, kc_m2, kc_1, kc_0, i0_add, add_i0, or_i0, z_8, z_4, z_64, z_256, ic_m2, ec_m1, ic_m1, m1_lt0, m2_lt0, m3_lt0, m4_lt0, up_s, if_true, if_false, ne_eq, not_true_eq_false, not_false_eq_true, Bool.false_eq_true, eq_self, or_self, or_false, false_or, and_self, and_true, true_and, ite_self, Nat.reduceEqDiff, Nat.reduceLT, Nat.reduceMod, Nat.reduceMul, Nat.reduceAdd, Nat.reducePow, Nat.reduceDiv, lt_2, lt_3, lt_4, lt_5, lt_6, lt_7, lt_8, lt_10, lt_11, lt_12, lt_15, lt_16, lt_18, lt_20, lt_24, lt_31, lt_32, lt_48, lt_57, lt_59, lt_63, lt_64, lt_74, lt_75, lt_97, lt_122, lt_128, lt_144, lt_145, lt_146, lt_147, lt_155, lt_163, lt_171, lt_179, lt_200, lt_243, lt_244, lt_255, lt_256, lt_732, lt_900, lt_3660, lt_3904, lt_4095, lt_65536, lt_65537, lt_252645135, lt_858993459, lt_1431655765, ↓p_has_b, p_has, ↓p_has9_b, p_has9, ↓p_bit_b, p_bit, ↓p_bit1_b, p_bit1, ↓p_bit0_b, p_bit0, p_X9_longestAgo_100, p_X9_longestAgo_94, p_X9_longestAgo_92, p_X9_longestAgo_64, p_X9_longestAgo_4, p_X9_longestAgo, hL.t, hL.x, if_inB hL.xt, hR.k, hR.o, hR.b, hR.rt, hp9, hk, c0, d, d2, od, om_none, om_some, x]
          · simp (maxSteps := 1000000) (disch := omega) only [↓reduceIte, ↓if_bi0, ↓if_bi1, hp_tg, hp_rI, hp_rR, hp_rL, hp_wI, hp_wL, Option.bind_some, if_11, if_01, bi_and1, i10, i01, bi_t, bi_f, ic_add, mr_4, ml_4, mr_8, ml_8, mr_10, ml_10, ic_add1, ic_sub1, ic_clamp, ic_div, ic_irm, ic_lt0, ic_0lt, ic_eq0, ic_lt, ic_inj, and15, and7, and31, and63, shl1, shr_ok, neg_1, neg_2, neg_3, neg_4, kc_lt0, kc_ic, kc_m2, kc_1, kc_0, i0_add, add_i0, or_i0, z_8, z_4, z_64, z_256, ic_m2, ec_m1, ic_m1, m1_lt0, m2_lt0, m3_lt0, m4_lt0, up_s, if_true, if_false, ne_eq, not_true_eq_false, not_false_eq_true, Bool.false_eq_true, eq_self, or_self, or_false, false_or, and_self, and_true, true_and, ite_self, Nat.reduceEqDiff, Nat.reduceLT, Nat.reduceMod, Nat.reduceMul, Nat.reduceAdd, Nat.reducePow, Nat.reduceDiv, lt_2, lt_3, lt_4, lt_5, lt_6, lt_7, lt_8, lt_10, lt_11, lt_12, lt_15, lt_16, lt_18, lt_20, lt_24, lt_31, lt_32, lt_48, lt_57, lt_59, lt_63, lt_64, lt_74, lt_75, lt_97, lt_122, lt_128, lt_144, lt_145, lt_146, lt_147, lt_155, lt_163, lt_171, lt_179, lt_200, lt_243, lt_244, lt_255, lt_256, lt_732, lt_900, lt_3660, lt_3904, lt_4095, lt_65536, lt_65537, lt_252645135, lt_858993459, lt_1431655765, ↓p_has_b, p_has, ↓p_has9_b, p_has9, ↓p_bit_b, p_bit, ↓p_bit1_b, p_bit1, ↓p_bit0_b, p_bit0, p_X9_longestAgo_100, p_X9_longestAgo_94, p_X9_longestAgo_92, p_X9_longestAgo_64, p_X9_longestAgo_4, p_X9_longestAgo, hL.t, hL.x, if_inB hL.xt, hR.k, hR.o, hR.b, hR.rt, hp9, hk, c0, d, od, om_none, om_some, x]
        · by_cases d : sk s k = 1
          · have d2 : ¬ so s k = sr s + 1 := fun e => c1 ⟨d, e⟩
            simp (maxSteps := 1000000) (disch := omega) only [↓reduceIte, ↓if_bi0, ↓if_bi1, hp_tg, hp_rI, hp_rR, hp_rL, hp_wI, hp_wL, Option.bind_some, if_11, if_01, bi_and1, i10, i01, bi_t, bi_f, ic_add, mr_4, ml_4, mr_8, ml_8, mr_10, ml_10, ic_add1, ic_sub1, ic_clamp, ic_div, ic_irm, ic_lt0, ic_0lt, ic_eq0, ic_lt, ic_inj, and15, and7, and31, and63, shl1, shr_ok, neg_1, neg_2, neg_3, neg_4, kc_lt0, kc_ic, kc_m2, kc_1, kc_0, i0_add, add_i0, or_i0, z_8, z_4, z_64, z_256, ic_m2, ec_m1, ic_m1, m1_lt0, m2_lt0, m3_lt0, m4_lt0, up_s, if_true, if_false, ne_eq, not_true_eq_false, not_false_eq_true, Bool.false_eq_true, eq_self, or_self, or_false, false_or, and_self, and_true, true_and, ite_self, Nat.reduceEqDiff, Nat.reduceLT, Nat.reduceMod, Nat.reduceMul, Nat.reduceAdd, Nat.reducePow, Nat.reduceDiv, lt_2, lt_3, lt_4, lt_5, lt_6, lt_7, lt_8, lt_10, lt_11, lt_12, lt_15, lt_16, lt_18, lt_20, lt_24, lt_31, lt_32, lt_48, lt_57, lt_59, lt_63, lt_64, lt_74, lt_75, lt_97, lt_122, lt_128, lt_144, lt_145, lt_146, lt_147, lt_155, lt_163, lt_171, lt_179, lt_200, lt_243, lt_244, lt_255, lt_256, lt_732, lt_900, lt_3660, lt_3904, lt_4095, lt_65536, lt_65537, lt_252645135, lt_858993459, lt_1431655765, ↓p_has_b, p_has, ↓p_has9_b, p_has9, ↓p_bit_b, p_bit, ↓p_bit1_b, p_bit1, ↓p_bit0_b, p_bit0, p_X9_longestAgo_100, p_X9_longestAgo_94, p_X9_longestAgo_92, p_X9_longestAgo_64, p_X9_longestAgo_4, p_X9_longestAgo, hL.t, hL.x, if_inB hL.xt, hR.k, hR.o, hR.b, hR.rt, hp9, hk, c0, d, d2, od, om_none, om_some, x]
          · simp (maxSteps := 1000000) (disch := omega) only [↓reduceIte, ↓if_bi0, ↓if_bi1, hp_tg, hp_rI, hp_rR, hp_rL, hp_wI, hp_wL, Option.bind_some, if_11, if_01, bi_and1, i10, i01, bi_t, bi_f, ic_add, mr_4, ml_4, mr_8, ml_8, mr_10, ml_10, ic_add1, ic_sub1, ic_clamp, ic_div, ic_irm, ic_lt0, ic_0lt, ic_eq0, ic_lt, ic_inj, and15, and7, and31, and63, shl1, shr_ok, neg_1, neg_2, neg_3, neg_4, kc_lt0, kc_ic, kc_m2, kc_1, kc_0, i0_add, add_i0, or_i0, z_8, z_4, z_64, z_256, ic_m2, ec_m1, ic_m1, m1_lt0, m2_lt0, m3_lt0, m4_lt0, up_s, if_true, if_false, ne_eq, not_true_eq_false, not_false_eq_true, Bool.false_eq_true, eq_self, or_self, or_false, false_or, and_self, and_true, true_and, ite_self, Nat.reduceEqDiff, Nat.reduceLT, Nat.reduceMod, Nat.reduceMul, Nat.reduceAdd, Nat.reducePow, Nat.reduceDiv, lt_2, lt_3, lt_4, lt_5, lt_6, lt_7, lt_8, lt_10, lt_11, lt_12, lt_15, lt_16, lt_18, lt_20, lt_24, lt_31, lt_32, lt_48, lt_57, lt_59, lt_63, lt_64, lt_74, lt_75, lt_97, lt_122, lt_128, lt_144, lt_145, lt_146, lt_147, lt_155, lt_163, lt_171, lt_179, lt_200, lt_243, lt_244, lt_255, lt_256, lt_732, lt_900, lt_3660, lt_3904, lt_4095, lt_65536, lt_65537, lt_252645135, lt_858993459, lt_1431655765, ↓p_has_b, p_has, ↓p_has9_b, p_has9, ↓p_bit_b, p_bit, ↓p_bit1_b, p_bit1, ↓p_bit0_b, p_bit0, p_X9_longestAgo_100, p_X9_longestAgo_94, p_X9_longestAgo_92, p_X9_longestAgo_64, p_X9_longestAgo_4, p_X9_longestAgo, hL.t, hL.x, if_inB hL.xt, hR.k, hR.o, hR.b, hR.rt, hp9, hk, c0, d, od, om_none, om_some, x]
  · subst hb
    exact ⟨_, by simp (maxSteps := 1000000) (disch := omega) only [↓reduceIte, ↓if_bi0, ↓if_bi1, hp_tg, hp_rI, hp_rR, hp_rL, hp_wI, hp_wL, Option.bind_some, if_11, if_01, bi_and1, i10, i01, bi_t, bi_f, ic_add, mr_4, ml_4, mr_8, ml_8, mr_10, ml_10, ic_add1, ic_sub1, ic_clamp, ic_div, ic_irm, ic_lt0, ic_0lt, ic_eq0, ic_lt, ic_inj, and15, and7, and31, and63, shl1, shr_ok, neg_1, neg_2, neg_3, neg_4, kc_lt0, kc_ic, kc_m2, kc_1, kc_0, i0_add, add_i0, or_i0, z_8, z_4, z_64, z_256, ic_m2, ec_m1, ic_m1, m1_lt0, m2_lt0, m3_lt0, m4_lt0, up_s, if_true, if_false, ne_eq, not_true_eq_false, not_false_eq_true, Bool.false_eq_true, eq_self, or_self, or_false, false_or, and_self, and_true, true_and, ite_self, Nat.reduceEqDiff, Nat.reduceLT, Nat.reduceMod, Nat.reduceMul, Nat.reduceAdd, Nat.reducePow, Nat.reduceDiv, lt_2, lt_3, lt_4, lt_5, lt_6, lt_7, lt_8, lt_10, lt_11, lt_12, lt_15, lt_16, lt_18, lt_20, lt_24, lt_31, lt_32, lt_48, lt_57, lt_59, lt_63, lt_64, lt_74, lt_75, lt_97, lt_122, lt_128, lt_144, lt_145, lt_146, lt_147, lt_155, lt_163, lt_171, lt_179, lt_200, lt_243, lt_244, lt_255, lt_256, lt_732, lt_900, lt_3660, lt_3904, lt_4095, lt_65536, lt_65537, lt_252645135, lt_858993459, lt_1431655765, ↓p_has_b, p_has, ↓p_has9_b, p_has9, ↓p_bit_b, p_bit, ↓p_bit1_b, p_bit1, ↓p_bit0_b, p_bit0, p_X9_longestAgo_100, p_X9_longestAgo_94, p_X9_longestAgo_92, p_X9_longestAgo_64, p_X9_longestAgo_4, p_X9_longestAgo, hL.t, hp9, Nat.lt_irrefl], rfl⟩
theorem x_longest_b (hL : ML S m) (hR : RW (I (m + 3)) s) (hV : Inv s pl) (hc : sc s < 1073741824) (hp9 : I m 26 = ic pl) {β : Type} (f9 : Int32 × AH → Option β) : (p_X9_longestAgo m (hp S I L)).bind f9 = f9 (od (old s 8), hp S I L) := bnd (by apply x_longest <;> assumption)
/-- a table emptied, whatever was there -/
theorem x_frees (hL : ML S m) {n : Nat} (hn : n < 8) : ∃ I', p_X9_frees m (ic n) (hp S I L) = some (hp S I' L) ∧ Fr I I' (m + 3) (m + 3) ∧ (∀ j, I' (m + 3) j = if j = 147 + n ∨ j = 155 + n then m2 else if j = 163 + n ∨ j = 171 + n then 0 else if 179 + 8 * n ≤ j ∧ j < 179 + 8 * n + 8 then m1 else I (m + 3) j) := by
  have key : ∀ J : II, ∃ r, p_X9_frees_48 FU m (ic n) (ic 0) (hp S J L) = some r ∧ ∃ I', r = hp S I' L ∧ (∀ b, b ≠ m + 3 → I' b = J b) ∧ ∀ j, I' (m + 3) j = if 179 + 8 * n ≤ j ∧ j < 179 + 8 * n + 8 then m1 else J (m + 3) j := by
    intro J
    refine lp_inv (fun k j (c : II) => p_X9_frees_48 k m (ic n) (ic j) (hp S c L)) 8 (fun k c => (∀ b, b ≠ m + 3 → c b = J b) ∧ ∀ j, c (m + 3) j = if 179 + 8 * n ≤ j ∧ j < 179 + 8 * n + k then m1 else J (m + 3) j) (fun r => ∃ I', r = hp S I' L ∧ (∀ b, b ≠ m + 3 → I' b = J b) ∧ ∀ j, I' (m + 3) j = if 179 + 8 * n ≤ j ∧ j < 179 + 8 * n + 8 then m1 else J (m + 3) j) (fun k j c hj hc => ?_) (fun k c hc => ?_) 8 0 FU J rfl (fu_lt (by decide)) ⟨fun _ _ => rfl, fun j => by rw [if_neg (by omega)]⟩
    · refine ⟨up2 c (m + 3) (179 + 8 * n + j) m1, ?_, fun b hb => ?_, fun i => ?_⟩
      · simp (maxSteps := 1000000) (disch := omega) only [↓reduceIte, ↓if_bi0, ↓if_bi1, hp_tg, hp_rI, hp_rR, hp_rL, hp_wI, hp_wL, Option.bind_some, if_11, if_01, bi_and1, i10, i01, bi_t, bi_f, ic_add, mr_4, ml_4, mr_8, ml_8, mr_10, ml_10, ic_add1, ic_sub1, ic_clamp, ic_div, ic_irm, ic_lt0, ic_0lt, ic_eq0, ic_lt, ic_inj, and15, and7, and31, and63, shl1, shr_ok, neg_1, neg_2, neg_3, neg_4, kc_lt0, kc_ic, kc_m2, kc_1, kc_0, i0_add, add_i0, or_i0, z_8, z_4, z_64, z_256, ic_m2, ec_m1, ic_m1, m1_lt0, m2_lt0, m3_lt0, m4_lt0, up_s, if_true, if_false, ne_eq, not_true_eq_false, not_false_eq_true, Bool.false_eq_true, eq_self, or_self, or_false, false_or, and_self, and_true, true_and, ite_self, Nat.reduceEqDiff, Nat.reduceLT, Nat.reduceMod, Nat.reduceMul, Nat.reduceAdd, Nat.reducePow, Nat.reduceDiv, lt_2, lt_3, lt_4, lt_5, lt_6, lt_7, lt_8, lt_10, lt_11, lt_12, lt_15, lt_16, lt_18, lt_20, lt_24, lt_31, lt_32, lt_48, lt_57, lt_59, lt_63, lt_64, lt_74, lt_75, lt_97, lt_122, lt_128, lt_144, lt_145, lt_146, lt_147, lt_155, lt_163, lt_171, lt_179, lt_200, lt_243, lt_244, lt_255, lt_256, lt_732, lt_900, lt_3660, lt_3904, lt_4095, lt_65536, lt_65537, lt_252645135, lt_858993459, lt_1431655765, ↓p_has_b, p_has, ↓p_has9_b, p_has9, ↓p_bit_b, p_bit, ↓p_bit1_b, p_bit1, ↓p_bit0_b, p_bit0, p_X9_frees_76, p_X9_frees_48, p_X9_frees, hL.t, hL.x, hj, if_inB hL.xt]
      · funext i; rw [up_a hb, hc.1 b hb]
      · rw [up_i]
        by_cases d : i = 179 + 8 * n + j
        · rw [if_pos d, if_pos (by omega)]
        · rw [if_neg d, hc.2 i]
          by_cases x : 179 + 8 * n ≤ i ∧ i < 179 + 8 * n + j
          · rw [if_pos x, if_pos (by omega)]
          · rw [if_neg x, if_neg (by omega)]
    · exact ⟨_, by simp (maxSteps := 1000000) (disch := omega) only [↓reduceIte, ↓if_bi0, ↓if_bi1, hp_tg, hp_rI, hp_rR, hp_rL, hp_wI, hp_wL, Option.bind_some, if_11, if_01, bi_and1, i10, i01, bi_t, bi_f, ic_add, mr_4, ml_4, mr_8, ml_8, mr_10, ml_10, ic_add1, ic_sub1, ic_clamp, ic_div, ic_irm, ic_lt0, ic_0lt, ic_eq0, ic_lt, ic_inj, and15, and7, and31, and63, shl1, shr_ok, neg_1, neg_2, neg_3, neg_4, kc_lt0, kc_ic, kc_m2, kc_1, kc_0, i0_add, add_i0, or_i0, z_8, z_4, z_64, z_256, ic_m2, ec_m1, ic_m1, m1_lt0, m2_lt0, m3_lt0, m4_lt0, up_s, if_true, if_false, ne_eq, not_true_eq_false, not_false_eq_true, Bool.false_eq_true, eq_self, or_self, or_false, false_or, and_self, and_true, true_and, ite_self, Nat.reduceEqDiff, Nat.reduceLT, Nat.reduceMod, Nat.reduceMul, Nat.reduceAdd, Nat.reducePow, Nat.reduceDiv, lt_2, lt_3, lt_4, lt_5, lt_6, lt_7, lt_8, lt_10, lt_11, lt_12, lt_15, lt_16, lt_18, lt_20, lt_24, lt_31, lt_32, lt_48, lt_57, lt_59, lt_63, lt_64, lt_74, lt_75, lt_97, lt_122, lt_128, lt_144, lt_145, lt_146, lt_147, lt_155, lt_163, lt_171, lt_179, lt_200, lt_243, lt_244, lt_255, lt_256, lt_732, lt_900, lt_3660, lt_3904, lt_4095, lt_65536, lt_65537, lt_252645135, lt_858993459, lt_1431655765, ↓p_has_b, p_has, ↓p_has9_b, p_has9, ↓p_bit_b, p_bit, ↓p_bit1_b, p_bit1, ↓p_bit0_b, p_bit0, p_X9_frees_76, p_X9_frees_48, p_X9_frees, Nat.lt_irrefl], c, rfl, hc⟩
  obtain ⟨r, e, I', rfl, h1, h2⟩ := key (up2 (up2 (up2 (up2 I (m + 3) (147 + n) m2) (m + 3) (155 + n) m2) (m + 3) (163 + n) 0) (m + 3) (171 + n) 0)
  refine ⟨I', ?_, fun b hb => ?_, fun j => ?_⟩
  · simp (maxSteps := 1000000) (disch := omega) only [↓reduceIte, ↓if_bi0, ↓if_bi1, hp_tg, hp_rI, hp_rR, hp_rL, hp_wI, hp_wL, Option.bind_some, if_11, if_01, bi_and1, i10, i01, bi_t, bi_f, ic_add, mr_4, ml_4, mr_8, ml_8, mr_10, ml_10, ic_add1, ic_sub1, ic_clamp, ic_div, ic_irm, ic_lt0, ic_0lt, ic_eq0, ic_lt, ic_inj, and15, and7, and31, and63, shl1, shr_ok, neg_1, neg_2, neg_3, neg_4, kc_lt0, kc_ic, kc_m2, kc_1, kc_0, i0_add, add_i0, or_i0, z_8, z_4, z_64, z_256, ic_m2, ec_m1, ic_m1, m1_lt0, m2_lt0, m3_lt0, m4_lt0, up_s, if_true, if_false, ne_eq, not_true_eq_false, not_false_eq_true, Bool.false_eq_true, eq_self, or_self, or_false, false_or, and_self, and_true, true_and, ite_self, Nat.reduceEqDiff, Nat.reduceLT, Nat.reduceMod, Nat.reduceMul, Nat.reduceAdd, Nat.reducePow, Nat.reduceDiv, lt_2, lt_3, lt_4, lt_5, lt_6, lt_7, lt_8, lt_10, lt_11, lt_12, lt_15, lt_16, lt_18, lt_20, lt_24, lt_31, lt_32, lt_48, lt_57, lt_59, lt_63, lt_64, lt_74, lt_75, lt_97, lt_122, lt_128, lt_144, lt_145, lt_146, lt_147, lt_155, lt_163, lt_171, lt_179, lt_200, lt_243, lt_244, lt_255, lt_256, lt_732, lt_900, lt_3660, lt_3904, lt_4095, lt_65536, lt_65537, lt_252645135, lt_858993459, lt_1431655765, ↓p_has_b, p_has, ↓p_has9_b, p_has9, ↓p_bit_b, p_bit, ↓p_bit1_b, p_bit1, ↓p_bit0_b, p_bit0, p_X9_frees, hL.t, hL.x, if_inB hL.xt]
    exact e
  · rw [h1 b (by omega)]; funext j; rw [up_a (by omega), up_a (by omega), up_a (by omega), up_a (by omega)]
  · rw [h2, up_i, up_i, up_i, up_i]
    by_cases c0 : 179 + 8 * n ≤ j ∧ j < 179 + 8 * n + 8
    · rw [if_pos c0, if_neg (by omega), if_neg (by omega), if_pos c0]
    · rw [if_neg c0]
      by_cases c1 : j = 171 + n
      · rw [if_pos c1, if_neg (by omega), if_pos (by omega)]
      · rw [if_neg c1]
        by_cases c2 : j = 163 + n
        · rw [if_pos c2, if_neg (by omega), if_pos (by omega)]
        · rw [if_neg c2]
          by_cases c3 : j = 155 + n
          · rw [if_pos c3, if_pos (by omega)]
          · rw [if_neg c3]
            by_cases c4 : j = 147 + n
            · rw [if_pos c4, if_pos (by omega)]
            · rw [if_neg c4, if_neg (by omega), if_neg (by omega), if_neg c0]
theorem RW.vac {r r' : Nat → Int32} (h : RW r s) {n : Nat} (hn : n < 8) (hr : ∀ j, r' j = if j = 147 + n ∨ j = 155 + n then m2 else if j = 163 + n ∨ j = 171 + n then 0 else if 179 + 8 * n ≤ j ∧ j < 179 + 8 * n + 8 then m1 else r j) : RW r' (uu (ub (uo (uk (ue s (fun a => if a / 8 = n then 0 else se s a)) (up1 (sk s) n 0)) (up1 (so s) n 0)) (up1 (sb s) n 0)) (up1 (su s) n false)) := by
  have far : ∀ j, j < 147 ∨ j = 243 → r' j = r j := fun j hj => by rw [hr, if_neg (by omega), if_neg (by omega), if_neg (by omega)]
  refine ⟨fun j hj => by rw [far j (by omega)]; exact h.W j hj, fun j hj => by rw [far _ (by omega)]; exact h.H j hj, ?_, by rw [far _ (by omega)]; exact h.mk, by rw [far _ (by omega)]; exact h.rt, fun j hj => ?_, fun j hj => ?_, fun j hj => ?_, fun j hj => ?_, fun a ha => ?_, by rw [far _ (by omega)]; exact h.c⟩
  · obtain ⟨w, a, b, c⟩ := h.w; exact ⟨w, a, by rw [far _ (by omega)]; exact b, c⟩
  · show _ = kc (up1 (sk s) n 0 j)
    by_cases c : j = n
    · subst c; rw [up1_s, hr, if_pos (by omega)]; rfl
    · rw [up1_n c, hr, if_neg (by omega), if_neg (by omega), if_neg (by omega)]; exact h.k j hj
  · show _ = kc (up1 (so s) n 0 j)
    by_cases c : j = n
    · subst c; rw [up1_s, hr, if_pos (by omega)]; rfl
    · rw [up1_n c, hr, if_neg (by omega), if_neg (by omega), if_neg (by omega)]; exact h.o j hj
  · show _ = ic (up1 (sb s) n 0 j)
    by_cases c : j = n
    · subst c; rw [up1_s, hr, if_neg (by omega), if_pos (by omega)]; rfl
    · rw [up1_n c, hr, if_neg (by omega), if_neg (by omega), if_neg (by omega)]; exact h.b j hj
  · show _ = bi (up1 (su s) n false j)
    by_cases c : j = n
    · subst c; rw [up1_s, hr, if_neg (by omega), if_pos (by omega)]; rfl
    · rw [up1_n c, hr, if_neg (by omega), if_neg (by omega), if_neg (by omega)]; exact h.u j hj
  · show _ = ec (if a / 8 = n then 0 else se s a)
    by_cases c : a / 8 = n
    · rw [if_pos c, hr, if_neg (by omega), if_neg (by omega), if_pos (by omega)]; rfl
    · rw [if_neg c, hr, if_neg (by omega), if_neg (by omega), if_neg (by omega)]; exact h.e a ha
/-- nothing but the object's own fields and its second row -/
def M3 (I I' : II) (m : Nat) : Prop := ∀ b, b ≠ m → b ≠ m + 3 → I' b = I b
theorem M3.trans {I I' I'' : II} (a : M3 I I' m) (b : M3 I' I'' m) : M3 I I'' m := fun x h1 h2 => (b x h1 h2).trans (a x h1 h2)
theorem M3.refl (I : II) (m : Nat) : M3 I I m := fun _ _ _ => rfl
theorem M3.of {I I' : II} (f : Fr I I' (m + 3) (m + 3)) : M3 I I' m := fun b _ h => f b (by omega)
theorem M3.up {I : II} {k : Nat} {v : Int32} : M3 I (up2 I m k v) m := fun b h _ => funext fun j => up_a h
theorem M3.up3 {I : II} {k : Nat} {v : Int32} : M3 I (up2 I (m + 3) k v) m := fun b _ h => funext fun j => up_a h
theorem x_dropped (hL : ML S m) (hR : RW (I (m + 3)) s) (hV : Inv s pl) {n : Nat} (hn : n < 8) : ∃ I', p_X9_dropped m (ic n) (hp S I L) = some (hp S I' L) ∧ RW (I' (m + 3)) (drp s n) ∧ M3 I I' m ∧ I' m 28 = I m 28 + 1 ∧ ∀ j, j ≠ 28 → I' m j = I m j := by
  have := lp_inv (fun k j (c : II) => p_X9_dropped_4 k m (ic n) (ic (179 + j)) (hp S c L)) 64
    (fun k c => RW (c (m + 3)) (pe s (fun a => if isR s a n = true then 0 else se s a) k) ∧ Fr I c (m + 3) (m + 3))
    (fun r => ∃ I', r = hp S I' L ∧ RW (I' (m + 3)) (drp s n) ∧ M3 I I' m ∧ I' m 28 = I m 28 + 1 ∧ ∀ j, j ≠ 28 → I' m j = I m j) (fun x k J hk hc => ?_) (fun x J hc => ?_) 64 0 FU I rfl (fu_lt (by decide)) ⟨hR.pe0 _, Fr.refl _ _ _⟩
  · obtain ⟨r, e, I', e2, h⟩ := this
    subst e2
    exact ⟨I', e, h⟩
  · obtain ⟨hQ, hF⟩ := hc
    have h1 := hV.k3 (n := k / 8) (by omega)
    have h2 := hV.e64 hk
    have hk9 : 179 + k < 243 := by omega
    have he := hQ.e k hk
    rw [pe_at] at he
    have hkk : J (m + 3) (147 + k / 8) = kc (sk s (k / 8)) := hQ.k (k / 8) (by omega)
    by_cases e : isR s k n = true
    · obtain ⟨e1, e2, e3⟩ := isR_iff.mp e
      refine ⟨up2 J (m + 3) (179 + k) m1, ?_, ?_, hF.trans (Fr.up (by omega) (by omega))⟩
      · simp (maxSteps := 1000000) (disch := omega) only [↓reduceIte, ↓if_bi0, ↓if_bi1, hp_tg, hp_rI, hp_rR, hp_rL, hp_wI, hp_wL, Option.bind_some, if_11, if_01, bi_and1, i10, i01, bi_t, bi_f, ic_add, mr_4, ml_4, mr_8, ml_8, mr_10, ml_10, ic_add1, ic_sub1, ic_clamp, ic_div, ic_irm, ic_lt0, ic_0lt, ic_eq0, ic_lt, ic_inj, and15, and7, and31, and63, shl1, shr_ok, neg_1, neg_2, neg_3, neg_4, kc_lt0, kc_ic, kc_m2, kc_1, kc_0, i0_add, add_i0, or_i0, z_8, z_4, z_64, z_256, ic_m2, ec_m1, ic_m1, m1_lt0, m2_lt0, m3_lt0, m4_lt0, up_s, if_true, if_false, ne_eq, not_true_eq_false, not_false_eq_true, Bool.false_eq_true, eq_self, or_self, or_false, false_or, and_self, and_true, true_and, ite_self, Nat.reduceEqDiff, Nat.reduceLT, Nat.reduceMod, Nat.reduceMul, Nat.reduceAdd, Nat.reducePow, Nat.reduceDiv, lt_2, lt_3, lt_4, lt_5, lt_6, lt_7, lt_8, lt_10, lt_11, lt_12, lt_15, lt_16, lt_18, lt_20, lt_24, lt_31, lt_32, lt_48, lt_57, lt_59, lt_63, lt_64, lt_74, lt_75, lt_97, lt_122, lt_128, lt_144, lt_145, lt_146, lt_147, lt_155, lt_163, lt_171, lt_179, lt_200, lt_243, lt_244, lt_255, lt_256, lt_732, lt_900, lt_3660, lt_3904, lt_4095, lt_65536, lt_65537, lt_252645135, lt_858993459, lt_1431655765, ↓p_has_b, p_has, ↓p_has9_b, p_has9, ↓p_bit_b, p_bit, ↓p_bit1_b, p_bit1, ↓p_bit0_b, p_bit0, p_X9_dropped_66, p_X9_dropped_60, p_X9_dropped_4, p_X9_dropped, hL.t, hL.x, hk9, ic_sub, Nat.add_sub_cancel_left, if_inB hL.xt, he, hkk, e1, e2, ec_pos (show 0 < se s k by omega), e3, Nat.add_assoc]
      · rw [up_row]; exact hQ.pe1 _ (by rw [if_pos e]; rfl) hk
    · refine ⟨J, ?_, hQ.pe2 (if_neg e), hF⟩
      rw [isR_iff] at e
      by_cases e1 : sk s (k / 8) = 1
      · by_cases e2 : se s k = 0
        · simp (maxSteps := 1000000) (disch := omega) only [↓reduceIte, ↓if_bi0, ↓if_bi1, hp_tg, hp_rI, hp_rR, hp_rL, hp_wI, hp_wL, Option.bind_some, if_11, if_01, bi_and1, i10, i01, bi_t, bi_f, ic_add, mr_4, ml_4, mr_8, ml_8, mr_10, ml_10, ic_add1, ic_sub1, ic_clamp, ic_div, ic_irm, ic_lt0, ic_0lt, ic_eq0, ic_lt, ic_inj, and15, and7, and31, and63, shl1, shr_ok, neg_1, neg_2, neg_3, neg_4, kc_lt0, kc_ic, kc_m2, kc_1, kc_0, i0_add, add_i0, or_i0, z_8, z_4, z_64, z_256, ic_m2, ec_m1, ic_m1, m1_lt0, m2_lt0, m3_lt0, m4_lt0, up_s, if_true, if_false, ne_eq, not_true_eq_false, not_false_eq_true, Bool.false_eq_true, eq_self, or_self, or_false, false_or, and_self, and_true, true_and, ite_self, Nat.reduceEqDiff, Nat.reduceLT, Nat.reduceMod, Nat.reduceMul, Nat.reduceAdd, Nat.reducePow, Nat.reduceDiv, lt_2, lt_3, lt_4, lt_5, lt_6, lt_7, lt_8, lt_10, lt_11, lt_12, lt_15, lt_16, lt_18, lt_20, lt_24, lt_31, lt_32, lt_48, lt_57, lt_59, lt_63, lt_64, lt_74, lt_75, lt_97, lt_122, lt_128, lt_144, lt_145, lt_146, lt_147, lt_155, lt_163, lt_171, lt_179, lt_200, lt_243, lt_244, lt_255, lt_256, lt_732, lt_900, lt_3660, lt_3904, lt_4095, lt_65536, lt_65537, lt_252645135, lt_858993459, lt_1431655765, ↓p_has_b, p_has, ↓p_has9_b, p_has9, ↓p_bit_b, p_bit, ↓p_bit1_b, p_bit1, ↓p_bit0_b, p_bit0, p_X9_dropped_66, p_X9_dropped_60, p_X9_dropped_4, p_X9_dropped, hL.t, hL.x, hk9, ic_sub, Nat.add_sub_cancel_left, if_inB hL.xt, he, hkk, e1, e2, Nat.add_assoc]
        · have e3 : ¬ (se s k - 1) / 4 = n := fun q => e ⟨e1, e2, q⟩
          simp (maxSteps := 1000000) (disch := omega) only [↓reduceIte, ↓if_bi0, ↓if_bi1, hp_tg, hp_rI, hp_rR, hp_rL, hp_wI, hp_wL, Option.bind_some, if_11, if_01, bi_and1, i10, i01, bi_t, bi_f, ic_add, mr_4, ml_4, mr_8, ml_8, mr_10, ml_10, ic_add1, ic_sub1, ic_clamp, ic_div, ic_irm, ic_lt0, ic_0lt, ic_eq0, ic_lt, ic_inj, and15, and7, and31, and63, shl1, shr_ok, neg_1, neg_2, neg_3, neg_4, kc_lt0, kc_ic, kc_m2, kc_1, kc_0, i0_add, add_i0, or_i0, z_8, z_4, z_64, z_256, ic_m2, ec_m1, ic_m1, m1_lt0, m2_lt0, m3_lt0, m4_lt0, up_s, if_true, if_false, ne_eq, not_true_eq_false, not_false_eq_true, Bool.false_eq_true, eq_self, or_self, or_false, false_or, and_self, and_true, true_and, ite_self, Nat.reduceEqDiff, Nat.reduceLT, Nat.reduceMod, Nat.reduceMul, Nat.reduceAdd, Nat.reducePow, Nat.reduceDiv, lt_2, lt_3, lt_4, lt_5, lt_6, lt_7, lt_8, lt_10, lt_11, lt_12, lt_15, lt_16, lt_18, lt_20, lt_24, lt_31, lt_32, lt_48, lt_57, lt_59, lt_63, lt_64, lt_74, lt_75, lt_97, lt_122, lt_128, lt_144, lt_145, lt_146, lt_147, lt_155, lt_163, lt_171, lt_179, lt_200, lt_243, lt_244, lt_255, lt_256, lt_732, lt_900, lt_3660, lt_3904, lt_4095, lt_65536, lt_65537, lt_252645135, lt_858993459, lt_1431655765, ↓p_has_b, p_has, ↓p_has9_b, p_has9, ↓p_bit_b, p_bit, ↓p_bit1_b, p_bit1, ↓p_bit0_b, p_bit0, p_X9_dropped_66, p_X9_dropped_60, p_X9_dropped_4, p_X9_dropped, hL.t, hL.x, hk9, ic_sub, Nat.add_sub_cancel_left, if_inB hL.xt, he, hkk, e1, e2, ec_pos (show 0 < se s k by omega), e3, Nat.add_assoc]
      · simp (maxSteps := 1000000) (disch := omega) only [↓reduceIte, ↓if_bi0, ↓if_bi1, hp_tg, hp_rI, hp_rR, hp_rL, hp_wI, hp_wL, Option.bind_some, if_11, if_01, bi_and1, i10, i01, bi_t, bi_f, ic_add, mr_4, ml_4, mr_8, ml_8, mr_10, ml_10, ic_add1, ic_sub1, ic_clamp, ic_div, ic_irm, ic_lt0, ic_0lt, ic_eq0, ic_lt, ic_inj, and15, and7, and31, and63, shl1, shr_ok, neg_1, neg_2, neg_3, neg_4, kc_lt0, kc_ic, kc_m2, kc_1, kc_0, i0_add, add_i0, or_i0, z_8, z_4, z_64, z_256, ic_m2, ec_m1, ic_m1, m1_lt0, m2_lt0, m3_lt0, m4_lt0, up_s, if_true, if_false, ne_eq, not_true_eq_false, not_false_eq_true, Bool.false_eq_true, eq_self, or_self, or_false, false_or, and_self, and_true, true_and, ite_self, Nat.reduceEqDiff, Nat.reduceLT, Nat.reduceMod, Nat.reduceMul, Nat.reduceAdd, Nat.reducePow, Nat.reduceDiv, lt_2, lt_3, lt_4, lt_5, lt_6, lt_7, lt_8, lt_10, lt_11, lt_12, lt_15, lt_16, lt_18, lt_20, lt_24, lt_31, lt_32, lt_48, lt_57, lt_59, lt_63, lt_64, lt_74, lt_75, lt_97, lt_122, lt_128, lt_144, lt_145, lt_146, lt_147, lt_155, lt_163, lt_171, lt_179, lt_200, lt_243, lt_244, lt_255, lt_256, lt_732, lt_900, lt_3660, lt_3904, lt_4095, lt_65536, lt_65537, lt_252645135, lt_858993459, lt_1431655765, ↓p_has_b, p_has, ↓p_has9_b, p_has9, ↓p_bit_b, p_bit, ↓p_bit1_b, p_bit1, ↓p_bit0_b, p_bit0, p_X9_dropped_66, p_X9_dropped_60, p_X9_dropped_4, p_X9_dropped, hL.t, hL.x, hk9, ic_sub, Nat.add_sub_cancel_left, if_inB hL.xt, hkk, e1, Nat.add_assoc]
  · obtain ⟨hQ, hF⟩ := hc
    obtain ⟨I', e, f, h1⟩ := x_frees (I := J) (L := L) hL hn
    have hm : I' m 28 = I m 28 := by rw [f m (by omega), hF m (by omega)]
    refine ⟨_, by simp (maxSteps := 1000000) (disch := omega) only [↓reduceIte, ↓if_bi0, ↓if_bi1, hp_tg, hp_rI, hp_rR, hp_rL, hp_wI, hp_wL, Option.bind_some, if_11, if_01, bi_and1, i10, i01, bi_t, bi_f, ic_add, mr_4, ml_4, mr_8, ml_8, mr_10, ml_10, ic_add1, ic_sub1, ic_clamp, ic_div, ic_irm, ic_lt0, ic_0lt, ic_eq0, ic_lt, ic_inj, and15, and7, and31, and63, shl1, shr_ok, neg_1, neg_2, neg_3, neg_4, kc_lt0, kc_ic, kc_m2, kc_1, kc_0, i0_add, add_i0, or_i0, z_8, z_4, z_64, z_256, ic_m2, ec_m1, ic_m1, m1_lt0, m2_lt0, m3_lt0, m4_lt0, up_s, if_true, if_false, ne_eq, not_true_eq_false, not_false_eq_true, Bool.false_eq_true, eq_self, or_self, or_false, false_or, and_self, and_true, true_and, ite_self, Nat.reduceEqDiff, Nat.reduceLT, Nat.reduceMod, Nat.reduceMul, Nat.reduceAdd, Nat.reducePow, Nat.reduceDiv, lt_2, lt_3, lt_4, lt_5, lt_6, lt_7, lt_8, lt_10, lt_11, lt_12, lt_15, lt_16, lt_18, lt_20, lt_24, lt_31, lt_32, lt_48, lt_57, lt_59, lt_63, lt_64, lt_74, lt_75, lt_97, lt_122, lt_128, lt_144, lt_145, lt_146, lt_147, lt_155, lt_163, lt_171, lt_179, lt_200, lt_243, lt_244, lt_255, lt_256, lt_732, lt_900, lt_3660, lt_3904, lt_4095, lt_65536, lt_65537, lt_252645135, lt_858993459, lt_1431655765, ↓p_has_b, p_has, ↓p_has9_b, p_has9, ↓p_bit_b, p_bit, ↓p_bit1_b, p_bit1, ↓p_bit0_b, p_bit0, p_X9_dropped_66, p_X9_dropped_60, p_X9_dropped_4, p_X9_dropped, Nat.lt_irrefl, hL.t, ↓bnd (e), e, hm], up2 I' m 28 (I m 28 + 1), rfl, ?_, ((M3.of hF).trans (M3.of f)).trans M3.up, up_s _ _ _ _, fun j hj => by rw [up_k hj, f m (by omega), hF m (by omega)]⟩
    rw [show (up2 I' m 28 (I m 28 + 1)) (m + 3) = I' (m + 3) from funext fun j => up_a (by omega)]
    have h3 := hQ.pe9.vac hn h1
    refine h3.eq (by simp only [drp, sWuu, sWub, sWuo, sWuk, sWue]) (by simp only [drp, sHuu, sHub, sHuo, sHuk, sHue]) (by simp only [drp, swuu, swub, swuo, swuk, swue]) (by simp only [drp, smuu, smub, smuo, smuk, smue]) (by simp only [drp, sruu, srub, sruo, sruk, srue]) (by simp only [drp, skuu, skub, skuo, skuk, skue]) (by simp only [drp, souu, soub, souo, souk, soue]) (by simp only [drp, sbuu, sbub, sbuo, sbuk, sbue]) (by simp only [drp, suuu, suub, suuo, suuk, suue]) (fun a ha => ?_) (by simp only [drp, scuu, scub, scuo, scuk, scue])
    simp only [drp, seuu, seub, seuo, seuk, seue]
    by_cases c : a / 8 = n
    · simp [c]
    · simp [c]
end REFW
