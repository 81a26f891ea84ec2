/-! ===== the class: the guest, loops and writes ===== -/
def msk (p : Nat → Bool) (d : Nat) : Nat := fo (fun k n => if p k = true then n ||| 2 ^ k else n) d 0 0
theorem or_256 {w b : Nat} (hb : b < 256) : (w ||| b) / 256 = w / 256 := by
  have h := Nat.shiftRight_or_distrib (a := w) (b := b) (i := 8)
  rw [Nat.shiftRight_eq_div_pow, Nat.shiftRight_eq_div_pow, Nat.shiftRight_eq_div_pow, Nat.div_eq_of_lt (a := b) (by omega), Nat.or_zero] at h
  exact h
theorem or_b5 {w b : Nat} (hb : b.testBit 5 = false) : (w ||| b).testBit 5 = w.testBit 5 := by rw [Nat.testBit_or, hb, Bool.or_false]
/-- frames and large bits of words are as they were -/
def WS (s t : St) : Prop := (∀ k, k < 128 → sW t k / 256 = sW s k / 256 ∧ (sW t k).testBit 5 = (sW s k).testBit 5) ∧ sr t = sr s
theorem b2_t (n : Nat) : b2 true n = n := rfl
theorem b2_f (n : Nat) : b2 false n = 0 := rfl
section GUESTW
variable {S : SH} {I : II} {L : LL} {g : Nat} {s : St}
theorem WS.rt {t : St} (w : WS s t) (h : IG s) {v : Nat} (hv : v < 64) : rtW t v / 256 = rtW s v / 256 ∧ (rtW t v).testBit 5 = (rtW s v).testBit 5 := by
  unfold rtW
  rw [w.2]
  exact w.1 _ (rt_i h hv)
theorem WS.frm {t : St} (w : WS s t) (h : IG s) {v : Nat} (hv : v < 64) : frm t v = frm s v := by
  have a := w.rt h hv
  have b := (w.1 _ (lf_i h hv)).1
  have e : lg8 (rtW t v) = lg8 (rtW s v) := by unfold lg8; rw [a.1]
  unfold Jvm.Pilot.CShadowPagerLaw_law_r1758_84b6f1.frm
  rw [a.2, e]
  unfold lfW
  rw [a.1, b]
theorem WS.up {k b : Nat} (hb : b < 256) (h5 : b.testBit 5 = false) : WS s (uW s (up1 (sW s) k (sW s k ||| b))) := by
  refine ⟨fun j _ => ?_, rfl⟩
  show up1 (sW s) k (sW s k ||| b) j / 256 = _ ∧ (up1 (sW s) k (sW s k ||| b) j).testBit 5 = _
  by_cases e : j = k
  · subst e; rw [up1_s]; exact ⟨or_256 hb, or_b5 h5⟩
  · rw [up1_n e]; exact ⟨rfl, rfl⟩
theorem WS.trans {t u : St} (a : WS s t) (b : WS t u) : WS s u := ⟨fun k hk => ⟨(b.1 k hk).1.trans (a.1 k hk).1, (b.1 k hk).2.trans (a.1 k hk).2⟩, b.2.trans a.2⟩
theorem note_WS (s : St) (v : Nat) (wr : Bool) : WS s (note s v wr) := by
  have h1 : WS s (uW s (up1 (sW s) (rAt s v) (sW s (rAt s v) ||| 8))) := WS.up (by omega) (by decide)
  have h2 : WS (uW s (up1 (sW s) (rAt s v) (sW s (rAt s v) ||| 8))) (uW (uW s (up1 (sW s) (rAt s v) (sW s (rAt s v) ||| 8))) (ntW s v wr)) := WS.up (s := uW s (up1 (sW s) (rAt s v) (sW s (rAt s v) ||| 8))) (k := lAt s v) (by cases wr <;> decide) (by cases wr <;> decide)
  exact h1.trans h2
theorem note_frm (h : IG s) {v : Nat} (hv : v < 64) (wr : Bool) : frm (note s v wr) v = frm s v := (note_WS s v wr).frm h hv
theorem note_5 (h : IG s) {v : Nat} (hv : v < 64) (wr : Bool) : (rtW (note s v wr) v).testBit 5 = (rtW s v).testBit 5 := ((note_WS s v wr).rt h hv).2
theorem note_256 (h : IG s) {v : Nat} (hv : v < 64) (wr : Bool) : rtW (note s v wr) v / 256 = rtW s v / 256 := ((note_WS s v wr).rt h hv).1
/-- where the last word is -/
theorem note_lst (h : IG s) {v : Nat} (hv : v < 64) (wr : Bool) : sW (note s v wr) (lAt s v) = lst (note s v wr) v := by
  unfold lst lAt
  rw [note_5 h hv]
  cases e : (rtW s v).testBit 5
  · rw [if_neg (by decide), if_neg (by decide)]
    unfold lfW
    rw [note_256 h hv]
  · rw [if_pos rfl, if_pos rfl]; rfl
-- writes
theorem GR.setW (h : GR I g s) (k x : Nat) : GR (up2 I (g + 1) k (ic x)) g (uW s (up1 (sW s) k x)) := by
  obtain ⟨h1, h2, ⟨w, h3, h4, h5⟩, h6, h7⟩ := h
  refine ⟨fun j hj => ?_, fun f hf => ?_, ⟨w, h3, ?_, h5⟩, ?_, ?_⟩
  · rw [up_i]
    show _ = ic (up1 (sW s) k x j)
    by_cases c : j = k
    · subst c; rw [if_pos rfl, up1_s]
    · rw [if_neg c, up1_n c]; exact h1 j hj
  · rw [up_a (by omega)]; exact h2 f hf
  · rw [up_a (by omega)]; exact h4
  · rw [up_a (by omega)]; exact h6
  · rw [up_a (by omega)]; exact h7
theorem GR.setM (h : GR I g s) (x : Nat) : GR (up2 I g 3 (ic x)) g (um s x) := by
  obtain ⟨h1, h2, ⟨w, h3, h4, h5⟩, h6, h7⟩ := h
  refine ⟨fun j hj => ?_, fun f hf => ?_, ⟨w, h3, ?_, h5⟩, ?_, ?_⟩
  · rw [up_a (by omega)]; exact h1 j hj
  · rw [up_a (by omega)]; exact h2 f hf
  · rw [up_k (by omega)]; exact h4
  · rw [up_s]; rfl
  · rw [up_k (by omega)]; exact h7
theorem GR.setR (h : GR I g s) (x : Nat) : GR (up2 I g 4 (ic x)) g (ur s x) := by
  obtain ⟨h1, h2, ⟨w, h3, h4, h5⟩, h6, h7⟩ := h
  refine ⟨fun j hj => ?_, fun f hf => ?_, ⟨w, h3, ?_, h5⟩, ?_, ?_⟩
  · rw [up_a (by omega)]; exact h1 j hj
  · rw [up_a (by omega)]; exact h2 f hf
  · rw [up_k (by omega)]; exact h4
  · rw [up_k (by omega)]; exact h6
  · rw [up_s]; rfl
theorem GR.eqW {t : St} (h : GR I g s) (hw : ∀ k, k < 128 → sW s k = sW t k) (e : sH s = sH t ∧ sw s = sw t ∧ sm s = sm t ∧ sr s = sr t) : GR I g t := by
  obtain ⟨h1, h2, h3, h4, h5⟩ := h
  refine ⟨fun k hk => by rw [h1 k hk, hw k hk], ?_, ?_, ?_, ?_⟩
  · rw [← e.1]; exact h2
  · rw [← e.1, ← e.2.1]; exact h3
  · rw [← e.2.2.1]; exact h4
  · rw [← e.2.2.2]; exact h5
theorem g_setWord (hL : GL S g) (f i : Nat) (x : Int32) : p_X1_setWord g (ic f) (ic i) x (hp S I L) = some (hp S (up2 I (g + 1) (8 * (f % 16) + i % 8) x) L) := by
  simp (maxSteps := 1000000) (disch := omega) only [↓reduceIte, ↓if_bi0, ↓if_bi1, hp_tg, hp_rI, hp_rR, hp_rL, hp_wI, hp_wL, Option.bind_some, if_11, if_01, bi_and1, i10, i01, bi_t, bi_f, ic_add, mr_4, ml_4, mr_8, ml_8, mr_10, ml_10, ic_add1, ic_sub1, ic_clamp, ic_div, ic_irm, ic_lt0, ic_0lt, ic_eq0, ic_lt, ic_inj, and15, and7, and31, and63, shl1, shr_ok, neg_1, neg_2, neg_3, neg_4, kc_lt0, kc_ic, kc_m2, kc_1, kc_0, i0_add, add_i0, or_i0, z_8, z_4, z_64, z_256, ic_m2, ec_m1, ic_m1, m1_lt0, m2_lt0, m3_lt0, m4_lt0, up_s, if_true, if_false, ne_eq, not_true_eq_false, not_false_eq_true, Bool.false_eq_true, eq_self, or_self, or_false, false_or, and_self, and_true, true_and, ite_self, Nat.reduceEqDiff, Nat.reduceLT, Nat.reduceMod, Nat.reduceMul, Nat.reduceAdd, Nat.reducePow, Nat.reduceDiv, lt_2, lt_3, lt_4, lt_5, lt_6, lt_7, lt_8, lt_10, lt_11, lt_12, lt_15, lt_16, lt_18, lt_20, lt_24, lt_31, lt_32, lt_48, lt_57, lt_59, lt_63, lt_64, lt_74, lt_75, lt_97, lt_122, lt_128, lt_144, lt_145, lt_146, lt_147, lt_155, lt_163, lt_171, lt_179, lt_200, lt_243, lt_244, lt_255, lt_256, lt_732, lt_900, lt_3660, lt_3904, lt_4095, lt_65536, lt_65537, lt_252645135, lt_858993459, lt_1431655765, ↓p_has_b, p_has, ↓p_has9_b, p_has9, ↓p_bit_b, p_bit, ↓p_bit1_b, p_bit1, ↓p_bit0_b, p_bit0, p_X1_setWord, p_X1_spot, hL.1, hL.2.1, if_inB hL.2.2.2.1]
theorem g_setWord_b (hL : GL S g) (f i : Nat) (x : Int32) {β : Type} (f9 : AH → Option β) : (p_X1_setWord g (ic f) (ic i) x (hp S I L)).bind f9 = f9 (hp S (up2 I (g + 1) (8 * (f % 16) + i % 8) x) L) := bnd (by apply g_setWord <;> assumption)
theorem g_setMark (hL : GL S g) (hR : GR I g s) {f : Nat} (hf : f < 16) : p_X1_setMark g (ic f) (hp S I L) = some (hp S (up2 I g 3 (ic (sbt (sm s) f))) L) := by
  simp (maxSteps := 1000000) (disch := omega) only [↓reduceIte, ↓if_bi0, ↓if_bi1, hp_tg, hp_rI, hp_rR, hp_rL, hp_wI, hp_wL, Option.bind_some, if_11, if_01, bi_and1, i10, i01, bi_t, bi_f, ic_add, mr_4, ml_4, mr_8, ml_8, mr_10, ml_10, ic_add1, ic_sub1, ic_clamp, ic_div, ic_irm, ic_lt0, ic_0lt, ic_eq0, ic_lt, ic_inj, and15, and7, and31, and63, shl1, shr_ok, neg_1, neg_2, neg_3, neg_4, kc_lt0, kc_ic, kc_m2, kc_1, kc_0, i0_add, add_i0, or_i0, z_8, z_4, z_64, z_256, ic_m2, ec_m1, ic_m1, m1_lt0, m2_lt0, m3_lt0, m4_lt0, up_s, if_true, if_false, ne_eq, not_true_eq_false, not_false_eq_true, Bool.false_eq_true, eq_self, or_self, or_false, false_or, and_self, and_true, true_and, ite_self, Nat.reduceEqDiff, Nat.reduceLT, Nat.reduceMod, Nat.reduceMul, Nat.reduceAdd, Nat.reducePow, Nat.reduceDiv, lt_2, lt_3, lt_4, lt_5, lt_6, lt_7, lt_8, lt_10, lt_11, lt_12, lt_15, lt_16, lt_18, lt_20, lt_24, lt_31, lt_32, lt_48, lt_57, lt_59, lt_63, lt_64, lt_74, lt_75, lt_97, lt_122, lt_128, lt_144, lt_145, lt_146, lt_147, lt_155, lt_163, lt_171, lt_179, lt_200, lt_243, lt_244, lt_255, lt_256, lt_732, lt_900, lt_3660, lt_3904, lt_4095, lt_65536, lt_65537, lt_252645135, lt_858993459, lt_1431655765, ↓p_has_b, p_has, ↓p_has9_b, p_has9, ↓p_bit_b, p_bit, ↓p_bit1_b, p_bit1, ↓p_bit0_b, p_bit0, p_X1_setMark, hL.1, hR.2.2.2.1]
  rw [Nat.mod_eq_of_lt (show f < 32 by omega)]
  simp (maxSteps := 1000000) (disch := omega) only [↓reduceIte, ↓if_bi0, ↓if_bi1, hp_tg, hp_rI, hp_rR, hp_rL, hp_wI, hp_wL, Option.bind_some, if_11, if_01, bi_and1, i10, i01, bi_t, bi_f, ic_add, mr_4, ml_4, mr_8, ml_8, mr_10, ml_10, ic_add1, ic_sub1, ic_clamp, ic_div, ic_irm, ic_lt0, ic_0lt, ic_eq0, ic_lt, ic_inj, and15, and7, and31, and63, shl1, shr_ok, neg_1, neg_2, neg_3, neg_4, kc_lt0, kc_ic, kc_m2, kc_1, kc_0, i0_add, add_i0, or_i0, z_8, z_4, z_64, z_256, ic_m2, ec_m1, ic_m1, m1_lt0, m2_lt0, m3_lt0, m4_lt0, up_s, if_true, if_false, ne_eq, not_true_eq_false, not_false_eq_true, Bool.false_eq_true, eq_self, or_self, or_false, false_or, and_self, and_true, true_and, ite_self, Nat.reduceEqDiff, Nat.reduceLT, Nat.reduceMod, Nat.reduceMul, Nat.reduceAdd, Nat.reducePow, Nat.reduceDiv, lt_2, lt_3, lt_4, lt_5, lt_6, lt_7, lt_8, lt_10, lt_11, lt_12, lt_15, lt_16, lt_18, lt_20, lt_24, lt_31, lt_32, lt_48, lt_57, lt_59, lt_63, lt_64, lt_74, lt_75, lt_97, lt_122, lt_128, lt_144, lt_145, lt_146, lt_147, lt_155, lt_163, lt_171, lt_179, lt_200, lt_243, lt_244, lt_255, lt_256, lt_732, lt_900, lt_3660, lt_3904, lt_4095, lt_65536, lt_65537, lt_252645135, lt_858993459, lt_1431655765, ↓p_has_b, p_has, ↓p_has9_b, p_has9, ↓p_bit_b, p_bit, ↓p_bit1_b, p_bit1, ↓p_bit0_b, p_bit0, ic_or]
  rfl
theorem g_setMark_b (hL : GL S g) (hR : GR I g s) {f : Nat} (hf : f < 16) {β : Type} (f9 : AH → Option β) : (p_X1_setMark g (ic f) (hp S I L)).bind f9 = f9 (hp S (up2 I g 3 (ic (sbt (sm s) f))) L) := bnd (by apply g_setMark <;> assumption)
theorem g_unmark (hL : GL S g) (hR : GR I g s) {f : Nat} (hf : f < 16) : p_X1_unmark g (ic f) (hp S I L) = some (hp S (up2 I g 3 (ic (cbt (sm s) f))) L) := by
  simp (maxSteps := 1000000) (disch := omega) only [↓reduceIte, ↓if_bi0, ↓if_bi1, hp_tg, hp_rI, hp_rR, hp_rL, hp_wI, hp_wL, Option.bind_some, if_11, if_01, bi_and1, i10, i01, bi_t, bi_f, ic_add, mr_4, ml_4, mr_8, ml_8, mr_10, ml_10, ic_add1, ic_sub1, ic_clamp, ic_div, ic_irm, ic_lt0, ic_0lt, ic_eq0, ic_lt, ic_inj, and15, and7, and31, and63, shl1, shr_ok, neg_1, neg_2, neg_3, neg_4, kc_lt0, kc_ic, kc_m2, kc_1, kc_0, i0_add, add_i0, or_i0, z_8, z_4, z_64, z_256, ic_m2, ec_m1, ic_m1, m1_lt0, m2_lt0, m3_lt0, m4_lt0, up_s, if_true, if_false, ne_eq, not_true_eq_false, not_false_eq_true, Bool.false_eq_true, eq_self, or_self, or_false, false_or, and_self, and_true, true_and, ite_self, Nat.reduceEqDiff, Nat.reduceLT, Nat.reduceMod, Nat.reduceMul, Nat.reduceAdd, Nat.reducePow, Nat.reduceDiv, lt_2, lt_3, lt_4, lt_5, lt_6, lt_7, lt_8, lt_10, lt_11, lt_12, lt_15, lt_16, lt_18, lt_20, lt_24, lt_31, lt_32, lt_48, lt_57, lt_59, lt_63, lt_64, lt_74, lt_75, lt_97, lt_122, lt_128, lt_144, lt_145, lt_146, lt_147, lt_155, lt_163, lt_171, lt_179, lt_200, lt_243, lt_244, lt_255, lt_256, lt_732, lt_900, lt_3660, lt_3904, lt_4095, lt_65536, lt_65537, lt_252645135, lt_858993459, lt_1431655765, ↓p_has_b, p_has, ↓p_has9_b, p_has9, ↓p_bit_b, p_bit, ↓p_bit1_b, p_bit1, ↓p_bit0_b, p_bit0, p_X1_unmark, hL.1, hR.2.2.2.1]
  rw [Nat.mod_eq_of_lt (show f < 32 by omega)]
  simp (maxSteps := 1000000) (disch := omega) only [↓reduceIte, ↓if_bi0, ↓if_bi1, hp_tg, hp_rI, hp_rR, hp_rL, hp_wI, hp_wL, Option.bind_some, if_11, if_01, bi_and1, i10, i01, bi_t, bi_f, ic_add, mr_4, ml_4, mr_8, ml_8, mr_10, ml_10, ic_add1, ic_sub1, ic_clamp, ic_div, ic_irm, ic_lt0, ic_0lt, ic_eq0, ic_lt, ic_inj, and15, and7, and31, and63, shl1, shr_ok, neg_1, neg_2, neg_3, neg_4, kc_lt0, kc_ic, kc_m2, kc_1, kc_0, i0_add, add_i0, or_i0, z_8, z_4, z_64, z_256, ic_m2, ec_m1, ic_m1, m1_lt0, m2_lt0, m3_lt0, m4_lt0, up_s, if_true, if_false, ne_eq, not_true_eq_false, not_false_eq_true, Bool.false_eq_true, eq_self, or_self, or_false, false_or, and_self, and_true, true_and, ite_self, Nat.reduceEqDiff, Nat.reduceLT, Nat.reduceMod, Nat.reduceMul, Nat.reduceAdd, Nat.reducePow, Nat.reduceDiv, lt_2, lt_3, lt_4, lt_5, lt_6, lt_7, lt_8, lt_10, lt_11, lt_12, lt_15, lt_16, lt_18, lt_20, lt_24, lt_31, lt_32, lt_48, lt_57, lt_59, lt_63, lt_64, lt_74, lt_75, lt_97, lt_122, lt_128, lt_144, lt_145, lt_146, lt_147, lt_155, lt_163, lt_171, lt_179, lt_200, lt_243, lt_244, lt_255, lt_256, lt_732, lt_900, lt_3660, lt_3904, lt_4095, lt_65536, lt_65537, lt_252645135, lt_858993459, lt_1431655765, ↓p_has_b, p_has, ↓p_has9_b, p_has9, ↓p_bit_b, p_bit, ↓p_bit1_b, p_bit1, ↓p_bit0_b, p_bit0, ic_cbt]
theorem g_unmark_b (hL : GL S g) (hR : GR I g s) {f : Nat} (hf : f < 16) {β : Type} (f9 : AH → Option β) : (p_X1_unmark g (ic f) (hp S I L)).bind f9 = f9 (hp S (up2 I g 3 (ic (cbt (sm s) f))) L) := bnd (by apply g_unmark <;> assumption)
theorem nt_eq (s : St) (v : Nat) (wr : Bool) : (if (rtW s v).testBit 5 = true then up1 (sW s) (rAt s v) (sW s (rAt s v) ||| 8 ||| b2 wr 16) else up1 (up1 (sW s) (rAt s v) (sW s (rAt s v) ||| 8)) (8 * (rtW s v / 256) + v % 8) (up1 (sW s) (rAt s v) (sW s (rAt s v) ||| 8) (8 * (rtW s v / 256) + v % 8) ||| 8 ||| b2 wr 16)) = ntW s v wr := by
  unfold ntW lAt
  have e : ∀ w : Nat, w ||| 8 ||| b2 wr 16 = w ||| (if wr = true then 24 else 8) := by
    intro w
    rw [Nat.or_assoc]
    cases wr <;> rfl
  cases (rtW s v).testBit 5
  · rw [if_neg (by decide), if_neg (by decide), e]
  · rw [if_pos rfl, if_pos rfl, up1_s]
    funext j
    by_cases c : j = rAt s v
    · subst c; rw [up1_s, up1_s, Nat.or_assoc, Nat.or_assoc]; cases wr <;> rfl
    · rw [up1_n c, up1_n c, up1_n c]
theorem g_note (hL : GL S g) (hR : GR I g s) (hI : IG s) {v : Nat} (hv : v < 64) (wr us : Bool) : ∃ I', p_X1_noteUse g (ic v) (ic (md wr us)) (hp S I L) = some (hp S I' L) ∧ GR I' g (note s v wr) ∧ Fr I I' g (g + 2) := by
  have h16 := hI.2.2.2.2
  have h1 := rt_lt hI hv
  have hra : 8 * (sr s % 16) + v / 8 % 8 = rAt s v := by unfold rAt; omega
  have hrw : sW s (rAt s v) = rtW s v := rfl
  have hla : 8 * (rtW s v / 256 % 16) + v % 8 = 8 * (rtW s v / 256) + v % 8 := by omega
  have h3 := frm_lt hI hv
  cases a5 : (rtW s v).testBit 5
  · -- small
    have R1 : GR (up2 I (g + 1) (rAt s v) (ic (rtW s v ||| 8))) g (uW s (up1 (sW s) (rAt s v) (sW s (rAt s v) ||| 8))) := hR.setW (rAt s v) (rtW s v ||| 8)
    have R2 := R1.setW (8 * (rtW s v / 256) + v % 8) (up1 (sW s) (rAt s v) (sW s (rAt s v) ||| 8) (8 * (rtW s v / 256) + v % 8) ||| 8 ||| b2 wr 16)
    have R3 : GR _ g (uW s (ntW s v wr)) := R2.eqW (t := uW s (ntW s v wr)) (fun k _ => by rw [← nt_eq, a5]; rfl) ⟨rfl, rfl, rfl, rfl⟩
    have hf : frm (uW s (ntW s v wr)) v = frm s v := note_frm (wr := wr) hI hv
    have I3 : IG (uW s (ntW s v wr)) := ⟨fun k hk => ntW_lt hI wr hk hv, hI.2⟩
    have hfr := g_frame (L := L) hL R3 I3 hv
    rw [hf] at hfr
    have W1 := g_wordAt (L := L) hL R1
    cases wr
    · refine ⟨_, ?_, R3, (Fr.up (by omega) (by omega)).trans (Fr.up (by omega) (by omega))⟩
      simp (maxSteps := 1000000) (disch := omega) only [↓reduceIte, ↓if_bi0, ↓if_bi1, hp_tg, hp_rI, hp_rR, hp_rL, hp_wI, hp_wL, Option.bind_some, if_11, if_01, bi_and1, i10, i01, bi_t, bi_f, ic_add, mr_4, ml_4, mr_8, ml_8, mr_10, ml_10, ic_add1, ic_sub1, ic_clamp, ic_div, ic_irm, ic_lt0, ic_0lt, ic_eq0, ic_lt, ic_inj, and15, and7, and31, and63, shl1, shr_ok, neg_1, neg_2, neg_3, neg_4, kc_lt0, kc_ic, kc_m2, kc_1, kc_0, i0_add, add_i0, or_i0, z_8, z_4, z_64, z_256, ic_m2, ec_m1, ic_m1, m1_lt0, m2_lt0, m3_lt0, m4_lt0, up_s, if_true, if_false, ne_eq, not_true_eq_false, not_false_eq_true, Bool.false_eq_true, eq_self, or_self, or_false, false_or, and_self, and_true, true_and, ite_self, Nat.reduceEqDiff, Nat.reduceLT, Nat.reduceMod, Nat.reduceMul, Nat.reduceAdd, Nat.reducePow, Nat.reduceDiv, lt_2, lt_3, lt_4, lt_5, lt_6, lt_7, lt_8, lt_10, lt_11, lt_12, lt_15, lt_16, lt_18, lt_20, lt_24, lt_31, lt_32, lt_48, lt_57, lt_59, lt_63, lt_64, lt_74, lt_75, lt_97, lt_122, lt_128, lt_144, lt_145, lt_146, lt_147, lt_155, lt_163, lt_171, lt_179, lt_200, lt_243, lt_244, lt_255, lt_256, lt_732, lt_900, lt_3660, lt_3904, lt_4095, lt_65536, lt_65537, lt_252645135, lt_858993459, lt_1431655765, ↓p_has_b, p_has, ↓p_has9_b, p_has9, ↓p_bit_b, p_bit, ↓p_bit1_b, p_bit1, ↓p_bit0_b, p_bit0, p_X1_noteUse_118, p_X1_noteUse_104, p_X1_noteUse_100, p_X1_noteUse_99, p_X1_noteUse_59, p_X1_noteUse_58, p_X1_noteUse, hL.1, hR.2.2.2.2, ↓g_wordAt_b hL hR, g_wordAt hL hR, hb_mw, hra, hrw, hb32 h1, a5, ↓g_setWord_b hL, g_setWord hL, ic_or, ↓p_frameIn_b h1, p_frameIn h1, W1, hla, sWuW, b2_t, b2_f, Nat.or_zero]
    · have hsm := g_setMark (L := L) hL R3 h3
      refine ⟨_, ?_, R3.setM (sbt (sm s) (frm s v)), ((Fr.up (by omega) (by omega)).trans (Fr.up (by omega) (by omega))).trans (Fr.up (by omega) (by omega))⟩
      simp (maxSteps := 1000000) (disch := omega) only [↓reduceIte, ↓if_bi0, ↓if_bi1, hp_tg, hp_rI, hp_rR, hp_rL, hp_wI, hp_wL, Option.bind_some, if_11, if_01, bi_and1, i10, i01, bi_t, bi_f, ic_add, mr_4, ml_4, mr_8, ml_8, mr_10, ml_10, ic_add1, ic_sub1, ic_clamp, ic_div, ic_irm, ic_lt0, ic_0lt, ic_eq0, ic_lt, ic_inj, and15, and7, and31, and63, shl1, shr_ok, neg_1, neg_2, neg_3, neg_4, kc_lt0, kc_ic, kc_m2, kc_1, kc_0, i0_add, add_i0, or_i0, z_8, z_4, z_64, z_256, ic_m2, ec_m1, ic_m1, m1_lt0, m2_lt0, m3_lt0, m4_lt0, up_s, if_true, if_false, ne_eq, not_true_eq_false, not_false_eq_true, Bool.false_eq_true, eq_self, or_self, or_false, false_or, and_self, and_true, true_and, ite_self, Nat.reduceEqDiff, Nat.reduceLT, Nat.reduceMod, Nat.reduceMul, Nat.reduceAdd, Nat.reducePow, Nat.reduceDiv, lt_2, lt_3, lt_4, lt_5, lt_6, lt_7, lt_8, lt_10, lt_11, lt_12, lt_15, lt_16, lt_18, lt_20, lt_24, lt_31, lt_32, lt_48, lt_57, lt_59, lt_63, lt_64, lt_74, lt_75, lt_97, lt_122, lt_128, lt_144, lt_145, lt_146, lt_147, lt_155, lt_163, lt_171, lt_179, lt_200, lt_243, lt_244, lt_255, lt_256, lt_732, lt_900, lt_3660, lt_3904, lt_4095, lt_65536, lt_65537, lt_252645135, lt_858993459, lt_1431655765, ↓p_has_b, p_has, ↓p_has9_b, p_has9, ↓p_bit_b, p_bit, ↓p_bit1_b, p_bit1, ↓p_bit0_b, p_bit0, p_X1_noteUse_118, p_X1_noteUse_104, p_X1_noteUse_100, p_X1_noteUse_99, p_X1_noteUse_59, p_X1_noteUse_58, p_X1_noteUse, hL.1, hR.2.2.2.2, ↓g_wordAt_b hL hR, g_wordAt hL hR, hb_mw, hra, hrw, hb32 h1, a5, ↓g_setWord_b hL, g_setWord hL, ic_or, ↓p_frameIn_b h1, p_frameIn h1, W1, hla, sWuW]
      refine Eq.trans (bnd hfr) ?_
      simp (maxSteps := 1000000) (disch := omega) only [↓reduceIte, ↓if_bi0, ↓if_bi1, hp_tg, hp_rI, hp_rR, hp_rL, hp_wI, hp_wL, Option.bind_some, if_11, if_01, bi_and1, i10, i01, bi_t, bi_f, ic_add, mr_4, ml_4, mr_8, ml_8, mr_10, ml_10, ic_add1, ic_sub1, ic_clamp, ic_div, ic_irm, ic_lt0, ic_0lt, ic_eq0, ic_lt, ic_inj, and15, and7, and31, and63, shl1, shr_ok, neg_1, neg_2, neg_3, neg_4, kc_lt0, kc_ic, kc_m2, kc_1, kc_0, i0_add, add_i0, or_i0, z_8, z_4, z_64, z_256, ic_m2, ec_m1, ic_m1, m1_lt0, m2_lt0, m3_lt0, m4_lt0, up_s, if_true, if_false, ne_eq, not_true_eq_false, not_false_eq_true, Bool.false_eq_true, eq_self, or_self, or_false, false_or, and_self, and_true, true_and, ite_self, Nat.reduceEqDiff, Nat.reduceLT, Nat.reduceMod, Nat.reduceMul, Nat.reduceAdd, Nat.reducePow, Nat.reduceDiv, lt_2, lt_3, lt_4, lt_5, lt_6, lt_7, lt_8, lt_10, lt_11, lt_12, lt_15, lt_16, lt_18, lt_20, lt_24, lt_31, lt_32, lt_48, lt_57, lt_59, lt_63, lt_64, lt_74, lt_75, lt_97, lt_122, lt_128, lt_144, lt_145, lt_146, lt_147, lt_155, lt_163, lt_171, lt_179, lt_200, lt_243, lt_244, lt_255, lt_256, lt_732, lt_900, lt_3660, lt_3904, lt_4095, lt_65536, lt_65537, lt_252645135, lt_858993459, lt_1431655765, ↓p_has_b, p_has, ↓p_has9_b, p_has9, ↓p_bit_b, p_bit, ↓p_bit1_b, p_bit1, ↓p_bit0_b, p_bit0, hL.1]
      refine Eq.trans (bnd hsm) ?_
      rfl
  · have R1 : GR (up2 I (g + 1) (rAt s v) (ic (rtW s v ||| 8 ||| b2 wr 16))) g (uW s (up1 (sW s) (rAt s v) (sW s (rAt s v) ||| 8 ||| b2 wr 16))) := hR.setW (rAt s v) (rtW s v ||| 8 ||| b2 wr 16)
    have R3 : GR _ g (uW s (ntW s v wr)) := R1.eqW (t := uW s (ntW s v wr)) (fun k _ => by rw [← nt_eq, a5]; rfl) ⟨rfl, rfl, rfl, rfl⟩
    have hf : frm (uW s (ntW s v wr)) v = frm s v := note_frm (wr := wr) hI hv
    have I3 : IG (uW s (ntW s v wr)) := ⟨fun k hk => ntW_lt hI wr hk hv, hI.2⟩
    have hfr := g_frame (L := L) hL R3 I3 hv
    rw [hf] at hfr
    cases wr
    · refine ⟨_, ?_, R3, Fr.up (by omega) (by omega)⟩
      simp (maxSteps := 1000000) (disch := omega) only [↓reduceIte, ↓if_bi0, ↓if_bi1, hp_tg, hp_rI, hp_rR, hp_rL, hp_wI, hp_wL, Option.bind_some, if_11, if_01, bi_and1, i10, i01, bi_t, bi_f, ic_add, mr_4, ml_4, mr_8, ml_8, mr_10, ml_10, ic_add1, ic_sub1, ic_clamp, ic_div, ic_irm, ic_lt0, ic_0lt, ic_eq0, ic_lt, ic_inj, and15, and7, and31, and63, shl1, shr_ok, neg_1, neg_2, neg_3, neg_4, kc_lt0, kc_ic, kc_m2, kc_1, kc_0, i0_add, add_i0, or_i0, z_8, z_4, z_64, z_256, ic_m2, ec_m1, ic_m1, m1_lt0, m2_lt0, m3_lt0, m4_lt0, up_s, if_true, if_false, ne_eq, not_true_eq_false, not_false_eq_true, Bool.false_eq_true, eq_self, or_self, or_false, false_or, and_self, and_true, true_and, ite_self, Nat.reduceEqDiff, Nat.reduceLT, Nat.reduceMod, Nat.reduceMul, Nat.reduceAdd, Nat.reducePow, Nat.reduceDiv, lt_2, lt_3, lt_4, lt_5, lt_6, lt_7, lt_8, lt_10, lt_11, lt_12, lt_15, lt_16, lt_18, lt_20, lt_24, lt_31, lt_32, lt_48, lt_57, lt_59, lt_63, lt_64, lt_74, lt_75, lt_97, lt_122, lt_128, lt_144, lt_145, lt_146, lt_147, lt_155, lt_163, lt_171, lt_179, lt_200, lt_243, lt_244, lt_255, lt_256, lt_732, lt_900, lt_3660, lt_3904, lt_4095, lt_65536, lt_65537, lt_252645135, lt_858993459, lt_1431655765, ↓p_has_b, p_has, ↓p_has9_b, p_has9, ↓p_bit_b, p_bit, ↓p_bit1_b, p_bit1, ↓p_bit0_b, p_bit0, p_X1_noteUse_118, p_X1_noteUse_104, p_X1_noteUse_100, p_X1_noteUse_99, p_X1_noteUse_59, p_X1_noteUse_58, p_X1_noteUse, hL.1, hR.2.2.2.2, ↓g_wordAt_b hL hR, g_wordAt hL hR, hb_mw, hra, hrw, hb32 h1, a5, ↓g_setWord_b hL, g_setWord hL, ic_or, b2_f, Nat.or_zero]
    · have hsm := g_setMark (L := L) hL R3 h3
      refine ⟨_, ?_, R3.setM (sbt (sm s) (frm s v)), (Fr.up (by omega) (by omega)).trans (Fr.up (by omega) (by omega))⟩
      simp (maxSteps := 1000000) (disch := omega) only [↓reduceIte, ↓if_bi0, ↓if_bi1, hp_tg, hp_rI, hp_rR, hp_rL, hp_wI, hp_wL, Option.bind_some, if_11, if_01, bi_and1, i10, i01, bi_t, bi_f, ic_add, mr_4, ml_4, mr_8, ml_8, mr_10, ml_10, ic_add1, ic_sub1, ic_clamp, ic_div, ic_irm, ic_lt0, ic_0lt, ic_eq0, ic_lt, ic_inj, and15, and7, and31, and63, shl1, shr_ok, neg_1, neg_2, neg_3, neg_4, kc_lt0, kc_ic, kc_m2, kc_1, kc_0, i0_add, add_i0, or_i0, z_8, z_4, z_64, z_256, ic_m2, ec_m1, ic_m1, m1_lt0, m2_lt0, m3_lt0, m4_lt0, up_s, if_true, if_false, ne_eq, not_true_eq_false, not_false_eq_true, Bool.false_eq_true, eq_self, or_self, or_false, false_or, and_self, and_true, true_and, ite_self, Nat.reduceEqDiff, Nat.reduceLT, Nat.reduceMod, Nat.reduceMul, Nat.reduceAdd, Nat.reducePow, Nat.reduceDiv, lt_2, lt_3, lt_4, lt_5, lt_6, lt_7, lt_8, lt_10, lt_11, lt_12, lt_15, lt_16, lt_18, lt_20, lt_24, lt_31, lt_32, lt_48, lt_57, lt_59, lt_63, lt_64, lt_74, lt_75, lt_97, lt_122, lt_128, lt_144, lt_145, lt_146, lt_147, lt_155, lt_163, lt_171, lt_179, lt_200, lt_243, lt_244, lt_255, lt_256, lt_732, lt_900, lt_3660, lt_3904, lt_4095, lt_65536, lt_65537, lt_252645135, lt_858993459, lt_1431655765, ↓p_has_b, p_has, ↓p_has9_b, p_has9, ↓p_bit_b, p_bit, ↓p_bit1_b, p_bit1, ↓p_bit0_b, p_bit0, p_X1_noteUse_118, p_X1_noteUse_104, p_X1_noteUse_100, p_X1_noteUse_99, p_X1_noteUse_59, p_X1_noteUse_58, p_X1_noteUse, hL.1, hR.2.2.2.2, ↓g_wordAt_b hL hR, g_wordAt hL hR, hb_mw, hra, hrw, hb32 h1, a5, ↓g_setWord_b hL, g_setWord hL, ic_or]
      refine Eq.trans (bnd hfr) ?_
      simp (maxSteps := 1000000) (disch := omega) only [↓reduceIte, ↓if_bi0, ↓if_bi1, hp_tg, hp_rI, hp_rR, hp_rL, hp_wI, hp_wL, Option.bind_some, if_11, if_01, bi_and1, i10, i01, bi_t, bi_f, ic_add, mr_4, ml_4, mr_8, ml_8, mr_10, ml_10, ic_add1, ic_sub1, ic_clamp, ic_div, ic_irm, ic_lt0, ic_0lt, ic_eq0, ic_lt, ic_inj, and15, and7, and31, and63, shl1, shr_ok, neg_1, neg_2, neg_3, neg_4, kc_lt0, kc_ic, kc_m2, kc_1, kc_0, i0_add, add_i0, or_i0, z_8, z_4, z_64, z_256, ic_m2, ec_m1, ic_m1, m1_lt0, m2_lt0, m3_lt0, m4_lt0, up_s, if_true, if_false, ne_eq, not_true_eq_false, not_false_eq_true, Bool.false_eq_true, eq_self, or_self, or_false, false_or, and_self, and_true, true_and, ite_self, Nat.reduceEqDiff, Nat.reduceLT, Nat.reduceMod, Nat.reduceMul, Nat.reduceAdd, Nat.reducePow, Nat.reduceDiv, lt_2, lt_3, lt_4, lt_5, lt_6, lt_7, lt_8, lt_10, lt_11, lt_12, lt_15, lt_16, lt_18, lt_20, lt_24, lt_31, lt_32, lt_48, lt_57, lt_59, lt_63, lt_64, lt_74, lt_75, lt_97, lt_122, lt_128, lt_144, lt_145, lt_146, lt_147, lt_155, lt_163, lt_171, lt_179, lt_200, lt_243, lt_244, lt_255, lt_256, lt_732, lt_900, lt_3660, lt_3904, lt_4095, lt_65536, lt_65537, lt_252645135, lt_858993459, lt_1431655765, ↓p_has_b, p_has, ↓p_has9_b, p_has9, ↓p_bit_b, p_bit, ↓p_bit1_b, p_bit1, ↓p_bit0_b, p_bit0, hL.1]
      refine Eq.trans (bnd hsm) ?_
      rfl
end GUESTW
