/-! ===== each call on both sides (printed by g/gen9m.py) ===== -/
section VR
variable {W : WD}
theorem vr_ans (b : Bool) (r : Int32) : vR (ans W b r).2 = vR W := by unfold ans; split <;> rfl
theorem vr_ans2 (b : Bool) (r : Int32) : vR (ans2 W b r).2 = vR W := by unfold ans2; split <;> (try split) <;> rfl
theorem vr_ans3 (a b : Bool) (r : Int32) : vR (ans3 W a b r).2 = vR W := by unfold ans3; split <;> (try split) <;> rfl
theorem vr_fed (v1 v2 v3 v4 v5 : Int32) : vR (fed W v1 v2 v3 v4 v5).2 = vR W := by unfold fed; split <;> rfl
theorem vr_acc (v : Int32) (wr us : Bool) : vR (acc W v wr us).2 = vR W := by unfold acc; split <;> rfl
theorem vr_sto (v i x : Int32) (us : Bool) : vR (sto W v i x us).2 = vR W := by unfold sto; split <;> (try split) <;> rfl
theorem vr_act {s : St} {F P D H : Nat} : vR (act W s F P D H) = vR W := rfl
theorem vr_lod (v : Int32) : vR (lod W v).2 = vR W := by
  unfold lod
  split
  · exact vr_act
  · rfl
theorem vr_flu (v : Int32) : vR (flu W v).2 = vR W := by unfold flu; split <;> rfl
theorem vr_dvW (v i x : Int32) : vR (dvW W v i x).2 = vR W := by unfold dvW; split <;> (try split) <;> (try split) <;> rfl
theorem vr_unW (v : Int32) : vR (unW W v).2 = vR W := by unfold unW; split <;> (try split) <;> rfl
theorem vr_giW (v x : Int32) (b : Bool) : vR (giW W v x b).2 = vR W := by unfold giW; split <;> (try split) <;> (try split) <;> rfl
theorem vr_prW (v : Int32) : vR (prW W v).2 = vR W := by unfold prW; split <;> (try split) <;> rfl
theorem vr_clW (v : Int32) : vR (clW W v).2 = vR W := by unfold clW; split <;> rfl
theorem vr_unD : vR (unD W).2 = vR W := by unfold unD; split <;> rfl
theorem vr_imD : vR (imD W).2 = vR W := by unfold imD; split <;> (try split) <;> rfl
theorem vr_bkD (v : Int32) : vR (bkD W v).2 = vR W := by unfold bkD; split <;> rfl
theorem vr_ra (b : Bool) : vR (ra W b).2 = vR W := by unfold ra; split <;> rfl
end VR
/-- a call on both sides that answers a long -/
def TwoL (f g : AH → Option (Int64 × AH)) : Prop := ∀ h W c, c < 1000000 → IN h W c → ∃ r h1 h2 W', f h = some (r, h1) ∧ g h1 = some (r, h2) ∧ (tg h1 217).1 = 8 ∧ IN h2 W' (c + 1)
set_option maxRecDepth 100000 in
theorem tw_rate (b : Bool) : TwoL (fun h => p_X7_rate 1 (bi b) h) (fun h => p_X9_rate 217 (bi b) h) := by
  intro h W c hc hI
  obtain ⟨S, I, L, ta, tb, a, rfl, H, ha, hM, hX, n1, n2, u1⟩ := hI
  obtain ⟨J, e1, hC', fJ⟩ := kc_rate (L := L) H hc b
  have HX : XH S J 217 a W c := ⟨H.2.1.2.2.2.2.2.2.2.2.2.2.2.2.2.2.2.1, ha, hM, hX.hi ha (fun y hy => fJ y hy), H.2.2.2⟩
  obtain ⟨J2, L2, e2, hX2, f2⟩ := xc_rate (L := L) HX hc b
  have hV2 := wv_ra H.2.2.2 b
  exact ⟨_, _, _, _, e1, e2, (show (tT S 217).1 = 8 from by rw [HX.1.1]), S, J2, L2, ta, tb, a, rfl, ⟨H.1, H.2.1, hC'.lo H.1 hV2.2.1 hV2.2.2.1 f2, hV2⟩, ha, by rw [vr_ra]; exact hM, hX2, n1, by omega, by omega⟩
set_option maxRecDepth 100000 in
theorem tw_feed (v1 v2 v3 v4 v5 : Int32) : Two (fun h9 => p_X7_feed 1 v1 v2 v3 v4 v5 h9) (fun h9 => p_X9_feed 217 v1 v2 v3 v4 v5 h9) := two_of (fun W => (fed W v1 v2 v3 v4 v5)) (fun S I L ta tb W c hc H => kd_of H (kc_feed H v1 v2 v3 v4 v5)) (fun S I L a W c hc H hN => xd_of H ((vr_fed _ _ _ _ _)) (xc_feed H v1 v2 v3 v4 v5)) (fun W c h => wv_fed h _ _ _ _ _)
set_option maxRecDepth 100000 in
theorem tw_machine (v : Int32) : Two (fun h9 => p_X7_machine 1 v h9) (fun h9 => p_X9_machine 217 v h9) := two_of (fun W => (mcD W v)) (fun S I L ta tb W c hc H => kc_machine H v) (fun S I L a W c hc H hN => xc_machine H rfl hN v) (fun W c h => h.mc _)
set_option maxRecDepth 100000 in
theorem tw_fault : Two (fun h9 => p_X7_fault 1 h9) (fun h9 => p_X9_fault 217 h9) := two_of (fun W => (ic (vQ W), W)) (fun S I L ta tb W c hc H => kd_of H (kc_fault H)) (fun S I L a W c hc H hN => xd_of H (rfl) (xc_fault H)) (fun W c h => h.up)
set_option maxRecDepth 100000 in
theorem tw_where : Two (fun h9 => p_X7_where 1 h9) (fun h9 => p_X9_where 217 h9) := two_of (fun W => (if vE W = 4 then ic (vA W) else m1, W)) (fun S I L ta tb W c hc H => kd_of H (kc_where H)) (fun S I L a W c hc H hN => xd_of H (rfl) (xc_where H)) (fun W c h => h.up)
set_option maxRecDepth 100000 in
theorem tw_word (v i : Int32) : Two (fun h9 => p_X7_word 1 v i h9) (fun h9 => p_X9_word 217 v i h9) := two_of (fun W => (ans W (ok (vR W) 16 v && ok true 8 i) (ic (sW (vS W) (8 * v.toNatClampNeg + i.toNatClampNeg))))) (fun S I L ta tb W c hc H => kd_of H (kc_word H v i)) (fun S I L a W c hc H hN => xd_of H ((vr_ans _ _)) (xc_word H v i)) (fun W c h => wv_ans h _ _)
set_option maxRecDepth 100000 in
theorem tw_backing (v : Int32) : Two (fun h9 => p_X7_backing 1 v h9) (fun h9 => p_X9_backing 217 v h9) := two_of (fun W => (ans W (ok (vR W) 16 v) (kc (sH (vS W) v.toNatClampNeg)))) (fun S I L ta tb W c hc H => kd_of H (kc_backing H v)) (fun S I L a W c hc H hN => xd_of H ((vr_ans _ _)) (xc_backing H v)) (fun W c h => wv_ans h _ _)
set_option maxRecDepth 100000 in
theorem tw_writes (v : Int32) : Two (fun h9 => p_X7_writes 1 v h9) (fun h9 => p_X9_writes 217 v h9) := two_of (fun W => (ans W (ok (vR W) 16 v) (bi (sw (vS W) v.toNatClampNeg)))) (fun S I L ta tb W c hc H => kd_of H (kc_writes H v)) (fun S I L a W c hc H hN => xd_of H ((vr_ans _ _)) (xc_writes H v)) (fun W c h => wv_ans h _ _)
set_option maxRecDepth 100000 in
theorem tw_root : Two (fun h9 => p_X7_root 1 h9) (fun h9 => p_X9_root 217 h9) := two_of (fun W => (ans W (vR W) (ic (sr (vS W))))) (fun S I L ta tb W c hc H => kd_of H (kc_root H)) (fun S I L a W c hc H hN => xd_of H ((vr_ans _ _)) (xc_root H)) (fun W c h => wv_ans h _ _)
set_option maxRecDepth 100000 in
theorem tw_marks : Two (fun h9 => p_X7_marks 1 h9) (fun h9 => p_X9_marks 217 h9) := two_of (fun W => (ans W (vR W) (ic (sm (vS W))))) (fun S I L ta tb W c hc H => kd_of H (kc_marks H)) (fun S I L a W c hc H hN => xd_of H ((vr_ans _ _)) (xc_marks H)) (fun W c h => wv_ans h _ _)
set_option maxRecDepth 100000 in
theorem tw_wordsWith (v b : Int32) : Two (fun h9 => p_X7_wordsWith 1 v b h9) (fun h9 => p_X9_wordsWith 217 v b h9) := two_of (fun W => (ans3 W (ok (vR W) 16 v) (okr 1 63 b) (ic (msk (fun i => decide (sW (vS W) (8 * v.toNatClampNeg + i) &&& b.toNatClampNeg = b.toNatClampNeg)) 8)))) (fun S I L ta tb W c hc H => kd_of H (kc_wordsWith H v b)) (fun S I L a W c hc H hN => xd_of H ((vr_ans3 _ _ _)) (xc_wordsWith H v b)) (fun W c h => wv_ans3 h _ _ _)
set_option maxRecDepth 100000 in
theorem tw_look (v : Int32) (wr us : Bool) : Two (fun h9 => p_X7_look 1 v (bi wr) (bi us) h9) (fun h9 => p_X9_look 217 v (bi wr) (bi us) h9) := two_of (fun W => (ans W (ok (vR W) 64 v) (lc (lok (vS W) v.toNatClampNeg wr us)))) (fun S I L ta tb W c hc H => kd_of H (kc_look H v wr us)) (fun S I L a W c hc H hN => xd_of H ((vr_ans _ _)) (xc_look H v wr us)) (fun W c h => wv_ans h _ _)
set_option maxRecDepth 100000 in
theorem tw_leads (v : Int32) : Two (fun h9 => p_X7_leads 1 v h9) (fun h9 => p_X9_leads 217 v h9) := two_of (fun W => (ans W (ok (vR W) 64 v) (kc (ldt (vS W) v.toNatClampNeg)))) (fun S I L ta tb W c hc H => kd_of H (kc_leads H v)) (fun S I L a W c hc H hN => xd_of H ((vr_ans _ _)) (xc_leads H v)) (fun W c h => wv_ans h _ _)
set_option maxRecDepth 100000 in
theorem tw_rights (v : Int32) : Two (fun h9 => p_X7_rights 1 v h9) (fun h9 => p_X9_rights 217 v h9) := two_of (fun W => (ans W (ok (vR W) 64 v) (ic (msk (fun k => decide (3 ≤ lok (vS W) v.toNatClampNeg (k.testBit 0) (k.testBit 1))) 4)))) (fun S I L ta tb W c hc H => kd_of H (kc_rights H v)) (fun S I L a W c hc H hN => xd_of H ((vr_ans _ _)) (xc_rights H v)) (fun W c h => wv_ans h _ _)
set_option maxRecDepth 100000 in
theorem tw_large (v : Int32) : Two (fun h9 => p_X7_large 1 v h9) (fun h9 => p_X9_large 217 v h9) := two_of (fun W => (ans W (ok (vR W) 64 v) (if (rtW (vS W) v.toNatClampNeg).testBit 0 = true then bi ((rtW (vS W) v.toNatClampNeg).testBit 5) else m2))) (fun S I L ta tb W c hc H => kd_of H (kc_large H v)) (fun S I L a W c hc H hN => xd_of H ((vr_ans _ _)) (xc_large H v)) (fun W c h => wv_ans h _ _)
set_option maxRecDepth 100000 in
theorem tw_aliases (v : Int32) : Two (fun h9 => p_X7_aliases 1 v h9) (fun h9 => p_X9_aliases 217 v h9) := two_of (fun W => (ans W (ok (vR W) 16 v) (ic (cnt (fun v9 => decide (ldt (vS W) v9 = v.toNatClampNeg + 1)) 64)))) (fun S I L ta tb W c hc H => kd_of H (kc_aliases H v)) (fun S I L a W c hc H hN => xd_of H ((vr_ans _ _)) (xc_aliases H v)) (fun W c h => wv_ans h _ _)
set_option maxRecDepth 100000 in
theorem tw_tables : Two (fun h9 => p_X7_tables 1 h9) (fun h9 => p_X9_tables 217 h9) := two_of (fun W => (ans W (vR W) (ic (tbf (vS W) 8)))) (fun S I L ta tb W c hc H => kd_of H (kc_tables H)) (fun S I L a W c hc H hN => xd_of H ((vr_ans _ _)) (xc_tables H)) (fun W c h => wv_ans h _ _)
set_option maxRecDepth 100000 in
theorem tw_hits (v : Int32) (wr us : Bool) : Two (fun h9 => p_X7_hits 1 v (bi wr) (bi us) h9) (fun h9 => p_X9_hits 217 v (bi wr) (bi us) h9) := two_of (fun W => (ans W (ok (vR W) 64 v) (kc (hhw (vS W) v.toNatClampNeg wr us)))) (fun S I L ta tb W c hc H => kd_of H (kc_hits H v wr us)) (fun S I L a W c hc H hN => xd_of H ((vr_ans _ _)) (xc_hits H v wr us)) (fun W c h => wv_ans h _ _)
set_option maxRecDepth 100000 in
theorem tw_stale : Two (fun h9 => p_X7_stale 1 h9) (fun h9 => p_X9_stale 217 h9) := two_of (fun W => (ans W (vR W) (ic (cnt (stw (vS W)) 256)))) (fun S I L ta tb W c hc H => kd_of H (kc_stale H)) (fun S I L a W c hc H hN => xd_of H ((vr_ans _ _)) (xc_stale H)) (fun W c h => wv_ans h _ _)
set_option maxRecDepth 100000 in
theorem tw_staleAt : Two (fun h9 => p_X7_staleAt 1 h9) (fun h9 => p_X9_staleAt 217 h9) := two_of (fun W => (ans W (vR W) (om (fs (stw (vS W)) 256 0) m2 (fun w => ic (w / 4))))) (fun S I L ta tb W c hc H => kd_of H (kc_staleAt H)) (fun S I L a W c hc H hN => xd_of H ((vr_ans _ _)) (xc_staleAt H)) (fun W c h => wv_ans h _ _)
set_option maxRecDepth 100000 in
theorem tw_missing : Two (fun h9 => p_X7_missing 1 h9) (fun h9 => p_X9_missing 217 h9) := two_of (fun W => (ans W (vR W) (ic (cnt (msw (vS W)) 256)))) (fun S I L ta tb W c hc H => kd_of H (kc_missing H)) (fun S I L a W c hc H hN => xd_of H ((vr_ans _ _)) (xc_missing H)) (fun W c h => wv_ans h _ _)
set_option maxRecDepth 100000 in
theorem tw_shadow (v i : Int32) : Two (fun h9 => p_X7_shadow 1 v i h9) (fun h9 => p_X9_shadow 217 v i h9) := two_of (fun W => (ans W (ok (vR W) (tP (vT W)) v && ok true 6 i) (shw (vS W) v.toNatClampNeg i.toNatClampNeg))) (fun S I L ta tb W c hc H => kd_of H (kc_shadow H hc v i)) (fun S I L a W c hc H hN => xd_of H ((vr_ans _ _)) (xc_shadow H hc v i)) (fun W c h => wv_ans h _ _)
set_option maxRecDepth 100000 in
theorem tw_entry (v i : Int32) : Two (fun h9 => p_X7_entry 1 v i h9) (fun h9 => p_X9_entry 217 v i h9) := two_of (fun W => (ans W (ok (vR W) (tP (vT W)) v && ok true 8 i) (kc (se (vS W) (8 * v.toNatClampNeg + i.toNatClampNeg))))) (fun S I L ta tb W c hc H => kd_of H (kc_entry H v i)) (fun S I L a W c hc H hN => xd_of H ((vr_ans _ _)) (xc_entry H v i)) (fun W c h => wv_ans h _ _)
set_option maxRecDepth 100000 in
theorem tw_maps (v : Int32) : Two (fun h9 => p_X7_maps 1 v h9) (fun h9 => p_X9_maps 217 v h9) := two_of (fun W => (ans W (ok (vR W) 16 v) (ic (cnt (fun a => isM (vS W) a v.toNatClampNeg) 64)))) (fun S I L ta tb W c hc H => kd_of H (kc_maps H v)) (fun S I L a W c hc H hN => xd_of H ((vr_ans _ _)) (xc_maps H v)) (fun W c h => wv_ans h _ _)
set_option maxRecDepth 100000 in
theorem tw_writers (v : Int32) : Two (fun h9 => p_X7_writers 1 v h9) (fun h9 => p_X9_writers 217 v h9) := two_of (fun W => (ans W (ok (vR W) 16 v) (ic (cnt (fun a => isMW (vS W) a v.toNatClampNeg) 64)))) (fun S I L ta tb W c hc H => kd_of H (kc_writers H v)) (fun S I L a W c hc H hN => xd_of H ((vr_ans _ _)) (xc_writers H v)) (fun W c h => wv_ans h _ _)
set_option maxRecDepth 100000 in
theorem tw_watched (v : Int32) : Two (fun h9 => p_X7_watched 1 v h9) (fun h9 => p_X9_watched 217 v h9) := two_of (fun W => (ans W (ok (vR W) 16 v) (bi (wat (vS W) v.toNatClampNeg)))) (fun S I L ta tb W c hc H => kd_of H (kc_watched H v)) (fun S I L a W c hc H hN => xd_of H ((vr_ans _ _)) (xc_watched H v)) (fun W c h => wv_ans h _ _)
set_option maxRecDepth 100000 in
theorem tw_outOfStep : Two (fun h9 => p_X7_outOfStep 1 h9) (fun h9 => p_X9_outOfStep 217 h9) := two_of (fun W => (ans W (vR W) (ic (msk (su (vS W)) 8)))) (fun S I L ta tb W c hc H => kd_of H (kc_outOfStep H)) (fun S I L a W c hc H hN => xd_of H ((vr_ans _ _)) (xc_outOfStep H)) (fun W c h => wv_ans h _ _)
set_option maxRecDepth 100000 in
theorem tw_dropsNext : Two (fun h9 => p_X7_dropsNext 1 h9) (fun h9 => p_X9_dropsNext 217 h9) := two_of (fun W => (ans W (vR W) (om (fre (vS W) (tP (vT W))) (oc (old (vS W) 8)) (fun _ => m2)))) (fun S I L ta tb W c hc H => kd_of H (kc_dropsNext H hc)) (fun S I L a W c hc H hN => xd_of H ((vr_ans _ _)) (xc_dropsNext H hc)) (fun W c h => wv_ans h _ _)
set_option maxRecDepth 100000 in
theorem tw_runFaults (v : Int32) : Two (fun h9 => p_X7_runFaults 1 v h9) (fun h9 => p_X9_runFaults 217 v h9) := two_of (fun W => (ans2 W (okr 3 8 v) (ic (rnT (vT W) v.toNatClampNeg).2.1))) (fun S I L ta tb W c hc H => kd_of H (kc_runFaults H v)) (fun S I L a W c hc H hN => xd_of H ((vr_ans2 _ _)) (xc_runFaults H v)) (fun W c h => wv_ans2 h _ _)
set_option maxRecDepth 100000 in
theorem tw_runRefused (v : Int32) : Two (fun h9 => p_X7_runRefused 1 v h9) (fun h9 => p_X9_runRefused 217 v h9) := two_of (fun W => (ans2 W (okr 3 8 v) (ic (rnT (vT W) v.toNatClampNeg).2.2.1))) (fun S I L ta tb W c hc H => kd_of H (kc_runRefused H v)) (fun S I L a W c hc H hN => xd_of H ((vr_ans2 _ _)) (xc_runRefused H v)) (fun W c h => wv_ans2 h _ _)
set_option maxRecDepth 100000 in
theorem tw_runDrops (v : Int32) : Two (fun h9 => p_X7_runDrops 1 v h9) (fun h9 => p_X9_runDrops 217 v h9) := two_of (fun W => (ans2 W (okr 3 8 v) (ic (rnT (vT W) v.toNatClampNeg).2.2.2))) (fun S I L ta tb W c hc H => kd_of H (kc_runDrops H v)) (fun S I L a W c hc H hN => xd_of H ((vr_ans2 _ _)) (xc_runDrops H v)) (fun W c h => wv_ans2 h _ _)
set_option maxRecDepth 100000 in
theorem tw_poolFor (v : Int32) : Two (fun h9 => p_X7_poolFor 1 v h9) (fun h9 => p_X9_poolFor 217 v h9) := two_of (fun W => (ans2 W (ok true 11 v) (oc (fs (pfb (vT W) v.toNatClampNeg) 6 3)))) (fun S I L ta tb W c hc H => kd_of H (kc_poolFor H v)) (fun S I L a W c hc H hN => xd_of H ((vr_ans2 _ _)) (xc_poolFor H v)) (fun W c h => wv_ans2 h _ _)
set_option maxRecDepth 100000 in
theorem tw_sweep (u v : Int32) : Two (fun h9 => p_X7_sweep 1 u v h9) (fun h9 => p_X9_sweep 217 u v h9) := two_of (fun W => (ans3 W (ok (vR W) 64 u && ok (vR W) 64 v) (decide (¬ v < u)) (ic (rnS (vS W) (tP (vT W)) (wY u.toNatClampNeg) (v.toNatClampNeg + 1 - u.toNatClampNeg)).2.1))) (fun S I L ta tb W c hc H => kd_of H (kc_sweep H hc u v)) (fun S I L a W c hc H hN => xd_of H ((vr_ans3 _ _ _)) (xc_sweep H hc u v)) (fun W c h => wv_ans3 h _ _ _)
set_option maxRecDepth 100000 in
theorem tw_drawnFaults (u v : Int32) : Two (fun h9 => p_X7_drawnFaults 1 u v h9) (fun h9 => p_X9_drawnFaults 217 u v h9) := two_of (fun W => (ans2 W (ok true 65537 u && ok true 201 v) (ic (rnS (vS W) (tP (vT W)) (dY u.toNatClampNeg) v.toNatClampNeg).2.1))) (fun S I L ta tb W c hc H => kd_of H (kc_drawnFaults H hc u v)) (fun S I L a W c hc H hN => xd_of H ((vr_ans2 _ _)) (xc_drawnFaults H hc u v)) (fun W c h => wv_ans2 h _ _)
set_option maxRecDepth 100000 in
theorem tw_drawnMarks (u v : Int32) : Two (fun h9 => p_X7_drawnMarks 1 u v h9) (fun h9 => p_X9_drawnMarks 217 u v h9) := two_of (fun W => (ans2 W (ok true 65537 u && ok true 201 v) (ic (sm (rnS (vS W) (tP (vT W)) (dY u.toNatClampNeg) v.toNatClampNeg).1)))) (fun S I L ta tb W c hc H => kd_of H (kc_drawnMarks H hc u v)) (fun S I L a W c hc H hN => xd_of H ((vr_ans2 _ _)) (xc_drawnMarks H hc u v)) (fun W c h => wv_ans2 h _ _)
set_option maxRecDepth 100000 in
theorem tw_fits : Two (fun h9 => p_X7_fits 1 h9) (fun h9 => p_X9_fits 217 h9) := two_of (fun W => (ans W (vR W) (ic (fN (vT W) (2 ^ dN (vT W)))))) (fun S I L ta tb W c hc H => kd_of H (kc_fits H)) (fun S I L a W c hc H hN => xd_of H ((vr_ans _ _)) (xc_fits H)) (fun W c h => wv_ans h _ _)
set_option maxRecDepth 100000 in
theorem tw_fitAt (v : Int32) : Two (fun h9 => p_X7_fitAt 1 v h9) (fun h9 => p_X9_fitAt 217 v h9) := two_of (fun W => (ans W (vR W && decide (¬ fAt (vT W) v (2 ^ dN (vT W)) = m1)) (fAt (vT W) v (2 ^ dN (vT W))))) (fun S I L ta tb W c hc H => kd_of H (kc_fitAt H v)) (fun S I L a W c hc H hN => xd_of H ((vr_ans _ _)) (xc_fitAt H v)) (fun W c h => wv_ans h _ _)
set_option maxRecDepth 100000 in
theorem tw_could : Two (fun h9 => p_X7_could 1 h9) (fun h9 => p_X9_could 217 h9) := two_of (fun W => (ans W (vR W) (ic (fSm (vT W) (2 ^ dN (vT W)))))) (fun S I L ta tb W c hc H => kd_of H (kc_could H)) (fun S I L a W c hc H hN => xd_of H ((vr_ans _ _)) (xc_could H)) (fun W c h => wv_ans h _ _)
set_option maxRecDepth 100000 in
theorem tw_surely : Two (fun h9 => p_X7_surely 1 h9) (fun h9 => p_X9_surely 217 h9) := two_of (fun W => (ans W (vR W) (ic (if fN (vT W) (2 ^ dN (vT W)) = 0 then 0 else fEv (vT W) (2 ^ dN (vT W) - 1) (2 ^ dN (vT W)))))) (fun S I L ta tb W c hc H => kd_of H (kc_surely H)) (fun S I L a W c hc H hN => xd_of H ((vr_ans _ _)) (xc_surely H)) (fun W c h => wv_ans h _ _)
set_option maxRecDepth 100000 in
theorem tw_ask : Two (fun h9 => p_X7_ask 1 h9) (fun h9 => p_X9_ask 217 h9) := two_of (fun W => (ans W (vR W) (oc (bst (vT W) (dN (vT W)))))) (fun S I L ta tb W c hc H => kd_of H (kc_ask H)) (fun S I L a W c hc H hN => xd_of H ((vr_ans _ _)) (xc_ask H)) (fun W c h => wv_ans h _ _)
set_option maxRecDepth 100000 in
theorem tw_askLeaves : Two (fun h9 => p_X7_askLeaves 1 h9) (fun h9 => p_X9_askLeaves 217 h9) := two_of (fun W => (ans W (vR W) (om (bst (vT W) (dN (vT W))) m2 (fun d => ic (lft (vT W) d))))) (fun S I L ta tb W c hc H => kd_of H (kc_askLeaves H)) (fun S I L a W c hc H hN => xd_of H ((vr_ans _ _)) (xc_askLeaves H)) (fun W c h => wv_ans h _ _)
set_option maxRecDepth 100000 in
theorem tw_judge : Two (fun h9 => p_X7_judge 1 h9) (fun h9 => p_X9_judge 217 h9) := two_of (fun W => (ans W (vR W) (oc (unt (vT W) (tG (vT W)))))) (fun S I L ta tb W c hc H => kd_of H (kc_judge H)) (fun S I L a W c hc H hN => xd_of H ((vr_ans _ _)) (xc_judge H)) (fun W c h => wv_ans h _ _)
set_option maxRecDepth 100000 in
theorem tw_access (v : Int32) (wr us : Bool) : Two (fun h9 => p_X7_access 1 v (bi wr) (bi us) h9) (fun h9 => p_X9_access 217 v (bi wr) (bi us) h9) := two_of (fun W => (acc W v wr us)) (fun S I L ta tb W c hc H => kd_of H (kc_access H hc v wr us)) (fun S I L a W c hc H hN => xd_of H ((vr_acc _ _ _)) (xc_access H hc v wr us)) (fun W c h => wv_acc h _ _ _)
set_option maxRecDepth 100000 in
theorem tw_store (v i w : Int32) (us : Bool) : Two (fun h9 => p_X7_store 1 v i w (bi us) h9) (fun h9 => p_X9_store 217 v i w (bi us) h9) := two_of (fun W => (sto W v i w us)) (fun S I L ta tb W c hc H => kd_of H (kc_store H hc v i w us)) (fun S I L a W c hc H hN => xd_of H ((vr_sto _ _ _ _)) (xc_store H hc v i w us)) (fun W c h => wv_sto h _ _ _ _)
set_option maxRecDepth 100000 in
theorem tw_load (v : Int32) : Two (fun h9 => p_X7_load 1 v h9) (fun h9 => p_X9_load 217 v h9) := two_of (fun W => (lod W v)) (fun S I L ta tb W c hc H => kd_of H (kc_load H v)) (fun S I L a W c hc H hN => xd_of H ((vr_lod _)) (xc_load H v)) (fun W c h => wv_lod h _)
set_option maxRecDepth 100000 in
theorem tw_flush (v : Int32) : Two (fun h9 => p_X7_flush 1 v h9) (fun h9 => p_X9_flush 217 v h9) := two_of (fun W => (flu W v)) (fun S I L ta tb W c hc H => kd_of H (kc_flush H v)) (fun S I L a W c hc H hN => xd_of H ((vr_flu _)) (xc_flush H v)) (fun W c h => wv_flu h _)
set_option maxRecDepth 100000 in
theorem tw_device (v i w : Int32) : Two (fun h9 => p_X7_device 1 v i w h9) (fun h9 => p_X9_device 217 v i w h9) := two_of (fun W => (dvW W v i w)) (fun S I L ta tb W c hc H => kd_of H (kc_device H v i w)) (fun S I L a W c hc H hN => xd_of H ((vr_dvW _ _ _)) (xc_device H v i w)) (fun W c h => wv_dv h _ _ _)
set_option maxRecDepth 100000 in
theorem tw_unmap (v : Int32) : Two (fun h9 => p_X7_unmap 1 v h9) (fun h9 => p_X9_unmap 217 v h9) := two_of (fun W => (unW W v)) (fun S I L ta tb W c hc H => kd_of H (kc_unmap H v)) (fun S I L a W c hc H hN => xd_of H ((vr_unW _)) (xc_unmap H v)) (fun W c h => wv_un h _)
set_option maxRecDepth 100000 in
theorem tw_give (v h : Int32) (b : Bool) : Two (fun h9 => p_X7_give 1 v h (bi b) h9) (fun h9 => p_X9_give 217 v h (bi b) h9) := two_of (fun W => (giW W v h b)) (fun S I L ta tb W c hc H => kd_of H (kc_give H v h b)) (fun S I L a W c hc H hN => xd_of H ((vr_giW _ _ _)) (xc_give H v h b)) (fun W c h => wv_gi h _ _ _)
set_option maxRecDepth 100000 in
theorem tw_protect (v : Int32) : Two (fun h9 => p_X7_protect 1 v h9) (fun h9 => p_X9_protect 217 v h9) := two_of (fun W => (prW W v)) (fun S I L ta tb W c hc H => kd_of H (kc_protect H v)) (fun S I L a W c hc H hN => xd_of H ((vr_prW _)) (xc_protect H v)) (fun W c h => wv_pr h _)
set_option maxRecDepth 100000 in
theorem tw_clean (v : Int32) : Two (fun h9 => p_X7_clean 1 v h9) (fun h9 => p_X9_clean 217 v h9) := two_of (fun W => (clW W v)) (fun S I L ta tb W c hc H => kd_of H (kc_clean H v)) (fun S I L a W c hc H hN => xd_of H ((vr_clW _)) (xc_clean H v)) (fun W c h => wv_cl h _)
set_option maxRecDepth 100000 in
theorem tw_undo : Two (fun h9 => p_X7_undo 1 h9) (fun h9 => p_X9_undo 217 h9) := two_of (fun W => (unD W)) (fun S I L ta tb W c hc H => kd_of H (kc_undo H)) (fun S I L a W c hc H hN => xd_of H ((vr_unD)) (xc_undo H)) (fun W c h => wv_und h)
set_option maxRecDepth 100000 in
theorem tw_image : Two (fun h9 => p_X7_image 1 h9) (fun h9 => p_X9_image 217 h9) := two_of (fun W => (imD W)) (fun S I L ta tb W c hc H => kd_of H (kc_image H)) (fun S I L a W c hc H hN => xd_of H ((vr_imD)) (xc_image H)) (fun W c h => wv_im h)
set_option maxRecDepth 100000 in
theorem tw_back (v : Int32) : Two (fun h9 => p_X7_back 1 v h9) (fun h9 => p_X9_back 217 v h9) := two_of (fun W => (bkD W v)) (fun S I L ta tb W c hc H => kd_of H (kc_back H v)) (fun S I L a W c hc H hN => xd_of H ((vr_bkD _)) (xc_back H v)) (fun W c h => wv_bk h _)
set_option maxRecDepth 100000 in
theorem tw_size (v : Int32) : Two (fun h9 => p_X7_size 1 v h9) (fun h9 => p_X9_size 217 v h9) := two_of (fun W => (szr W v, W)) (fun S I L ta tb W c hc H => kd_of H (kc_size H v)) (fun S I L a W c hc H hN => xd_of H (rfl) (xc_size H v)) (fun W c h => h.up)
set_option maxRecDepth 100000 in
theorem tw_trouble : Two (fun h9 => p_X7_trouble 1 h9) (fun h9 => p_X9_trouble 217 h9) := two_of (fun W => (ic (vE W), W)) (fun S I L ta tb W c hc H => kd_of H (kc_trouble H)) (fun S I L a W c hc H hN => xd_of H (rfl) (xc_trouble H)) (fun W c h => h.up)
