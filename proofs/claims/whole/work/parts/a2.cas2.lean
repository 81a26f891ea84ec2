/-! ===== the law, cases 10 and on (printed by g/gena1.py) ===== -/
def I_l558 : List AI := [(.aload_n 1, 1, [], 0), (.aload_n 0, 1, [], 0), (.iload 4, 2, [], 0), (.iconst 1, 1, [], 1), (.iadd, 1, [], 0), (.iaload, 1, [], 0), (.aload_n 0, 1, [], 0), (.iload 4, 2, [], 0), (.iconst 2, 1, [], 2), (.iadd, 1, [], 0), (.iaload, 1, [], 0), (.ifCond .eq 7, 3, [578], 0), (.iconst 1, 1, [], 1), (.goto 4, 3, [579], 0)]
theorem ok_l558 : vBL MT qLen qCh true 14 522 7 "ShadowPagerLaw" "law" code 0 558 I_l558 = true := by decide +kernel
theorem ok_l578 : vBL MT qLen qCh true 14 522 7 "ShadowPagerLaw" "law" code 579 578 [(.iconst 0, 1, [], 0)] = true := by decide +kernel
def I_l579 : List AI := [(.aload_n 0, 1, [], 0), (.iload 4, 2, [], 0), (.iconst 3, 1, [], 3), (.iadd, 1, [], 0), (.iaload, 1, [], 0), (.ifCond .eq 7, 3, [592], 0), (.iconst 1, 1, [], 1), (.goto 4, 3, [593], 0)]
theorem ok_l579 : vBL MT qLen qCh true 14 522 7 "ShadowPagerLaw" "law" code 0 579 I_l579 = true := by decide +kernel
theorem ok_l592 : vBL MT qLen qCh true 14 522 7 "ShadowPagerLaw" "law" code 593 592 [(.iconst 0, 1, [], 0)] = true := by decide +kernel
def I_l593 : List AI := [(.invokevirtual 62, 3, [1, 77, 4, 6, 700], 0), (.aload_n 2, 1, [], 0), (.aload_n 0, 1, [], 0), (.iload 4, 2, [], 0), (.iconst 1, 1, [], 1), (.iadd, 1, [], 0), (.iaload, 1, [], 0), (.aload_n 0, 1, [], 0), (.iload 4, 2, [], 0), (.iconst 2, 1, [], 2), (.iadd, 1, [], 0), (.iaload, 1, [], 0), (.ifCond .eq 7, 3, [616], 0), (.iconst 1, 1, [], 1), (.goto 4, 3, [617], 0)]
theorem ok_l593 : vBL MT qLen qCh true 14 522 7 "ShadowPagerLaw" "law" code 0 593 I_l593 = true := by decide +kernel
theorem ok_l616 : vBL MT qLen qCh true 14 522 7 "ShadowPagerLaw" "law" code 617 616 [(.iconst 0, 1, [], 0)] = true := by decide +kernel
def I_l617 : List AI := [(.aload_n 0, 1, [], 0), (.iload 4, 2, [], 0), (.iconst 3, 1, [], 3), (.iadd, 1, [], 0), (.iaload, 1, [], 0), (.ifCond .eq 7, 3, [630], 0), (.iconst 1, 1, [], 1), (.goto 4, 3, [631], 0)]
theorem ok_l617 : vBL MT qLen qCh true 14 522 7 "ShadowPagerLaw" "law" code 0 617 I_l617 = true := by decide +kernel
theorem ok_l630 : vBL MT qLen qCh true 14 522 7 "ShadowPagerLaw" "law" code 631 630 [(.iconst 0, 1, [], 0)] = true := by decide +kernel
def I_l631 : List AI := [(.invokevirtual 66, 3, [1, 259, 4, 8, 1752], 0), (.if_icmp .eq 1311, 3, [1945], 0), (.iconst 0, 1, [], 0), (.ireturn, 1, [], 0)]
theorem ok_l631 : vBL MT qLen qCh true 14 522 7 "ShadowPagerLaw" "law" code 0 631 I_l631 = true := by decide +kernel
set_option maxRecDepth 100000 in
theorem lc_10 {l : Launch} {D : va_G} {dA : Nat → ClassId} {z : Nat} {sa : Nat → Nat} {Hz : Heap} {L c : Nat} {xs : Nat → Int32} {G : Nat → LA → List Value → AH → Prop} {h : AH} {W : WD} (hC : Clos l D dA z sa Hz L xs G) (hL : L ≤ 3072) (h6 : 6 * c + 6 ≤ L) (hI : IN h W c) (nxt : ∀ h' W', IN h' W' (c + 1) → G 1945 (laC c) [] h') : G 558 (laC c) [] h := by
  obtain ⟨r, h1, h2, W', e1, e2, t2, hI2⟩ := tw_look (xs (6 * c + 1)) (decide (xs (6 * c + 2) ≠ 0)) (decide (xs (6 * c + 3) ≠ 0)) h W c (by omega) hI
  obtain ⟨FI, hF, f1, f2⟩ := two_FI (n1 := 77) (n2 := 259) (c_X7_look str_ok e1) (c_X9_look str_ok e2) (by decide)
  have t1 := hI.t1
  have g631 : G 631 (laC c) [.int (bi (decide (xs (6 * c + 3) ≠ 0))), .int (bi (decide (xs (6 * c + 2) ≠ 0))), .int (xs (6 * c + 1)), .ref 217, .int r] h1 := by
    refine hC.2 FI fV0 fL0 I_l631 0 631 _ _ _ hF fv_0 fl_0 ?_ ok_l631
    show (if (tg h1 217).1 = 8 then (FI 259 [.ref 217, .int (xs (6 * c + 1)), .int (bi (decide (xs (6 * c + 2) ≠ 0))), .int (bi (decide (xs (6 * c + 3) ≠ 0)))] h1).bind (fun q45 => if r = q45.1 then KG G 1945 (laC c) [] q45.2 else rtQ (some (.int ((0 : Int32)))) q45.2) else none) = some ()
    simp only [sld_1 h6 hL, sld_2 h6 hL, sld_3 h6 hL, sld_4 h6 hL, sld_5 h6 hL, t1, t2, f1, f2, Option.bind_some, if_true, lcmp_rr]
    exact KG_of (nxt h2 W' hI2)
  have g617 : G 617 (laC c) [.int (bi (decide (xs (6 * c + 2) ≠ 0))), .int (xs (6 * c + 1)), .ref 217, .int r] h1 := by
    refine hC.2 FI fV0 fL0 I_l617 0 617 _ _ _ hF fv_0 fl_0 ?_ ok_l617
    show (sld L xs (ic (6 * c) + (3 : Int32)) (fun w46 => if w46 = 0 then KG G 630 (laC c) [.int (bi (decide (xs (6 * c + 2) ≠ 0))), .int (xs (6 * c + 1)), .ref 217, .int r] h1 else KG G 631 (laC c) [.int ((1 : Int32)), .int (bi (decide (xs (6 * c + 2) ≠ 0))), .int (xs (6 * c + 1)), .ref 217, .int r] h1)) = some ()
    simp only [sld_1 h6 hL, sld_2 h6 hL, sld_3 h6 hL, sld_4 h6 hL, sld_5 h6 hL, t1, t2, f1, f2, Option.bind_some, if_true, lcmp_rr]
    exact tern hC ok_l630 g631
  have g593 : G 593 (laC c) [.int (bi (decide (xs (6 * c + 3) ≠ 0))), .int (bi (decide (xs (6 * c + 2) ≠ 0))), .int (xs (6 * c + 1)), .ref 1] h := by
    refine hC.2 FI fV0 fL0 I_l593 0 593 _ _ _ hF fv_0 fl_0 ?_ ok_l593
    show (if (tg h 1).1 = 6 then (FI 77 [.ref 1, .int (xs (6 * c + 1)), .int (bi (decide (xs (6 * c + 2) ≠ 0))), .int (bi (decide (xs (6 * c + 3) ≠ 0)))] h).bind (fun q47 => sld L xs (ic (6 * c) + (1 : Int32)) (fun w48 => sld L xs (ic (6 * c) + (2 : Int32)) (fun w49 => if w49 = 0 then KG G 616 (laC c) [.int w48, .ref 217, .int q47.1] q47.2 else KG G 617 (laC c) [.int ((1 : Int32)), .int w48, .ref 217, .int q47.1] q47.2))) else none) = some ()
    simp only [sld_1 h6 hL, sld_2 h6 hL, sld_3 h6 hL, sld_4 h6 hL, sld_5 h6 hL, t1, t2, f1, f2, Option.bind_some, if_true, lcmp_rr]
    exact tern hC ok_l616 g617
  have g579 : G 579 (laC c) [.int (bi (decide (xs (6 * c + 2) ≠ 0))), .int (xs (6 * c + 1)), .ref 1] h := by
    refine hC.2 FI fV0 fL0 I_l579 0 579 _ _ _ hF fv_0 fl_0 ?_ ok_l579
    show (sld L xs (ic (6 * c) + (3 : Int32)) (fun w50 => if w50 = 0 then KG G 592 (laC c) [.int (bi (decide (xs (6 * c + 2) ≠ 0))), .int (xs (6 * c + 1)), .ref 1] h else KG G 593 (laC c) [.int ((1 : Int32)), .int (bi (decide (xs (6 * c + 2) ≠ 0))), .int (xs (6 * c + 1)), .ref 1] h)) = some ()
    simp only [sld_1 h6 hL, sld_2 h6 hL, sld_3 h6 hL, sld_4 h6 hL, sld_5 h6 hL, t1, t2, f1, f2, Option.bind_some, if_true, lcmp_rr]
    exact tern hC ok_l592 g593
  have g558 : G 558 (laC c) [] h := by
    refine hC.2 FI fV0 fL0 I_l558 0 558 _ _ _ hF fv_0 fl_0 ?_ ok_l558
    show (sld L xs (ic (6 * c) + (1 : Int32)) (fun w51 => sld L xs (ic (6 * c) + (2 : Int32)) (fun w52 => if w52 = 0 then KG G 578 (laC c) [.int w51, .ref 1] h else KG G 579 (laC c) [.int ((1 : Int32)), .int w51, .ref 1] h))) = some ()
    simp only [sld_1 h6 hL, sld_2 h6 hL, sld_3 h6 hL, sld_4 h6 hL, sld_5 h6 hL, t1, t2, f1, f2, Option.bind_some, if_true, lcmp_rr]
    exact tern hC ok_l578 g579
  exact g558
def I_l639 : List AI := [(.aload_n 1, 1, [], 0), (.aload_n 0, 1, [], 0), (.iload 4, 2, [], 0), (.iconst 1, 1, [], 1), (.iadd, 1, [], 0), (.iaload, 1, [], 0), (.invokevirtual 67, 3, [1, 79, 2, 6, 738], 0), (.aload_n 2, 1, [], 0), (.aload_n 0, 1, [], 0), (.iload 4, 2, [], 0), (.iconst 1, 1, [], 1), (.iadd, 1, [], 0), (.iaload, 1, [], 0), (.invokevirtual 70, 3, [1, 260, 2, 8, 1791], 0), (.if_icmp .eq 1286, 3, [1945], 0), (.iconst 0, 1, [], 0), (.ireturn, 1, [], 0)]
theorem ok_l639 : vBL MT qLen qCh true 14 522 7 "ShadowPagerLaw" "law" code 0 639 I_l639 = true := by decide +kernel
set_option maxRecDepth 100000 in
theorem lc_11 {l : Launch} {D : va_G} {dA : Nat → ClassId} {z : Nat} {sa : Nat → Nat} {Hz : Heap} {L c : Nat} {xs : Nat → Int32} {G : Nat → LA → List Value → AH → Prop} {h : AH} {W : WD} (hC : Clos l D dA z sa Hz L xs G) (hL : L ≤ 3072) (h6 : 6 * c + 6 ≤ L) (hI : IN h W c) (nxt : ∀ h' W', IN h' W' (c + 1) → G 1945 (laC c) [] h') : G 639 (laC c) [] h := by
  obtain ⟨r, h1, h2, W', e1, e2, t2, hI2⟩ := tw_leads (xs (6 * c + 1)) h W c (by omega) hI
  obtain ⟨FI, hF, f1, f2⟩ := two_FI (n1 := 79) (n2 := 260) (c_X7_leads str_ok e1) (c_X9_leads str_ok e2) (by decide)
  have t1 := hI.t1
  have g639 : G 639 (laC c) [] h := by
    refine hC.2 FI fV0 fL0 I_l639 0 639 _ _ _ hF fv_0 fl_0 ?_ ok_l639
    show (sld L xs (ic (6 * c) + (1 : Int32)) (fun w53 => if (tg h 1).1 = 6 then (FI 79 [.ref 1, .int w53] h).bind (fun q54 => sld L xs (ic (6 * c) + (1 : Int32)) (fun w55 => if (tg q54.2 217).1 = 8 then (FI 260 [.ref 217, .int w55] q54.2).bind (fun q56 => if q54.1 = q56.1 then KG G 1945 (laC c) [] q56.2 else rtQ (some (.int ((0 : Int32)))) q56.2) else none)) else none)) = some ()
    simp only [sld_1 h6 hL, sld_2 h6 hL, sld_3 h6 hL, sld_4 h6 hL, sld_5 h6 hL, t1, t2, f1, f2, Option.bind_some, if_true, lcmp_rr]
    exact KG_of (nxt h2 W' hI2)
  exact g639
def I_l664 : List AI := [(.aload_n 1, 1, [], 0), (.aload_n 0, 1, [], 0), (.iload 4, 2, [], 0), (.iconst 1, 1, [], 1), (.iadd, 1, [], 0), (.iaload, 1, [], 0), (.invokevirtual 71, 3, [1, 81, 2, 6, 746], 0), (.aload_n 2, 1, [], 0), (.aload_n 0, 1, [], 0), (.iload 4, 2, [], 0), (.iconst 1, 1, [], 1), (.iadd, 1, [], 0), (.iaload, 1, [], 0), (.invokevirtual 74, 3, [1, 261, 2, 8, 1795], 0), (.if_icmp .eq 1261, 3, [1945], 0), (.iconst 0, 1, [], 0), (.ireturn, 1, [], 0)]
theorem ok_l664 : vBL MT qLen qCh true 14 522 7 "ShadowPagerLaw" "law" code 0 664 I_l664 = true := by decide +kernel
set_option maxRecDepth 100000 in
theorem lc_12 {l : Launch} {D : va_G} {dA : Nat → ClassId} {z : Nat} {sa : Nat → Nat} {Hz : Heap} {L c : Nat} {xs : Nat → Int32} {G : Nat → LA → List Value → AH → Prop} {h : AH} {W : WD} (hC : Clos l D dA z sa Hz L xs G) (hL : L ≤ 3072) (h6 : 6 * c + 6 ≤ L) (hI : IN h W c) (nxt : ∀ h' W', IN h' W' (c + 1) → G 1945 (laC c) [] h') : G 664 (laC c) [] h := by
  obtain ⟨r, h1, h2, W', e1, e2, t2, hI2⟩ := tw_rights (xs (6 * c + 1)) h W c (by omega) hI
  obtain ⟨FI, hF, f1, f2⟩ := two_FI (n1 := 81) (n2 := 261) (c_X7_rights str_ok e1) (c_X9_rights str_ok e2) (by decide)
  have t1 := hI.t1
  have g664 : G 664 (laC c) [] h := by
    refine hC.2 FI fV0 fL0 I_l664 0 664 _ _ _ hF fv_0 fl_0 ?_ ok_l664
    show (sld L xs (ic (6 * c) + (1 : Int32)) (fun w57 => if (tg h 1).1 = 6 then (FI 81 [.ref 1, .int w57] h).bind (fun q58 => sld L xs (ic (6 * c) + (1 : Int32)) (fun w59 => if (tg q58.2 217).1 = 8 then (FI 261 [.ref 217, .int w59] q58.2).bind (fun q60 => if q58.1 = q60.1 then KG G 1945 (laC c) [] q60.2 else rtQ (some (.int ((0 : Int32)))) q60.2) else none)) else none)) = some ()
    simp only [sld_1 h6 hL, sld_2 h6 hL, sld_3 h6 hL, sld_4 h6 hL, sld_5 h6 hL, t1, t2, f1, f2, Option.bind_some, if_true, lcmp_rr]
    exact KG_of (nxt h2 W' hI2)
  exact g664
def I_l689 : List AI := [(.aload_n 1, 1, [], 0), (.aload_n 0, 1, [], 0), (.iload 4, 2, [], 0), (.iconst 1, 1, [], 1), (.iadd, 1, [], 0), (.iaload, 1, [], 0), (.invokevirtual 75, 3, [1, 82, 2, 6, 755], 0), (.aload_n 2, 1, [], 0), (.aload_n 0, 1, [], 0), (.iload 4, 2, [], 0), (.iconst 1, 1, [], 1), (.iadd, 1, [], 0), (.iaload, 1, [], 0), (.invokevirtual 78, 3, [1, 262, 2, 8, 1799], 0), (.if_icmp .eq 1236, 3, [1945], 0), (.iconst 0, 1, [], 0), (.ireturn, 1, [], 0)]
theorem ok_l689 : vBL MT qLen qCh true 14 522 7 "ShadowPagerLaw" "law" code 0 689 I_l689 = true := by decide +kernel
set_option maxRecDepth 100000 in
theorem lc_13 {l : Launch} {D : va_G} {dA : Nat → ClassId} {z : Nat} {sa : Nat → Nat} {Hz : Heap} {L c : Nat} {xs : Nat → Int32} {G : Nat → LA → List Value → AH → Prop} {h : AH} {W : WD} (hC : Clos l D dA z sa Hz L xs G) (hL : L ≤ 3072) (h6 : 6 * c + 6 ≤ L) (hI : IN h W c) (nxt : ∀ h' W', IN h' W' (c + 1) → G 1945 (laC c) [] h') : G 689 (laC c) [] h := by
  obtain ⟨r, h1, h2, W', e1, e2, t2, hI2⟩ := tw_large (xs (6 * c + 1)) h W c (by omega) hI
  obtain ⟨FI, hF, f1, f2⟩ := two_FI (n1 := 82) (n2 := 262) (c_X7_large str_ok e1) (c_X9_large str_ok e2) (by decide)
  have t1 := hI.t1
  have g689 : G 689 (laC c) [] h := by
    refine hC.2 FI fV0 fL0 I_l689 0 689 _ _ _ hF fv_0 fl_0 ?_ ok_l689
    show (sld L xs (ic (6 * c) + (1 : Int32)) (fun w61 => if (tg h 1).1 = 6 then (FI 82 [.ref 1, .int w61] h).bind (fun q62 => sld L xs (ic (6 * c) + (1 : Int32)) (fun w63 => if (tg q62.2 217).1 = 8 then (FI 262 [.ref 217, .int w63] q62.2).bind (fun q64 => if q62.1 = q64.1 then KG G 1945 (laC c) [] q64.2 else rtQ (some (.int ((0 : Int32)))) q64.2) else none)) else none)) = some ()
    simp only [sld_1 h6 hL, sld_2 h6 hL, sld_3 h6 hL, sld_4 h6 hL, sld_5 h6 hL, t1, t2, f1, f2, Option.bind_some, if_true, lcmp_rr]
    exact KG_of (nxt h2 W' hI2)
  exact g689
def I_l714 : List AI := [(.aload_n 1, 1, [], 0), (.aload_n 0, 1, [], 0), (.iload 4, 2, [], 0), (.iconst 1, 1, [], 1), (.iadd, 1, [], 0), (.iaload, 1, [], 0), (.invokevirtual 79, 3, [1, 84, 2, 6, 761], 0), (.aload_n 2, 1, [], 0), (.aload_n 0, 1, [], 0), (.iload 4, 2, [], 0), (.iconst 1, 1, [], 1), (.iadd, 1, [], 0), (.iaload, 1, [], 0), (.invokevirtual 82, 3, [1, 263, 2, 8, 1803], 0), (.if_icmp .eq 1211, 3, [1945], 0), (.iconst 0, 1, [], 0), (.ireturn, 1, [], 0)]
theorem ok_l714 : vBL MT qLen qCh true 14 522 7 "ShadowPagerLaw" "law" code 0 714 I_l714 = true := by decide +kernel
set_option maxRecDepth 100000 in
theorem lc_14 {l : Launch} {D : va_G} {dA : Nat → ClassId} {z : Nat} {sa : Nat → Nat} {Hz : Heap} {L c : Nat} {xs : Nat → Int32} {G : Nat → LA → List Value → AH → Prop} {h : AH} {W : WD} (hC : Clos l D dA z sa Hz L xs G) (hL : L ≤ 3072) (h6 : 6 * c + 6 ≤ L) (hI : IN h W c) (nxt : ∀ h' W', IN h' W' (c + 1) → G 1945 (laC c) [] h') : G 714 (laC c) [] h := by
  obtain ⟨r, h1, h2, W', e1, e2, t2, hI2⟩ := tw_aliases (xs (6 * c + 1)) h W c (by omega) hI
  obtain ⟨FI, hF, f1, f2⟩ := two_FI (n1 := 84) (n2 := 263) (c_X7_aliases str_ok e1) (c_X9_aliases str_ok e2) (by decide)
  have t1 := hI.t1
  have g714 : G 714 (laC c) [] h := by
    refine hC.2 FI fV0 fL0 I_l714 0 714 _ _ _ hF fv_0 fl_0 ?_ ok_l714
    show (sld L xs (ic (6 * c) + (1 : Int32)) (fun w65 => if (tg h 1).1 = 6 then (FI 84 [.ref 1, .int w65] h).bind (fun q66 => sld L xs (ic (6 * c) + (1 : Int32)) (fun w67 => if (tg q66.2 217).1 = 8 then (FI 263 [.ref 217, .int w67] q66.2).bind (fun q68 => if q66.1 = q68.1 then KG G 1945 (laC c) [] q68.2 else rtQ (some (.int ((0 : Int32)))) q68.2) else none)) else none)) = some ()
    simp only [sld_1 h6 hL, sld_2 h6 hL, sld_3 h6 hL, sld_4 h6 hL, sld_5 h6 hL, t1, t2, f1, f2, Option.bind_some, if_true, lcmp_rr]
    exact KG_of (nxt h2 W' hI2)
  exact g714
def I_l739 : List AI := [(.aload_n 1, 1, [], 0), (.invokevirtual 83, 3, [1, 86, 1, 6, 771], 0), (.aload_n 2, 1, [], 0), (.invokevirtual 86, 3, [1, 264, 1, 8, 1807], 0), (.if_icmp .eq 1198, 3, [1945], 0), (.iconst 0, 1, [], 0), (.ireturn, 1, [], 0)]
theorem ok_l739 : vBL MT qLen qCh true 14 522 7 "ShadowPagerLaw" "law" code 0 739 I_l739 = true := by decide +kernel
set_option maxRecDepth 100000 in
theorem lc_15 {l : Launch} {D : va_G} {dA : Nat → ClassId} {z : Nat} {sa : Nat → Nat} {Hz : Heap} {L c : Nat} {xs : Nat → Int32} {G : Nat → LA → List Value → AH → Prop} {h : AH} {W : WD} (hC : Clos l D dA z sa Hz L xs G) (hL : L ≤ 3072) (h6 : 6 * c + 6 ≤ L) (hI : IN h W c) (nxt : ∀ h' W', IN h' W' (c + 1) → G 1945 (laC c) [] h') : G 739 (laC c) [] h := by
  obtain ⟨r, h1, h2, W', e1, e2, t2, hI2⟩ := tw_tables h W c (by omega) hI
  obtain ⟨FI, hF, f1, f2⟩ := two_FI (n1 := 86) (n2 := 264) (c_X7_tables str_ok e1) (c_X9_tables str_ok e2) (by decide)
  have t1 := hI.t1
  have g739 : G 739 (laC c) [] h := by
    refine hC.2 FI fV0 fL0 I_l739 0 739 _ _ _ hF fv_0 fl_0 ?_ ok_l739
    show (if (tg h 1).1 = 6 then (FI 86 [.ref 1] h).bind (fun q69 => if (tg q69.2 217).1 = 8 then (FI 264 [.ref 217] q69.2).bind (fun q70 => if q69.1 = q70.1 then KG G 1945 (laC c) [] q70.2 else rtQ (some (.int ((0 : Int32)))) q70.2) else none) else none) = some ()
    simp only [sld_1 h6 hL, sld_2 h6 hL, sld_3 h6 hL, sld_4 h6 hL, sld_5 h6 hL, t1, t2, f1, f2, Option.bind_some, if_true, lcmp_rr]
    exact KG_of (nxt h2 W' hI2)
  exact g739
