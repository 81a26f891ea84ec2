/-! ===== the law, cases 0 and on (printed by g/gena1.py) ===== -/
def I_l284 : List AI := [(.aload_n 1, 1, [], 0), (.aload_n 0, 1, [], 0), (.iload 4, 2, [], 0), (.iconst 1, 1, [], 1), (.iadd, 1, [], 0), (.iaload, 1, [], 0), (.aload_n 0, 1, [], 0), (.iload 4, 2, [], 0), (.iconst 2, 1, [], 2), (.iadd, 1, [], 0), (.iaload, 1, [], 0), (.aload_n 0, 1, [], 0), (.iload 4, 2, [], 0), (.iconst 3, 1, [], 3), (.iadd, 1, [], 0), (.iaload, 1, [], 0), (.aload_n 0, 1, [], 0), (.iload 4, 2, [], 0), (.iconst 4, 1, [], 4), (.iadd, 1, [], 0), (.iaload, 1, [], 0), (.aload_n 0, 1, [], 0), (.iload 4, 2, [], 0), (.iconst 5, 1, [], 5), (.iadd, 1, [], 0), (.iaload, 1, [], 0), (.invokevirtual 19, 3, [1, 8, 6, 6, 391], 0), (.aload_n 2, 1, [], 0), (.aload_n 0, 1, [], 0), (.iload 4, 2, [], 0), (.iconst 1, 1, [], 1), (.iadd, 1, [], 0), (.iaload, 1, [], 0), (.aload_n 0, 1, [], 0), (.iload 4, 2, [], 0), (.iconst 2, 1, [], 2), (.iadd, 1, [], 0), (.iaload, 1, [], 0), (.aload_n 0, 1, [], 0), (.iload 4, 2, [], 0), (.iconst 3, 1, [], 3), (.iadd, 1, [], 0), (.iaload, 1, [], 0), (.aload_n 0, 1, [], 0), (.iload 4, 2, [], 0), (.iconst 4, 1, [], 4), (.iadd, 1, [], 0), (.iaload, 1, [], 0), (.aload_n 0, 1, [], 0), (.iload 4, 2, [], 0), (.iconst 5, 1, [], 5), (.iadd, 1, [], 0), (.iaload, 1, [], 0), (.invokevirtual 23, 3, [1, 200, 6, 8, 1473], 0), (.if_icmp .eq 1593, 3, [1945], 0), (.iconst 0, 1, [], 0), (.ireturn, 1, [], 0)]
theorem ok_l284 : vBL MT qLen qCh true 14 522 7 "ShadowPagerLaw" "law" code 0 284 I_l284 = true := by decide +kernel
set_option maxRecDepth 100000 in
theorem lc_0 {l : Launch} {D : va_G} {dA : Nat → ClassId} {z : Nat} {sa : Nat → Nat} {Hz : Heap} {L c : Nat} {xs : Nat → Int32} {G : Nat → LA → List Value → AH → Prop} {h : AH} {W : WD} (hC : Clos l D dA z sa Hz L xs G) (hL : L ≤ 3072) (h6 : 6 * c + 6 ≤ L) (hI : IN h W c) (nxt : ∀ h' W', IN h' W' (c + 1) → G 1945 (laC c) [] h') : G 284 (laC c) [] h := by
  obtain ⟨r, h1, h2, W', e1, e2, t2, hI2⟩ := tw_feed (xs (6 * c + 1)) (xs (6 * c + 2)) (xs (6 * c + 3)) (xs (6 * c + 4)) (xs (6 * c + 5)) h W c (by omega) hI
  obtain ⟨FI, hF, f1, f2⟩ := two_FI (n1 := 8) (n2 := 200) (c_X7_feed str_ok e1) (c_X9_feed str_ok e2) (by decide)
  have t1 := hI.t1
  have g284 : G 284 (laC c) [] h := by
    refine hC.2 FI fV0 fL0 I_l284 0 284 _ _ _ hF fv_0 fl_0 ?_ ok_l284
    show (sld L xs (ic (6 * c) + (1 : Int32)) (fun w1 => sld L xs (ic (6 * c) + (2 : Int32)) (fun w2 => sld L xs (ic (6 * c) + (3 : Int32)) (fun w3 => sld L xs (ic (6 * c) + (4 : Int32)) (fun w4 => sld L xs (ic (6 * c) + (5 : Int32)) (fun w5 => if (tg h 1).1 = 6 then (FI 8 [.ref 1, .int w1, .int w2, .int w3, .int w4, .int w5] h).bind (fun q6 => sld L xs (ic (6 * c) + (1 : Int32)) (fun w7 => sld L xs (ic (6 * c) + (2 : Int32)) (fun w8 => sld L xs (ic (6 * c) + (3 : Int32)) (fun w9 => sld L xs (ic (6 * c) + (4 : Int32)) (fun w10 => sld L xs (ic (6 * c) + (5 : Int32)) (fun w11 => if (tg q6.2 217).1 = 8 then (FI 200 [.ref 217, .int w7, .int w8, .int w9, .int w10, .int w11] q6.2).bind (fun q12 => if q6.1 = q12.1 then KG G 1945 (laC c) [] q12.2 else rtQ (some (.int ((0 : Int32)))) q12.2) else none)))))) else none)))))) = some ()
    simp only [sld_1 h6 hL, sld_2 h6 hL, sld_3 h6 hL, sld_4 h6 hL, sld_5 h6 hL, t1, t2, f1, f2, Option.bind_some, if_true, lcmp_rr]
    exact KG_of (nxt h2 W' hI2)
  exact g284
def I_l357 : List AI := [(.aload_n 1, 1, [], 0), (.aload_n 0, 1, [], 0), (.iload 4, 2, [], 0), (.iconst 1, 1, [], 1), (.iadd, 1, [], 0), (.iaload, 1, [], 0), (.invokevirtual 24, 3, [1, 51, 2, 6, 399], 0), (.aload_n 2, 1, [], 0), (.aload_n 0, 1, [], 0), (.iload 4, 2, [], 0), (.iconst 1, 1, [], 1), (.iadd, 1, [], 0), (.iaload, 1, [], 0), (.invokevirtual 27, 3, [1, 234, 2, 8, 1477], 0), (.if_icmp .eq 1568, 3, [1945], 0), (.iconst 0, 1, [], 0), (.ireturn, 1, [], 0)]
theorem ok_l357 : vBL MT qLen qCh true 14 522 7 "ShadowPagerLaw" "law" code 0 357 I_l357 = true := by decide +kernel
set_option maxRecDepth 100000 in
theorem lc_1 {l : Launch} {D : va_G} {dA : Nat → ClassId} {z : Nat} {sa : Nat → Nat} {Hz : Heap} {L c : Nat} {xs : Nat → Int32} {G : Nat → LA → List Value → AH → Prop} {h : AH} {W : WD} (hC : Clos l D dA z sa Hz L xs G) (hL : L ≤ 3072) (h6 : 6 * c + 6 ≤ L) (hI : IN h W c) (nxt : ∀ h' W', IN h' W' (c + 1) → G 1945 (laC c) [] h') : G 357 (laC c) [] h := by
  obtain ⟨r, h1, h2, W', e1, e2, t2, hI2⟩ := tw_machine (xs (6 * c + 1)) h W c (by omega) hI
  obtain ⟨FI, hF, f1, f2⟩ := two_FI (n1 := 51) (n2 := 234) (c_X7_machine str_ok e1) (c_X9_machine str_ok e2) (by decide)
  have t1 := hI.t1
  have g357 : G 357 (laC c) [] h := by
    refine hC.2 FI fV0 fL0 I_l357 0 357 _ _ _ hF fv_0 fl_0 ?_ ok_l357
    show (sld L xs (ic (6 * c) + (1 : Int32)) (fun w13 => if (tg h 1).1 = 6 then (FI 51 [.ref 1, .int w13] h).bind (fun q14 => sld L xs (ic (6 * c) + (1 : Int32)) (fun w15 => if (tg q14.2 217).1 = 8 then (FI 234 [.ref 217, .int w15] q14.2).bind (fun q16 => if q14.1 = q16.1 then KG G 1945 (laC c) [] q16.2 else rtQ (some (.int ((0 : Int32)))) q16.2) else none)) else none)) = some ()
    simp only [sld_1 h6 hL, sld_2 h6 hL, sld_3 h6 hL, sld_4 h6 hL, sld_5 h6 hL, t1, t2, f1, f2, Option.bind_some, if_true, lcmp_rr]
    exact KG_of (nxt h2 W' hI2)
  exact g357
def I_l382 : List AI := [(.aload_n 1, 1, [], 0), (.invokevirtual 28, 3, [1, 52, 1, 6, 637], 0), (.aload_n 2, 1, [], 0), (.invokevirtual 32, 3, [1, 235, 1, 8, 1698], 0), (.if_icmp .eq 1555, 3, [1945], 0), (.iconst 0, 1, [], 0), (.ireturn, 1, [], 0)]
theorem ok_l382 : vBL MT qLen qCh true 14 522 7 "ShadowPagerLaw" "law" code 0 382 I_l382 = true := by decide +kernel
set_option maxRecDepth 100000 in
theorem lc_2 {l : Launch} {D : va_G} {dA : Nat → ClassId} {z : Nat} {sa : Nat → Nat} {Hz : Heap} {L c : Nat} {xs : Nat → Int32} {G : Nat → LA → List Value → AH → Prop} {h : AH} {W : WD} (hC : Clos l D dA z sa Hz L xs G) (hL : L ≤ 3072) (h6 : 6 * c + 6 ≤ L) (hI : IN h W c) (nxt : ∀ h' W', IN h' W' (c + 1) → G 1945 (laC c) [] h') : G 382 (laC c) [] h := by
  obtain ⟨r, h1, h2, W', e1, e2, t2, hI2⟩ := tw_fault h W c (by omega) hI
  obtain ⟨FI, hF, f1, f2⟩ := two_FI (n1 := 52) (n2 := 235) (c_X7_fault str_ok e1) (c_X9_fault str_ok e2) (by decide)
  have t1 := hI.t1
  have g382 : G 382 (laC c) [] h := by
    refine hC.2 FI fV0 fL0 I_l382 0 382 _ _ _ hF fv_0 fl_0 ?_ ok_l382
    show (if (tg h 1).1 = 6 then (FI 52 [.ref 1] h).bind (fun q17 => if (tg q17.2 217).1 = 8 then (FI 235 [.ref 217] q17.2).bind (fun q18 => if q17.1 = q18.1 then KG G 1945 (laC c) [] q18.2 else rtQ (some (.int ((0 : Int32)))) q18.2) else none) else none) = some ()
    simp only [sld_1 h6 hL, sld_2 h6 hL, sld_3 h6 hL, sld_4 h6 hL, sld_5 h6 hL, t1, t2, f1, f2, Option.bind_some, if_true, lcmp_rr]
    exact KG_of (nxt h2 W' hI2)
  exact g382
def I_l395 : List AI := [(.aload_n 1, 1, [], 0), (.invokevirtual 33, 3, [1, 53, 1, 6, 641], 0), (.aload_n 2, 1, [], 0), (.invokevirtual 36, 3, [1, 236, 1, 8, 1702], 0), (.if_icmp .eq 1542, 3, [1945], 0), (.iconst 0, 1, [], 0), (.ireturn, 1, [], 0)]
theorem ok_l395 : vBL MT qLen qCh true 14 522 7 "ShadowPagerLaw" "law" code 0 395 I_l395 = true := by decide +kernel
set_option maxRecDepth 100000 in
theorem lc_3 {l : Launch} {D : va_G} {dA : Nat → ClassId} {z : Nat} {sa : Nat → Nat} {Hz : Heap} {L c : Nat} {xs : Nat → Int32} {G : Nat → LA → List Value → AH → Prop} {h : AH} {W : WD} (hC : Clos l D dA z sa Hz L xs G) (hL : L ≤ 3072) (h6 : 6 * c + 6 ≤ L) (hI : IN h W c) (nxt : ∀ h' W', IN h' W' (c + 1) → G 1945 (laC c) [] h') : G 395 (laC c) [] h := by
  obtain ⟨r, h1, h2, W', e1, e2, t2, hI2⟩ := tw_where h W c (by omega) hI
  obtain ⟨FI, hF, f1, f2⟩ := two_FI (n1 := 53) (n2 := 236) (c_X7_where str_ok e1) (c_X9_where str_ok e2) (by decide)
  have t1 := hI.t1
  have g395 : G 395 (laC c) [] h := by
    refine hC.2 FI fV0 fL0 I_l395 0 395 _ _ _ hF fv_0 fl_0 ?_ ok_l395
    show (if (tg h 1).1 = 6 then (FI 53 [.ref 1] h).bind (fun q19 => if (tg q19.2 217).1 = 8 then (FI 236 [.ref 217] q19.2).bind (fun q20 => if q19.1 = q20.1 then KG G 1945 (laC c) [] q20.2 else rtQ (some (.int ((0 : Int32)))) q20.2) else none) else none) = some ()
    simp only [sld_1 h6 hL, sld_2 h6 hL, sld_3 h6 hL, sld_4 h6 hL, sld_5 h6 hL, t1, t2, f1, f2, Option.bind_some, if_true, lcmp_rr]
    exact KG_of (nxt h2 W' hI2)
  exact g395
def I_l408 : List AI := [(.aload_n 1, 1, [], 0), (.aload_n 0, 1, [], 0), (.iload 4, 2, [], 0), (.iconst 1, 1, [], 1), (.iadd, 1, [], 0), (.iaload, 1, [], 0), (.aload_n 0, 1, [], 0), (.iload 4, 2, [], 0), (.iconst 2, 1, [], 2), (.iadd, 1, [], 0), (.iaload, 1, [], 0), (.invokevirtual 37, 3, [1, 57, 3, 6, 645], 0), (.aload_n 2, 1, [], 0), (.aload_n 0, 1, [], 0), (.iload 4, 2, [], 0), (.iconst 1, 1, [], 1), (.iadd, 1, [], 0), (.iaload, 1, [], 0), (.aload_n 0, 1, [], 0), (.iload 4, 2, [], 0), (.iconst 2, 1, [], 2), (.iadd, 1, [], 0), (.iaload, 1, [], 0), (.invokevirtual 41, 3, [1, 238, 3, 8, 1706], 0), (.if_icmp .eq 1505, 3, [1945], 0), (.iconst 0, 1, [], 0), (.ireturn, 1, [], 0)]
theorem ok_l408 : vBL MT qLen qCh true 14 522 7 "ShadowPagerLaw" "law" code 0 408 I_l408 = true := by decide +kernel
set_option maxRecDepth 100000 in
theorem lc_4 {l : Launch} {D : va_G} {dA : Nat → ClassId} {z : Nat} {sa : Nat → Nat} {Hz : Heap} {L c : Nat} {xs : Nat → Int32} {G : Nat → LA → List Value → AH → Prop} {h : AH} {W : WD} (hC : Clos l D dA z sa Hz L xs G) (hL : L ≤ 3072) (h6 : 6 * c + 6 ≤ L) (hI : IN h W c) (nxt : ∀ h' W', IN h' W' (c + 1) → G 1945 (laC c) [] h') : G 408 (laC c) [] h := by
  obtain ⟨r, h1, h2, W', e1, e2, t2, hI2⟩ := tw_word (xs (6 * c + 1)) (xs (6 * c + 2)) h W c (by omega) hI
  obtain ⟨FI, hF, f1, f2⟩ := two_FI (n1 := 57) (n2 := 238) (c_X7_word str_ok e1) (c_X9_word str_ok e2) (by decide)
  have t1 := hI.t1
  have g408 : G 408 (laC c) [] h := by
    refine hC.2 FI fV0 fL0 I_l408 0 408 _ _ _ hF fv_0 fl_0 ?_ ok_l408
    show (sld L xs (ic (6 * c) + (1 : Int32)) (fun w21 => sld L xs (ic (6 * c) + (2 : Int32)) (fun w22 => if (tg h 1).1 = 6 then (FI 57 [.ref 1, .int w21, .int w22] h).bind (fun q23 => sld L xs (ic (6 * c) + (1 : Int32)) (fun w24 => sld L xs (ic (6 * c) + (2 : Int32)) (fun w25 => if (tg q23.2 217).1 = 8 then (FI 238 [.ref 217, .int w24, .int w25] q23.2).bind (fun q26 => if q23.1 = q26.1 then KG G 1945 (laC c) [] q26.2 else rtQ (some (.int ((0 : Int32)))) q26.2) else none))) else none))) = some ()
    simp only [sld_1 h6 hL, sld_2 h6 hL, sld_3 h6 hL, sld_4 h6 hL, sld_5 h6 hL, t1, t2, f1, f2, Option.bind_some, if_true, lcmp_rr]
    exact KG_of (nxt h2 W' hI2)
  exact g408
def I_l445 : List AI := [(.aload_n 1, 1, [], 0), (.aload_n 0, 1, [], 0), (.iload 4, 2, [], 0), (.iconst 1, 1, [], 1), (.iadd, 1, [], 0), (.iaload, 1, [], 0), (.invokevirtual 42, 3, [1, 59, 2, 6, 660], 0), (.aload_n 2, 1, [], 0), (.aload_n 0, 1, [], 0), (.iload 4, 2, [], 0), (.iconst 1, 1, [], 1), (.iadd, 1, [], 0), (.iaload, 1, [], 0), (.invokevirtual 45, 3, [1, 242, 2, 8, 1713], 0), (.if_icmp .eq 1480, 3, [1945], 0), (.iconst 0, 1, [], 0), (.ireturn, 1, [], 0)]
theorem ok_l445 : vBL MT qLen qCh true 14 522 7 "ShadowPagerLaw" "law" code 0 445 I_l445 = true := by decide +kernel
set_option maxRecDepth 100000 in
theorem lc_5 {l : Launch} {D : va_G} {dA : Nat → ClassId} {z : Nat} {sa : Nat → Nat} {Hz : Heap} {L c : Nat} {xs : Nat → Int32} {G : Nat → LA → List Value → AH → Prop} {h : AH} {W : WD} (hC : Clos l D dA z sa Hz L xs G) (hL : L ≤ 3072) (h6 : 6 * c + 6 ≤ L) (hI : IN h W c) (nxt : ∀ h' W', IN h' W' (c + 1) → G 1945 (laC c) [] h') : G 445 (laC c) [] h := by
  obtain ⟨r, h1, h2, W', e1, e2, t2, hI2⟩ := tw_backing (xs (6 * c + 1)) h W c (by omega) hI
  obtain ⟨FI, hF, f1, f2⟩ := two_FI (n1 := 59) (n2 := 242) (c_X7_backing str_ok e1) (c_X9_backing str_ok e2) (by decide)
  have t1 := hI.t1
  have g445 : G 445 (laC c) [] h := by
    refine hC.2 FI fV0 fL0 I_l445 0 445 _ _ _ hF fv_0 fl_0 ?_ ok_l445
    show (sld L xs (ic (6 * c) + (1 : Int32)) (fun w27 => if (tg h 1).1 = 6 then (FI 59 [.ref 1, .int w27] h).bind (fun q28 => sld L xs (ic (6 * c) + (1 : Int32)) (fun w29 => if (tg q28.2 217).1 = 8 then (FI 242 [.ref 217, .int w29] q28.2).bind (fun q30 => if q28.1 = q30.1 then KG G 1945 (laC c) [] q30.2 else rtQ (some (.int ((0 : Int32)))) q30.2) else none)) else none)) = some ()
    simp only [sld_1 h6 hL, sld_2 h6 hL, sld_3 h6 hL, sld_4 h6 hL, sld_5 h6 hL, t1, t2, f1, f2, Option.bind_some, if_true, lcmp_rr]
    exact KG_of (nxt h2 W' hI2)
  exact g445
def I_l470 : List AI := [(.aload_n 1, 1, [], 0), (.aload_n 0, 1, [], 0), (.iload 4, 2, [], 0), (.iconst 1, 1, [], 1), (.iadd, 1, [], 0), (.iaload, 1, [], 0), (.invokevirtual 46, 3, [1, 63, 2, 6, 668], 0), (.aload_n 2, 1, [], 0), (.aload_n 0, 1, [], 0), (.iload 4, 2, [], 0), (.iconst 1, 1, [], 1), (.iadd, 1, [], 0), (.iaload, 1, [], 0), (.invokevirtual 49, 3, [1, 244, 2, 8, 1729], 0), (.if_icmp .eq 1455, 3, [1945], 0), (.iconst 0, 1, [], 0), (.ireturn, 1, [], 0)]
theorem ok_l470 : vBL MT qLen qCh true 14 522 7 "ShadowPagerLaw" "law" code 0 470 I_l470 = true := by decide +kernel
set_option maxRecDepth 100000 in
theorem lc_6 {l : Launch} {D : va_G} {dA : Nat → ClassId} {z : Nat} {sa : Nat → Nat} {Hz : Heap} {L c : Nat} {xs : Nat → Int32} {G : Nat → LA → List Value → AH → Prop} {h : AH} {W : WD} (hC : Clos l D dA z sa Hz L xs G) (hL : L ≤ 3072) (h6 : 6 * c + 6 ≤ L) (hI : IN h W c) (nxt : ∀ h' W', IN h' W' (c + 1) → G 1945 (laC c) [] h') : G 470 (laC c) [] h := by
  obtain ⟨r, h1, h2, W', e1, e2, t2, hI2⟩ := tw_writes (xs (6 * c + 1)) h W c (by omega) hI
  obtain ⟨FI, hF, f1, f2⟩ := two_FI (n1 := 63) (n2 := 244) (c_X7_writes str_ok e1) (c_X9_writes str_ok e2) (by decide)
  have t1 := hI.t1
  have g470 : G 470 (laC c) [] h := by
    refine hC.2 FI fV0 fL0 I_l470 0 470 _ _ _ hF fv_0 fl_0 ?_ ok_l470
    show (sld L xs (ic (6 * c) + (1 : Int32)) (fun w31 => if (tg h 1).1 = 6 then (FI 63 [.ref 1, .int w31] h).bind (fun q32 => sld L xs (ic (6 * c) + (1 : Int32)) (fun w33 => if (tg q32.2 217).1 = 8 then (FI 244 [.ref 217, .int w33] q32.2).bind (fun q34 => if q32.1 = q34.1 then KG G 1945 (laC c) [] q34.2 else rtQ (some (.int ((0 : Int32)))) q34.2) else none)) else none)) = some ()
    simp only [sld_1 h6 hL, sld_2 h6 hL, sld_3 h6 hL, sld_4 h6 hL, sld_5 h6 hL, t1, t2, f1, f2, Option.bind_some, if_true, lcmp_rr]
    exact KG_of (nxt h2 W' hI2)
  exact g470
def I_l495 : List AI := [(.aload_n 1, 1, [], 0), (.invokevirtual 50, 3, [1, 64, 1, 6, 683], 0), (.aload_n 2, 1, [], 0), (.invokevirtual 53, 3, [1, 245, 1, 8, 1737], 0), (.if_icmp .eq 1442, 3, [1945], 0), (.iconst 0, 1, [], 0), (.ireturn, 1, [], 0)]
theorem ok_l495 : vBL MT qLen qCh true 14 522 7 "ShadowPagerLaw" "law" code 0 495 I_l495 = true := by decide +kernel
set_option maxRecDepth 100000 in
theorem lc_7 {l : Launch} {D : va_G} {dA : Nat → ClassId} {z : Nat} {sa : Nat → Nat} {Hz : Heap} {L c : Nat} {xs : Nat → Int32} {G : Nat → LA → List Value → AH → Prop} {h : AH} {W : WD} (hC : Clos l D dA z sa Hz L xs G) (hL : L ≤ 3072) (h6 : 6 * c + 6 ≤ L) (hI : IN h W c) (nxt : ∀ h' W', IN h' W' (c + 1) → G 1945 (laC c) [] h') : G 495 (laC c) [] h := by
  obtain ⟨r, h1, h2, W', e1, e2, t2, hI2⟩ := tw_root h W c (by omega) hI
  obtain ⟨FI, hF, f1, f2⟩ := two_FI (n1 := 64) (n2 := 245) (c_X7_root str_ok e1) (c_X9_root str_ok e2) (by decide)
  have t1 := hI.t1
  have g495 : G 495 (laC c) [] h := by
    refine hC.2 FI fV0 fL0 I_l495 0 495 _ _ _ hF fv_0 fl_0 ?_ ok_l495
    show (if (tg h 1).1 = 6 then (FI 64 [.ref 1] h).bind (fun q35 => if (tg q35.2 217).1 = 8 then (FI 245 [.ref 217] q35.2).bind (fun q36 => if q35.1 = q36.1 then KG G 1945 (laC c) [] q36.2 else rtQ (some (.int ((0 : Int32)))) q36.2) else none) else none) = some ()
    simp only [sld_1 h6 hL, sld_2 h6 hL, sld_3 h6 hL, sld_4 h6 hL, sld_5 h6 hL, t1, t2, f1, f2, Option.bind_some, if_true, lcmp_rr]
    exact KG_of (nxt h2 W' hI2)
  exact g495
def I_l508 : List AI := [(.aload_n 1, 1, [], 0), (.invokevirtual 54, 3, [1, 65, 1, 6, 687], 0), (.aload_n 2, 1, [], 0), (.invokevirtual 57, 3, [1, 246, 1, 8, 1741], 0), (.if_icmp .eq 1429, 3, [1945], 0), (.iconst 0, 1, [], 0), (.ireturn, 1, [], 0)]
theorem ok_l508 : vBL MT qLen qCh true 14 522 7 "ShadowPagerLaw" "law" code 0 508 I_l508 = true := by decide +kernel
set_option maxRecDepth 100000 in
theorem lc_8 {l : Launch} {D : va_G} {dA : Nat → ClassId} {z : Nat} {sa : Nat → Nat} {Hz : Heap} {L c : Nat} {xs : Nat → Int32} {G : Nat → LA → List Value → AH → Prop} {h : AH} {W : WD} (hC : Clos l D dA z sa Hz L xs G) (hL : L ≤ 3072) (h6 : 6 * c + 6 ≤ L) (hI : IN h W c) (nxt : ∀ h' W', IN h' W' (c + 1) → G 1945 (laC c) [] h') : G 508 (laC c) [] h := by
  obtain ⟨r, h1, h2, W', e1, e2, t2, hI2⟩ := tw_marks h W c (by omega) hI
  obtain ⟨FI, hF, f1, f2⟩ := two_FI (n1 := 65) (n2 := 246) (c_X7_marks str_ok e1) (c_X9_marks str_ok e2) (by decide)
  have t1 := hI.t1
  have g508 : G 508 (laC c) [] h := by
    refine hC.2 FI fV0 fL0 I_l508 0 508 _ _ _ hF fv_0 fl_0 ?_ ok_l508
    show (if (tg h 1).1 = 6 then (FI 65 [.ref 1] h).bind (fun q37 => if (tg q37.2 217).1 = 8 then (FI 246 [.ref 217] q37.2).bind (fun q38 => if q37.1 = q38.1 then KG G 1945 (laC c) [] q38.2 else rtQ (some (.int ((0 : Int32)))) q38.2) else none) else none) = some ()
    simp only [sld_1 h6 hL, sld_2 h6 hL, sld_3 h6 hL, sld_4 h6 hL, sld_5 h6 hL, t1, t2, f1, f2, Option.bind_some, if_true, lcmp_rr]
    exact KG_of (nxt h2 W' hI2)
  exact g508
def I_l521 : List AI := [(.aload_n 1, 1, [], 0), (.aload_n 0, 1, [], 0), (.iload 4, 2, [], 0), (.iconst 1, 1, [], 1), (.iadd, 1, [], 0), (.iaload, 1, [], 0), (.aload_n 0, 1, [], 0), (.iload 4, 2, [], 0), (.iconst 2, 1, [], 2), (.iadd, 1, [], 0), (.iaload, 1, [], 0), (.invokevirtual 58, 3, [1, 67, 3, 6, 691], 0), (.aload_n 2, 1, [], 0), (.aload_n 0, 1, [], 0), (.iload 4, 2, [], 0), (.iconst 1, 1, [], 1), (.iadd, 1, [], 0), (.iaload, 1, [], 0), (.aload_n 0, 1, [], 0), (.iload 4, 2, [], 0), (.iconst 2, 1, [], 2), (.iadd, 1, [], 0), (.iaload, 1, [], 0), (.invokevirtual 61, 3, [1, 248, 3, 8, 1745], 0), (.if_icmp .eq 1392, 3, [1945], 0), (.iconst 0, 1, [], 0), (.ireturn, 1, [], 0)]
theorem ok_l521 : vBL MT qLen qCh true 14 522 7 "ShadowPagerLaw" "law" code 0 521 I_l521 = true := by decide +kernel
set_option maxRecDepth 100000 in
theorem lc_9 {l : Launch} {D : va_G} {dA : Nat → ClassId} {z : Nat} {sa : Nat → Nat} {Hz : Heap} {L c : Nat} {xs : Nat → Int32} {G : Nat → LA → List Value → AH → Prop} {h : AH} {W : WD} (hC : Clos l D dA z sa Hz L xs G) (hL : L ≤ 3072) (h6 : 6 * c + 6 ≤ L) (hI : IN h W c) (nxt : ∀ h' W', IN h' W' (c + 1) → G 1945 (laC c) [] h') : G 521 (laC c) [] h := by
  obtain ⟨r, h1, h2, W', e1, e2, t2, hI2⟩ := tw_wordsWith (xs (6 * c + 1)) (xs (6 * c + 2)) h W c (by omega) hI
  obtain ⟨FI, hF, f1, f2⟩ := two_FI (n1 := 67) (n2 := 248) (c_X7_wordsWith str_ok e1) (c_X9_wordsWith str_ok e2) (by decide)
  have t1 := hI.t1
  have g521 : G 521 (laC c) [] h := by
    refine hC.2 FI fV0 fL0 I_l521 0 521 _ _ _ hF fv_0 fl_0 ?_ ok_l521
    show (sld L xs (ic (6 * c) + (1 : Int32)) (fun w39 => sld L xs (ic (6 * c) + (2 : Int32)) (fun w40 => if (tg h 1).1 = 6 then (FI 67 [.ref 1, .int w39, .int w40] h).bind (fun q41 => sld L xs (ic (6 * c) + (1 : Int32)) (fun w42 => sld L xs (ic (6 * c) + (2 : Int32)) (fun w43 => if (tg q41.2 217).1 = 8 then (FI 248 [.ref 217, .int w42, .int w43] q41.2).bind (fun q44 => if q41.1 = q44.1 then KG G 1945 (laC c) [] q44.2 else rtQ (some (.int ((0 : Int32)))) q44.2) else none))) else none))) = some ()
    simp only [sld_1 h6 hL, sld_2 h6 hL, sld_3 h6 hL, sld_4 h6 hL, sld_5 h6 hL, t1, t2, f1, f2, Option.bind_some, if_true, lcmp_rr]
    exact KG_of (nxt h2 W' hI2)
  exact g521
