/-! ===== the law, cases 30 and on (printed by g/gena1.py) ===== -/
def I_l1122 : List AI := [(.aload_n 1, 1, [], 0), (.aload_n 0, 1, [], 0), (.iload 4, 2, [], 0), (.iconst 1, 1, [], 1), (.iadd, 1, [], 0), (.iaload, 1, [], 0), (.invokevirtual 143, 3, [1, 139, 2, 6, 1005], 0), (.aload_n 2, 1, [], 0), (.aload_n 0, 1, [], 0), (.iload 4, 2, [], 0), (.iconst 1, 1, [], 1), (.iadd, 1, [], 0), (.iaload, 1, [], 0), (.invokevirtual 146, 3, [1, 299, 2, 8, 1947], 0), (.if_icmp .eq 803, 3, [1945], 0), (.iconst 0, 1, [], 0), (.ireturn, 1, [], 0)]
theorem ok_l1122 : vBL MT qLen qCh true 14 522 7 "ShadowPagerLaw" "law" code 0 1122 I_l1122 = true := by decide +kernel
set_option maxRecDepth 100000 in
theorem lc_30 {l : Launch} {D : va_G} {dA : Nat → ClassId} {z : Nat} {sa : Nat → Nat} {Hz : Heap} {L c : Nat} {xs : Nat → Int32} {G : Nat → LA → List Value → AH → Prop} {h : AH} {W : WD} (hC : Clos l D dA z sa Hz L xs G) (hL : L ≤ 3072) (h6 : 6 * c + 6 ≤ L) (hI : IN h W c) (nxt : ∀ h' W', IN h' W' (c + 1) → G 1945 (laC c) [] h') : G 1122 (laC c) [] h := by
  obtain ⟨r, h1, h2, W', e1, e2, t2, hI2⟩ := tw_poolFor (xs (6 * c + 1)) h W c (by omega) hI
  obtain ⟨FI, hF, f1, f2⟩ := two_FI (n1 := 139) (n2 := 299) (c_X7_poolFor str_ok e1) (c_X9_poolFor str_ok e2) (by decide)
  have t1 := hI.t1
  have g1122 : G 1122 (laC c) [] h := by
    refine hC.2 FI fV0 fL0 I_l1122 0 1122 _ _ _ hF fv_0 fl_0 ?_ ok_l1122
    show (sld L xs (ic (6 * c) + (1 : Int32)) (fun w125 => if (tg h 1).1 = 6 then (FI 139 [.ref 1, .int w125] h).bind (fun q126 => sld L xs (ic (6 * c) + (1 : Int32)) (fun w127 => if (tg q126.2 217).1 = 8 then (FI 299 [.ref 217, .int w127] q126.2).bind (fun q128 => if q126.1 = q128.1 then KG G 1945 (laC c) [] q128.2 else rtQ (some (.int ((0 : Int32)))) q128.2) else none)) else none)) = some ()
    simp only [sld_1 h6 hL, sld_2 h6 hL, sld_3 h6 hL, sld_4 h6 hL, sld_5 h6 hL, t1, t2, f1, f2, Option.bind_some, if_true, lcmp_rr]
    exact KG_of (nxt h2 W' hI2)
  exact g1122
def I_l1147 : List AI := [(.aload_n 1, 1, [], 0), (.aload_n 0, 1, [], 0), (.iload 4, 2, [], 0), (.iconst 1, 1, [], 1), (.iadd, 1, [], 0), (.iaload, 1, [], 0), (.aload_n 0, 1, [], 0), (.iload 4, 2, [], 0), (.iconst 2, 1, [], 2), (.iadd, 1, [], 0), (.iaload, 1, [], 0), (.invokevirtual 147, 3, [1, 143, 3, 6, 1009], 0), (.aload_n 2, 1, [], 0), (.aload_n 0, 1, [], 0), (.iload 4, 2, [], 0), (.iconst 1, 1, [], 1), (.iadd, 1, [], 0), (.iaload, 1, [], 0), (.aload_n 0, 1, [], 0), (.iload 4, 2, [], 0), (.iconst 2, 1, [], 2), (.iadd, 1, [], 0), (.iaload, 1, [], 0), (.invokevirtual 150, 3, [1, 300, 3, 8, 1951], 0), (.if_icmp .eq 766, 3, [1945], 0), (.iconst 0, 1, [], 0), (.ireturn, 1, [], 0)]
theorem ok_l1147 : vBL MT qLen qCh true 14 522 7 "ShadowPagerLaw" "law" code 0 1147 I_l1147 = true := by decide +kernel
set_option maxRecDepth 100000 in
theorem lc_31 {l : Launch} {D : va_G} {dA : Nat → ClassId} {z : Nat} {sa : Nat → Nat} {Hz : Heap} {L c : Nat} {xs : Nat → Int32} {G : Nat → LA → List Value → AH → Prop} {h : AH} {W : WD} (hC : Clos l D dA z sa Hz L xs G) (hL : L ≤ 3072) (h6 : 6 * c + 6 ≤ L) (hI : IN h W c) (nxt : ∀ h' W', IN h' W' (c + 1) → G 1945 (laC c) [] h') : G 1147 (laC c) [] h := by
  obtain ⟨r, h1, h2, W', e1, e2, t2, hI2⟩ := tw_sweep (xs (6 * c + 1)) (xs (6 * c + 2)) h W c (by omega) hI
  obtain ⟨FI, hF, f1, f2⟩ := two_FI (n1 := 143) (n2 := 300) (c_X7_sweep str_ok e1) (c_X9_sweep str_ok e2) (by decide)
  have t1 := hI.t1
  have g1147 : G 1147 (laC c) [] h := by
    refine hC.2 FI fV0 fL0 I_l1147 0 1147 _ _ _ hF fv_0 fl_0 ?_ ok_l1147
    show (sld L xs (ic (6 * c) + (1 : Int32)) (fun w129 => sld L xs (ic (6 * c) + (2 : Int32)) (fun w130 => if (tg h 1).1 = 6 then (FI 143 [.ref 1, .int w129, .int w130] h).bind (fun q131 => sld L xs (ic (6 * c) + (1 : Int32)) (fun w132 => sld L xs (ic (6 * c) + (2 : Int32)) (fun w133 => if (tg q131.2 217).1 = 8 then (FI 300 [.ref 217, .int w132, .int w133] q131.2).bind (fun q134 => if q131.1 = q134.1 then KG G 1945 (laC c) [] q134.2 else rtQ (some (.int ((0 : Int32)))) q134.2) else none))) else none))) = some ()
    simp only [sld_1 h6 hL, sld_2 h6 hL, sld_3 h6 hL, sld_4 h6 hL, sld_5 h6 hL, t1, t2, f1, f2, Option.bind_some, if_true, lcmp_rr]
    exact KG_of (nxt h2 W' hI2)
  exact g1147
def I_l1184 : List AI := [(.aload_n 1, 1, [], 0), (.aload_n 0, 1, [], 0), (.iload 4, 2, [], 0), (.iconst 1, 1, [], 1), (.iadd, 1, [], 0), (.iaload, 1, [], 0), (.aload_n 0, 1, [], 0), (.iload 4, 2, [], 0), (.iconst 2, 1, [], 2), (.iadd, 1, [], 0), (.iaload, 1, [], 0), (.invokevirtual 151, 3, [1, 147, 3, 6, 1027], 0), (.aload_n 2, 1, [], 0), (.aload_n 0, 1, [], 0), (.iload 4, 2, [], 0), (.iconst 1, 1, [], 1), (.iadd, 1, [], 0), (.iaload, 1, [], 0), (.aload_n 0, 1, [], 0), (.iload 4, 2, [], 0), (.iconst 2, 1, [], 2), (.iadd, 1, [], 0), (.iaload, 1, [], 0), (.invokevirtual 154, 3, [1, 303, 3, 8, 1955], 0), (.if_icmp .eq 729, 3, [1945], 0), (.iconst 0, 1, [], 0), (.ireturn, 1, [], 0)]
theorem ok_l1184 : vBL MT qLen qCh true 14 522 7 "ShadowPagerLaw" "law" code 0 1184 I_l1184 = true := by decide +kernel
set_option maxRecDepth 100000 in
theorem lc_32 {l : Launch} {D : va_G} {dA : Nat → ClassId} {z : Nat} {sa : Nat → Nat} {Hz : Heap} {L c : Nat} {xs : Nat → Int32} {G : Nat → LA → List Value → AH → Prop} {h : AH} {W : WD} (hC : Clos l D dA z sa Hz L xs G) (hL : L ≤ 3072) (h6 : 6 * c + 6 ≤ L) (hI : IN h W c) (nxt : ∀ h' W', IN h' W' (c + 1) → G 1945 (laC c) [] h') : G 1184 (laC c) [] h := by
  obtain ⟨r, h1, h2, W', e1, e2, t2, hI2⟩ := tw_drawnFaults (xs (6 * c + 1)) (xs (6 * c + 2)) h W c (by omega) hI
  obtain ⟨FI, hF, f1, f2⟩ := two_FI (n1 := 147) (n2 := 303) (c_X7_drawnFaults str_ok e1) (c_X9_drawnFaults str_ok e2) (by decide)
  have t1 := hI.t1
  have g1184 : G 1184 (laC c) [] h := by
    refine hC.2 FI fV0 fL0 I_l1184 0 1184 _ _ _ hF fv_0 fl_0 ?_ ok_l1184
    show (sld L xs (ic (6 * c) + (1 : Int32)) (fun w135 => sld L xs (ic (6 * c) + (2 : Int32)) (fun w136 => if (tg h 1).1 = 6 then (FI 147 [.ref 1, .int w135, .int w136] h).bind (fun q137 => sld L xs (ic (6 * c) + (1 : Int32)) (fun w138 => sld L xs (ic (6 * c) + (2 : Int32)) (fun w139 => if (tg q137.2 217).1 = 8 then (FI 303 [.ref 217, .int w138, .int w139] q137.2).bind (fun q140 => if q137.1 = q140.1 then KG G 1945 (laC c) [] q140.2 else rtQ (some (.int ((0 : Int32)))) q140.2) else none))) else none))) = some ()
    simp only [sld_1 h6 hL, sld_2 h6 hL, sld_3 h6 hL, sld_4 h6 hL, sld_5 h6 hL, t1, t2, f1, f2, Option.bind_some, if_true, lcmp_rr]
    exact KG_of (nxt h2 W' hI2)
  exact g1184
def I_l1221 : List AI := [(.aload_n 1, 1, [], 0), (.aload_n 0, 1, [], 0), (.iload 4, 2, [], 0), (.iconst 1, 1, [], 1), (.iadd, 1, [], 0), (.iaload, 1, [], 0), (.aload_n 0, 1, [], 0), (.iload 4, 2, [], 0), (.iconst 2, 1, [], 2), (.iadd, 1, [], 0), (.iaload, 1, [], 0), (.invokevirtual 155, 3, [1, 148, 3, 6, 1044], 0), (.aload_n 2, 1, [], 0), (.aload_n 0, 1, [], 0), (.iload 4, 2, [], 0), (.iconst 1, 1, [], 1), (.iadd, 1, [], 0), (.iaload, 1, [], 0), (.aload_n 0, 1, [], 0), (.iload 4, 2, [], 0), (.iconst 2, 1, [], 2), (.iadd, 1, [], 0), (.iaload, 1, [], 0), (.invokevirtual 158, 3, [1, 304, 3, 8, 1971], 0), (.if_icmp .eq 692, 3, [1945], 0), (.iconst 0, 1, [], 0), (.ireturn, 1, [], 0)]
theorem ok_l1221 : vBL MT qLen qCh true 14 522 7 "ShadowPagerLaw" "law" code 0 1221 I_l1221 = true := by decide +kernel
set_option maxRecDepth 100000 in
theorem lc_33 {l : Launch} {D : va_G} {dA : Nat → ClassId} {z : Nat} {sa : Nat → Nat} {Hz : Heap} {L c : Nat} {xs : Nat → Int32} {G : Nat → LA → List Value → AH → Prop} {h : AH} {W : WD} (hC : Clos l D dA z sa Hz L xs G) (hL : L ≤ 3072) (h6 : 6 * c + 6 ≤ L) (hI : IN h W c) (nxt : ∀ h' W', IN h' W' (c + 1) → G 1945 (laC c) [] h') : G 1221 (laC c) [] h := by
  obtain ⟨r, h1, h2, W', e1, e2, t2, hI2⟩ := tw_drawnMarks (xs (6 * c + 1)) (xs (6 * c + 2)) h W c (by omega) hI
  obtain ⟨FI, hF, f1, f2⟩ := two_FI (n1 := 148) (n2 := 304) (c_X7_drawnMarks str_ok e1) (c_X9_drawnMarks str_ok e2) (by decide)
  have t1 := hI.t1
  have g1221 : G 1221 (laC c) [] h := by
    refine hC.2 FI fV0 fL0 I_l1221 0 1221 _ _ _ hF fv_0 fl_0 ?_ ok_l1221
    show (sld L xs (ic (6 * c) + (1 : Int32)) (fun w141 => sld L xs (ic (6 * c) + (2 : Int32)) (fun w142 => if (tg h 1).1 = 6 then (FI 148 [.ref 1, .int w141, .int w142] h).bind (fun q143 => sld L xs (ic (6 * c) + (1 : Int32)) (fun w144 => sld L xs (ic (6 * c) + (2 : Int32)) (fun w145 => if (tg q143.2 217).1 = 8 then (FI 304 [.ref 217, .int w144, .int w145] q143.2).bind (fun q146 => if q143.1 = q146.1 then KG G 1945 (laC c) [] q146.2 else rtQ (some (.int ((0 : Int32)))) q146.2) else none))) else none))) = some ()
    simp only [sld_1 h6 hL, sld_2 h6 hL, sld_3 h6 hL, sld_4 h6 hL, sld_5 h6 hL, t1, t2, f1, f2, Option.bind_some, if_true, lcmp_rr]
    exact KG_of (nxt h2 W' hI2)
  exact g1221
def I_l1258 : List AI := [(.aload_n 1, 1, [], 0), (.aload_n 0, 1, [], 0), (.iload 4, 2, [], 0), (.iconst 1, 1, [], 1), (.iadd, 1, [], 0), (.iaload, 1, [], 0), (.ifCond .eq 7, 3, [1272], 0), (.iconst 1, 1, [], 1), (.goto 4, 3, [1273], 0)]
theorem ok_l1258 : vBL MT qLen qCh true 14 522 7 "ShadowPagerLaw" "law" code 0 1258 I_l1258 = true := by decide +kernel
theorem ok_l1272 : vBL MT qLen qCh true 14 522 7 "ShadowPagerLaw" "law" code 1273 1272 [(.iconst 0, 1, [], 0)] = true := by decide +kernel
def I_l1273 : List AI := [(.invokevirtual 159, 3, [3, 150, 2, 6, 1048], 0), (.aload_n 2, 1, [], 0), (.aload_n 0, 1, [], 0), (.iload 4, 2, [], 0), (.iconst 1, 1, [], 1), (.iadd, 1, [], 0), (.iaload, 1, [], 0), (.ifCond .eq 7, 3, [1290], 0), (.iconst 1, 1, [], 1), (.goto 4, 3, [1291], 0)]
theorem ok_l1273 : vBL MT qLen qCh true 14 522 7 "ShadowPagerLaw" "law" code 0 1273 I_l1273 = true := by decide +kernel
theorem ok_l1290 : vBL MT qLen qCh true 14 522 7 "ShadowPagerLaw" "law" code 1291 1290 [(.iconst 0, 1, [], 0)] = true := by decide +kernel
def I_l1291 : List AI := [(.invokevirtual 163, 3, [3, 307, 2, 8, 1975], 0), (.lcmp, 1, [], 0), (.ifCond .eq 650, 3, [1945], 0), (.iconst 0, 1, [], 0), (.ireturn, 1, [], 0)]
theorem ok_l1291 : vBL MT qLen qCh true 14 522 7 "ShadowPagerLaw" "law" code 0 1291 I_l1291 = true := by decide +kernel
set_option maxRecDepth 100000 in
theorem lc_34 {l : Launch} {D : va_G} {dA : Nat → ClassId} {z : Nat} {sa : Nat → Nat} {Hz : Heap} {L c : Nat} {xs : Nat → Int32} {G : Nat → LA → List Value → AH → Prop} {h : AH} {W : WD} (hC : Clos l D dA z sa Hz L xs G) (hL : L ≤ 3072) (h6 : 6 * c + 6 ≤ L) (hI : IN h W c) (nxt : ∀ h' W', IN h' W' (c + 1) → G 1945 (laC c) [] h') : G 1258 (laC c) [] h := by
  obtain ⟨r, h1, h2, W', e1, e2, t2, hI2⟩ := tw_rate (decide (xs (6 * c + 1) ≠ 0)) h W c (by omega) hI
  obtain ⟨FL, hF, f1, f2⟩ := two_FL (n1 := 150) (n2 := 307) (c_X7_rate str_ok e1) (c_X9_rate str_ok e2) (by decide)
  have t1 := hI.t1
  have g1291 : G 1291 (laC c) [.int (bi (decide (xs (6 * c + 1) ≠ 0))), .ref 217, .long r] h1 := by
    refine hC.2 fI0 fV0 FL I_l1291 0 1291 _ _ _ fi_0 fv_0 hF ?_ ok_l1291
    show (if (tg h1 217).1 = 8 then (FL 307 [.ref 217, .int (bi (decide (xs (6 * c + 1) ≠ 0)))] h1).bind (fun q147 => if (lg_cmp r q147.1) = 0 then KG G 1945 (laC c) [] q147.2 else rtQ (some (.int ((0 : Int32)))) q147.2) else none) = some ()
    simp only [sld_1 h6 hL, sld_2 h6 hL, sld_3 h6 hL, sld_4 h6 hL, sld_5 h6 hL, t1, t2, f1, f2, Option.bind_some, if_true, lcmp_rr]
    exact KG_of (nxt h2 W' hI2)
  have g1273 : G 1273 (laC c) [.int (bi (decide (xs (6 * c + 1) ≠ 0))), .ref 1] h := by
    refine hC.2 fI0 fV0 FL I_l1273 0 1273 _ _ _ fi_0 fv_0 hF ?_ ok_l1273
    show (if (tg h 1).1 = 6 then (FL 150 [.ref 1, .int (bi (decide (xs (6 * c + 1) ≠ 0)))] h).bind (fun q148 => sld L xs (ic (6 * c) + (1 : Int32)) (fun w149 => if w149 = 0 then KG G 1290 (laC c) [.ref 217, .long q148.1] q148.2 else KG G 1291 (laC c) [.int ((1 : Int32)), .ref 217, .long q148.1] q148.2)) else none) = some ()
    simp only [sld_1 h6 hL, sld_2 h6 hL, sld_3 h6 hL, sld_4 h6 hL, sld_5 h6 hL, t1, t2, f1, f2, Option.bind_some, if_true, lcmp_rr]
    exact tern hC ok_l1290 g1291
  have g1258 : G 1258 (laC c) [] h := by
    refine hC.2 fI0 fV0 FL I_l1258 0 1258 _ _ _ fi_0 fv_0 hF ?_ ok_l1258
    show (sld L xs (ic (6 * c) + (1 : Int32)) (fun w150 => if w150 = 0 then KG G 1272 (laC c) [.ref 1] h else KG G 1273 (laC c) [.int ((1 : Int32)), .ref 1] h)) = some ()
    simp only [sld_1 h6 hL, sld_2 h6 hL, sld_3 h6 hL, sld_4 h6 hL, sld_5 h6 hL, t1, t2, f1, f2, Option.bind_some, if_true, lcmp_rr]
    exact tern hC ok_l1272 g1273
  exact g1258
def I_l1300 : List AI := [(.aload_n 1, 1, [], 0), (.invokevirtual 164, 3, [1, 155, 1, 6, 1055], 0), (.aload_n 2, 1, [], 0), (.invokevirtual 167, 3, [1, 310, 1, 8, 1986], 0), (.if_icmp .eq 637, 3, [1945], 0), (.iconst 0, 1, [], 0), (.ireturn, 1, [], 0)]
theorem ok_l1300 : vBL MT qLen qCh true 14 522 7 "ShadowPagerLaw" "law" code 0 1300 I_l1300 = true := by decide +kernel
set_option maxRecDepth 100000 in
theorem lc_35 {l : Launch} {D : va_G} {dA : Nat → ClassId} {z : Nat} {sa : Nat → Nat} {Hz : Heap} {L c : Nat} {xs : Nat → Int32} {G : Nat → LA → List Value → AH → Prop} {h : AH} {W : WD} (hC : Clos l D dA z sa Hz L xs G) (hL : L ≤ 3072) (h6 : 6 * c + 6 ≤ L) (hI : IN h W c) (nxt : ∀ h' W', IN h' W' (c + 1) → G 1945 (laC c) [] h') : G 1300 (laC c) [] h := by
  obtain ⟨r, h1, h2, W', e1, e2, t2, hI2⟩ := tw_fits h W c (by omega) hI
  obtain ⟨FI, hF, f1, f2⟩ := two_FI (n1 := 155) (n2 := 310) (c_X7_fits str_ok e1) (c_X9_fits str_ok e2) (by decide)
  have t1 := hI.t1
  have g1300 : G 1300 (laC c) [] h := by
    refine hC.2 FI fV0 fL0 I_l1300 0 1300 _ _ _ hF fv_0 fl_0 ?_ ok_l1300
    show (if (tg h 1).1 = 6 then (FI 155 [.ref 1] h).bind (fun q151 => if (tg q151.2 217).1 = 8 then (FI 310 [.ref 217] q151.2).bind (fun q152 => if q151.1 = q152.1 then KG G 1945 (laC c) [] q152.2 else rtQ (some (.int ((0 : Int32)))) q152.2) else none) else none) = some ()
    simp only [sld_1 h6 hL, sld_2 h6 hL, sld_3 h6 hL, sld_4 h6 hL, sld_5 h6 hL, t1, t2, f1, f2, Option.bind_some, if_true, lcmp_rr]
    exact KG_of (nxt h2 W' hI2)
  exact g1300
def I_l1313 : List AI := [(.aload_n 1, 1, [], 0), (.aload_n 0, 1, [], 0), (.iload 4, 2, [], 0), (.iconst 1, 1, [], 1), (.iadd, 1, [], 0), (.iaload, 1, [], 0), (.invokevirtual 168, 3, [1, 157, 2, 6, 1080], 0), (.aload_n 2, 1, [], 0), (.aload_n 0, 1, [], 0), (.iload 4, 2, [], 0), (.iconst 1, 1, [], 1), (.iadd, 1, [], 0), (.iaload, 1, [], 0), (.invokevirtual 171, 3, [1, 311, 2, 8, 1998], 0), (.if_icmp .eq 612, 3, [1945], 0), (.iconst 0, 1, [], 0), (.ireturn, 1, [], 0)]
theorem ok_l1313 : vBL MT qLen qCh true 14 522 7 "ShadowPagerLaw" "law" code 0 1313 I_l1313 = true := by decide +kernel
set_option maxRecDepth 100000 in
theorem lc_36 {l : Launch} {D : va_G} {dA : Nat → ClassId} {z : Nat} {sa : Nat → Nat} {Hz : Heap} {L c : Nat} {xs : Nat → Int32} {G : Nat → LA → List Value → AH → Prop} {h : AH} {W : WD} (hC : Clos l D dA z sa Hz L xs G) (hL : L ≤ 3072) (h6 : 6 * c + 6 ≤ L) (hI : IN h W c) (nxt : ∀ h' W', IN h' W' (c + 1) → G 1945 (laC c) [] h') : G 1313 (laC c) [] h := by
  obtain ⟨r, h1, h2, W', e1, e2, t2, hI2⟩ := tw_fitAt (xs (6 * c + 1)) h W c (by omega) hI
  obtain ⟨FI, hF, f1, f2⟩ := two_FI (n1 := 157) (n2 := 311) (c_X7_fitAt str_ok e1) (c_X9_fitAt str_ok e2) (by decide)
  have t1 := hI.t1
  have g1313 : G 1313 (laC c) [] h := by
    refine hC.2 FI fV0 fL0 I_l1313 0 1313 _ _ _ hF fv_0 fl_0 ?_ ok_l1313
    show (sld L xs (ic (6 * c) + (1 : Int32)) (fun w153 => if (tg h 1).1 = 6 then (FI 157 [.ref 1, .int w153] h).bind (fun q154 => sld L xs (ic (6 * c) + (1 : Int32)) (fun w155 => if (tg q154.2 217).1 = 8 then (FI 311 [.ref 217, .int w155] q154.2).bind (fun q156 => if q154.1 = q156.1 then KG G 1945 (laC c) [] q156.2 else rtQ (some (.int ((0 : Int32)))) q156.2) else none)) else none)) = some ()
    simp only [sld_1 h6 hL, sld_2 h6 hL, sld_3 h6 hL, sld_4 h6 hL, sld_5 h6 hL, t1, t2, f1, f2, Option.bind_some, if_true, lcmp_rr]
    exact KG_of (nxt h2 W' hI2)
  exact g1313
def I_l1338 : List AI := [(.aload_n 1, 1, [], 0), (.invokevirtual 172, 3, [1, 159, 1, 6, 1088], 0), (.aload_n 2, 1, [], 0), (.invokevirtual 175, 3, [1, 312, 1, 8, 2002], 0), (.if_icmp .eq 599, 3, [1945], 0), (.iconst 0, 1, [], 0), (.ireturn, 1, [], 0)]
theorem ok_l1338 : vBL MT qLen qCh true 14 522 7 "ShadowPagerLaw" "law" code 0 1338 I_l1338 = true := by decide +kernel
set_option maxRecDepth 100000 in
theorem lc_37 {l : Launch} {D : va_G} {dA : Nat → ClassId} {z : Nat} {sa : Nat → Nat} {Hz : Heap} {L c : Nat} {xs : Nat → Int32} {G : Nat → LA → List Value → AH → Prop} {h : AH} {W : WD} (hC : Clos l D dA z sa Hz L xs G) (hL : L ≤ 3072) (h6 : 6 * c + 6 ≤ L) (hI : IN h W c) (nxt : ∀ h' W', IN h' W' (c + 1) → G 1945 (laC c) [] h') : G 1338 (laC c) [] h := by
  obtain ⟨r, h1, h2, W', e1, e2, t2, hI2⟩ := tw_could h W c (by omega) hI
  obtain ⟨FI, hF, f1, f2⟩ := two_FI (n1 := 159) (n2 := 312) (c_X7_could str_ok e1) (c_X9_could str_ok e2) (by decide)
  have t1 := hI.t1
  have g1338 : G 1338 (laC c) [] h := by
    refine hC.2 FI fV0 fL0 I_l1338 0 1338 _ _ _ hF fv_0 fl_0 ?_ ok_l1338
    show (if (tg h 1).1 = 6 then (FI 159 [.ref 1] h).bind (fun q157 => if (tg q157.2 217).1 = 8 then (FI 312 [.ref 217] q157.2).bind (fun q158 => if q157.1 = q158.1 then KG G 1945 (laC c) [] q158.2 else rtQ (some (.int ((0 : Int32)))) q158.2) else none) else none) = some ()
    simp only [sld_1 h6 hL, sld_2 h6 hL, sld_3 h6 hL, sld_4 h6 hL, sld_5 h6 hL, t1, t2, f1, f2, Option.bind_some, if_true, lcmp_rr]
    exact KG_of (nxt h2 W' hI2)
  exact g1338
def I_l1351 : List AI := [(.aload_n 1, 1, [], 0), (.invokevirtual 176, 3, [1, 161, 1, 6, 1095], 0), (.aload_n 2, 1, [], 0), (.invokevirtual 179, 3, [1, 313, 1, 8, 2006], 0), (.if_icmp .eq 586, 3, [1945], 0), (.iconst 0, 1, [], 0), (.ireturn, 1, [], 0)]
theorem ok_l1351 : vBL MT qLen qCh true 14 522 7 "ShadowPagerLaw" "law" code 0 1351 I_l1351 = true := by decide +kernel
set_option maxRecDepth 100000 in
theorem lc_38 {l : Launch} {D : va_G} {dA : Nat → ClassId} {z : Nat} {sa : Nat → Nat} {Hz : Heap} {L c : Nat} {xs : Nat → Int32} {G : Nat → LA → List Value → AH → Prop} {h : AH} {W : WD} (hC : Clos l D dA z sa Hz L xs G) (hL : L ≤ 3072) (h6 : 6 * c + 6 ≤ L) (hI : IN h W c) (nxt : ∀ h' W', IN h' W' (c + 1) → G 1945 (laC c) [] h') : G 1351 (laC c) [] h := by
  obtain ⟨r, h1, h2, W', e1, e2, t2, hI2⟩ := tw_surely h W c (by omega) hI
  obtain ⟨FI, hF, f1, f2⟩ := two_FI (n1 := 161) (n2 := 313) (c_X7_surely str_ok e1) (c_X9_surely str_ok e2) (by decide)
  have t1 := hI.t1
  have g1351 : G 1351 (laC c) [] h := by
    refine hC.2 FI fV0 fL0 I_l1351 0 1351 _ _ _ hF fv_0 fl_0 ?_ ok_l1351
    show (if (tg h 1).1 = 6 then (FI 161 [.ref 1] h).bind (fun q159 => if (tg q159.2 217).1 = 8 then (FI 313 [.ref 217] q159.2).bind (fun q160 => if q159.1 = q160.1 then KG G 1945 (laC c) [] q160.2 else rtQ (some (.int ((0 : Int32)))) q160.2) else none) else none) = some ()
    simp only [sld_1 h6 hL, sld_2 h6 hL, sld_3 h6 hL, sld_4 h6 hL, sld_5 h6 hL, t1, t2, f1, f2, Option.bind_some, if_true, lcmp_rr]
    exact KG_of (nxt h2 W' hI2)
  exact g1351
def I_l1364 : List AI := [(.aload_n 1, 1, [], 0), (.invokevirtual 180, 3, [1, 164, 1, 6, 1102], 0), (.aload_n 2, 1, [], 0), (.invokevirtual 183, 3, [1, 315, 1, 8, 2010], 0), (.if_icmp .eq 573, 3, [1945], 0), (.iconst 0, 1, [], 0), (.ireturn, 1, [], 0)]
theorem ok_l1364 : vBL MT qLen qCh true 14 522 7 "ShadowPagerLaw" "law" code 0 1364 I_l1364 = true := by decide +kernel
set_option maxRecDepth 100000 in
theorem lc_39 {l : Launch} {D : va_G} {dA : Nat → ClassId} {z : Nat} {sa : Nat → Nat} {Hz : Heap} {L c : Nat} {xs : Nat → Int32} {G : Nat → LA → List Value → AH → Prop} {h : AH} {W : WD} (hC : Clos l D dA z sa Hz L xs G) (hL : L ≤ 3072) (h6 : 6 * c + 6 ≤ L) (hI : IN h W c) (nxt : ∀ h' W', IN h' W' (c + 1) → G 1945 (laC c) [] h') : G 1364 (laC c) [] h := by
  obtain ⟨r, h1, h2, W', e1, e2, t2, hI2⟩ := tw_ask h W c (by omega) hI
  obtain ⟨FI, hF, f1, f2⟩ := two_FI (n1 := 164) (n2 := 315) (c_X7_ask str_ok e1) (c_X9_ask str_ok e2) (by decide)
  have t1 := hI.t1
  have g1364 : G 1364 (laC c) [] h := by
    refine hC.2 FI fV0 fL0 I_l1364 0 1364 _ _ _ hF fv_0 fl_0 ?_ ok_l1364
    show (if (tg h 1).1 = 6 then (FI 164 [.ref 1] h).bind (fun q161 => if (tg q161.2 217).1 = 8 then (FI 315 [.ref 217] q161.2).bind (fun q162 => if q161.1 = q162.1 then KG G 1945 (laC c) [] q162.2 else rtQ (some (.int ((0 : Int32)))) q162.2) else none) else none) = some ()
    simp only [sld_1 h6 hL, sld_2 h6 hL, sld_3 h6 hL, sld_4 h6 hL, sld_5 h6 hL, t1, t2, f1, f2, Option.bind_some, if_true, lcmp_rr]
    exact KG_of (nxt h2 W' hI2)
  exact g1364
def I_l1377 : List AI := [(.aload_n 1, 1, [], 0), (.invokevirtual 184, 3, [1, 165, 1, 6, 1117], 0), (.aload_n 2, 1, [], 0), (.invokevirtual 187, 3, [1, 316, 1, 8, 2018], 0), (.if_icmp .eq 560, 3, [1945], 0), (.iconst 0, 1, [], 0), (.ireturn, 1, [], 0)]
theorem ok_l1377 : vBL MT qLen qCh true 14 522 7 "ShadowPagerLaw" "law" code 0 1377 I_l1377 = true := by decide +kernel
set_option maxRecDepth 100000 in
theorem lc_40 {l : Launch} {D : va_G} {dA : Nat → ClassId} {z : Nat} {sa : Nat → Nat} {Hz : Heap} {L c : Nat} {xs : Nat → Int32} {G : Nat → LA → List Value → AH → Prop} {h : AH} {W : WD} (hC : Clos l D dA z sa Hz L xs G) (hL : L ≤ 3072) (h6 : 6 * c + 6 ≤ L) (hI : IN h W c) (nxt : ∀ h' W', IN h' W' (c + 1) → G 1945 (laC c) [] h') : G 1377 (laC c) [] h := by
  obtain ⟨r, h1, h2, W', e1, e2, t2, hI2⟩ := tw_askLeaves h W c (by omega) hI
  obtain ⟨FI, hF, f1, f2⟩ := two_FI (n1 := 165) (n2 := 316) (c_X7_askLeaves str_ok e1) (c_X9_askLeaves str_ok e2) (by decide)
  have t1 := hI.t1
  have g1377 : G 1377 (laC c) [] h := by
    refine hC.2 FI fV0 fL0 I_l1377 0 1377 _ _ _ hF fv_0 fl_0 ?_ ok_l1377
    show (if (tg h 1).1 = 6 then (FI 165 [.ref 1] h).bind (fun q163 => if (tg q163.2 217).1 = 8 then (FI 316 [.ref 217] q163.2).bind (fun q164 => if q163.1 = q164.1 then KG G 1945 (laC c) [] q164.2 else rtQ (some (.int ((0 : Int32)))) q164.2) else none) else none) = some ()
    simp only [sld_1 h6 hL, sld_2 h6 hL, sld_3 h6 hL, sld_4 h6 hL, sld_5 h6 hL, t1, t2, f1, f2, Option.bind_some, if_true, lcmp_rr]
    exact KG_of (nxt h2 W' hI2)
  exact g1377
def I_l1390 : List AI := [(.aload_n 1, 1, [], 0), (.invokevirtual 188, 3, [1, 166, 1, 6, 1122], 0), (.aload_n 2, 1, [], 0), (.invokevirtual 191, 3, [1, 317, 1, 8, 2022], 0), (.if_icmp .eq 547, 3, [1945], 0), (.iconst 0, 1, [], 0), (.ireturn, 1, [], 0)]
theorem ok_l1390 : vBL MT qLen qCh true 14 522 7 "ShadowPagerLaw" "law" code 0 1390 I_l1390 = true := by decide +kernel
set_option maxRecDepth 100000 in
theorem lc_41 {l : Launch} {D : va_G} {dA : Nat → ClassId} {z : Nat} {sa : Nat → Nat} {Hz : Heap} {L c : Nat} {xs : Nat → Int32} {G : Nat → LA → List Value → AH → Prop} {h : AH} {W : WD} (hC : Clos l D dA z sa Hz L xs G) (hL : L ≤ 3072) (h6 : 6 * c + 6 ≤ L) (hI : IN h W c) (nxt : ∀ h' W', IN h' W' (c + 1) → G 1945 (laC c) [] h') : G 1390 (laC c) [] h := by
  obtain ⟨r, h1, h2, W', e1, e2, t2, hI2⟩ := tw_judge h W c (by omega) hI
  obtain ⟨FI, hF, f1, f2⟩ := two_FI (n1 := 166) (n2 := 317) (c_X7_judge str_ok e1) (c_X9_judge str_ok e2) (by decide)
  have t1 := hI.t1
  have g1390 : G 1390 (laC c) [] h := by
    refine hC.2 FI fV0 fL0 I_l1390 0 1390 _ _ _ hF fv_0 fl_0 ?_ ok_l1390
    show (if (tg h 1).1 = 6 then (FI 166 [.ref 1] h).bind (fun q165 => if (tg q165.2 217).1 = 8 then (FI 317 [.ref 217] q165.2).bind (fun q166 => if q165.1 = q166.1 then KG G 1945 (laC c) [] q166.2 else rtQ (some (.int ((0 : Int32)))) q166.2) else none) else none) = some ()
    simp only [sld_1 h6 hL, sld_2 h6 hL, sld_3 h6 hL, sld_4 h6 hL, sld_5 h6 hL, t1, t2, f1, f2, Option.bind_some, if_true, lcmp_rr]
    exact KG_of (nxt h2 W' hI2)
  exact g1390
