/-! THE CLAIM OUT OF ONE WALK OF THE LAW'S BODY. Your part is whole_start (and what it stands on); all else here is the same for every law, but numbers. -/
def R_law : String := "ShadowPagerLaw"
def lw_P (b : Addr) (xs : List Int32) (args : Array Value) (s : State) : Prop := args = #[.ref b] ∧ s.IntsAt b xs ∧ xs.length ≤ 3072 ∧ (Jvm.Cond.and given_1 narrow_1).before args s = true
def lw_Q (_ : Array Value) (s : State) (o : Outcome) (t : State) : Prop := o = .returned (some (.int 1)) ∧ Framed s o t [] 601024 7293034
def lw_Z (below : List Frame) (a : Array Value) (s : State) : State → Prop := fun t => ∃ o, t.status = .running ∧ Ended t below o ∧ lw_Q a s o t
/-- the law's own end, with 1 on the stack, nothing written that was there before, its room as the claim has it -/
theorem lw_ret {p : Program} {l : Launch} {e : Env} {s : State} {m : MethodId} {below : List Frame} {meth : Method} {c : Code} {b : Nat} (hx : p.tables.exec = Jvm.exec) (hb : c.code = code) (hr : meth.sig.returnType = ret) (hlocks : meth.locks = false) {pc : Nat} {H : Heap} {ls : Array Slot} (hdg : decode code pc = .ok (.ireturn, 1)) : W p l e room_1 s m #[Value.ref b] below meth c H [] 601024 7293034 (lw_Z below #[Value.ref b] s) (F0 m pc ls [.int 1]) := by
  intro T hT X
  obtain ⟨fs, hret, hrun, hended, hW, hframe⟩ := X.leave (v := some (.int 1)) (hlocks := hlocks) (fun h => by rw [hr] at h; cases h)
  have hmeth' : T.vm.method? m = some meth := X.method'
  refine ⟨T.setFrames fs, ?_, .returned (some (.int 1)), hrun, hended, rfl, ⟨_, rfl⟩, hW, hframe⟩
  jvm_step X.here [X.here.top, hx, hb, hdg, hmeth', hr, ret, narrow_b1]
  (try refine ⟨rfl, ?_⟩); (try refine ⟨rfl, ?_⟩)
  first | (intro acts; rw [hret _ acts rfl rfl rfl]) | rw [hret _ _ rfl rfl rfl]
  exact Steps.refl _
/-- what holds at the law's entry: the machine, the code, the tables' words (any of lw_tbl by 'hts w (by decide +kernel)'), the script of L ints xs at the cell b, what the Statement gives of the start (any of its parts by flat_of_before) -/
def lw_At (p : Program) (s : State) (m : MethodId) (meth : Method) (c : Code) (b L : Nat) (xs : Nat → Int32) : Prop :=
  p.tables.exec = Jvm.exec ∧ c.code = code ∧ meth.sig.returnType = ret ∧ c.maxLocals = 7 ∧ s.vm.findClass R_law = some m.cls ∧ (∀ w ∈ lw_tbl, w.before #[Value.ref b] s = true) ∧ va_X b L xs s s.heap ∧ b < s.heap.size ∧ meth.locks = false ∧ (Jvm.Cond.and given_1 narrow_1).before #[Value.ref b] s = true
/-! ===== the law's walk: stretches over the pure side ===== -/
def FIN : AH := ((601025, 7293034), (fun _ => (999, 0)), (fun _ _ => 0), (fun _ _ => 0), (fun _ _ => 0))
noncomputable def KG (G : Nat → LA → List Value → AH → Prop) : Nat → LA → List Value → AH → Option Unit := fun t la st h => @ite _ (G t la st h) (Classical.propDecidable _) (some ()) none
section KGS
variable {G : Nat → LA → List Value → AH → Prop} {t : Nat} {la : LA} {st : List Value} {h : AH}
theorem KG_of (g : G t la st h) : KG G t la st h = some () := if_pos g
theorem KG_inv (e : KG G t la st h = some ()) : G t la st h := by
  unfold KG at e
  by_cases g : G t la st h
  · exact g
  · rw [if_neg g] at e; cases e
end KGS
def rtQ (v : Option Value) (h : AH) : Option Unit := match v with
  | some (.int x) => if x = 1 ∧ nx h ≤ nx FIN ∧ us h ≤ us FIN then some () else none
  | _ => none
/-- what a walk of the law stands on -/
def Clos (l : Launch) (D : va_G) (dA : Nat → ClassId) (z : Nat) (sa : Nat → Nat) (Hz : Heap) (L : Nat) (xs : Nat → Int32) (G : Nat → LA → List Value → AH → Prop) : Prop :=
  (∀ pc la la' st h, G pc la' st h → (∀ q ∈ la', q ∈ la) → G pc la st h) ∧
  ∀ (FI : Nat → List Value → AH → Option (Int32 × AH)) (FV : Nat → List Value → AH → Option AH) (FL : Nat → List Value → AH → Option (Int64 × AH)) (is : List AI) (ft pc : Nat) (la : LA) (st : List Value) (h : AH),
    (∀ mi As h x h', FI mi As h = some (x, h') → CalOK l D dA z sa Hz (MT mi) As h (some (.int x)) h') → (∀ mi As h h', FV mi As h = some h' → CalOK l D dA z sa Hz (MT mi) As h none h') → (∀ mi As h x h', FL mi As h = some (x, h') → CalOK l D dA z sa Hz (MT mi) As h (some (.long x)) h') →
    evL (KG G) FI FV FL strLen strCh (L, xs) rtQ ft is la st h = some () → vBL MT qLen qCh true 14 522 7 "ShadowPagerLaw" "law" code ft pc is = true → G pc la st h
theorem clos_of {p : Program} {l : Launch} {e : Env} {s : State} {m : MethodId} {below : List Frame} {meth : Method} {c : Code} {b : Nat} {D : va_G} {dA : Nat → ClassId} {z : Nat} {sa : Nat → Nat} {Hz : Heap} {L : Nat} {xs : Nat → Int32}
    (C : Cx p room_1 s m #[Value.ref b] c code R_law 7 D dA z sa Hz h00 FIN) (hr : meth.sig.returnType = ret) (hlk : meth.locks = false) (hn : meth.name = "law") (hX : va_X (sa 0) L xs s Hz) (hb0 : sa 0 < Hz.size) (hb1 : ¬ Az z (sa 0)) :
    Clos l D dA z sa Hz L xs (fun pc la st h => Gw p l e room_1 s m #[Value.ref b] below meth c (lw_Z below #[Value.ref b] s) 7 D dA z sa Hz h00 FIN pc la st h) := by
  refine ⟨fun pc la la' st h g hl => ⟨g.1, g.2.1, fun H locs cells slots ls hR hS hl2 hc hs => g.2.2 H locs cells slots ls hR hS (lv_fewer hl2 (cvl_sub hl)) hc hs⟩, ?_⟩
  intro FI FV FL is ft pc la st h hFI hFV hFL hev hok
  refine snd (sc := true) (MT := MT) (qL := qLen) (qC := qCh) C glob hMT (fun t la st h e9 => KG_inv e9) hFI hFV hFL (fun k x h e9 => ?_) (fun k i x h e9 => ?_) (fun h => by cases h) (fun _ => ⟨hX, hb0, hb1⟩) (fun v h' ins pc' la' e9 hd hi => ?_) is pc la st h hev (by rw [hn]; exact hok)
  · refine ⟨?_, str_ok.1 k x h e9⟩
    unfold strLen at e9
    exact (ite_some e9).1
  · refine ⟨?_, str_ok.2 k i x h e9⟩
    unfold strCh at e9
    exact (ite_some e9).1.1
  · unfold rtQ at e9
    split at e9
    · rename_i x9
      obtain ⟨⟨rfl, n1, n2⟩, -⟩ := ite_some e9
      rcases hi with ⟨rfl, -⟩ | ⟨-, x, hx⟩ | ⟨-, hx⟩
      · refine ⟨n1, n2, fun H locs cells slots ls hR hS hl hc hs => ?_⟩
        have f1 : nx FIN = 601025 := rfl
        have f2 : us FIN = 7293034 := rfl
        have f3 : nx h00 = 1 := rfl
        have f4 : us h00 = 0 := rfl
        have hs0 := C.2.2.2.2.2.2.1
        refine va_forget (fun q hq => ?_) (W.widen (k := 601024) (n := 7293034) (by omega) (by omega) (lw_ret C.1 C.2.1 hr hlk hd))
        have : z < q.base := hS.2.2 q hq
        omega
      · cases hx
      · cases hx
    · cases e9
/-- the law's locals in its loop -/
abbrev laC (c : Nat) : LA := [(0, .retAddr 0), (1, .ref 1), (2, .ref 217), (3, .ref 224), (4, .int (ic (6 * c)))]
/-- a read of the script -/
def sld (L : Nat) (xs : Nat → Int32) (i : Int32) (k : Int32 → Option Unit) : Option Unit := if (0 : Nat) = 0 ∧ ¬ (i < 0 ∨ L ≤ i.toNatClampNeg) then k (xs i.toNatClampNeg) else none
section SLD
variable {L c : Nat} {xs : Nat → Int32} {k : Int32 → Option Unit}
theorem sld_at {n : Nat} (h : n < L) (hL : L ≤ 3072) : sld L xs (ic n) k = k (xs n) := by
  unfold sld
  rw [ic_clamp (by omega), if_pos ⟨rfl, fun q => by
    rcases q with q | q
    · rw [ic_lt0 (by omega)] at q; exact q
    · omega⟩]
theorem sld_0 (h : 6 * c + 6 ≤ L) (hL : L ≤ 3072) : sld L xs (ic (6 * c)) k = k (xs (6 * c)) := sld_at (by omega) hL
theorem sld_1 (h : 6 * c + 6 ≤ L) (hL : L ≤ 3072) : sld L xs (ic (6 * c) + 1) k = k (xs (6 * c + 1)) := by rw [show ic (6 * c) + 1 = ic (6 * c + 1) from ic_add _ 1]; exact sld_at (by omega) hL
theorem sld_2 (h : 6 * c + 6 ≤ L) (hL : L ≤ 3072) : sld L xs (ic (6 * c) + 2) k = k (xs (6 * c + 2)) := by rw [show ic (6 * c) + 2 = ic (6 * c + 2) from ic_add _ 2]; exact sld_at (by omega) hL
theorem sld_3 (h : 6 * c + 6 ≤ L) (hL : L ≤ 3072) : sld L xs (ic (6 * c) + 3) k = k (xs (6 * c + 3)) := by rw [show ic (6 * c) + 3 = ic (6 * c + 3) from ic_add _ 3]; exact sld_at (by omega) hL
theorem sld_4 (h : 6 * c + 6 ≤ L) (hL : L ≤ 3072) : sld L xs (ic (6 * c) + 4) k = k (xs (6 * c + 4)) := by rw [show ic (6 * c) + 4 = ic (6 * c + 4) from ic_add _ 4]; exact sld_at (by omega) hL
theorem sld_5 (h : 6 * c + 6 ≤ L) (hL : L ≤ 3072) : sld L xs (ic (6 * c) + 5) k = k (xs (6 * c + 5)) := by rw [show ic (6 * c) + 5 = ic (6 * c + 5) from ic_add _ 5]; exact sld_at (by omega) hL
end SLD
theorem IN.t1 {h : AH} {W : WD} {c : Nat} (hI : IN h W c) : (tg h 1).1 = 6 := by
  obtain ⟨S, I, L, ta, tb, a, rfl, H, -⟩ := hI
  show (tT S 1).1 = 6
  rw [H.2.1.1]
theorem IN.t2 {h : AH} {W : WD} {c : Nat} (hI : IN h W c) : (tg h 217).1 = 8 := by
  obtain ⟨S, I, L, ta, tb, a, rfl, H, -⟩ := hI
  show (tT S 217).1 = 8
  rw [H.2.1.2.2.2.2.2.2.2.2.2.2.2.2.2.2.2.1.1]
theorem IN.t3 {h : AH} {W : WD} {c : Nat} (hI : IN h W c) : tg h 224 = (103, 1) := by
  obtain ⟨S, I, L, ta, tb, a, rfl, H, -⟩ := hI
  exact H.2.1.2.2.2.2.2.2.2.2.2.2.2.2.2.2.2.2
theorem IN.room {h : AH} {W : WD} {c : Nat} (hI : IN h W c) (hc : c ≤ 600) : nx h ≤ nx FIN ∧ us h ≤ us FIN := by
  obtain ⟨S, I, L, ta, tb, a, rfl, H, ha, hM, hX, n1, n2, u1⟩ := hI
  have f1 : nx FIN = 601025 := rfl
  have f2 : us FIN = 7293034 := rfl
  have f3 : nx (hp S I L) = nS S := rfl
  have f4 : us (hp S I L) = uS S := rfl
  omega
theorem IN.up {h : AH} {W : WD} {c : Nat} (hI : IN h W c) : IN h W (c + 1) := by
  obtain ⟨S, I, L, ta, tb, a, rfl, H, ha, hM, hX, n1, n2, u1⟩ := hI
  exact ⟨S, I, L, ta, tb, a, rfl, ⟨H.1, H.2.1, H.2.2.1, H.2.2.2.up⟩, ha, hM, hX, n1, by omega, by omega⟩
theorem lcmp_rr {r : Int64} : lg_cmp r r = 0 := by
  unfold lg_cmp
  rw [if_neg (by rw [gt_iff_lt, Int64.lt_iff_toInt_lt]; omega), if_pos rfl]
section CALLS9
variable {l : Launch} {D : va_G} {dA : Nat → ClassId} {z : Nat} {sa : Nat → Nat} {Hz : Heap}
/-- two calls, as a table of calls -/
theorem two_FI {n1 n2 : Nat} {A1 A2 : List Value} {h h1 h2 : AH} {r1 r2 : Int32} (c1 : CalOK l D dA z sa Hz (MT n1) A1 h (some (.int r1)) h1) (c2 : CalOK l D dA z sa Hz (MT n2) A2 h1 (some (.int r2)) h2) (hn : n1 ≠ n2) :
    ∃ FI : Nat → List Value → AH → Option (Int32 × AH), (∀ mi As h x h', FI mi As h = some (x, h') → CalOK l D dA z sa Hz (MT mi) As h (some (.int x)) h') ∧ FI n1 A1 h = some (r1, h1) ∧ FI n2 A2 h1 = some (r2, h2) := by
  refine ⟨fun mi As g => @ite _ (mi = n1 ∧ As = A1 ∧ g = h) (Classical.propDecidable _) (some (r1, h1)) (@ite _ (mi = n2 ∧ As = A2 ∧ g = h1) (Classical.propDecidable _) (some (r2, h2)) none), ?_, if_pos ⟨rfl, rfl, rfl⟩, ?_⟩
  · intro mi As g x h' e
    simp only at e
    split at e
    · rename_i q; obtain ⟨rfl, rfl, rfl⟩ := q; cases e; exact c1
    · split at e
      · rename_i q; obtain ⟨rfl, rfl, rfl⟩ := q; cases e; exact c2
      · cases e
  · exact Eq.trans (if_neg (fun q => hn q.1.symm)) (if_pos ⟨rfl, rfl, rfl⟩)
theorem two_FL {n1 n2 : Nat} {A1 A2 : List Value} {h h1 h2 : AH} {r1 r2 : Int64} (c1 : CalOK l D dA z sa Hz (MT n1) A1 h (some (.long r1)) h1) (c2 : CalOK l D dA z sa Hz (MT n2) A2 h1 (some (.long r2)) h2) (hn : n1 ≠ n2) :
    ∃ FL : Nat → List Value → AH → Option (Int64 × AH), (∀ mi As h x h', FL mi As h = some (x, h') → CalOK l D dA z sa Hz (MT mi) As h (some (.long x)) h') ∧ FL n1 A1 h = some (r1, h1) ∧ FL n2 A2 h1 = some (r2, h2) := by
  refine ⟨fun mi As g => @ite _ (mi = n1 ∧ As = A1 ∧ g = h) (Classical.propDecidable _) (some (r1, h1)) (@ite _ (mi = n2 ∧ As = A2 ∧ g = h1) (Classical.propDecidable _) (some (r2, h2)) none), ?_, if_pos ⟨rfl, rfl, rfl⟩, ?_⟩
  · intro mi As g x h' e
    simp only at e
    split at e
    · rename_i q; obtain ⟨rfl, rfl, rfl⟩ := q; cases e; exact c1
    · split at e
      · rename_i q; obtain ⟨rfl, rfl, rfl⟩ := q; cases e; exact c2
      · cases e
  · exact Eq.trans (if_neg (fun q => hn q.1.symm)) (if_pos ⟨rfl, rfl, rfl⟩)
theorem two_FV {n1 n2 : Nat} {A1 A2 : List Value} {h h1 g1 h2 : AH} (c1 : CalOK l D dA z sa Hz (MT n1) A1 h none h1) (c2 : CalOK l D dA z sa Hz (MT n2) A2 g1 none h2) (hn : n1 ≠ n2) :
    ∃ FV : Nat → List Value → AH → Option AH, (∀ mi As h h', FV mi As h = some h' → CalOK l D dA z sa Hz (MT mi) As h none h') ∧ FV n1 A1 h = some h1 ∧ FV n2 A2 g1 = some h2 := by
  refine ⟨fun mi As g => @ite _ (mi = n1 ∧ As = A1 ∧ g = h) (Classical.propDecidable _) (some h1) (@ite _ (mi = n2 ∧ As = A2 ∧ g = g1) (Classical.propDecidable _) (some h2) none), ?_, if_pos ⟨rfl, rfl, rfl⟩, ?_⟩
  · intro mi As g h' e
    simp only at e
    split at e
    · rename_i q; obtain ⟨rfl, rfl, rfl⟩ := q; cases e; exact c1
    · split at e
      · rename_i q; obtain ⟨rfl, rfl, rfl⟩ := q; cases e; exact c2
      · cases e
  · exact Eq.trans (if_neg (fun q => hn q.1.symm)) (if_pos ⟨rfl, rfl, rfl⟩)
theorem fi_0 : ∀ mi As h x h', fI0 mi As h = some (x, h') → CalOK l D dA z sa Hz (MT mi) As h (some (.int x)) h' := fun _ _ _ _ _ e => nomatch e
theorem fv_0 : ∀ mi As h h', fV0 mi As h = some h' → CalOK l D dA z sa Hz (MT mi) As h none h' := fun _ _ _ _ e => nomatch e
theorem fl_0 : ∀ mi As h x h', fL0 mi As h = some (x, h') → CalOK l D dA z sa Hz (MT mi) As h (some (.long x)) h' := fun _ _ _ _ _ e => nomatch e
variable {L : Nat} {xs : Nat → Int32} {G : Nat → LA → List Value → AH → Prop}
/-- a test as a number: where it is false -/
theorem stub (hC : Clos l D dA z sa Hz L xs G) {X Y : Nat} {la : LA} {st : List Value} {h : AH} (ok : vBL MT qLen qCh true 14 522 7 "ShadowPagerLaw" "law" code Y X [(.iconst 0, 1, [], 0)] = true) (g : G Y la (.int 0 :: st) h) : G X la st h :=
  hC.2 fI0 fV0 fL0 [(.iconst 0, 1, [], 0)] Y X la st h fi_0 fv_0 fl_0 (show KG G Y la (.int 0 :: st) h = some () from KG_of g) ok
theorem tern (hC : Clos l D dA z sa Hz L xs G) {x : Int32} {X Y : Nat} {la : LA} {st : List Value} {h : AH} (ok : vBL MT qLen qCh true 14 522 7 "ShadowPagerLaw" "law" code Y X [(.iconst 0, 1, [], 0)] = true) (g : G Y la (.int (bi (decide (x ≠ 0))) :: st) h) :
    (if x = 0 then KG G X la st h else KG G Y la (.int 1 :: st) h) = some () := by
  by_cases d : x = 0
  · rw [if_pos d]
    rw [show bi (decide (x ≠ 0)) = 0 by rw [decide_eq_false (fun q => q d)]; rfl] at g
    exact KG_of (stub hC ok g)
  · rw [if_neg d]
    rw [show bi (decide (x ≠ 0)) = 1 by rw [decide_eq_true d]; rfl] at g
    exact KG_of g
end CALLS9
