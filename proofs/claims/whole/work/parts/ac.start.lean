/-! ===== what holds at the law's entry (printed by g/genac.py) ===== -/
/-- the premises of the start -/
def T9 : Cond := Jvm.Cond.and given_1 narrow_1
/-- a part of a conjunction, by its place -/
def getP : List Bool → Cond → Cond
  | [], T => T
  | d :: p, T => match T with
    | .and a b => cond d (getP p b) (getP p a)
    | T => T
/-- the constant texts: owner, number in its pool -/
def sO : List (String × Nat × Nat) := [("ShadowPager$Text", 75, 20), ("ShadowPager$Text", 132, 31), ("ShadowPager$Text", 137, 39), ("ShadowPager$Text", 107, 47), ("ShadowPager$Text", 109, 55), ("ShadowPager$Text", 111, 63), ("ShadowPager$Text", 113, 70), ("ShadowPager$Text", 115, 80), ("ShadowPager$Text", 154, 87), ("ShadowPager$Text", 156, 93), ("ShadowPager$Text", 196, 99), ("ShadowPager$Text", 198, 104), ("ShadowPager$Text", 200, 109), ("ShadowPager$Text", 202, 115), ("ShadowPager$Text", 204, 121), ("ShadowPager$Text", 206, 129), ("ShadowPager$Text", 208, 139), ("ShadowPager$Text", 210, 149), ("ShadowPage\x72", 334, 157)]
def valT (o : String) (i : Nat) : Term := .field (.string o i) "java/lang/String" "value" "[B"
def needS (o : String) (i : Nat) (b : List Int32) : List Cond := [.exactly (.string o i) "java/lang/String", .eq (.field (.string o i) "java/lang/String" "coder" "B") (.int 0), .arrayOf (valT o i) .byte, .eq (.length (valT o i)) (.int (Int32.ofNat b.length))] ++ (List.range b.length).map (fun j => .eq (.elem (valT o i) (.int (Int32.ofNat j))) (.int (b.getD j 0)))
theorem sr_0 : Cond.stringRef "ShadowPager$Text" 75 "machine" ∈ lw_tbl := List.mem_of_getElem? (i := 437) (by decide +kernel)
theorem sr_1 : Cond.stringRef "ShadowPager$Text" 132 "pool" ∈ lw_tbl := List.mem_of_getElem? (i := 498) (by decide +kernel)
theorem sr_2 : Cond.stringRef "ShadowPager$Text" 137 "root" ∈ lw_tbl := List.mem_of_getElem? (i := 503) (by decide +kernel)
theorem sr_3 : Cond.stringRef "ShadowPager$Text" 107 "host" ∈ lw_tbl := List.mem_of_getElem? (i := 508) (by decide +kernel)
theorem sr_4 : Cond.stringRef "ShadowPager$Text" 109 "word" ∈ lw_tbl := List.mem_of_getElem? (i := 509) (by decide +kernel)
theorem sr_5 : Cond.stringRef "ShadowPager$Text" 111 "run" ∈ lw_tbl := List.mem_of_getElem? (i := 510) (by decide +kernel)
theorem sr_6 : Cond.stringRef "ShadowPager$Text" 113 "unsure" ∈ lw_tbl := List.mem_of_getElem? (i := 511) (by decide +kernel)
theorem sr_7 : Cond.stringRef "ShadowPager$Text" 115 "saw" ∈ lw_tbl := List.mem_of_getElem? (i := 512) (by decide +kernel)
theorem sr_8 : Cond.stringRef "ShadowPager$Text" 154 "rw" ∈ lw_tbl := List.mem_of_getElem? (i := 528) (by decide +kernel)
theorem sr_9 : Cond.stringRef "ShadowPager$Text" 156 "ro" ∈ lw_tbl := List.mem_of_getElem? (i := 529) (by decide +kernel)
theorem sr_10 : Cond.stringRef "ShadowPager$Text" 196 "\x72" ∈ lw_tbl := List.mem_of_getElem? (i := 578) (by decide +kernel)
theorem sr_11 : Cond.stringRef "ShadowPager$Text" 198 "w" ∈ lw_tbl := List.mem_of_getElem? (i := 579) (by decide +kernel)
theorem sr_12 : Cond.stringRef "ShadowPager$Text" 200 "u\x72" ∈ lw_tbl := List.mem_of_getElem? (i := 580) (by decide +kernel)
theorem sr_13 : Cond.stringRef "ShadowPager$Text" 202 "uw" ∈ lw_tbl := List.mem_of_getElem? (i := 581) (by decide +kernel)
theorem sr_14 : Cond.stringRef "ShadowPager$Text" 204 "done" ∈ lw_tbl := List.mem_of_getElem? (i := 598) (by decide +kernel)
theorem sr_15 : Cond.stringRef "ShadowPager$Text" 206 "absent" ∈ lw_tbl := List.mem_of_getElem? (i := 599) (by decide +kernel)
theorem sr_16 : Cond.stringRef "ShadowPager$Text" 208 "denied" ∈ lw_tbl := List.mem_of_getElem? (i := 600) (by decide +kernel)
theorem sr_17 : Cond.stringRef "ShadowPager$Text" 210 "gone" ∈ lw_tbl := List.mem_of_getElem? (i := 601) (by decide +kernel)
theorem sr_18 : Cond.stringRef "ShadowPage\x72" 334 "no such free shadow table" ∈ lw_tbl := List.mem_of_getElem? (i := 1313) (by decide +kernel)
theorem sr_19 : Cond.stringRef "ShadowPagerModel" 144 "machine" ∈ lw_tbl := List.mem_of_getElem? (i := 1581) (by decide +kernel)
theorem sr_20 : Cond.stringRef "ShadowPagerModel" 174 "pool" ∈ lw_tbl := List.mem_of_getElem? (i := 1599) (by decide +kernel)
theorem sr_21 : Cond.stringRef "ShadowPagerModel" 182 "root" ∈ lw_tbl := List.mem_of_getElem? (i := 1615) (by decide +kernel)
theorem sr_22 : Cond.stringRef "ShadowPagerModel" 149 "host" ∈ lw_tbl := List.mem_of_getElem? (i := 1616) (by decide +kernel)
theorem sr_23 : Cond.stringRef "ShadowPagerModel" 198 "rw" ∈ lw_tbl := List.mem_of_getElem? (i := 1629) (by decide +kernel)
theorem sr_24 : Cond.stringRef "ShadowPagerModel" 200 "ro" ∈ lw_tbl := List.mem_of_getElem? (i := 1630) (by decide +kernel)
theorem sr_25 : Cond.stringRef "ShadowPagerModel" 154 "word" ∈ lw_tbl := List.mem_of_getElem? (i := 1631) (by decide +kernel)
theorem sr_26 : Cond.stringRef "ShadowPagerModel" 159 "run" ∈ lw_tbl := List.mem_of_getElem? (i := 1636) (by decide +kernel)
theorem sr_27 : Cond.stringRef "ShadowPagerModel" 129 "\x72" ∈ lw_tbl := List.mem_of_getElem? (i := 1645) (by decide +kernel)
theorem sr_28 : Cond.stringRef "ShadowPagerModel" 131 "w" ∈ lw_tbl := List.mem_of_getElem? (i := 1646) (by decide +kernel)
theorem sr_29 : Cond.stringRef "ShadowPagerModel" 133 "u\x72" ∈ lw_tbl := List.mem_of_getElem? (i := 1647) (by decide +kernel)
theorem sr_30 : Cond.stringRef "ShadowPagerModel" 135 "uw" ∈ lw_tbl := List.mem_of_getElem? (i := 1648) (by decide +kernel)
theorem sr_31 : Cond.stringRef "ShadowPagerModel" 164 "unsure" ∈ lw_tbl := List.mem_of_getElem? (i := 1649) (by decide +kernel)
theorem sr_32 : Cond.stringRef "ShadowPagerModel" 169 "saw" ∈ lw_tbl := List.mem_of_getElem? (i := 1658) (by decide +kernel)
theorem sr_33 : Cond.stringRef "ShadowPagerModel" 242 "done" ∈ lw_tbl := List.mem_of_getElem? (i := 1667) (by decide +kernel)
theorem sr_34 : Cond.stringRef "ShadowPagerModel" 244 "absent" ∈ lw_tbl := List.mem_of_getElem? (i := 1668) (by decide +kernel)
theorem sr_35 : Cond.stringRef "ShadowPagerModel" 246 "denied" ∈ lw_tbl := List.mem_of_getElem? (i := 1669) (by decide +kernel)
theorem sr_36 : Cond.stringRef "ShadowPagerModel" 248 "gone" ∈ lw_tbl := List.mem_of_getElem? (i := 1670) (by decide +kernel)
theorem nd_1 : needS "ShadowPager$Text" 75 (strBytes.getD 1 []) = ([[true, false, false, false, false, true, true, true, false], [true, false, false, false, false, true, true, true, true, false], [true, false, false, false, false, true, true, true, true, true], [true, false, false, false, true, false, false, false, false], [true, false, false, false, true, false, false, false, true], [true, false, false, false, true, false, false, true, false], [true, false, false, false, true, false, false, true, true, false], [true, false, false, false, true, false, false, true, true, true], [true, false, false, false, true, false, true, false, false], [true, false, false, false, true, false, true, false, true], [true, false, false, false, true, false, true, true, false]] : List (List Bool)).map (fun p => getP p T9) := rfl
theorem nd_2 : needS "ShadowPager$Text" 132 (strBytes.getD 2 []) = ([[true, false, false, false, true, false, true, true, true, false], [true, false, false, false, true, false, true, true, true, true], [true, false, false, false, true, true, false, false, false], [true, false, false, false, true, true, false, false, true], [true, false, false, false, true, true, false, true, false], [true, false, false, false, true, true, false, true, true, false], [true, false, false, false, true, true, false, true, true, true], [true, false, false, false, true, true, true, false, false]] : List (List Bool)).map (fun p => getP p T9) := rfl
theorem nd_3 : needS "ShadowPager$Text" 137 (strBytes.getD 3 []) = ([[true, false, false, false, true, true, true, false, true, false], [true, false, false, false, true, true, true, false, true, true], [true, false, false, false, true, true, true, true, false], [true, false, false, false, true, true, true, true, true, false], [true, false, false, false, true, true, true, true, true, true], [true, false, false, true, false, false, false, false, false], [true, false, false, true, false, false, false, false, true], [true, false, false, true, false, false, false, true, false]] : List (List Bool)).map (fun p => getP p T9) := rfl
theorem nd_4 : needS "ShadowPager$Text" 107 (strBytes.getD 4 []) = ([[true, false, false, true, false, false, false, true, true, false], [true, false, false, true, false, false, false, true, true, true], [true, false, false, true, false, false, true, false, false], [true, false, false, true, false, false, true, false, true], [true, false, false, true, false, false, true, true, false], [true, false, false, true, false, false, true, true, true, false], [true, false, false, true, false, false, true, true, true, true], [true, false, false, true, false, true, false, false, false]] : List (List Bool)).map (fun p => getP p T9) := rfl
theorem nd_5 : needS "ShadowPager$Text" 109 (strBytes.getD 5 []) = ([[true, false, false, true, false, true, false, false, true], [true, false, false, true, false, true, false, true, false], [true, false, false, true, false, true, false, true, true, false], [true, false, false, true, false, true, false, true, true, true], [true, false, false, true, false, true, true, false, false], [true, false, false, true, false, true, true, false, true, false], [true, false, false, true, false, true, true, false, true, true], [true, false, false, true, false, true, true, true, false]] : List (List Bool)).map (fun p => getP p T9) := rfl
theorem nd_6 : needS "ShadowPager$Text" 111 (strBytes.getD 6 []) = ([[true, false, false, true, false, true, true, true, true, false], [true, false, false, true, false, true, true, true, true, true], [true, false, false, true, true, false, false, false, false], [true, false, false, true, true, false, false, false, true], [true, false, false, true, true, false, false, true, false], [true, false, false, true, true, false, false, true, true, false], [true, false, false, true, true, false, false, true, true, true]] : List (List Bool)).map (fun p => getP p T9) := rfl
theorem nd_7 : needS "ShadowPager$Text" 113 (strBytes.getD 7 []) = ([[true, false, false, true, true, false, true, false, false], [true, false, false, true, true, false, true, false, true], [true, false, false, true, true, false, true, true, false], [true, false, false, true, true, false, true, true, true, false], [true, false, false, true, true, false, true, true, true, true], [true, false, false, true, true, true, false, false, false], [true, false, false, true, true, true, false, false, true], [true, false, false, true, true, true, false, true, false], [true, false, false, true, true, true, false, true, true, false], [true, false, false, true, true, true, false, true, true, true]] : List (List Bool)).map (fun p => getP p T9) := rfl
theorem nd_8 : needS "ShadowPager$Text" 115 (strBytes.getD 8 []) = ([[true, false, false, true, true, true, true, false, false], [true, false, false, true, true, true, true, false, true, false], [true, false, false, true, true, true, true, false, true, true], [true, false, false, true, true, true, true, true, false], [true, false, false, true, true, true, true, true, true, false], [true, false, false, true, true, true, true, true, true, true], [true, false, true, false, false, false, false, false, false]] : List (List Bool)).map (fun p => getP p T9) := rfl
theorem nd_9 : needS "ShadowPager$Text" 154 (strBytes.getD 9 []) = ([[true, false, true, false, false, false, false, false, true], [true, false, true, false, false, false, false, true, false], [true, false, true, false, false, false, false, true, true, false], [true, false, true, false, false, false, false, true, true, true], [true, false, true, false, false, false, true, false, false], [true, false, true, false, false, false, true, false, true]] : List (List Bool)).map (fun p => getP p T9) := rfl
theorem nd_10 : needS "ShadowPager$Text" 156 (strBytes.getD 10 []) = ([[true, false, true, false, false, false, true, true, false], [true, false, true, false, false, false, true, true, true, false], [true, false, true, false, false, false, true, true, true, true], [true, false, true, false, false, true, false, false, false], [true, false, true, false, false, true, false, false, true], [true, false, true, false, false, true, false, true, false]] : List (List Bool)).map (fun p => getP p T9) := rfl
theorem nd_11 : needS "ShadowPager$Text" 196 (strBytes.getD 11 []) = ([[true, false, true, false, false, true, false, true, true, false], [true, false, true, false, false, true, false, true, true, true], [true, false, true, false, false, true, true, false, false], [true, false, true, false, false, true, true, false, true, false], [true, false, true, false, false, true, true, false, true, true]] : List (List Bool)).map (fun p => getP p T9) := rfl
theorem nd_12 : needS "ShadowPager$Text" 198 (strBytes.getD 12 []) = ([[true, false, true, false, false, true, true, true, false], [true, false, true, false, false, true, true, true, true, false], [true, false, true, false, false, true, true, true, true, true], [true, false, true, false, true, false, false, false, false], [true, false, true, false, true, false, false, false, true]] : List (List Bool)).map (fun p => getP p T9) := rfl
theorem nd_13 : needS "ShadowPager$Text" 200 (strBytes.getD 13 []) = ([[true, false, true, false, true, false, false, true, false], [true, false, true, false, true, false, false, true, true, false], [true, false, true, false, true, false, false, true, true, true], [true, false, true, false, true, false, true, false, false], [true, false, true, false, true, false, true, false, true], [true, false, true, false, true, false, true, true, false]] : List (List Bool)).map (fun p => getP p T9) := rfl
theorem nd_14 : needS "ShadowPager$Text" 202 (strBytes.getD 14 []) = ([[true, false, true, false, true, false, true, true, true, false], [true, false, true, false, true, false, true, true, true, true], [true, false, true, false, true, true, false, false, false], [true, false, true, false, true, true, false, false, true], [true, false, true, false, true, true, false, true, false], [true, false, true, false, true, true, false, true, true, false]] : List (List Bool)).map (fun p => getP p T9) := rfl
theorem nd_15 : needS "ShadowPager$Text" 204 (strBytes.getD 15 []) = ([[true, false, true, false, true, true, false, true, true, true], [true, false, true, false, true, true, true, false, false], [true, false, true, false, true, true, true, false, true, false], [true, false, true, false, true, true, true, false, true, true], [true, false, true, false, true, true, true, true, false], [true, false, true, false, true, true, true, true, true, false], [true, false, true, false, true, true, true, true, true, true], [true, false, true, true, false, false, false, false, false]] : List (List Bool)).map (fun p => getP p T9) := rfl
theorem nd_16 : needS "ShadowPager$Text" 206 (strBytes.getD 16 []) = ([[true, false, true, true, false, false, false, false, true], [true, false, true, true, false, false, false, true, false], [true, false, true, true, false, false, false, true, true, false], [true, false, true, true, false, false, false, true, true, true], [true, false, true, true, false, false, true, false, false], [true, false, true, true, false, false, true, false, true], [true, false, true, true, false, false, true, true, false], [true, false, true, true, false, false, true, true, true, false], [true, false, true, true, false, false, true, true, true, true], [true, false, true, true, false, true, false, false, false]] : List (List Bool)).map (fun p => getP p T9) := rfl
theorem nd_17 : needS "ShadowPager$Text" 208 (strBytes.getD 17 []) = ([[true, false, true, true, false, true, false, false, true], [true, false, true, true, false, true, false, true, false], [true, false, true, true, false, true, false, true, true, false], [true, false, true, true, false, true, false, true, true, true], [true, false, true, true, false, true, true, false, false], [true, false, true, true, false, true, true, false, true, false], [true, false, true, true, false, true, true, false, true, true], [true, false, true, true, false, true, true, true, false], [true, false, true, true, false, true, true, true, true, false], [true, false, true, true, false, true, true, true, true, true]] : List (List Bool)).map (fun p => getP p T9) := rfl
theorem nd_18 : needS "ShadowPager$Text" 210 (strBytes.getD 18 []) = ([[true, false, true, true, true, false, false, false, false], [true, false, true, true, true, false, false, false, true], [true, false, true, true, true, false, false, true, false], [true, false, true, true, true, false, false, true, true, false], [true, false, true, true, true, false, false, true, true, true], [true, false, true, true, true, false, true, false, false], [true, false, true, true, true, false, true, false, true, false], [true, false, true, true, true, false, true, false, true, true]] : List (List Bool)).map (fun p => getP p T9) := rfl
theorem nd_19 : needS "ShadowPage\x72" 334 (strBytes.getD 19 []) = ([[true, false, true, true, true, false, true, true, false], [true, false, true, true, true, false, true, true, true, false], [true, false, true, true, true, false, true, true, true, true], [true, false, true, true, true, true, false, false, false], [true, false, true, true, true, true, false, false, true], [true, false, true, true, true, true, false, true, false], [true, false, true, true, true, true, false, true, true, false], [true, false, true, true, true, true, false, true, true, true], [true, false, true, true, true, true, true, false, false], [true, false, true, true, true, true, true, false, true, false], [true, false, true, true, true, true, true, false, true, true], [true, false, true, true, true, true, true, true, false], [true, false, true, true, true, true, true, true, true, false], [true, false, true, true, true, true, true, true, true, true], [true, true, false, false, false, false, false, false, false], [true, true, false, false, false, false, false, false, true], [true, true, false, false, false, false, false, true, false], [true, true, false, false, false, false, false, true, true, false], [true, true, false, false, false, false, false, true, true, true], [true, true, false, false, false, false, true, false, false], [true, true, false, false, false, false, true, false, true], [true, true, false, false, false, false, true, true, false], [true, true, false, false, false, false, true, true, true, false], [true, true, false, false, false, false, true, true, true, true], [true, true, false, false, false, true, false, false, false], [true, true, false, false, false, true, false, false, true], [true, true, false, false, false, true, false, true, false], [true, true, false, false, false, true, false, true, true, false], [true, true, false, false, false, true, false, true, true, true]] : List (List Bool)).map (fun p => getP p T9) := rfl
section STA
variable {args : Array Value} {s : State} {A : Nat → Prop}
theorem getP_ok : ∀ (p : List Bool) (T : Cond), T.before args s = true → (getP p T).before args s = true := by
  intro p
  induction p with
  | nil => intro T h; exact h
  | cons d r ih =>
    intro T h
    cases T with
    | and a b =>
      rw [Cond.before_and, Bool.and_eq_true] at h
      cases d
      · exact ih a h.1
      · exact ih b h.2
    | _ => exact h
theorem all_of {L : List Cond} {P : List (List Bool)} (e : L = P.map (fun p => getP p T9)) (h : T9.before args s = true) : ∀ w ∈ L, w.before args s = true := by
  intro w hw
  rw [e] at hw
  obtain ⟨p, -, rfl⟩ := List.mem_map.mp hw
  exact getP_ok p T9 h
def sT9 (k : Nat) : Term := .string (sO.getD (k - 1) ("", 0, 0)).1 (sO.getD (k - 1) ("", 0, 0)).2.1
theorem need_at (h : T9.before args s = true) (k : Nat) (h0 : 0 < k) (h1 : k ≤ 19) : ∀ w ∈ needS (sO.getD (k - 1) ("", 0, 0)).1 (sO.getD (k - 1) ("", 0, 0)).2.1 (strBytes.getD k []), w.before args s = true := by
  match k, h0, h1 with
  | 0, h0, _ => exact absurd h0 (Nat.not_lt_zero 0)
  | 1, _, _ => exact all_of nd_1 h
  | 2, _, _ => exact all_of nd_2 h
  | 3, _, _ => exact all_of nd_3 h
  | 4, _, _ => exact all_of nd_4 h
  | 5, _, _ => exact all_of nd_5 h
  | 6, _, _ => exact all_of nd_6 h
  | 7, _, _ => exact all_of nd_7 h
  | 8, _, _ => exact all_of nd_8 h
  | 9, _, _ => exact all_of nd_9 h
  | 10, _, _ => exact all_of nd_10 h
  | 11, _, _ => exact all_of nd_11 h
  | 12, _, _ => exact all_of nd_12 h
  | 13, _, _ => exact all_of nd_13 h
  | 14, _, _ => exact all_of nd_14 h
  | 15, _, _ => exact all_of nd_15 h
  | 16, _, _ => exact all_of nd_16 h
  | 17, _, _ => exact all_of nd_17 h
  | 18, _, _ => exact all_of nd_18 h
  | 19, _, _ => exact all_of nd_19 h
  | n + 20, _, h1 => omega
theorem str_one {o : String} {i : Nat} {b : List Int32} (hb : b.length < 2 ^ 31) (h : ∀ w ∈ needS o i b, w.before args s = true) (hA : ∀ a : Nat, a < s.heap.size → ¬ A a) :
    ∃ q : Nat × Nat, (Term.string o i).eval args s none [] s = some (.ref q.1) ∧ va_O "java/lang/String" q.1 A s s.heap ∧ va_OF "java/lang/String" "coder" "B" (.int 0) q.1 A s s.heap ∧ va_OF "java/lang/String" "value" "[B" (.ref q.2) q.1 A s s.heap ∧ va_T .byte q.2 b.length (fun j => .int (b.getD j 0)) A s s.heap := by
  have h1 : (Cond.exactly (.string o i) "java/lang/String").before args s = true := h _ (List.mem_append_left _ (List.mem_of_getElem? (i := 0) rfl))
  have h2 : (Cond.eq (.field (.string o i) "java/lang/String" "coder" "B") (.int 0)).before args s = true := h _ (List.mem_append_left _ (List.mem_of_getElem? (i := 1) rfl))
  have h3 : (Cond.arrayOf (valT o i) .byte).before args s = true := h _ (List.mem_append_left _ (List.mem_of_getElem? (i := 2) rfl))
  have h4 : (Cond.eq (.length (valT o i)) (.int (Int32.ofNat b.length))).before args s = true := h _ (List.mem_append_left _ (List.mem_of_getElem? (i := 3) rfl))
  have h5 : ∀ j : Nat, j < b.length → (Cond.eq (.elem (valT o i) (.int (Int32.ofNat j))) (.int (b.getD j 0))).before args s = true := fun j hj => h _ (List.mem_append_right _ (List.mem_map.mpr ⟨j, List.mem_range.mpr hj, rfl⟩))
  obtain ⟨a, c, cA, kA, q1, q2, q3, q4, q5, q6, -⟩ := Cond.exactly_spec (args := args) (first := s) (o := none) (s := s) (idx := []) (t := .string o i) (cls := "java/lang/String") h1
  obtain ⟨t, ht, hT⟩ := va_Tof (f := fun j => .int (b.getD j 0)) (A := A) hb h3 (va_eqt h4) (fun j hj => va_eqt (h5 j hj)) hA
  exact ⟨(a, t), q1, ⟨cA, q3, q5, by rw [q6]; exact q2, hA a (Array.getElem?_eq_some_iff.mp q3).1⟩, vk_OFof q1 (va_eqt h2) hA, vk_OFof q1 ht hA, hT⟩
theorem len_at (k : Nat) (h1 : k ≤ 19) : (strBytes.getD k []).length < 2 ^ 31 := by
  have : ∀ k, k < 20 → (strBytes.getD k []).length < 2 ^ 31 := by decide +kernel
  exact this k (by omega)
theorem strs_at (h : T9.before args s = true) (hA : ∀ a : Nat, a < s.heap.size → ¬ A a) : ∃ ad : Nat → Nat × Nat, ∀ k, 0 < k → k ≤ nStr → (sT9 k).eval args s none [] s = some (.ref (ad k).1) ∧ va_O "java/lang/String" (ad k).1 A s s.heap ∧ va_OF "java/lang/String" "coder" "B" (.int 0) (ad k).1 A s s.heap ∧ va_OF "java/lang/String" "value" "[B" (.ref (ad k).2) (ad k).1 A s s.heap ∧ va_T .byte (ad k).2 (strBytes.getD k []).length (fun j => .int ((strBytes.getD k []).getD j 0)) A s s.heap := by
  have h0 : ∀ k : Nat, ∃ q : Nat × Nat, 0 < k → k ≤ nStr → (sT9 k).eval args s none [] s = some (.ref q.1) ∧ va_O "java/lang/String" q.1 A s s.heap ∧ va_OF "java/lang/String" "coder" "B" (.int 0) q.1 A s s.heap ∧ va_OF "java/lang/String" "value" "[B" (.ref q.2) q.1 A s s.heap ∧ va_T .byte q.2 (strBytes.getD k []).length (fun j => .int ((strBytes.getD k []).getD j 0)) A s s.heap := by
    intro k
    by_cases hk : 0 < k ∧ k ≤ nStr
    · obtain ⟨q9, k1⟩ := str_one (len_at k hk.2) (need_at h k hk.1 hk.2) hA
      exact ⟨q9, fun _ _ => k1⟩
    · exact ⟨(0, 0), fun h1 h2 => absurd ⟨h1, h2⟩ hk⟩
  obtain ⟨ad, had⟩ := Classical.axiomOfChoice h0
  exact ⟨ad, had⟩
theorem refs_at (h : T9.before args s = true) (hts : ∀ w ∈ lw_tbl, w.before args s = true) {sa : Nat → Nat} (had : ∀ k, 0 < k → k ≤ nStr → (sT9 k).eval args s none [] s = some (.ref (sa k))) : ∀ q ∈ strTab, vk_R q.1 q.2.1 q.2.2.1 (sa q.2.2.2) s :=
  List.forall_mem_cons.mpr ⟨vk_R.of (A := args) (hts _ sr_0) (had 1 (by decide) (by decide)), List.forall_mem_cons.mpr ⟨vk_R.of (A := args) (hts _ sr_1) (had 2 (by decide) (by decide)), List.forall_mem_cons.mpr ⟨vk_R.of (A := args) (hts _ sr_2) (had 3 (by decide) (by decide)), List.forall_mem_cons.mpr ⟨vk_R.of (A := args) (hts _ sr_3) (had 4 (by decide) (by decide)), List.forall_mem_cons.mpr ⟨vk_R.of (A := args) (hts _ sr_4) (had 5 (by decide) (by decide)), List.forall_mem_cons.mpr ⟨vk_R.of (A := args) (hts _ sr_5) (had 6 (by decide) (by decide)), List.forall_mem_cons.mpr ⟨vk_R.of (A := args) (hts _ sr_6) (had 7 (by decide) (by decide)), List.forall_mem_cons.mpr ⟨vk_R.of (A := args) (hts _ sr_7) (had 8 (by decide) (by decide)), List.forall_mem_cons.mpr ⟨vk_R.of (A := args) (hts _ sr_8) (had 9 (by decide) (by decide)), List.forall_mem_cons.mpr ⟨vk_R.of (A := args) (hts _ sr_9) (had 10 (by decide) (by decide)), List.forall_mem_cons.mpr ⟨vk_R.of (A := args) (hts _ sr_10) (had 11 (by decide) (by decide)), List.forall_mem_cons.mpr ⟨vk_R.of (A := args) (hts _ sr_11) (had 12 (by decide) (by decide)), List.forall_mem_cons.mpr ⟨vk_R.of (A := args) (hts _ sr_12) (had 13 (by decide) (by decide)), List.forall_mem_cons.mpr ⟨vk_R.of (A := args) (hts _ sr_13) (had 14 (by decide) (by decide)), List.forall_mem_cons.mpr ⟨vk_R.of (A := args) (hts _ sr_14) (had 15 (by decide) (by decide)), List.forall_mem_cons.mpr ⟨vk_R.of (A := args) (hts _ sr_15) (had 16 (by decide) (by decide)), List.forall_mem_cons.mpr ⟨vk_R.of (A := args) (hts _ sr_16) (had 17 (by decide) (by decide)), List.forall_mem_cons.mpr ⟨vk_R.of (A := args) (hts _ sr_17) (had 18 (by decide) (by decide)), List.forall_mem_cons.mpr ⟨vk_R.of (A := args) (hts _ sr_18) (had 19 (by decide) (by decide)), List.forall_mem_cons.mpr ⟨vk_R.of (A := args) (hts _ sr_19) (va_eqR (show (Cond.eq (.string "ShadowPager$Text" 75) (.string "ShadowPagerModel" 144)).before args s = true from getP_ok [true, true, false, false, true, false, true, false, false] T9 h) (had 1 (by decide) (by decide))), List.forall_mem_cons.mpr ⟨vk_R.of (A := args) (hts _ sr_20) (va_eqR (show (Cond.eq (.string "ShadowPager$Text" 132) (.string "ShadowPagerModel" 174)).before args s = true from getP_ok [true, true, false, false, true, true, false, true, true, true] T9 h) (had 2 (by decide) (by decide))), List.forall_mem_cons.mpr ⟨vk_R.of (A := args) (hts _ sr_21) (va_eqR (show (Cond.eq (.string "ShadowPager$Text" 137) (.string "ShadowPagerModel" 182)).before args s = true from getP_ok [true, true, false, true, false, false, false, true, false] T9 h) (had 3 (by decide) (by decide))), List.forall_mem_cons.mpr ⟨vk_R.of (A := args) (hts _ sr_22) (va_eqR (show (Cond.eq (.string "ShadowPager$Text" 107) (.string "ShadowPagerModel" 149)).before args s = true from getP_ok [true, true, false, true, false, true, false, false, true] T9 h) (had 4 (by decide) (by decide))), List.forall_mem_cons.mpr ⟨vk_R.of (A := args) (hts _ sr_23) (va_eqR (show (Cond.eq (.string "ShadowPager$Text" 154) (.string "ShadowPagerModel" 198)).before args s = true from getP_ok [true, true, false, true, false, true, true, true, false] T9 h) (had 9 (by decide) (by decide))), List.forall_mem_cons.mpr ⟨vk_R.of (A := args) (hts _ sr_24) (va_eqR (show (Cond.eq (.string "ShadowPager$Text" 156) (.string "ShadowPagerModel" 200)).before args s = true from getP_ok [true, true, false, true, true, false, false, true, true, true] T9 h) (had 10 (by decide) (by decide))), List.forall_mem_cons.mpr ⟨vk_R.of (A := args) (hts _ sr_25) (va_eqR (show (Cond.eq (.string "ShadowPager$Text" 109) (.string "ShadowPagerModel" 154)).before args s = true from getP_ok [true, true, false, true, true, true, false, true, false] T9 h) (had 5 (by decide) (by decide))), List.forall_mem_cons.mpr ⟨vk_R.of (A := args) (hts _ sr_26) (va_eqR (show (Cond.eq (.string "ShadowPager$Text" 111) (.string "ShadowPagerModel" 159)).before args s = true from getP_ok [true, true, false, true, true, true, true, true, true, true] T9 h) (had 6 (by decide) (by decide))), List.forall_mem_cons.mpr ⟨vk_R.of (A := args) (hts _ sr_27) (va_eqR (show (Cond.eq (.string "ShadowPager$Text" 196) (.string "ShadowPagerModel" 129)).before args s = true from getP_ok [true, true, true, false, false, false, true, false, false] T9 h) (had 11 (by decide) (by decide))), List.forall_mem_cons.mpr ⟨vk_R.of (A := args) (hts _ sr_28) (va_eqR (show (Cond.eq (.string "ShadowPager$Text" 198) (.string "ShadowPagerModel" 131)).before args s = true from getP_ok [true, true, true, false, false, true, false, false, true] T9 h) (had 12 (by decide) (by decide))), List.forall_mem_cons.mpr ⟨vk_R.of (A := args) (hts _ sr_29) (va_eqR (show (Cond.eq (.string "ShadowPager$Text" 200) (.string "ShadowPagerModel" 133)).before args s = true from getP_ok [true, true, true, false, false, true, true, true, false] T9 h) (had 13 (by decide) (by decide))), List.forall_mem_cons.mpr ⟨vk_R.of (A := args) (hts _ sr_30) (va_eqR (show (Cond.eq (.string "ShadowPager$Text" 202) (.string "ShadowPagerModel" 135)).before args s = true from getP_ok [true, true, true, false, true, false, false, true, true, true] T9 h) (had 14 (by decide) (by decide))), List.forall_mem_cons.mpr ⟨vk_R.of (A := args) (hts _ sr_31) (va_eqR (show (Cond.eq (.string "ShadowPager$Text" 113) (.string "ShadowPagerModel" 164)).before args s = true from getP_ok [true, true, true, false, true, true, true, false, false] T9 h) (had 7 (by decide) (by decide))), List.forall_mem_cons.mpr ⟨vk_R.of (A := args) (hts _ sr_32) (va_eqR (show (Cond.eq (.string "ShadowPager$Text" 115) (.string "ShadowPagerModel" 169)).before args s = true from getP_ok [true, true, true, true, false, false, false, true, false] T9 h) (had 8 (by decide) (by decide))), List.forall_mem_cons.mpr ⟨vk_R.of (A := args) (hts _ sr_33) (va_eqR (show (Cond.eq (.string "ShadowPager$Text" 204) (.string "ShadowPagerModel" 242)).before args s = true from getP_ok [true, true, true, true, false, true, false, false, true] T9 h) (had 15 (by decide) (by decide))), List.forall_mem_cons.mpr ⟨vk_R.of (A := args) (hts _ sr_34) (va_eqR (show (Cond.eq (.string "ShadowPager$Text" 206) (.string "ShadowPagerModel" 244)).before args s = true from getP_ok [true, true, true, true, true, false, false, false, true] T9 h) (had 16 (by decide) (by decide))), List.forall_mem_cons.mpr ⟨vk_R.of (A := args) (hts _ sr_35) (va_eqR (show (Cond.eq (.string "ShadowPager$Text" 208) (.string "ShadowPagerModel" 246)).before args s = true from getP_ok [true, true, true, true, true, true, false, false, true] T9 h) (had 17 (by decide) (by decide))), List.forall_mem_cons.mpr ⟨vk_R.of (A := args) (hts _ sr_36) (va_eqR (show (Cond.eq (.string "ShadowPager$Text" 210) (.string "ShadowPagerModel" 248)).before args s = true from getP_ok [true, true, true, true, true, true, true, true, true, true] T9 h) (had 18 (by decide) (by decide))), fun _ hq => nomatch hq⟩⟩⟩⟩⟩⟩⟩⟩⟩⟩⟩⟩⟩⟩⟩⟩⟩⟩⟩⟩⟩⟩⟩⟩⟩⟩⟩⟩⟩⟩⟩⟩⟩⟩⟩⟩⟩
theorem cls_at (hts : ∀ w ∈ lw_tbl, w.before args s = true) : ∃ D : va_G, ∀ (c : Nat) (q : vw_C), cls[c]? = some q → u_Kn s q.1 q.2.1 q.2.2 (D.1 c) (D.2 c) := by
  have hg : ∀ w ∈ gW, w.before args s = true := fun w hw => hts w (List.mem_filter.mp hw).1
  have h0 : ∀ c : Nat, ∃ d : ClassId × (Nat → Nat), ∀ q : vw_C, cls[c]? = some q → u_Kn s q.1 q.2.1 q.2.2 d.1 d.2 := by
    intro c
    cases hc : cls[c]? with
    | none => exact ⟨(default, fun _ => 0), fun q hq => by cases hq⟩
    | some r =>
      by_cases h9 : c = 9
      · subst h9
        cases hc
        obtain ⟨cC, iS, hK⟩ := u_known (ws := gW) (args := args) (s := s) (C := RNS) (T := TNS) (N := 0) (n := 6) hg (fun w hw => nomatch hw) (hts _ (List.mem_of_getElem? (i := 1275) (by decide +kernel)))
        exact ⟨(cC, iS), fun q hq => by cases hq; exact hK⟩
      · have hl : c < 10 := (List.getElem?_eq_some_iff.mp hc).1
        have hp : 0 < r.2.2 := by
          match c, hc, h9, hl with
          | 0, hc, _, _ => cases hc; decide
          | 1, hc, _, _ => cases hc; decide
          | 2, hc, _, _ => cases hc; decide
          | 3, hc, _, _ => cases hc; decide
          | 4, hc, _, _ => cases hc; decide
          | 5, hc, _, _ => cases hc; decide
          | 6, hc, _, _ => cases hc; decide
          | 7, hc, _, _ => cases hc; decide
          | 8, hc, _, _ => cases hc; decide
          | 9, _, h9, _ => exact absurd rfl h9
          | n + 10, _, _, hl => omega
        have hok := glob.1 c r hp hc
        obtain ⟨cC, iS, hK⟩ := u_known (ws := gW) (args := args) (s := s) (C := r.1) (T := r.2.1) (N := r.2.2) (n := r.2.2) hg hok.1 (hg _ hok.2.2.2.1)
        exact ⟨(cC, iS), fun q hq => by cases hq; exact hK⟩
  obtain ⟨f, hf⟩ := Classical.axiomOfChoice h0
  exact ⟨(fun c => (f c).1, fun c => (f c).2), fun c q hq => hf c q hq⟩
theorem arr_at {t : FieldType} (ht : ∀ C, t ≠ .object C) (h : (Cond.arrayClass t).before args s = true) : ∃ cA, ArrOfT s cA t ∧ va_RA s cA t := by
  obtain ⟨cA, kA, comp, h1, h2, h3⟩ := Cond.arrayClass_spec h
  refine ⟨cA, fun n z => ⟨fun k h => (by cases h), kA, h2, comp, h3⟩, ?_⟩
  cases t <;> first | exact h1 | exact absurd rfl (ht _)
theorem tys_at (hts : ∀ w ∈ lw_tbl, w.before args s = true) : ∃ dA : Nat → ClassId, ∀ (k : Nat) (q : ClassId × FieldType), (tysOf dA)[k]? = some q → ArrOfT s q.1 q.2 ∧ va_RA s q.1 q.2 := by
  obtain ⟨c0, h0⟩ := arr_at (t := .int) (fun C h => by cases h) (hts _ (List.mem_of_getElem? (i := 209) (by decide +kernel)))
  obtain ⟨c1, h1⟩ := arr_at (t := .byte) (fun C h => by cases h) (hts _ (List.mem_of_getElem? (i := 176) (by decide +kernel)))
  obtain ⟨c2, h2⟩ := arr_at (t := .boolean) (fun C h => by cases h) (hts _ (List.mem_of_getElem? (i := 264) (by decide +kernel)))
  obtain ⟨c3, h3⟩ := arr_at (t := .long) (fun C h => by cases h) (hts _ (List.mem_of_getElem? (i := 2118) (by decide +kernel)))
  obtain ⟨comp, c4, k4, f1, -, f2, f3, f4⟩ := Cond.arrayOver_spec (hts (.arrayOver (.object RX4)) (List.mem_of_getElem? (i := 352) (by decide +kernel)))
  refine ⟨fun t => if t = 100 then c0 else if t = 101 then c1 else if t = 102 then c2 else if t = 103 then c3 else c4, fun k q hq => ?_⟩
  match k, hq with
  | 0, hq => cases hq; exact h0
  | 1, hq => cases hq; exact h1
  | 2, hq => cases hq; exact h2
  | 3, hq => cases hq; exact h3
  | 4, hq => cases hq; exact ⟨fun N z => ⟨(fun k h => by cases h), k4, f2, comp, f3⟩, k4, comp, f2, f3, f1, f4⟩
  | n + 5, hq => cases hq
end STA
theorem gs_at {s : State} {b z : Nat} (hz : s.heap.size = z + 1) (hts : ∀ w ∈ lw_tbl, w.before #[Value.ref b] s = true) (hgv : (Jvm.Cond.and given_1 narrow_1).before #[Value.ref b] s = true) : ∃ (D : va_G) (dA : Nat → ClassId) (sa : Nat → Nat), sa 0 = b ∧ Gs D dA z sa s.heap s := by
  have h9 : T9.before #[Value.ref b] s = true := hgv
  have hA : ∀ a : Nat, a < s.heap.size → ¬ Az z a := fun a ha h => by have : z < a := h; omega
  obtain ⟨D, hD⟩ := cls_at hts
  obtain ⟨dA, hdA⟩ := tys_at hts
  obtain ⟨ad, had⟩ := strs_at h9 hA
  refine ⟨D, dA, fun k => if k = 0 then b else (ad k).1, rfl, ⟨hD, hdA⟩, fun w hw hn => ?_, ?_, va_AO.of (hts (.arrayOver (.object RX4)) (List.mem_of_getElem? (i := 352) (by decide +kernel))), fun k h1 h2 => ?_, fun w hw hn => ?_, ?_, ?_, ?_, ?_⟩
  · refine va_Nw.of ?_ (hts w hw)
    cases w <;> first | rfl | (simp [isNest] at hn; done)
  · refine refs_at (sa := fun k => if k = 0 then b else (ad k).1) h9 hts (fun k h1 h2 => ?_)
    show _ = some (Value.ref (if k = 0 then b else (ad k).1))
    rw [if_neg (by omega)]
    exact (had k h1 h2).1
  · refine ⟨(ad k).2, ?_⟩
    show va_O _ (if k = 0 then b else (ad k).1) _ _ _ ∧ va_OF _ _ _ _ (if k = 0 then b else (ad k).1) _ _ _ ∧ va_OF _ _ _ _ (if k = 0 then b else (ad k).1) _ _ _ ∧ _
    rw [if_neg (by omega)]
    exact (had k h1 h2).2
  · refine va_Nw.of ?_ (hts w hw)
    cases w <;> first | rfl | (simp [isCD] at hn; done)
  · exact va_Zof (hts _ (List.mem_of_getElem? (i := 451) (by decide +kernel))) (hts _ (List.mem_of_getElem? (i := 118) (by decide +kernel))) (va_eqi (getP_ok [true, false, false, false, false, false, false, true, false] T9 h9)) hA
  · exact va_Zqof (hts _ (List.mem_of_getElem? (i := 467) (by decide +kernel))) (hts _ (List.mem_of_getElem? (i := 120) (by decide +kernel))) (getP_ok [true, false, false, false, false, false, false, true, true, false] T9 h9) hA
  · exact vx_Zqof (hts _ (List.mem_of_getElem? (i := 1301) (by decide +kernel))) (hts _ (List.mem_of_getElem? (i := 127) (by decide +kernel))) (getP_ok [true, false, false, false, false, false, true, true, false] T9 h9) hA
  · exact vx_Zqof (hts _ (List.mem_of_getElem? (i := 1303) (by decide +kernel))) (hts _ (List.mem_of_getElem? (i := 127) (by decide +kernel))) (getP_ok [true, false, false, false, false, false, true, true, true, false] T9 h9) hA
set_option maxRecDepth 100000 in
/-- from the entry, for every script of at most 3072 ints, the law comes to its end with true -/
theorem whole_start {p : Program} {e : Env} {s : State} {m : MethodId} {below : List Frame} {meth : Method} {c : Code} (l : Launch) (hflags : l.flags = flags0) {b L : Nat} {xs : Nat → Int32} (hL : L ≤ 3072) (hnm : meth.name = "law") (C0 : lw_At p s m meth c b L xs) : W p l e room_1 s m #[Value.ref b] below meth c s.heap [] 0 0 (lw_Z below #[Value.ref b] s) (entryFrame m ([Value.ref b] : List Value).toArray 7) := by
  obtain ⟨hx, hb, hr, hml, hown, hts, hX, hbl, hlocks, hgv⟩ := id C0
  have hst : l.stackTraces = false := by
    unfold Launch.stackTraces
    rw [hflags]
    decide +kernel
  obtain ⟨z, hz⟩ : ∃ z, s.heap.size = z + 1 := ⟨s.heap.size - 1, by omega⟩
  obtain ⟨D, dA, sa, hsa, hG⟩ := gs_at hz hts hgv
  have hS : va_S (Az z) s.heap s.heap [] := va_S.rf
  have hR : Rel D dA z h00 s.heap := by
    refine ⟨⟨Nat.one_pos, fun a _ => rfl, fun a ha => ?_⟩, hz, fun k q hq => ?_⟩
    · exact absurd ha (by show ¬ (999 : Nat) < 100; omega)
    · exact absurd (List.getElem?_eq_some_iff.mp hq).1 (Nat.not_lt_zero k)
  have C : Cx p room_1 s m #[Value.ref b] c code R_law 7 D dA z sa s.heap h00 FIN := ⟨hx, hb, hml, hown, fun w hw => hts w (List.mem_filter.mp hw).1, hG, hz, hz, Nat.le_refl _, Nat.le_refl _⟩
  have hC := clos_of (l := l) (e := e) (below := below) (meth := meth) (L := L) (xs := xs) C hr hlocks hnm (by rw [hsa]; exact hX) (by rw [hsa]; exact hbl) (by rw [hsa]; intro q; have : z < b := q; omega)
  have hLed : LedOK (fun pc la st h => Gw p l e room_1 s m #[Value.ref b] below meth c (lw_Z below #[Value.ref b] s) 7 D dA z sa s.heap h00 FIN pc la st h) := by
    intro la h W n9 v hI g
    cases hv : ledW W v with
    | none =>
      have g2 : Gw p l e room_1 s m #[Value.ref b] below meth c (lw_Z below #[Value.ref b] s) 7 D dA z sa s.heap h00 FIN 1862 la [.int 1] (alX h) := by
        have g3 := g
        unfold ledH at g3
        rw [hv] at g3
        exact g3
      exact led_call C (lled_no hst hI hv) rfl rfl g2
    | some n =>
      have g2 : Gw p l e room_1 s m #[Value.ref b] below meth c (lw_Z below #[Value.ref b] s) 7 D dA z sa s.heap h00 FIN 1862 la [.int 0] (wL h 224 0 (ic n).toInt64) := by
        have g3 := g
        unfold ledH at g3
        rw [hv] at g3
        exact g3
      exact led_call C (lled_ok hI hv (led_lt hI hv)) rfl rfl g2
  have g0 := lw_go hC hLed hL
  have K := entW (As := [.retAddr 0]) (nL := 7) hR hS (Nat.le_of_ble_eq_true rfl) g0
  have eA : (([.retAddr 0] : List Value).map (cv z sa)).toArray = ([Value.ref b] : List Value).toArray := by
    show #[Value.ref (sa 0)] = #[Value.ref b]
    rw [hsa]
  rw [eA] at K
  exact K
