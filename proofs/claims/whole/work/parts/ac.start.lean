/-! ===== what holds at the law's entry (printed by g/genac.py) ===== -/
def flN : List Cond := flatC (Jvm.Cond.and given_1 narrow_1)
/-- the constant texts: owner, number in its pool, where the premises speak of it -/
def sO : List (String × Nat × Nat) := [("ShadowPager$Text", 75, 20), ("ShadowPager$Text", 132, 31), ("ShadowPager$Text", 137, 39), ("ShadowPager$Text", 107, 47), ("ShadowPager$Text", 109, 55), ("ShadowPager$Text", 111, 63), ("ShadowPager$Text", 113, 70), ("ShadowPager$Text", 115, 80), ("ShadowPager$Text", 154, 87), ("ShadowPager$Text", 156, 93), ("ShadowPager$Text", 196, 99), ("ShadowPager$Text", 198, 104), ("ShadowPager$Text", 200, 109), ("ShadowPager$Text", 202, 115), ("ShadowPager$Text", 204, 121), ("ShadowPager$Text", 206, 129), ("ShadowPager$Text", 208, 139), ("ShadowPager$Text", 210, 149), ("ShadowPage\x72", 334, 157)]
/-- of each row of strTab: its word in the tables, and where the premises say that it is the first owner's object (0: it is) -/
def sP : List (Nat × Nat) := [(437, 0), (498, 0), (503, 0), (508, 0), (509, 0), (510, 0), (511, 0), (512, 0), (528, 0), (529, 0), (578, 0), (579, 0), (580, 0), (581, 0), (598, 0), (599, 0), (600, 0), (601, 0), (1313, 0), (1581, 197), (1599, 206), (1615, 215), (1616, 224), (1629, 231), (1630, 238), (1631, 247), (1636, 255), (1645, 261), (1646, 267), (1647, 274), (1648, 281), (1649, 292), (1658, 300), (1667, 309), (1668, 320), (1669, 331), (1670, 340)]
def valT (o : String) (i : Nat) : Term := .field (.string o i) "java/lang/String" "value" "[B"
def needS (o : String) (i : Nat) (b : List Int32) : List Cond := [.exactly (.string o i) "java/lang/String", .eq (.field (.string o i) "java/lang/String" "coder" "B") (.int 0), .arrayOf (valT o i) .byte, .eq (.length (valT o i)) (.int (Int32.ofNat b.length))] ++ (List.range b.length).map (fun j => .eq (.elem (valT o i) (.int (Int32.ofNat j))) (.int (b.getD j 0)))
def okS (k : Nat) : Bool := match sO[k]? with
  | some q => decide ((flN.drop q.2.2).take (4 + (strBytes.getD (k + 1) []).length) = needS q.1 q.2.1 (strBytes.getD (k + 1) []) ∧ (strBytes.getD (k + 1) []).length < 2 ^ 31)
  | none => false
def okT (j : Nat) : Bool := match strTab[j]?, sP[j]? with
  | some q, some p => (match sO[q.2.2.2 - 1]? with
    | some a => decide (lw_tbl[p.1]? = some (.stringRef q.1 q.2.1 q.2.2.1) ∧ 0 < q.2.2.2) && (if p.2 = 0 then decide (q.1 = a.1 ∧ q.2.1 = a.2.1) else decide (flN[p.2]? = some (.eq (.string a.1 a.2.1) (.string q.1 q.2.1))))
    | none => false)
  | _, _ => false
set_option maxRecDepth 100000 in
theorem okS_0 : okS 0 = true := by decide +kernel
theorem okS_all : (List.range 19).all okS = true := by sorry
set_option maxRecDepth 100000 in
theorem okT_0 : okT 0 = true := by decide +kernel
theorem okT_all : (List.range 37).all okT = true := by sorry
