/-! ===== the pure side: numbers ===== -/
def ic (n : Nat) : Int32 := Int32.ofNat n
def m1 : Int32 := -1
def m2 : Int32 := -2
def m3 : Int32 := -3
def m4 : Int32 := -4
def bi (b : Bool) : Int32 := if b = true then 1 else 0
def kc (n : Nat) : Int32 := if n = 0 then m2 else ic (n - 1)
def ec (n : Nat) : Int32 := if n = 0 then m1 else ic (n - 1)
theorem lt_2 : (2 : Int32) = ic 2 := rfl
theorem lt_3 : (3 : Int32) = ic 3 := rfl
theorem lt_4 : (4 : Int32) = ic 4 := rfl
theorem lt_5 : (5 : Int32) = ic 5 := rfl
theorem lt_6 : (6 : Int32) = ic 6 := rfl
theorem lt_7 : (7 : Int32) = ic 7 := rfl
theorem lt_8 : (8 : Int32) = ic 8 := rfl
theorem lt_10 : (10 : Int32) = ic 10 := rfl
theorem lt_11 : (11 : Int32) = ic 11 := rfl
theorem lt_12 : (12 : Int32) = ic 12 := rfl
theorem lt_15 : (15 : Int32) = ic 15 := rfl
theorem lt_16 : (16 : Int32) = ic 16 := rfl
theorem lt_18 : (18 : Int32) = ic 18 := rfl
theorem lt_20 : (20 : Int32) = ic 20 := rfl
theorem lt_24 : (24 : Int32) = ic 24 := rfl
theorem lt_31 : (31 : Int32) = ic 31 := rfl
theorem lt_32 : (32 : Int32) = ic 32 := rfl
theorem lt_48 : (48 : Int32) = ic 48 := rfl
theorem lt_57 : (57 : Int32) = ic 57 := rfl
theorem lt_59 : (59 : Int32) = ic 59 := rfl
theorem lt_63 : (63 : Int32) = ic 63 := rfl
theorem lt_64 : (64 : Int32) = ic 64 := rfl
theorem lt_74 : (74 : Int32) = ic 74 := rfl
theorem lt_75 : (75 : Int32) = ic 75 := rfl
theorem lt_97 : (97 : Int32) = ic 97 := rfl
theorem lt_122 : (122 : Int32) = ic 122 := rfl
theorem lt_128 : (128 : Int32) = ic 128 := rfl
theorem lt_144 : (144 : Int32) = ic 144 := rfl
theorem lt_145 : (145 : Int32) = ic 145 := rfl
theorem lt_146 : (146 : Int32) = ic 146 := rfl
theorem lt_147 : (147 : Int32) = ic 147 := rfl
theorem lt_155 : (155 : Int32) = ic 155 := rfl
theorem lt_163 : (163 : Int32) = ic 163 := rfl
theorem lt_171 : (171 : Int32) = ic 171 := rfl
theorem lt_179 : (179 : Int32) = ic 179 := rfl
theorem lt_200 : (200 : Int32) = ic 200 := rfl
theorem lt_243 : (243 : Int32) = ic 243 := rfl
theorem lt_244 : (244 : Int32) = ic 244 := rfl
theorem lt_255 : (255 : Int32) = ic 255 := rfl
theorem lt_256 : (256 : Int32) = ic 256 := rfl
theorem lt_732 : (732 : Int32) = ic 732 := rfl
theorem lt_900 : (900 : Int32) = ic 900 := rfl
theorem lt_3660 : (3660 : Int32) = ic 3660 := rfl
theorem lt_3904 : (3904 : Int32) = ic 3904 := rfl
theorem lt_4095 : (4095 : Int32) = ic 4095 := rfl
theorem lt_65536 : (65536 : Int32) = ic 65536 := rfl
theorem lt_65537 : (65537 : Int32) = ic 65537 := rfl
theorem lt_252645135 : (252645135 : Int32) = ic 252645135 := rfl
theorem lt_858993459 : (858993459 : Int32) = ic 858993459 := rfl
theorem lt_1431655765 : (1431655765 : Int32) = ic 1431655765 := rfl
theorem neg_1 : -(1 : Int32) = m1 := rfl
theorem neg_2 : -(ic 2) = m2 := rfl
theorem neg_3 : -(ic 3) = m3 := rfl
theorem neg_4 : -(ic 4) = m4 := rfl
theorem ic_zero : ic 0 = 0 := rfl
theorem ic_one : ic 1 = 1 := rfl
theorem lt_00 : (0 : Int32) = ic 0 := rfl
theorem lt_01 : (1 : Int32) = ic 1 := rfl
theorem ic_add (a b : Nat) : ic a + ic b = ic (a + b) := (Int32.ofNat_add a b).symm
theorem ic_mul (a b : Nat) : ic a * ic b = ic (a * b) := (Int32.ofNat_mul a b).symm
theorem mr_4 (a : Nat) : ic a * ic 4 = ic (4 * a) := by rw [ic_mul, Nat.mul_comm]
theorem ml_4 (a : Nat) : ic 4 * ic a = ic (4 * a) := ic_mul 4 a
theorem mr_8 (a : Nat) : ic a * ic 8 = ic (8 * a) := by rw [ic_mul, Nat.mul_comm]
theorem ml_8 (a : Nat) : ic 8 * ic a = ic (8 * a) := ic_mul 8 a
theorem mr_10 (a : Nat) : ic a * ic 10 = ic (10 * a) := by rw [ic_mul, Nat.mul_comm]
theorem ml_10 (a : Nat) : ic 10 * ic a = ic (10 * a) := ic_mul 10 a
theorem ic_add1 (a : Nat) : ic a + 1 = ic (a + 1) := ic_add a 1
theorem ic_sub {a b : Nat} (h : b ≤ a) : ic a - ic b = ic (a - b) := (Int32.ofNat_sub a b h).symm
theorem ic_sub1 {a : Nat} (h : 1 ≤ a) : ic a - 1 = ic (a - 1) := ic_sub h
theorem ic_lt {a b : Nat} (ha : a < 2147483648) (hb : b < 2147483648) : (ic a < ic b) = (a < b) := propext (Int32.ofNat_lt_iff_lt (by omega) (by omega))
theorem ic_clamp {a : Nat} (ha : a < 2147483648) : (ic a).toNatClampNeg = a := Int32.toNatClampNeg_ofNat_of_lt (by omega)
theorem ic_toInt {a : Nat} (ha : a < 2147483648) : (ic a).toInt = a := Int32.toInt_ofNat_of_lt (by omega)
theorem ic_inj {a b : Nat} (ha : a < 2147483648) (hb : b < 2147483648) : (ic a = ic b) = (a = b) := propext ⟨fun h => by have := congrArg Int32.toNatClampNeg h; rwa [ic_clamp ha, ic_clamp hb] at this, fun h => by rw [h]⟩
theorem ic_div {a b : Nat} (ha : a < 2147483648) (hb : b < 2147483648) : ic a / ic b = ic (a / b) := (Int32.ofNat_div (by omega) (by omega)).symm
theorem ic_irm {a b : Nat} (ha : a < 2147483648) (hb : b < 2147483648) : irm (ic a) (ic b) = ic (a % b) := by
  unfold irm
  rw [ic_div ha hb, ic_mul, ic_sub (Nat.div_mul_le_self a b)]
  congr 1
  have := Nat.div_add_mod a b
  rw [Nat.mul_comm] at this
  omega
theorem ic_lt0 {a : Nat} (ha : a < 2147483648) : (ic a < 0) = False := by rw [← ic_zero, ic_lt ha (by omega)]; exact eq_false (by omega)
theorem ic_0lt {a : Nat} (ha : a < 2147483648) : (0 < ic a) = (0 < a) := by rw [← ic_zero, ic_lt (by omega) ha]
theorem ic_lt1 {a : Nat} (ha : a < 2147483648) : (ic a < 1) = (a < 1) := by rw [← ic_one, ic_lt ha (by omega)]
theorem ic_eq0 {a : Nat} (ha : a < 2147483648) : (ic a = 0) = (a = 0) := by rw [← ic_zero, ic_inj ha (by omega)]
theorem ic_eq1 {a : Nat} (ha : a < 2147483648) : (ic a = 1) = (a = 1) := by rw [← ic_one, ic_inj ha (by omega)]
theorem ic_and (a b : Nat) : ic a &&& ic b = ic (a &&& b) := by
  apply Int32.toBitVec_inj.mp
  rw [Int32.toBitVec_and]
  exact BitVec.ofNat_and.symm
theorem ic_or (a b : Nat) : ic a ||| ic b = ic (a ||| b) := by
  apply Int32.toBitVec_inj.mp
  rw [Int32.toBitVec_or]
  exact BitVec.ofNat_or.symm
theorem ic_xor (a b : Nat) : ic a ^^^ ic b = ic (a ^^^ b) := by
  apply Int32.toBitVec_inj.mp
  rw [Int32.toBitVec_xor]
  exact BitVec.ofNat_xor.symm
theorem ic_or1 (a : Nat) : ic a ||| 1 = ic (a ||| 1) := ic_or a 1
theorem ic_and1 (a : Nat) : ic a &&& 1 = ic (a &&& 1) := ic_and a 1
theorem and15 (f : Nat) : ic f &&& ic 15 = ic (f % 16) := by rw [ic_and]; exact congrArg ic (Nat.and_two_pow_sub_one_eq_mod f 4)
theorem and7 (f : Nat) : ic f &&& ic 7 = ic (f % 8) := by rw [ic_and]; exact congrArg ic (Nat.and_two_pow_sub_one_eq_mod f 3)
theorem and31 (f : Nat) : ic f &&& ic 31 = ic (f % 32) := by rw [ic_and]; exact congrArg ic (Nat.and_two_pow_sub_one_eq_mod f 5)
theorem and63 (f : Nat) : ic f &&& ic 63 = ic (f % 64) := by rw [ic_and]; exact congrArg ic (Nat.and_two_pow_sub_one_eq_mod f 6)
theorem shl_1 : ∀ k, k < 31 → (1 : Int32) <<< ic k = ic (2 ^ k) := by decide +kernel
theorem shl1 {k : Nat} (h : k < 31) : (1 : Int32) <<< ic k = ic (2 ^ k) := shl_1 k h
theorem sh_sm : ∀ k, k < 31 → (BitVec.ofNat 32 k).smod 32 = BitVec.ofNat 32 k := by decide +kernel
theorem shr_ok {a k : Nat} (ha : a < 2147483648) (hk : k < 31) : ic a >>> ic k = ic (a / 2 ^ k) := by
  apply Int32.toBitVec_inj.mp
  show BitVec.sshiftRight' (BitVec.ofNat 32 a) ((BitVec.ofNat 32 k).smod 32) = BitVec.ofNat 32 (a / 2 ^ k)
  rw [sh_sm k hk, BitVec.sshiftRight_eq']
  have hm : (BitVec.ofNat 32 a).msb = false := by
    rw [BitVec.msb_eq_false_iff_two_mul_lt, BitVec.toNat_ofNat, Nat.mod_eq_of_lt (by omega)]
    omega
  rw [BitVec.sshiftRight_eq_of_msb_false hm]
  apply BitVec.eq_of_toNat_eq
  have h1 : a / 2 ^ k ≤ a := Nat.div_le_self a _
  rw [BitVec.toNat_ushiftRight, BitVec.toNat_ofNat, BitVec.toNat_ofNat, BitVec.toNat_ofNat, Nat.mod_eq_of_lt (by omega), Nat.mod_eq_of_lt (by omega), Nat.mod_eq_of_lt (by omega), Nat.shiftRight_eq_div_pow]
theorem bi_and1 (b : Bool) : bi b &&& 1 = bi b := by cases b <;> rfl
theorem if_bi0 {α : Type} {b : Bool} {A B : α} : (if bi b = 0 then A else B) = (if b = true then B else A) := by cases b <;> rfl
theorem if_bi1 {α : Type} {b : Bool} {A B : α} : (if bi b &&& 1 = bi b then A else B) = A := by cases b <;> rfl
theorem bi_inj {a b : Bool} : (bi a = bi b) = (a = b) := by cases a <;> cases b <;> decide
theorem if_11 {α : Type} {A B : α} : (if (1 : Int32) &&& 1 = 1 then A else B) = A := rfl
theorem if_01 {α : Type} {A B : α} : (if (0 : Int32) &&& 1 = 0 then A else B) = A := rfl
theorem i10 : ((1 : Int32) = 0) = False := eq_false (by decide)
theorem i01 : ((0 : Int32) = 1) = False := eq_false (by decide)
theorem bi_t : bi true = 1 := rfl
theorem bi_f : bi false = 0 := rfl
theorem bi_ite {b : Bool} : (if b = true then (1 : Int32) else 0) = bi b := rfl
theorem kc_zero : kc 0 = m2 := rfl
theorem kc_succ (n : Nat) : kc (n + 1) = ic n := rfl
theorem ec_zero : ec 0 = m1 := rfl
theorem ec_succ (n : Nat) : ec (n + 1) = ic n := rfl
theorem kc_lt0 {n : Nat} (h : n < 2147483648) : (kc n < 0) = (n = 0) := by
  unfold kc
  by_cases e : n = 0
  · rw [if_pos e]; exact propext ⟨fun _ => e, fun _ => by decide⟩
  · rw [if_neg e, ic_lt0 (by omega)]; exact propext ⟨fun h => h.elim, fun h => e h⟩
theorem kc_pos {n : Nat} (h : 0 < n) : kc n = ic (n - 1) := if_neg (by omega)
theorem ec_pos {n : Nat} (h : 0 < n) : ec n = ic (n - 1) := if_neg (by omega)
theorem kc_inj {a b : Nat} (ha : a < 2147483648) (hb : b < 2147483648) : (kc a = kc b) = (a = b) := by
  refine propext ⟨fun h => ?_, fun h => by rw [h]⟩
  unfold kc at h
  by_cases e : a = 0
  · by_cases f : b = 0
    · omega
    · rw [if_pos e, if_neg f] at h
      have := ic_lt0 (a := b - 1) (by omega)
      rw [← h] at this
      exact absurd (by decide) (cast this)
  · by_cases f : b = 0
    · rw [if_neg e, if_pos f] at h
      have := ic_lt0 (a := a - 1) (by omega)
      rw [h] at this
      exact absurd (by decide) (cast this)
    · rw [if_neg e, if_neg f, ic_inj (by omega) (by omega)] at h
      omega
theorem kc_ic {a b : Nat} (ha : a < 2147483648) (hb : b < 2147483647) : (kc a = ic b) = (a = b + 1) := by rw [← kc_succ b, kc_inj ha (by omega)]
theorem ic_kc {a b : Nat} (ha : a < 2147483648) (hb : b < 2147483647) : (ic b = kc a) = (b + 1 = a) := by rw [← kc_succ b, kc_inj (by omega) ha]
theorem kc_m2 {a : Nat} (ha : a < 2147483648) : (kc a = m2) = (a = 0) := by rw [← kc_zero, kc_inj ha (by omega)]
theorem ic_m2 {a : Nat} (ha : a < 2147483647) : (ic a = m2) = False := by rw [← kc_succ a, kc_m2 (by omega)]; exact eq_false (by omega)
theorem ec_inj {a b : Nat} (ha : a < 2147483648) (hb : b < 2147483648) : (ec a = ec b) = (a = b) := by
  refine propext ⟨fun h => ?_, fun h => by rw [h]⟩
  unfold ec at h
  by_cases e : a = 0
  · by_cases f : b = 0
    · omega
    · rw [if_pos e, if_neg f] at h
      have := ic_lt0 (a := b - 1) (by omega)
      rw [← h] at this
      exact absurd (by decide) (cast this)
  · by_cases f : b = 0
    · rw [if_neg e, if_pos f] at h
      have := ic_lt0 (a := a - 1) (by omega)
      rw [h] at this
      exact absurd (by decide) (cast this)
    · rw [if_neg e, if_neg f, ic_inj (by omega) (by omega)] at h
      omega
theorem ec_m1 {a : Nat} (ha : a < 2147483648) : (ec a = m1) = (a = 0) := by rw [← ec_zero, ec_inj ha (by omega)]
theorem ic_m1 {a : Nat} (ha : a < 2147483647) : (ic a = m1) = False := by rw [← ec_succ a, ec_m1 (by omega)]; exact eq_false (by omega)
theorem kc_1 {a : Nat} (ha : a < 2147483648) : (kc a = 1) = (a = 2) := kc_ic ha (b := 1) (by omega)
theorem kc_0 {a : Nat} (ha : a < 2147483648) : (kc a = 0) = (a = 1) := kc_ic ha (b := 0) (by omega)
theorem i0_add (x : Int32) : 0 + x = x := Int32.zero_add x
theorem add_i0 (x : Int32) : x + 0 = x := Int32.add_zero x
theorem or_i0 (x : Int32) : x ||| 0 = x := Int32.or_zero
theorem z_8 : (ic 8 = 0) = False := eq_false (by decide)
theorem z_4 : (ic 4 = 0) = False := eq_false (by decide)
theorem z_64 : (ic 64 = 0) = False := eq_false (by decide)
theorem z_256 : (ic 256 = 0) = False := eq_false (by decide)
theorem m1_lt0 : (m1 < 0) = True := eq_true (by decide)
theorem m2_lt0 : (m2 < 0) = True := eq_true (by decide)
theorem m3_lt0 : (m3 < 0) = True := eq_true (by decide)
theorem m4_lt0 : (m4 < 0) = True := eq_true (by decide)
/-- an int that is within bounds -/
theorem ic_of {x : Int32} {n : Nat} (h0 : ¬ x < 0) (h1 : x < ic n) (hn : n < 2147483648) : ∃ k, k < n ∧ x = ic k := by
  have h2 : (0 : Int32) ≤ x := Int32.not_lt.mp h0
  refine ⟨x.toNatClampNeg, ?_, (Int32.ofNat_toNatClampNeg x h2).symm⟩
  have h3 : ic x.toNatClampNeg = x := Int32.ofNat_toNatClampNeg x h2
  have h4 := x.toNatClampNeg_lt
  rw [← h3, ic_lt (by omega) hn] at h1
  exact h1
theorem ic_of' {x : Int32} {n : Nat} (h0 : ¬ x < 0) (h1 : ¬ ic n < x) (hn : n < 2147483647) : ∃ k, k ≤ n ∧ x = ic k := by
  have h2 : (0 : Int32) ≤ x := Int32.not_lt.mp h0
  refine ⟨x.toNatClampNeg, ?_, (Int32.ofNat_toNatClampNeg x h2).symm⟩
  have h3 : ic x.toNatClampNeg = x := Int32.ofNat_toNatClampNeg x h2
  have h4 := x.toNatClampNeg_lt
  rw [← h3, ic_lt (by omega) (by omega)] at h1
  omega
/-! ===== bits of a word ===== -/
def hb (x y : Int32) : Bool := decide (x &&& y = y)
theorem hb3_d : ∀ w, w < 64 → hb (ic w) (ic 3) = (w.testBit 1 && w.testBit 0) := by decide +kernel
theorem hb3 {w : Nat} (h : w < 64) : hb (ic w) (ic 3) = (w.testBit 1 && w.testBit 0) := hb3_d w h
theorem hb0 (w : Nat) : hb (ic w) 0 = true := by unfold hb; rw [decide_eq_true_eq, ← ic_zero, ic_and, Nat.and_zero]
theorem hb_pow {w f : Nat} (hw : w < 2147483648) (hf : f < 31) : hb (ic w) (ic (2 ^ f)) = w.testBit f := by
  unfold hb
  have h2 : 2 ^ f < 2 ^ 31 := Nat.pow_lt_pow_right (by decide) hf
  replace h2 : 2 ^ f < 2147483648 := h2
  have h3 : w &&& 2 ^ f < 2147483648 := Nat.lt_of_le_of_lt Nat.and_le_left hw
  simp only [ic_and, ic_inj h3 h2]
  by_cases e : w.testBit f = true
  · rw [e, decide_eq_true_eq]
    apply Nat.eq_of_testBit_eq
    intro i
    rw [Nat.testBit_and, Nat.testBit_two_pow]
    by_cases h : f = i
    · subst h; simp [e]
    · simp [h]
  · rw [Bool.not_eq_true] at e
    rw [e, decide_eq_false_iff_not]
    intro h
    have := congrArg (fun n => n.testBit f) h
    simp only [Nat.testBit_and, Nat.testBit_two_pow_self, e] at this
    cases this
theorem hb1 {w : Nat} (h : w < 4096) : hb (ic w) 1 = w.testBit 0 := hb_pow (f := 0) (by omega) (by omega)
theorem hb2 {w : Nat} (h : w < 4096) : hb (ic w) (ic 2) = w.testBit 1 := hb_pow (f := 1) (by omega) (by omega)
theorem hb4 {w : Nat} (h : w < 4096) : hb (ic w) (ic 4) = w.testBit 2 := hb_pow (f := 2) (by omega) (by omega)
theorem hb32 {w : Nat} (h : w < 4096) : hb (ic w) (ic 32) = w.testBit 5 := hb_pow (f := 5) (by omega) (by omega)
theorem hb16 {w : Nat} (h : w < 4096) : hb (ic w) (ic 16) = w.testBit 4 := hb_pow (f := 4) (by omega) (by omega)
theorem hb18 {w : Nat} (h : w < 4096) : hb (ic w) (ic 18) = (w.testBit 1 && w.testBit 4) := by
  have h3 : w &&& 18 < 2147483648 := Nat.lt_of_le_of_lt Nat.and_le_left (by omega)
  unfold hb
  simp only [ic_and, ic_inj h3 (show 18 < 2147483648 by omega)]
  have e : (w &&& 18 = 18) ↔ (w.testBit 1 = true ∧ w.testBit 4 = true) := by
    constructor
    · intro h
      have a := congrArg (fun n => n.testBit 1) h
      have b := congrArg (fun n => n.testBit 4) h
      simp only [Nat.testBit_and] at a b
      exact ⟨(Bool.and_eq_true _ _ ▸ a : _ ∧ _).1, (Bool.and_eq_true _ _ ▸ b : _ ∧ _).1⟩
    · intro h
      apply Nat.eq_of_testBit_eq
      intro i
      rw [Nat.testBit_and]
      match i with
      | 0 => rw [show Nat.testBit 18 0 = false from by decide]; simp
      | 1 => rw [h.1]; rfl
      | 2 => rw [show Nat.testBit 18 2 = false from by decide]; simp
      | 3 => rw [show Nat.testBit 18 3 = false from by decide]; simp
      | 4 => rw [h.2]; rfl
      | i + 5 => rw [Nat.testBit_lt_two_pow (x := 18) (i := i + 5) (Nat.lt_of_lt_of_le (by decide) (Nat.pow_le_pow_right (n := 2) (by decide) (show 5 ≤ i + 5 by omega)))]; simp
  by_cases c : w &&& 18 = 18
  · rw [decide_eq_true c, (e.mp c).1, (e.mp c).2]; rfl
  · rw [decide_eq_false c]
    cases a : w.testBit 1
    · rfl
    · cases b : w.testBit 4
      · rfl
      · exact absurd (e.mpr ⟨a, b⟩) c
theorem p2_lt {f n : Nat} (h : f < n) : 2 ^ f < 2 ^ n := Nat.pow_lt_pow_right (by decide) h
theorem p2_16 {f : Nat} (h : f < 16) : 2 ^ f < 65536 := p2_lt (n := 16) h
/-- the reference's way to ask for a bit -/
theorem bt_ok {w f : Nat} (hw : w < 2147483648) (hf : f < 31) : (((ic w) >>> (ic f)) &&& 1 = 1) = (w.testBit f = true) := by
  rw [shr_ok hw hf, ic_and1, ic_eq1 (Nat.lt_of_le_of_lt Nat.and_le_right (by omega)), Nat.testBit_eq_decide_div_mod_eq, decide_eq_true_eq]
  rw [show w / 2 ^ f &&& 1 = w / 2 ^ f % 2 from Nat.and_two_pow_sub_one_eq_mod _ 1]
/-- a bit set, a bit cleared -/
def sbt (m f : Nat) : Nat := m ||| 2 ^ f
def cbt (m f : Nat) : Nat := m &&& (2 ^ f ^^^ 4294967295)
theorem ic_cbt (m f : Nat) : ic m &&& (ic (2 ^ f) ^^^ m1) = ic (cbt m f) := by
  rw [show m1 = ic 4294967295 from by decide, ic_xor, ic_and]; rfl
theorem sbt_lt {m f n : Nat} (h : m < 2 ^ n) (hf : f < n) : sbt m f < 2 ^ n := Nat.or_lt_two_pow h (p2_lt hf)
theorem cbt_lt {m f n : Nat} (h : m < 2 ^ n) : cbt m f < 2 ^ n := Nat.lt_of_le_of_lt Nat.and_le_left h
theorem tb_sbt (m f i : Nat) : (sbt m f).testBit i = (m.testBit i || decide (f = i)) := by unfold sbt; rw [Nat.testBit_or, Nat.testBit_two_pow]
theorem tb_cbt {m f i : Nat} (hm : m < 2 ^ 32) : (cbt m f).testBit i = (m.testBit i && !decide (f = i)) := by
  unfold cbt
  rw [Nat.testBit_and, Nat.testBit_xor, Nat.testBit_two_pow, show (4294967295 : Nat) = 2 ^ 32 - 1 by rfl, Nat.testBit_two_pow_sub_one]
  by_cases hi : i < 32
  · simp [hi]
  · rw [Nat.testBit_lt_two_pow (Nat.lt_of_lt_of_le hm (Nat.pow_le_pow_right (by decide) (by omega)))]; simp
theorem shr2_d : ∀ e, e < 65 → kc e >>> ic 2 = if e = 0 then m1 else ic ((e - 1) / 4) := by decide +kernel
theorem shr2_eq {e f : Nat} (he : e ≤ 64) (hf : f < 2147483647) : (kc e >>> ic 2 = ic f) = (e ≠ 0 ∧ (e - 1) / 4 = f) := by
  rw [shr2_d e (by omega)]
  by_cases c : e = 0
  · rw [if_pos c]
    refine propext ⟨fun h => ?_, fun h => absurd c h.1⟩
    have := ic_m1 hf
    rw [h] at this
    exact absurd rfl (cast this)
  · rw [if_neg c, ic_inj (by omega) (by omega)]
    exact propext ⟨fun h => ⟨c, h⟩, fun h => h.2⟩
/-! ===== a memory as its shape, its ints, its longs ===== -/
abbrev SH : Type := (Nat × Nat) × (Nat → Nat × Nat) × (Nat → Nat → Nat)
abbrev II : Type := Nat → Nat → Int32
abbrev LL : Type := Nat → Nat → Int64
def hp (S : SH) (I : II) (L : LL) : AH := (S.1, S.2.1, I, L, S.2.2)
def tT (S : SH) (a : Nat) : Nat × Nat := S.2.1 a
def tR (S : SH) (a k : Nat) : Nat := S.2.2 a k
theorem hp_eta (h : AH) : h = hp (h.1, h.2.1, h.2.2.2.2) h.2.2.1 h.2.2.2.1 := rfl
theorem hp_tg (S : SH) (I : II) (L : LL) (a : Nat) : tg (hp S I L) a = tT S a := rfl
theorem hp_rI (S : SH) (I : II) (L : LL) (a k : Nat) : rI (hp S I L) a k = I a k := rfl
theorem hp_rL (S : SH) (I : II) (L : LL) (a k : Nat) : rL (hp S I L) a k = L a k := rfl
theorem hp_rR (S : SH) (I : II) (L : LL) (a k : Nat) : rR (hp S I L) a k = tR S a k := rfl
theorem hp_wI (S : SH) (I : II) (L : LL) (a k : Nat) (v : Int32) : wI (hp S I L) a k v = hp S (up2 I a k v) L := rfl
theorem hp_wL (S : SH) (I : II) (L : LL) (a k : Nat) (v : Int64) : wL (hp S I L) a k v = hp S I (up2 L a k v) := rfl
def cpf (I : II) (s sp d dp n : Nat) : II := fun b j => if b = d then va_cpy (I s) (I d) sp dp n j else I b j
theorem hp_cpI (S : SH) (I : II) (L : LL) (s sp d dp n : Nat) : cpI (hp S I L) s sp d dp n = hp S (cpf I s sp d dp n) L := rfl
theorem if_inB {S : SH} {I : II} {L : LL} {a t n k : Nat} (hT : tT S a = (t, n)) (hk : k < n) (hn : n < 2147483648) : inB (hp S I L) a t (ic k) = true := by
  unfold inB
  rw [decide_eq_true_eq, hp_tg, hT]
  refine ⟨rfl, ?_⟩
  rw [ic_lt0 (by omega), ic_clamp (by omega)]
  simp only [false_or]
  omega
theorem bnd {α β : Type} {p : Option α} {v : α} (e : p = some v) {f : α → Option β} : p.bind f = f v := by rw [e]; rfl
theorem up_s {α : Type} (f : Nat → Nat → α) (a k : Nat) (v : α) : up2 f a k v a k = v := if_pos ⟨rfl, rfl⟩
theorem up_a {α : Type} {f : Nat → Nat → α} {a k b j : Nat} {v : α} (h : b ≠ a) : up2 f a k v b j = f b j := if_neg (fun e => h e.1)
theorem up_k {α : Type} {f : Nat → Nat → α} {a k b j : Nat} {v : α} (h : j ≠ k) : up2 f a k v b j = f b j := if_neg (fun e => h e.2)
theorem up_i {α : Type} (f : Nat → Nat → α) (a k j : Nat) (v : α) : up2 f a k v a j = if j = k then v else f a j := by
  unfold up2
  by_cases h : j = k
  · rw [if_pos ⟨rfl, h⟩, if_pos h]
  · rw [if_neg (fun e => h e.2), if_neg h]
/-- nothing but these addresses has changed -/
def Fr (I I' : II) (lo hi : Nat) : Prop := ∀ b, b < lo ∨ hi < b → I' b = I b
theorem Fr.refl (I : II) (lo hi : Nat) : Fr I I lo hi := fun _ _ => rfl
theorem Fr.trans {I I' I'' : II} {lo hi : Nat} (a : Fr I I' lo hi) (b : Fr I' I'' lo hi) : Fr I I'' lo hi := fun x h => (b x h).trans (a x h)
theorem Fr.wide {I I' : II} {lo hi lo' hi' : Nat} (a : Fr I I' lo hi) (h1 : lo' ≤ lo) (h2 : hi ≤ hi') : Fr I I' lo' hi' := fun x h => a x (by omega)
theorem Fr.up {I : II} {a k : Nat} {v : Int32} {lo hi : Nat} (h1 : lo ≤ a) (h2 : a ≤ hi) : Fr I (up2 I a k v) lo hi := fun b h => funext fun j => up_a (by omega)
theorem Fr.cp {I : II} {s sp d dp n : Nat} {lo hi : Nat} (h1 : lo ≤ d) (h2 : d ≤ hi) : Fr I (cpf I s sp d dp n) lo hi := fun b h => funext fun j => if_neg (by omega)
/-! ===== loops ===== -/
def fs (p : Nat → Bool) : Nat → Nat → Option Nat
  | 0, _ => none
  | d + 1, k => if p k = true then some k else fs p d (k + 1)
theorem fs_some {p : Nat → Bool} : ∀ {d k j : Nat}, fs p d k = some j → k ≤ j ∧ j < k + d ∧ p j = true ∧ ∀ i, k ≤ i → i < j → p i = false := by
  intro d
  induction d with
  | zero => intro k j h; cases h
  | succ d ih =>
    intro k j h
    unfold fs at h
    by_cases e : p k = true
    · rw [if_pos e] at h
      cases h
      exact ⟨Nat.le_refl _, by omega, e, fun i h1 h2 => by omega⟩
    · rw [if_neg e] at h
      obtain ⟨a1, a2, a3, a4⟩ := ih h
      refine ⟨by omega, by omega, a3, fun i h1 h2 => ?_⟩
      by_cases hi : i = k
      · subst hi; exact Bool.not_eq_true _ ▸ e
      · exact a4 i (by omega) h2
theorem fs_none {p : Nat → Bool} : ∀ {d k : Nat}, fs p d k = none → ∀ i, k ≤ i → i < k + d → p i = false := by
  intro d
  induction d with
  | zero => intro k _ i h1 h2; omega
  | succ d ih =>
    intro k h i h1 h2
    unfold fs at h
    by_cases e : p k = true
    · rw [if_pos e] at h; cases h
    · rw [if_neg e] at h
      by_cases hi : i = k
      · subst hi; exact Bool.not_eq_true _ ▸ e
      · exact ih h i (by omega) (by omega)
theorem fs_of {p : Nat → Bool} : ∀ {d k j : Nat}, k ≤ j → j < k + d → p j = true → (∀ i, k ≤ i → i < j → p i = false) → fs p d k = some j := by
  intro d
  induction d with
  | zero => intro k j h1 h2; omega
  | succ d ih =>
    intro k j h1 h2 h3 h4
    unfold fs
    by_cases e : k = j
    · subst e; rw [if_pos h3]
    · rw [if_neg (by rw [h4 k (Nat.le_refl _) (by omega)]; decide)]
      exact ih (by omega) (by omega) h3 (fun i a b => h4 i (by omega) b)
theorem fs_no {p : Nat → Bool} {d k : Nat} (h : ∀ i, k ≤ i → i < k + d → p i = false) : fs p d k = none := by
  cases e : fs p d k with
  | none => rfl
  | some j =>
    obtain ⟨a1, a2, a3, -⟩ := fs_some e
    rw [h j a1 a2] at a3
    cases a3
theorem fs_congr {p q : Nat → Bool} : ∀ {d k : Nat}, (∀ i, k ≤ i → i < k + d → p i = q i) → fs p d k = fs q d k := by
  intro d
  induction d with
  | zero => intro k _; rfl
  | succ d ih =>
    intro k h
    unfold fs
    rw [h k (Nat.le_refl _) (by omega), ih (fun i a b => h i (by omega) (by omega))]
/-- a shorter search, where nothing is to be found behind -/
theorem fs_short {p : Nat → Bool} {d e k : Nat} (hd : d ≤ e) (h : ∀ i, k + d ≤ i → i < k + e → p i = false) : fs p d k = fs p e k := by
  cases q : fs p d k with
  | none =>
    have := fs_none q
    refine (fs_no fun i h1 h2 => ?_).symm
    by_cases hi : i < k + d
    · exact this i h1 hi
    · exact h i (by omega) h2
  | some j =>
    obtain ⟨a1, a2, a3, a4⟩ := fs_some q
    exact (fs_of a1 (by omega) a3 a4).symm
def om {α β : Type} (o : Option α) (e : β) (f : α → β) : β := match o with
  | none => e
  | some a => f a
theorem om_none {α β : Type} (e : β) (f : α → β) : om none e f = e := rfl
theorem om_some {α β : Type} (a : α) (e : β) (f : α → β) : om (some a) e f = f a := rfl
theorem lp_first {ρ : Type} (F : Nat → Nat → Option ρ) (N : Nat) (p : Nat → Bool) (r : Nat → Option ρ) (e : Option ρ)
    (hs : ∀ n k, k < N → F (n + 1) k = if p k = true then r k else F n (k + 1)) (he : ∀ n, F (n + 1) N = e) :
    ∀ d k n, k + d = N → d < n → F n k = om (fs p d k) e r := by
  intro d
  induction d with
  | zero =>
    intro k n h1 h2
    obtain ⟨n, rfl⟩ : ∃ m, n = m + 1 := ⟨n - 1, by omega⟩
    rw [show k = N by omega, he]; rfl
  | succ d ih =>
    intro k n h1 h2
    obtain ⟨n, rfl⟩ : ∃ m, n = m + 1 := ⟨n - 1, by omega⟩
    rw [hs n k (by omega)]
    unfold fs
    by_cases c : p k = true
    · rw [if_pos c, if_pos c]; rfl
    · rw [if_neg c, if_neg c]; exact ih (k + 1) n (by omega) (by omega)
def fo {α : Type} (g : Nat → α → α) : Nat → Nat → α → α
  | 0, _, s => s
  | d + 1, k, s => fo g d (k + 1) (g k s)
theorem lp_fold {ρ α : Type} (F : Nat → Nat → α → Option ρ) (N : Nat) (g : Nat → α → α) (e : α → Option ρ)
    (hs : ∀ n k s, k < N → F (n + 1) k s = F n (k + 1) (g k s)) (he : ∀ n s, F (n + 1) N s = e s) :
    ∀ d k n s, k + d = N → d < n → F n k s = e (fo g d k s) := by
  intro d
  induction d with
  | zero =>
    intro k n s h1 h2
    obtain ⟨n, rfl⟩ : ∃ m, n = m + 1 := ⟨n - 1, by omega⟩
    rw [show k = N by omega, he]; rfl
  | succ d ih =>
    intro k n s h1 h2
    obtain ⟨n, rfl⟩ : ∃ m, n = m + 1 := ⟨n - 1, by omega⟩
    rw [hs n k s (by omega)]
    exact ih (k + 1) n _ (by omega) (by omega)
theorem fo_congr {α : Type} {g g' : Nat → α → α} : ∀ {d k : Nat} {s : α}, (∀ i s, k ≤ i → i < k + d → g i s = g' i s) → fo g d k s = fo g' d k s := by
  intro d
  induction d with
  | zero => intro k s _; rfl
  | succ d ih =>
    intro k s h
    unfold fo
    rw [h k s (Nat.le_refl _) (by omega), ih (fun i s a b => h i s (by omega) (by omega))]
/-- what holds at every turn -/
theorem fo_inv {α : Type} {g : Nat → α → α} {P : Nat → α → Prop} : ∀ {d k : Nat} {s : α}, P k s → (∀ i s, k ≤ i → i < k + d → P i s → P (i + 1) (g i s)) → P (k + d) (fo g d k s) := by
  intro d
  induction d with
  | zero => intro k s h _; exact h
  | succ d ih =>
    intro k s h hs
    have := ih (k := k + 1) (s := g k s) (hs k s (Nat.le_refl _) (by omega) h) (fun i s a b => hs i s (by omega) (by omega))
    rw [show k + (d + 1) = k + 1 + d by omega]
    exact this
/-- a loop by what holds at every turn -/
theorem lp_inv {ρ α : Type} (F : Nat → Nat → α → Option ρ) (N : Nat) (P : Nat → α → Prop) (Q : ρ → Prop)
    (hs : ∀ n k s, k < N → P k s → ∃ s', F (n + 1) k s = F n (k + 1) s' ∧ P (k + 1) s') (he : ∀ n s, P N s → ∃ r, F (n + 1) N s = some r ∧ Q r) :
    ∀ d k n s, k + d = N → d < n → P k s → ∃ r, F n k s = some r ∧ Q r := by
  intro d
  induction d with
  | zero =>
    intro k n s h1 h2 hp
    obtain ⟨n, rfl⟩ : ∃ m, n = m + 1 := ⟨n - 1, by omega⟩
    obtain rfl : k = N := by omega
    exact he n s hp
  | succ d ih =>
    intro k n s h1 h2 hp
    obtain ⟨n, rfl⟩ : ∃ m, n = m + 1 := ⟨n - 1, by omega⟩
    obtain ⟨s', e1, e2⟩ := hs n k s (by omega) hp
    obtain ⟨r, e3, e4⟩ := ih (k + 1) n s' (by omega) (by omega) e2
    exact ⟨r, e1.trans e3, e4⟩
/-- a loop that may end early -/
theorem lp_inv2 {ρ α : Type} (F : Nat → Nat → α → Option ρ) (N : Nat) (P : Nat → α → Prop) (Q : ρ → Prop)
    (hs : ∀ n k s, k < N → P k s → (∃ s', F (n + 1) k s = F n (k + 1) s' ∧ P (k + 1) s') ∨ ∃ r, F (n + 1) k s = some r ∧ Q r) (he : ∀ n s, P N s → ∃ r, F (n + 1) N s = some r ∧ Q r) :
    ∀ d k n s, k + d = N → d < n → P k s → ∃ r, F n k s = some r ∧ Q r := by
  intro d
  induction d with
  | zero =>
    intro k n s h1 h2 hp
    obtain ⟨n, rfl⟩ : ∃ m, n = m + 1 := ⟨n - 1, by omega⟩
    obtain rfl : k = N := by omega
    exact he n s hp
  | succ d ih =>
    intro k n s h1 h2 hp
    obtain ⟨n, rfl⟩ : ∃ m, n = m + 1 := ⟨n - 1, by omega⟩
    rcases hs n k s (by omega) hp with ⟨s', e1, e2⟩ | h
    · obtain ⟨r, e3, e4⟩ := ih (k + 1) n s' (by omega) (by omega) e2
      exact ⟨r, e1.trans e3, e4⟩
    · exact h
theorem fu_lt {d : Nat} (h : d < 10000) : d < FU := h
theorem p_has (x y : Int32) (h : AH) : p_X7_has x y h = some (bi (hb x y), h) := by
  unfold p_X7_has p_X7_has_12 hb
  by_cases e : x &&& y = y
  · rw [if_pos e, decide_eq_true e]; rfl
  · rw [if_neg e, decide_eq_false e]; rfl
theorem p_has_b (x y : Int32) (h : AH) {β : Type} (f9 : Int32 × AH → Option β) : (p_X7_has x y h).bind f9 = f9 (bi (hb x y), h) := bnd (by apply p_has <;> assumption)
theorem p_bit (b : Bool) (h : AH) : p_X7_bit (bi b) h = some (bi b, h) := by cases b <;> rfl
theorem p_bit_b (b : Bool) (h : AH) {β : Type} (f9 : Int32 × AH → Option β) : (p_X7_bit (bi b) h).bind f9 = f9 (bi b, h) := bnd (by apply p_bit <;> assumption)
theorem p_bit1 (h : AH) : p_X7_bit 1 h = some (1, h) := rfl
theorem p_bit1_b (h : AH) {β : Type} (f9 : Int32 × AH → Option β) : (p_X7_bit 1 h).bind f9 = f9 (1, h) := bnd (by apply p_bit1 <;> assumption)
theorem p_bit0 (h : AH) : p_X7_bit 0 h = some (0, h) := rfl
theorem p_bit0_b (h : AH) {β : Type} (f9 : Int32 × AH → Option β) : (p_X7_bit 0 h).bind f9 = f9 (0, h) := bnd (by apply p_bit0 <;> assumption)
theorem p_has9 (x y : Int32) (h : AH) : p_X9_has x y h = some (bi (hb x y), h) := by
  unfold p_X9_has p_X9_has_12 hb
  by_cases e : x &&& y = y
  · rw [if_pos e, decide_eq_true e]; rfl
  · rw [if_neg e, decide_eq_false e]; rfl
theorem p_has9_b (x y : Int32) (h : AH) {β : Type} (f9 : Int32 × AH → Option β) : (p_X9_has x y h).bind f9 = f9 (bi (hb x y), h) := bnd (by apply p_has9 <;> assumption)
