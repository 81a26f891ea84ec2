/-! ===== what follows from the sets that fit ===== -/
def bcN (F : Nat) : Nat :=
  let x1 := F - ((F / 2) &&& 1431655765)
  let x2 := (x1 &&& 858993459) + ((x1 / 4) &&& 858993459)
  let x3 := (x2 + x2 / 16) &&& 252645135
  let x4 := x3 + x3 / 256
  let x5 := x4 + x4 / 65536
  x5 &&& 63
def pcN (n : Nat) : Nat := n % 2 + n / 2 % 2 + n / 4 % 2 + n / 8 % 2 + n / 16 % 2 + n / 32 % 2 + n / 64 % 2 + n / 128 % 2 + n / 256 % 2 + n / 512 % 2 + n / 1024 % 2 + n / 2048 % 2 + n / 4096 % 2 + n / 8192 % 2 + n / 16384 % 2 + n / 32768 % 2
def alB (f : Nat → Bool) : Nat → Bool
  | 0 => true
  | n + 1 => f n && alB f n
theorem alB_at {f : Nat → Bool} : ∀ {n : Nat}, alB f n = true → ∀ k, k < n → f k = true := by
  intro n
  induction n with
  | zero => intro _ k h; omega
  | succ n ih =>
    intro h k hk
    unfold alB at h
    rw [Bool.and_eq_true] at h
    by_cases c : k = n
    · rw [c]; exact h.1
    · exact ih h.2 k (by omega)
theorem bc_all : alB (fun a => alB (fun b => Nat.beq (bcN (256 * a + b)) (pcN (256 * a + b))) 256) 256 = true := by decide +kernel
theorem bc_n {F : Nat} (h : F < 65536) : bcN F = pcN F := by
  have h1 := alB_at bc_all (F / 256) (by omega)
  have h2 := alB_at h1 (F % 256) (by omega)
  have h3 := Nat.eq_of_beq_eq_true h2
  rw [show 256 * (F / 256) + F % 256 = F by omega] at h3
  exact h3
theorem pc_cnt (F : Nat) : cnt (fun n => F.testBit n) 16 = pcN F := by
  have st : ∀ k c, (if F.testBit k = true then c + 1 else c) = c + F / 2 ^ k % 2 := by
    intro k c
    rw [Nat.testBit_eq_decide_div_mod_eq]
    by_cases h : F / 2 ^ k % 2 = 1
    · rw [if_pos (decide_eq_true h)]; omega
    · rw [if_neg (by rw [decide_eq_false h]; decide)]; omega
  unfold cnt
  simp only [fo, st]
  unfold pcN
  simp only [Nat.reducePow, Nat.div_one, Nat.zero_add, Nat.reduceAdd]
theorem ush_ok {a k : Nat} (ha : a < 2147483648) (hk : k < 31) : ((ic a).toUInt32 >>> (ic k &&& ic 31).toUInt32).toInt32 = ic (a / 2 ^ k) := by
  rw [and31, Nat.mod_eq_of_lt (by omega)]
  apply Int32.toBitVec_inj.mp
  show (BitVec.ofNat 32 a) >>> ((BitVec.ofNat 32 k) % 32#32) = BitVec.ofNat 32 (a / 2 ^ k)
  have hk2 : (BitVec.ofNat 32 k % 32#32) = BitVec.ofNat 32 k := by
    apply BitVec.eq_of_toNat_eq
    rw [BitVec.toNat_umod, BitVec.toNat_ofNat, Nat.mod_eq_of_lt (show k < 2 ^ 32 by omega), show (32#32).toNat = 32 from rfl]
    exact Nat.mod_eq_of_lt (by omega)
  rw [hk2]
  apply BitVec.eq_of_toNat_eq
  have h1 : a / 2 ^ k ≤ a := Nat.div_le_self a _
  rw [BitVec.ushiftRight_eq', BitVec.toNat_ushiftRight, BitVec.toNat_ofNat, BitVec.toNat_ofNat, BitVec.toNat_ofNat, Nat.mod_eq_of_lt (by omega), Nat.mod_eq_of_lt (by omega), Nat.mod_eq_of_lt (by omega), Nat.shiftRight_eq_div_pow]
theorem p_bc {F : Nat} (hF : F < 65536) (h : AH) : p_J6_bitCount_0f7a4 (ic F) h = some (ic (cnt (fun n => F.testBit n) 16), h) := by
  rw [pc_cnt, ← bc_n hF]
  unfold p_J6_bitCount_0f7a4 bcN
  have a1 : (F / 2) &&& 1431655765 ≤ F / 2 := Nat.and_le_left
  have a2 : (F - ((F / 2) &&& 1431655765)) &&& 858993459 ≤ F - ((F / 2) &&& 1431655765) := Nat.and_le_left
  have a3 : ((F - ((F / 2) &&& 1431655765)) / 4) &&& 858993459 ≤ (F - ((F / 2) &&& 1431655765)) / 4 := Nat.and_le_left
  generalize hx1 : F - ((F / 2) &&& 1431655765) = x1 at a2 a3
  generalize hx2 : (x1 &&& 858993459) + ((x1 / 4) &&& 858993459) = x2
  have b2 : x2 < 200000 := by omega
  have a4 : (x2 + x2 / 16) &&& 252645135 ≤ x2 + x2 / 16 := Nat.and_le_left
  generalize hx3 : (x2 + x2 / 16) &&& 252645135 = x3 at a4
  have u1 := ush_ok (a := F) (k := 1) (by omega) (by omega)
  have u2 := ush_ok (a := x1) (k := 2) (by omega) (by omega)
  have u3 := ush_ok (a := x2) (k := 4) (by omega) (by omega)
  have u4 := ush_ok (a := x3) (k := 8) (by omega) (by omega)
  have u5 := ush_ok (a := x3 + x3 / 256) (k := 16) (by omega) (by omega)
  have v1 : ic F - (((ic F).toUInt32 >>> ((1 : Int32) &&& 31).toUInt32).toInt32 &&& 1431655765) = ic x1 := by
    rw [show ((1 : Int32) &&& 31) = (ic 1 &&& ic 31) from rfl, u1, show (1431655765 : Int32) = ic 1431655765 from rfl, ic_and, show F / 2 ^ 1 = F / 2 from rfl, ic_sub (by omega), hx1]
  have v2 : (ic x1 &&& 858993459) + (((ic x1).toUInt32 >>> ((2 : Int32) &&& 31).toUInt32).toInt32 &&& 858993459) = ic x2 := by
    rw [show ((2 : Int32) &&& 31) = (ic 2 &&& ic 31) from rfl, u2, show (858993459 : Int32) = ic 858993459 from rfl, ic_and, ic_and, show x1 / 2 ^ 2 = x1 / 4 from rfl, ic_add, hx2]
  have v3 : (ic x2 + ((ic x2).toUInt32 >>> ((4 : Int32) &&& 31).toUInt32).toInt32) &&& 252645135 = ic x3 := by
    rw [show ((4 : Int32) &&& 31) = (ic 4 &&& ic 31) from rfl, u3, show (252645135 : Int32) = ic 252645135 from rfl, show x2 / 2 ^ 4 = x2 / 16 from rfl, ic_add, ic_and, hx3]
  have v4 : ic x3 + ((ic x3).toUInt32 >>> ((8 : Int32) &&& 31).toUInt32).toInt32 = ic (x3 + x3 / 256) := by
    rw [show ((8 : Int32) &&& 31) = (ic 8 &&& ic 31) from rfl, u4, show x3 / 2 ^ 8 = x3 / 256 from rfl, ic_add]
  have v5 : ic (x3 + x3 / 256) + ((ic (x3 + x3 / 256)).toUInt32 >>> ((16 : Int32) &&& 31).toUInt32).toInt32 = ic (x3 + x3 / 256 + (x3 + x3 / 256) / 65536) := by
    rw [show ((16 : Int32) &&& 31) = (ic 16 &&& ic 31) from rfl, u5, show (x3 + x3 / 256) / 2 ^ 16 = (x3 + x3 / 256) / 65536 from rfl, ic_add]
  dsimp only
  rw [v1, v2, v3, v4, v5, show (63 : Int32) = ic 63 from rfl, ic_and]
  simp only [hx1, hx2, hx3]
