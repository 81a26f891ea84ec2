/-! ===== the state in one word: words, hosts (0: none), writable, marks, root, kinds (0: free), owners (0: none), births, out of step, entries (0: none), clock ===== -/
abbrev St : Type := (Nat → Nat) × (Nat → Nat) × (Nat → Bool) × (Nat) × (Nat) × (Nat → Nat) × (Nat → Nat) × (Nat → Nat) × (Nat → Bool) × (Nat → Nat) × (Nat)
def sW (s : St) : Nat → Nat := s.1
def sH (s : St) : Nat → Nat := s.2.1
def sw (s : St) : Nat → Bool := s.2.2.1
def sm (s : St) : Nat := s.2.2.2.1
def sr (s : St) : Nat := s.2.2.2.2.1
def sk (s : St) : Nat → Nat := s.2.2.2.2.2.1
def so (s : St) : Nat → Nat := s.2.2.2.2.2.2.1
def sb (s : St) : Nat → Nat := s.2.2.2.2.2.2.2.1
def su (s : St) : Nat → Bool := s.2.2.2.2.2.2.2.2.1
def se (s : St) : Nat → Nat := s.2.2.2.2.2.2.2.2.2.1
def sc (s : St) : Nat := s.2.2.2.2.2.2.2.2.2.2
def uW (s : St) (f : Nat → Nat) : St := (f, s.2.1, s.2.2.1, s.2.2.2.1, s.2.2.2.2.1, s.2.2.2.2.2.1, s.2.2.2.2.2.2.1, s.2.2.2.2.2.2.2.1, s.2.2.2.2.2.2.2.2.1, s.2.2.2.2.2.2.2.2.2.1, s.2.2.2.2.2.2.2.2.2.2)
def uH (s : St) (f : Nat → Nat) : St := (s.1, f, s.2.2.1, s.2.2.2.1, s.2.2.2.2.1, s.2.2.2.2.2.1, s.2.2.2.2.2.2.1, s.2.2.2.2.2.2.2.1, s.2.2.2.2.2.2.2.2.1, s.2.2.2.2.2.2.2.2.2.1, s.2.2.2.2.2.2.2.2.2.2)
def uw (s : St) (f : Nat → Bool) : St := (s.1, s.2.1, f, s.2.2.2.1, s.2.2.2.2.1, s.2.2.2.2.2.1, s.2.2.2.2.2.2.1, s.2.2.2.2.2.2.2.1, s.2.2.2.2.2.2.2.2.1, s.2.2.2.2.2.2.2.2.2.1, s.2.2.2.2.2.2.2.2.2.2)
def um (s : St) (f : Nat) : St := (s.1, s.2.1, s.2.2.1, f, s.2.2.2.2.1, s.2.2.2.2.2.1, s.2.2.2.2.2.2.1, s.2.2.2.2.2.2.2.1, s.2.2.2.2.2.2.2.2.1, s.2.2.2.2.2.2.2.2.2.1, s.2.2.2.2.2.2.2.2.2.2)
def ur (s : St) (f : Nat) : St := (s.1, s.2.1, s.2.2.1, s.2.2.2.1, f, s.2.2.2.2.2.1, s.2.2.2.2.2.2.1, s.2.2.2.2.2.2.2.1, s.2.2.2.2.2.2.2.2.1, s.2.2.2.2.2.2.2.2.2.1, s.2.2.2.2.2.2.2.2.2.2)
def uk (s : St) (f : Nat → Nat) : St := (s.1, s.2.1, s.2.2.1, s.2.2.2.1, s.2.2.2.2.1, f, s.2.2.2.2.2.2.1, s.2.2.2.2.2.2.2.1, s.2.2.2.2.2.2.2.2.1, s.2.2.2.2.2.2.2.2.2.1, s.2.2.2.2.2.2.2.2.2.2)
def uo (s : St) (f : Nat → Nat) : St := (s.1, s.2.1, s.2.2.1, s.2.2.2.1, s.2.2.2.2.1, s.2.2.2.2.2.1, f, s.2.2.2.2.2.2.2.1, s.2.2.2.2.2.2.2.2.1, s.2.2.2.2.2.2.2.2.2.1, s.2.2.2.2.2.2.2.2.2.2)
def ub (s : St) (f : Nat → Nat) : St := (s.1, s.2.1, s.2.2.1, s.2.2.2.1, s.2.2.2.2.1, s.2.2.2.2.2.1, s.2.2.2.2.2.2.1, f, s.2.2.2.2.2.2.2.2.1, s.2.2.2.2.2.2.2.2.2.1, s.2.2.2.2.2.2.2.2.2.2)
def uu (s : St) (f : Nat → Bool) : St := (s.1, s.2.1, s.2.2.1, s.2.2.2.1, s.2.2.2.2.1, s.2.2.2.2.2.1, s.2.2.2.2.2.2.1, s.2.2.2.2.2.2.2.1, f, s.2.2.2.2.2.2.2.2.2.1, s.2.2.2.2.2.2.2.2.2.2)
def ue (s : St) (f : Nat → Nat) : St := (s.1, s.2.1, s.2.2.1, s.2.2.2.1, s.2.2.2.2.1, s.2.2.2.2.2.1, s.2.2.2.2.2.2.1, s.2.2.2.2.2.2.2.1, s.2.2.2.2.2.2.2.2.1, f, s.2.2.2.2.2.2.2.2.2.2)
def uc (s : St) (f : Nat) : St := (s.1, s.2.1, s.2.2.1, s.2.2.2.1, s.2.2.2.2.1, s.2.2.2.2.2.1, s.2.2.2.2.2.2.1, s.2.2.2.2.2.2.2.1, s.2.2.2.2.2.2.2.2.1, s.2.2.2.2.2.2.2.2.2.1, f)
theorem sWuW (s : St) (f : Nat → Nat) : sW (uW s f) = f := rfl
theorem sWuH (s : St) (f : Nat → Nat) : sW (uH s f) = sW s := rfl
theorem sWuw (s : St) (f : Nat → Bool) : sW (uw s f) = sW s := rfl
theorem sWum (s : St) (f : Nat) : sW (um s f) = sW s := rfl
theorem sWur (s : St) (f : Nat) : sW (ur s f) = sW s := rfl
theorem sWuk (s : St) (f : Nat → Nat) : sW (uk s f) = sW s := rfl
theorem sWuo (s : St) (f : Nat → Nat) : sW (uo s f) = sW s := rfl
theorem sWub (s : St) (f : Nat → Nat) : sW (ub s f) = sW s := rfl
theorem sWuu (s : St) (f : Nat → Bool) : sW (uu s f) = sW s := rfl
theorem sWue (s : St) (f : Nat → Nat) : sW (ue s f) = sW s := rfl
theorem sWuc (s : St) (f : Nat) : sW (uc s f) = sW s := rfl
theorem sHuW (s : St) (f : Nat → Nat) : sH (uW s f) = sH s := rfl
theorem sHuH (s : St) (f : Nat → Nat) : sH (uH s f) = f := rfl
theorem sHuw (s : St) (f : Nat → Bool) : sH (uw s f) = sH s := rfl
theorem sHum (s : St) (f : Nat) : sH (um s f) = sH s := rfl
theorem sHur (s : St) (f : Nat) : sH (ur s f) = sH s := rfl
theorem sHuk (s : St) (f : Nat → Nat) : sH (uk s f) = sH s := rfl
theorem sHuo (s : St) (f : Nat → Nat) : sH (uo s f) = sH s := rfl
theorem sHub (s : St) (f : Nat → Nat) : sH (ub s f) = sH s := rfl
theorem sHuu (s : St) (f : Nat → Bool) : sH (uu s f) = sH s := rfl
theorem sHue (s : St) (f : Nat → Nat) : sH (ue s f) = sH s := rfl
theorem sHuc (s : St) (f : Nat) : sH (uc s f) = sH s := rfl
theorem swuW (s : St) (f : Nat → Nat) : sw (uW s f) = sw s := rfl
theorem swuH (s : St) (f : Nat → Nat) : sw (uH s f) = sw s := rfl
theorem swuw (s : St) (f : Nat → Bool) : sw (uw s f) = f := rfl
theorem swum (s : St) (f : Nat) : sw (um s f) = sw s := rfl
theorem swur (s : St) (f : Nat) : sw (ur s f) = sw s := rfl
theorem swuk (s : St) (f : Nat → Nat) : sw (uk s f) = sw s := rfl
theorem swuo (s : St) (f : Nat → Nat) : sw (uo s f) = sw s := rfl
theorem swub (s : St) (f : Nat → Nat) : sw (ub s f) = sw s := rfl
theorem swuu (s : St) (f : Nat → Bool) : sw (uu s f) = sw s := rfl
theorem swue (s : St) (f : Nat → Nat) : sw (ue s f) = sw s := rfl
theorem swuc (s : St) (f : Nat) : sw (uc s f) = sw s := rfl
theorem smuW (s : St) (f : Nat → Nat) : sm (uW s f) = sm s := rfl
theorem smuH (s : St) (f : Nat → Nat) : sm (uH s f) = sm s := rfl
theorem smuw (s : St) (f : Nat → Bool) : sm (uw s f) = sm s := rfl
theorem smum (s : St) (f : Nat) : sm (um s f) = f := rfl
theorem smur (s : St) (f : Nat) : sm (ur s f) = sm s := rfl
theorem smuk (s : St) (f : Nat → Nat) : sm (uk s f) = sm s := rfl
theorem smuo (s : St) (f : Nat → Nat) : sm (uo s f) = sm s := rfl
theorem smub (s : St) (f : Nat → Nat) : sm (ub s f) = sm s := rfl
theorem smuu (s : St) (f : Nat → Bool) : sm (uu s f) = sm s := rfl
theorem smue (s : St) (f : Nat → Nat) : sm (ue s f) = sm s := rfl
theorem smuc (s : St) (f : Nat) : sm (uc s f) = sm s := rfl
theorem sruW (s : St) (f : Nat → Nat) : sr (uW s f) = sr s := rfl
theorem sruH (s : St) (f : Nat → Nat) : sr (uH s f) = sr s := rfl
theorem sruw (s : St) (f : Nat → Bool) : sr (uw s f) = sr s := rfl
theorem srum (s : St) (f : Nat) : sr (um s f) = sr s := rfl
theorem srur (s : St) (f : Nat) : sr (ur s f) = f := rfl
theorem sruk (s : St) (f : Nat → Nat) : sr (uk s f) = sr s := rfl
theorem sruo (s : St) (f : Nat → Nat) : sr (uo s f) = sr s := rfl
theorem srub (s : St) (f : Nat → Nat) : sr (ub s f) = sr s := rfl
theorem sruu (s : St) (f : Nat → Bool) : sr (uu s f) = sr s := rfl
theorem srue (s : St) (f : Nat → Nat) : sr (ue s f) = sr s := rfl
theorem sruc (s : St) (f : Nat) : sr (uc s f) = sr s := rfl
theorem skuW (s : St) (f : Nat → Nat) : sk (uW s f) = sk s := rfl
theorem skuH (s : St) (f : Nat → Nat) : sk (uH s f) = sk s := rfl
theorem skuw (s : St) (f : Nat → Bool) : sk (uw s f) = sk s := rfl
theorem skum (s : St) (f : Nat) : sk (um s f) = sk s := rfl
theorem skur (s : St) (f : Nat) : sk (ur s f) = sk s := rfl
theorem skuk (s : St) (f : Nat → Nat) : sk (uk s f) = f := rfl
theorem skuo (s : St) (f : Nat → Nat) : sk (uo s f) = sk s := rfl
theorem skub (s : St) (f : Nat → Nat) : sk (ub s f) = sk s := rfl
theorem skuu (s : St) (f : Nat → Bool) : sk (uu s f) = sk s := rfl
theorem skue (s : St) (f : Nat → Nat) : sk (ue s f) = sk s := rfl
theorem skuc (s : St) (f : Nat) : sk (uc s f) = sk s := rfl
theorem souW (s : St) (f : Nat → Nat) : so (uW s f) = so s := rfl
theorem souH (s : St) (f : Nat → Nat) : so (uH s f) = so s := rfl
theorem souw (s : St) (f : Nat → Bool) : so (uw s f) = so s := rfl
theorem soum (s : St) (f : Nat) : so (um s f) = so s := rfl
theorem sour (s : St) (f : Nat) : so (ur s f) = so s := rfl
theorem souk (s : St) (f : Nat → Nat) : so (uk s f) = so s := rfl
theorem souo (s : St) (f : Nat → Nat) : so (uo s f) = f := rfl
theorem soub (s : St) (f : Nat → Nat) : so (ub s f) = so s := rfl
theorem souu (s : St) (f : Nat → Bool) : so (uu s f) = so s := rfl
theorem soue (s : St) (f : Nat → Nat) : so (ue s f) = so s := rfl
theorem souc (s : St) (f : Nat) : so (uc s f) = so s := rfl
theorem sbuW (s : St) (f : Nat → Nat) : sb (uW s f) = sb s := rfl
theorem sbuH (s : St) (f : Nat → Nat) : sb (uH s f) = sb s := rfl
theorem sbuw (s : St) (f : Nat → Bool) : sb (uw s f) = sb s := rfl
theorem sbum (s : St) (f : Nat) : sb (um s f) = sb s := rfl
theorem sbur (s : St) (f : Nat) : sb (ur s f) = sb s := rfl
theorem sbuk (s : St) (f : Nat → Nat) : sb (uk s f) = sb s := rfl
theorem sbuo (s : St) (f : Nat → Nat) : sb (uo s f) = sb s := rfl
theorem sbub (s : St) (f : Nat → Nat) : sb (ub s f) = f := rfl
theorem sbuu (s : St) (f : Nat → Bool) : sb (uu s f) = sb s := rfl
theorem sbue (s : St) (f : Nat → Nat) : sb (ue s f) = sb s := rfl
theorem sbuc (s : St) (f : Nat) : sb (uc s f) = sb s := rfl
theorem suuW (s : St) (f : Nat → Nat) : su (uW s f) = su s := rfl
theorem suuH (s : St) (f : Nat → Nat) : su (uH s f) = su s := rfl
theorem suuw (s : St) (f : Nat → Bool) : su (uw s f) = su s := rfl
theorem suum (s : St) (f : Nat) : su (um s f) = su s := rfl
theorem suur (s : St) (f : Nat) : su (ur s f) = su s := rfl
theorem suuk (s : St) (f : Nat → Nat) : su (uk s f) = su s := rfl
theorem suuo (s : St) (f : Nat → Nat) : su (uo s f) = su s := rfl
theorem suub (s : St) (f : Nat → Nat) : su (ub s f) = su s := rfl
theorem suuu (s : St) (f : Nat → Bool) : su (uu s f) = f := rfl
theorem suue (s : St) (f : Nat → Nat) : su (ue s f) = su s := rfl
theorem suuc (s : St) (f : Nat) : su (uc s f) = su s := rfl
theorem seuW (s : St) (f : Nat → Nat) : se (uW s f) = se s := rfl
theorem seuH (s : St) (f : Nat → Nat) : se (uH s f) = se s := rfl
theorem seuw (s : St) (f : Nat → Bool) : se (uw s f) = se s := rfl
theorem seum (s : St) (f : Nat) : se (um s f) = se s := rfl
theorem seur (s : St) (f : Nat) : se (ur s f) = se s := rfl
theorem seuk (s : St) (f : Nat → Nat) : se (uk s f) = se s := rfl
theorem seuo (s : St) (f : Nat → Nat) : se (uo s f) = se s := rfl
theorem seub (s : St) (f : Nat → Nat) : se (ub s f) = se s := rfl
theorem seuu (s : St) (f : Nat → Bool) : se (uu s f) = se s := rfl
theorem seue (s : St) (f : Nat → Nat) : se (ue s f) = f := rfl
theorem seuc (s : St) (f : Nat) : se (uc s f) = se s := rfl
theorem scuW (s : St) (f : Nat → Nat) : sc (uW s f) = sc s := rfl
theorem scuH (s : St) (f : Nat → Nat) : sc (uH s f) = sc s := rfl
theorem scuw (s : St) (f : Nat → Bool) : sc (uw s f) = sc s := rfl
theorem scum (s : St) (f : Nat) : sc (um s f) = sc s := rfl
theorem scur (s : St) (f : Nat) : sc (ur s f) = sc s := rfl
theorem scuk (s : St) (f : Nat → Nat) : sc (uk s f) = sc s := rfl
theorem scuo (s : St) (f : Nat → Nat) : sc (uo s f) = sc s := rfl
theorem scub (s : St) (f : Nat → Nat) : sc (ub s f) = sc s := rfl
theorem scuu (s : St) (f : Nat → Bool) : sc (uu s f) = sc s := rfl
theorem scue (s : St) (f : Nat → Nat) : sc (ue s f) = sc s := rfl
theorem scuc (s : St) (f : Nat) : sc (uc s f) = f := rfl
def up1 {α : Type} (f : Nat → α) (k : Nat) (v : α) : Nat → α := fun j => if j = k then v else f j
theorem up1_s {α : Type} (f : Nat → α) (k : Nat) (v : α) : up1 f k v k = v := if_pos rfl
theorem up1_n {α : Type} {f : Nat → α} {k j : Nat} {v : α} (h : j ≠ k) : up1 f k v j = f j := if_neg h
/-! ===== what tables say ===== -/
def rtW (s : St) (v : Nat) : Nat := sW s (8 * sr s + v / 8)
def lfW (s : St) (v : Nat) : Nat := sW s (8 * (rtW s v / 256) + v % 8)
def lg8 (w : Nat) : Nat := if w / 256 < 8 then 0 else 8
def frm (s : St) (v : Nat) : Nat := if (rtW s v).testBit 5 = true then lg8 (rtW s v) + v % 8 else lfW s v / 256
def lst (s : St) (v : Nat) : Nat := if (rtW s v).testBit 5 = true then rtW s v else lfW s v
/-- 0: absent; a frame and 1 -/
def ldt (s : St) (v : Nat) : Nat := if ((rtW s v).testBit 0 && (lst s v).testBit 0) = true then frm s v + 1 else 0
def lets (w : Nat) (wr us : Bool) : Bool := (!wr || w.testBit 1) && (!us || w.testBit 2)
def lc (n : Nat) : Int32 := if n = 0 then m2 else if n = 1 then m3 else if n = 2 then m4 else ic (n - 3)
/-- 0 absent, 1 denied, 2 gone, a host and 3 -/
def lok (s : St) (v : Nat) (wr us : Bool) : Nat :=
  if (rtW s v).testBit 0 = true then (if lets (rtW s v) wr us = true then (if (!(rtW s v).testBit 5 && !(lfW s v).testBit 0) = true then 0 else if (!(rtW s v).testBit 5 && !lets (lfW s v) wr us) = true then 1 else if sH s (frm s v) = 0 then 2 else if (wr && !sw s (frm s v)) = true then 1 else sH s (frm s v) + 2) else 1) else 0
/-! ===== shadow tables ===== -/
def fnd (s : St) (k o : Nat) : Option Nat := fs (fun n => decide (sk s n = k + 1 ∧ so s n = o + 1)) 8 0
def oc (o : Option Nat) : Int32 := om o m2 ic
def od (o : Option Nat) : Int32 := om o m1 ic
def wat (s : St) (f : Nat) : Bool := (fnd s 0 f).isSome || om (fnd s 1 f) false (fun l => !su s l)
/-- a page's entry in the root: 0 none, its number and 1 -/
def upe (s : St) (v : Nat) : Nat := om (fnd s 0 (sr s)) 0 (fun r => se s (8 * r + v / 8))
def hok (a b : Nat) (wr us : Bool) : Bool := (!wr || (a &&& b).testBit 1) && (!us || (a &&& b).testBit 0)
/-- where the entry is by which the hardware hits -/
def hit (s : St) (v : Nat) (wr us : Bool) : Option Nat :=
  if upe s v = 0 then none else if se s (8 * ((upe s v - 1) / 4) + v % 8) = 0 then none else if hok (upe s v - 1) (se s (8 * ((upe s v - 1) / 4) + v % 8) - 1) wr us = true then some (8 * ((upe s v - 1) / 4) + v % 8) else none
def hen (s : St) (v : Nat) (wr us : Bool) : Nat := om (hit s v wr us) 0 (fun at9 => se s at9)
def isR (s : St) (at9 n : Nat) : Bool := decide (sk s (at9 / 8) = 1 ∧ se s at9 ≠ 0 ∧ (se s at9 - 1) / 4 = n)
def isM (s : St) (at9 f : Nat) : Bool := decide (2 ≤ sk s (at9 / 8) ∧ se s at9 ≠ 0 ∧ (se s at9 - 1) / 4 = f)
def isMW (s : St) (at9 f : Nat) : Bool := isM s at9 f && (se s at9 - 1).testBit 1
def cnt (p : Nat → Bool) (d : Nat) : Nat := fo (fun k n => if p k = true then n + 1 else n) d 0 0
def tkW (s : St) (f : Nat) : St := ue s (fun at9 => if isMW s at9 f = true then se s at9 - 2 else se s at9)
def rmM (s : St) (f : Nat) : St := ue s (fun at9 => if isM s at9 f = true then 0 else se s at9)
def fre (s : St) (pl : Nat) : Option Nat := fs (fun n => decide (sk s n = 0)) pl 0
def spd (s : St) (n : Nat) : Bool := decide (sk s n = 0 ∨ sk s n = 1 ∧ so s n = sr s + 1)
def old1 (s : St) (n : Nat) (b : Option Nat) : Option Nat := if spd s n = true then b else om b (some n) (fun j => if sb s n < sb s j then some n else some j)
def old (s : St) (d : Nat) : Option Nat := fo (old1 s) d 0 none
def drp (s : St) (n : Nat) : St := uu (ub (uo (uk (ue s (fun at9 => if (isR s at9 n || decide (at9 / 8 = n)) = true then 0 else se s at9)) (up1 (sk s) n 0)) (up1 (so s) n 0)) (up1 (sb s) n 0)) (up1 (su s) n false)
def mkT (s : St) (n k o : Nat) : St := uc (ub (uo (uk s (up1 (sk s) n (k + 1))) (up1 (so s) n (o + 1))) (up1 (sb s) n (sc s + 1))) (sc s + 1)
def mk2 (s : St) (n k o : Nat) : St := if k = 2 then mkT s n k o else tkW (mkT s n k o) o
/-- a table is there, made if it wasn't: which, the state, how many were dropped -/
def need (s : St) (pl k o : Nat) : Nat × St × Nat := om (fnd s k o) (om (fre s pl) (om (old s 8) (0, s, 0) (fun n => (n, mk2 (drp s n) n k o, 1))) (fun n => (n, mk2 s n k o, 0))) (fun n => (n, s, 0))
/-! ===== an access ===== -/
def rAt (s : St) (v : Nat) : Nat := 8 * sr s + v / 8
def lAt (s : St) (v : Nat) : Nat := if (rtW s v).testBit 5 = true then rAt s v else 8 * (rtW s v / 256) + v % 8
def ntW (s : St) (v : Nat) (wr : Bool) : Nat → Nat := up1 (up1 (sW s) (rAt s v) (sW s (rAt s v) ||| 8)) (lAt s v) (up1 (sW s) (rAt s v) (sW s (rAt s v) ||| 8) (lAt s v) ||| (if wr = true then 24 else 8))
def note (s : St) (v : Nat) (wr : Bool) : St := um (uW s (ntW s v wr)) (if wr = true then sbt (sm s) (frm s v) else sm s)
def b2 (b : Bool) (n : Nat) : Nat := if b = true then n else 0
def fl1 (s : St) (pl : Nat) : Nat × St × Nat := need s pl 0 (sr s)
def fl2 (s : St) (pl v : Nat) : Nat × St × Nat := if (rtW s v).testBit 5 = true then need s pl 2 (lg8 (rtW s v)) else need s pl 1 (rtW s v / 256)
def en1 (s : St) (v lo : Nat) : Nat := 4 * lo + b2 ((rtW s v).testBit 1 && (!(rtW s v).testBit 5 || (rtW s v).testBit 4)) 2 + b2 ((rtW s v).testBit 2) 1
def en2 (s : St) (v : Nat) : Nat := 4 * frm s v + b2 (((rtW s v).testBit 5 || ((lst s v).testBit 1 && (lst s v).testBit 4)) && sw s (frm s v) && (sm s).testBit (frm s v) && !wat s (frm s v)) 2 + b2 ((rtW s v).testBit 5 || (lst s v).testBit 2) 1
/-- a fault that is done, behind the words: the state, how many were dropped, where the last entry is -/
def fil (s : St) (pl v : Nat) : St × Nat × Nat :=
  let a := fl1 s pl
  let b := fl2 a.2.1 pl v
  let s4 := ue b.2.1 (up1 (se b.2.1) (8 * a.1 + v / 8) (en1 s v b.1 + 1))
  (ue s4 (up1 (se s4) (8 * b.1 + v % 8) (en2 s4 v + 1)), a.2.2 + b.2.2, 8 * b.1 + v % 8)
/-- an access: the state, what it tells (as lok), how many were dropped, where its entry is, was it a hit -/
def rch (s : St) (pl v : Nat) (wr us : Bool) : St × Nat × Nat × Nat × Bool :=
  om (hit s v wr us) (if lok s v wr us < 3 then (s, lok s v wr us, 0, 0, false) else ((fil (note s v wr) pl v).1, lok s v wr us, (fil (note s v wr) pl v).2.1, (fil (note s v wr) pl v).2.2, false))
    (fun at9 => (s, sH s ((se s at9 - 1) / 4) + 2, 0, at9, true))
/-! ===== what holds of every state ===== -/
def IG (s : St) : Prop := (∀ k, k < 128 → sW s k < 4096) ∧ (∀ f, f < 16 → sH s f ≤ 32) ∧ (∀ f, f < 16 → sw s f = true → 0 < sH s f) ∧ sm s < 65536 ∧ sr s < 16
def IP (s : St) (pl : Nat) : Prop := (3 ≤ pl ∧ pl ≤ 8) ∧ (∀ n, n < 8 → sk s n ≤ 3) ∧ (∀ n, n < 8 → sk s n ≠ 0 → 1 ≤ so s n ∧ so s n ≤ 16) ∧ (∀ n, n < 8 → sk s n = 0 → so s n = 0 ∧ sb s n = 0 ∧ su s n = false) ∧ (∀ n, pl ≤ n → n < 8 → sk s n = 0) ∧ (∀ n m, n < 8 → m < 8 → sk s n ≠ 0 → sk s n = sk s m → so s n = so s m → n = m) ∧ (∀ n, n < 8 → sb s n ≤ sc s)
def IE (s : St) : Prop := ∀ a, a < 64 → se s a ≠ 0 → sk s (a / 8) ≠ 0 ∧ (sk s (a / 8) = 1 → (se s a - 1) / 4 < 8 ∧ 2 ≤ sk s ((se s a - 1) / 4)) ∧ (2 ≤ sk s (a / 8) → (se s a - 1) / 4 < 16 ∧ 0 < sH s ((se s a - 1) / 4))
def Inv (s : St) (pl : Nat) : Prop := IG s ∧ IP s pl ∧ IE s
theorem fo_last {α : Type} (g : Nat → α → α) : ∀ (d k : Nat) (s : α), fo g (d + 1) k s = g (k + d) (fo g d k s) := by
  intro d
  induction d with
  | zero => intro k s; rfl
  | succ d ih =>
    intro k s
    show fo g (d + 1) (k + 1) (g k s) = g (k + (d + 1)) (fo g d (k + 1) (g k s))
    rw [ih, show k + 1 + d = k + (d + 1) by omega]
theorem cnt_succ (p : Nat → Bool) (d : Nat) : cnt p (d + 1) = if p d = true then cnt p d + 1 else cnt p d := by
  unfold cnt
  rw [fo_last, Nat.zero_add]
theorem old_succ (s : St) (d : Nat) : old s (d + 1) = old1 s d (old s d) := by
  unfold old
  rw [fo_last, Nat.zero_add]
theorem cnt_le (p : Nat → Bool) : ∀ d, cnt p d ≤ d := by
  intro d
  induction d with
  | zero => exact Nat.le_refl 0
  | succ d ih => rw [cnt_succ]; by_cases h : p d = true; rw [if_pos h]; omega; rw [if_neg h]; omega
theorem cnt_congr {p q : Nat → Bool} : ∀ {d : Nat}, (∀ i, i < d → p i = q i) → cnt p d = cnt q d := by
  intro d
  induction d with
  | zero => intro _; rfl
  | succ d ih => intro h; rw [cnt_succ, cnt_succ, h d (by omega), ih (fun i hi => h i (by omega))]
