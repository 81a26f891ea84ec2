/-! ===== a stretch within a method ===== -/
def StrOK (qL qC : MI) (l : Launch) (D : va_G) (dA : Nat → ClassId) (z : Nat) (sa : Nat → Nat) (Hz : Heap) : Prop :=
  (∀ k x h, strLen k = some x → CalOK l D dA z sa Hz qL [.retAddr k] h (some (.int x)) h) ∧ ∀ k i x h, strCh k i = some x → CalOK l D dA z sa Hz qC [.retAddr k, .int i] h (some (.int x)) h
section STEP
variable {l : Launch} {D : va_G} {dA : Nat → ClassId} {z : Nat} {sa : Nat → Nat} {Hz : Heap} {q : MI} {h0 fin : AH} {v : Option Value}
variable {ρ : Type} {K : Nat → LA → List Value → AH → Option ρ} {FI : Nat → List Value → AH → Option (Int32 × AH)} {FV : Nat → List Value → AH → Option AH} {FL : Nat → List Value → AH → Option (Int64 × AH)} {rt : Option Value → AH → Option ρ} {ft : Nat} {r : ρ}
variable {MT : Nat → MI} {qL qC : MI}
theorem step0 (G : GlobOk qL qC) (hMT : ∀ mi, MOk (MT mi)) (E : StrOK qL qC l D dA z sa Hz) {is : List AI} {pc : Nat} {la : LA} {st : List Value} {h : AH}
    (hev : evL K FI FV FL strLen strCh (0, fun _ => 0) rt ft is la st h = some r) (hok : vBL MT qL qC false q.2.2.2.2.1 q.2.2.2.2.2.1 q.2.2.1 q.1.cls q.1.name q.2.1 ft pc is = true)
    (hK : ∀ t la st h, K t la st h = some r → GM l D dA z sa Hz q h0 v fin t la st h)
    (hFI : ∀ mi As h x h', FI mi As h = some (x, h') → CalOK l D dA z sa Hz (MT mi) As h (some (.int x)) h') (hFV : ∀ mi As h h', FV mi As h = some h' → CalOK l D dA z sa Hz (MT mi) As h none h') (hFL : ∀ mi As h x h', FL mi As h = some (x, h') → CalOK l D dA z sa Hz (MT mi) As h (some (.long x)) h')
    (hrt : ∀ v' h', rt v' h' = some r → v' = v ∧ h' = fin ∧ RetOk q v) : GM l D dA z sa Hz q h0 v fin pc la st h := by
  refine ⟨evL_mono (fun t la st h e => (hK t la st h e).1) (fun mi As h x h' e => ⟨(hFI mi As h x h' e).1, (hFI mi As h x h' e).2.1⟩) (fun mi As h h' e => ⟨(hFV mi As h h' e).1, (hFV mi As h h' e).2.1⟩) (fun mi As h x h' e => ⟨(hFL mi As h x h' e).1, (hFL mi As h x h' e).2.1⟩) (fun v' h' e => by obtain ⟨-, rfl, -⟩ := hrt v' h' e; exact ⟨Nat.le_refl _, Nat.le_refl _⟩) is la st h hev, ?_⟩
  intro p e s m args below meth c C r1 r2 r3 r4
  refine snd (sc := false) (MT := MT) (qL := qL) (qC := qC) C G hMT (fun t la st h e9 => (hK t la st h e9).2 p e s m args below meth c C r1 r2 r3 r4) hFI hFV hFL (fun k x h e9 => ?_) (fun k i x h e9 => ?_) (fun _ => rfl) (fun h => by cases h) (fun v' h' ins pc' la' e9 hd hi => ?_) is pc la st h hev (by rw [r3]; exact hok)
  · refine ⟨?_, E.1 k x h e9⟩
    unfold strLen at e9
    exact (ite_some e9).1
  · refine ⟨?_, E.2 k i x h e9⟩
    unfold strCh at e9
    exact (ite_some e9).1.1
  · obtain ⟨rfl, rfl, hret⟩ := hrt v' h' e9
    exact gm_ret hret C r1 r2 r4 hd hi
theorem rtI_ok {x : Int32} (hq : q.2.2.2.1 = some .int) : ∀ v' h', rtI v' h' = some (x, fin) → v' = some (.int x) ∧ h' = fin ∧ RetOk q (some (.int x)) := by
  intro v' h' e
  unfold rtI at e
  split at e
  · cases e; exact ⟨rfl, rfl, Or.inl ⟨hq, _, rfl⟩⟩
  · cases e
theorem rtZ_ok {x : Int32} (hq : q.2.2.2.1 = some .boolean) : ∀ v' h', rtZ v' h' = some (x, fin) → v' = some (.int x) ∧ h' = fin ∧ RetOk q (some (.int x)) := by
  intro v' h' e
  unfold rtZ at e
  split at e
  · obtain ⟨e1, e⟩ := ite_some e
    cases e; exact ⟨rfl, rfl, Or.inr (Or.inl ⟨hq, _, rfl, e1⟩)⟩
  · cases e
theorem rtL_ok {x : Int64} (hq : q.2.2.2.1 = some .long) : ∀ v' h', rtL v' h' = some (x, fin) → v' = some (.long x) ∧ h' = fin ∧ RetOk q (some (.long x)) := by
  intro v' h' e
  unfold rtL at e
  split at e
  · cases e; exact ⟨rfl, rfl, Or.inr (Or.inr (Or.inl ⟨hq, _, rfl⟩))⟩
  · cases e
theorem rtV_ok (hq : q.2.2.2.1 = none) : ∀ v' h', rtV v' h' = some fin → v' = none ∧ h' = fin ∧ RetOk q none := by
  intro v' h' e
  unfold rtV at e
  split at e
  · cases e; exact ⟨rfl, rfl, Or.inr (Or.inr (Or.inr ⟨hq, rfl⟩))⟩
  · cases e
-- jumps: a target, and what is done there
def kx (t0 : Nat) (f : LA → List Value → AH → Option ρ) (g : Nat → LA → List Value → AH → Option ρ) : Nat → LA → List Value → AH → Option ρ := fun t la st h => if t = t0 then f la st h else g t la st h
def k0 : Nat → LA → List Value → AH → Option ρ := fun _ _ _ _ => none
theorem kx_ok {P : Nat → LA → List Value → AH → Prop} {t0 : Nat} {f : LA → List Value → AH → Option ρ} {g : Nat → LA → List Value → AH → Option ρ} (hf : ∀ la st h, f la st h = some r → P t0 la st h) (hg : ∀ t la st h, g t la st h = some r → P t la st h) : ∀ t la st h, kx t0 f g t la st h = some r → P t la st h := by
  intro t la st h e
  unfold kx at e
  by_cases ht : t = t0
  · rw [if_pos ht] at e
    subst ht
    exact hf la st h e
  · rw [if_neg ht] at e
    exact hg t la st h e
theorem k0_ok {P : Nat → LA → List Value → AH → Prop} : ∀ t la st h, (k0 : Nat → LA → List Value → AH → Option ρ) t la st h = some r → P t la st h := by
  intro t la st h e
  cases e
-- what is read of locals and stack at a jump
def gI (la : LA) (i : Nat) (k : Int32 → Option ρ) : Option ρ := match lk la i with
  | some (.int x) => k x
  | _ => none
def gL (la : LA) (i : Nat) (k : Int64 → Option ρ) : Option ρ := match lk la i with
  | some (.long x) => k x
  | _ => none
def gR (la : LA) (i : Nat) (k : Nat → Option ρ) : Option ρ := match lk la i with
  | some (.ref x) => k x
  | _ => none
def gT (la : LA) (i : Nat) (k : Nat → Option ρ) : Option ρ := match lk la i with
  | some (.retAddr x) => k x
  | _ => none
def sI (st : List Value) (k : Int32 → List Value → Option ρ) : Option ρ := match st with
  | .int x :: st => k x st
  | _ => none
def sL (st : List Value) (k : Int64 → List Value → Option ρ) : Option ρ := match st with
  | .long x :: st => k x st
  | _ => none
def sR (st : List Value) (k : Nat → List Value → Option ρ) : Option ρ := match st with
  | .ref x :: st => k x st
  | _ => none
def sE (st : List Value) (k : Option ρ) : Option ρ := match st with
  | [] => k
  | _ => none
theorem gI_inv {la : LA} {i : Nat} {k : Int32 → Option ρ} (h : gI la i k = some r) : ∃ x, (i, .int x) ∈ la ∧ k x = some r := by
  unfold gI at h
  split at h
  · rename_i x e; exact ⟨x, lk_mem e, h⟩
  · cases h
theorem gL_inv {la : LA} {i : Nat} {k : Int64 → Option ρ} (h : gL la i k = some r) : ∃ x, (i, .long x) ∈ la ∧ k x = some r := by
  unfold gL at h
  split at h
  · rename_i x e; exact ⟨x, lk_mem e, h⟩
  · cases h
theorem gR_inv {la : LA} {i : Nat} {k : Nat → Option ρ} (h : gR la i k = some r) : ∃ x, (i, .ref x) ∈ la ∧ k x = some r := by
  unfold gR at h
  split at h
  · rename_i x e; exact ⟨x, lk_mem e, h⟩
  · cases h
theorem gT_inv {la : LA} {i : Nat} {k : Nat → Option ρ} (h : gT la i k = some r) : ∃ x, (i, .retAddr x) ∈ la ∧ k x = some r := by
  unfold gT at h
  split at h
  · rename_i x e; exact ⟨x, lk_mem e, h⟩
  · cases h
theorem sI_inv {st : List Value} {k : Int32 → List Value → Option ρ} (h : sI st k = some r) : ∃ x st', st = .int x :: st' ∧ k x st' = some r := by
  unfold sI at h
  split at h
  · exact ⟨_, _, rfl, h⟩
  · cases h
theorem sL_inv {st : List Value} {k : Int64 → List Value → Option ρ} (h : sL st k = some r) : ∃ x st', st = .long x :: st' ∧ k x st' = some r := by
  unfold sL at h
  split at h
  · exact ⟨_, _, rfl, h⟩
  · cases h
theorem sR_inv {st : List Value} {k : Nat → List Value → Option ρ} (h : sR st k = some r) : ∃ x st', st = .ref x :: st' ∧ k x st' = some r := by
  unfold sR at h
  split at h
  · exact ⟨_, _, rfl, h⟩
  · cases h
theorem sE_inv {st : List Value} {k : Option ρ} (h : sE st k = some r) : st = [] ∧ k = some r := by
  unfold sE at h
  split at h
  · exact ⟨rfl, h⟩
  · cases h
theorem mem_nil {P : Nat × Value → Prop} : ∀ q ∈ ([] : LA), P q := fun _ h => nomatch h
theorem mem_cons {P : Nat × Value → Prop} {a : Nat × Value} {l : LA} (h : P a) (t : ∀ q ∈ l, P q) : ∀ q ∈ a :: l, P q := List.forall_mem_cons.mpr ⟨h, t⟩
def fI0 : Nat → List Value → AH → Option (Int32 × AH) := fun _ _ _ => none
def fV0 : Nat → List Value → AH → Option AH := fun _ _ _ => none
def fL0 : Nat → List Value → AH → Option (Int64 × AH) := fun _ _ _ => none
end STEP
