/-! a supplier, as the class has it -/
def crn (σ : gS) (s : Nat) : Nat := (σ.1 57 s 2).toNatClampNeg
def crl (σ : gS) (s : Nat) : Nat := (σ.1 57 s 3).toNatClampNeg
def CS (σ : gS) (s : Nat) : Prop := σ.1 57 s 2 = nI (crn σ s) ∧ crn σ s ≤ 60 ∧ σ.1 57 s 3 = nI (crl σ s) ∧ crl σ s ≤ 2
def crv (σ : gS) (s k : Nat) : Int32 := if k < crn σ s then σ.1 59 s (crn σ s - 1 - k) else 0
def cns (f : Nat → Int32) (v : Int32) : Nat → Nat
  | 0 => 0
  | k + 1 => cns f v k + (if f k = v then 1 else 0)
theorem cns_le (f : Nat → Int32) (v : Int32) (k : Nat) : cns f v k ≤ k := by
  induction k with
  | zero => exact Nat.le_refl 0
  | succ k ih => show cns f v k + (if f k = v then 1 else 0) ≤ k + 1; split <;> omega
theorem cns_rf (f : Nat → Int32) (k : Nat) : cns f (nI 2) k = rf5 f k := by
  induction k with
  | zero => rfl
  | succ k ih => show cns f (nI 2) k + _ = rf5 f k + _; rw [ih]
theorem cns_ld (f : Nat → Int32) (k : Nat) : cns f (nI 1) k = k ↔ ld f k = true := by
  induction k with
  | zero => exact ⟨fun _ => rfl, fun _ => rfl⟩
  | succ k ih =>
    show cns f (nI 1) k + (if f k = nI 1 then 1 else 0) = k + 1 ↔ (ld f k && decide (f k = nI 1)) = true
    have h := cns_le f (nI 1) k
    by_cases q : f k = nI 1
    · rw [if_pos q, decide_eq_true q, Bool.and_true, ← ih]; omega
    · rw [if_neg q, decide_eq_false q, Bool.and_false]
      exact ⟨fun z => by omega, fun z => absurd z (by decide)⟩
def cnx (r : Nat) (f : Nat → Int32) : Nat := if r = 0 then (if 2 ≤ cns f (nI 2) 5 then 1 else if cns f (nI 1) 6 = 6 then 2 else 0) else if r = 1 then (if cns f (nI 1) 5 = 5 then 0 else 1) else (if f 0 = nI 2 then 0 else 2)
theorem cnx_le (r : Nat) (f : Nat → Int32) : cnx r f ≤ 2 := by
  unfold cnx
  split
  · split
    · omega
    · split <;> omega
  · split
    · split <;> omega
    · split <;> omega
theorem cnx_nxr {r a : Nat} {f : Nat → Int32} (ha : a ≤ 2) (h0 : f 0 = nI a) : cnx r f = nxr r a f := by
  unfold cnx nxr
  rw [cns_rf, h0]
  have e : (nI a = nI 2) = (a = 2) := by
    rcases (show a = 0 ∨ a = 1 ∨ a = 2 by omega) with rfl | rfl | rfl <;> decide
  have e6 : (cns f (nI 1) 6 = 6) = (ld f 6 = true) := propext (cns_ld f 6)
  have e5 : (cns f (nI 1) 5 = 5) = (ld f 5 = true) := propext (cns_ld f 5)
  simp only [e, e5, e6]
/-- a decision comes -/
def ccA (σ : gS) (s a : Nat) : gS := sI (sI σ 59 s (crn σ s) (nI a)) 57 s 2 (nI (crn σ s + 1))
def ccv (σ : gS) (s a : Nat) : gS := if nxr (crl σ s) a (crv (ccA σ s a) s) = crl σ s then ccA σ s a else sI (sI (sI (ccA σ s a) 57 s 3 (nI (nxr (crl σ s) a (crv (ccA σ s a) s)))) 57 s 4 (σ.1 57 s 4 + nI 1)) 57 s 2 (nI 0)
theorem ccA_2 (σ : gS) (s a : Nat) : (ccA σ s a).1 57 s 2 = nI (crn σ s + 1) := by unfold ccA; rw [sI_at, if_pos ⟨rfl, rfl, rfl⟩]
theorem ccA_3 (σ : gS) (s a : Nat) : (ccA σ s a).1 57 s 3 = σ.1 57 s 3 := by unfold ccA; rw [sI_at, if_neg (by omega), sI_at, if_neg (by omega)]
theorem ccA_4 (σ : gS) (s a : Nat) : (ccA σ s a).1 57 s 4 = σ.1 57 s 4 := by unfold ccA; rw [sI_at, if_neg (by omega), sI_at, if_neg (by omega)]
theorem ccA_n {σ : gS} {s a : Nat} (h : crn σ s < 60) : crn (ccA σ s a) s = crn σ s + 1 := by
  show ((ccA σ s a).1 57 s 2).toNatClampNeg = _
  rw [ccA_2, nI_clamp (by omega)]
theorem ccA_l (σ : gS) (s a : Nat) : crl (ccA σ s a) s = crl σ s := by unfold crl; rw [ccA_3]
theorem ccA_CS {σ : gS} {s a : Nat} (h : CS σ s) (hn : crn σ s < 60) : CS (ccA σ s a) s := by
  unfold CS
  rw [ccA_n hn, ccA_l, ccA_2, ccA_3]
  exact ⟨rfl, by omega, h.2.2.1, h.2.2.2⟩
theorem ccA_0 {σ : gS} {s a : Nat} (hn : crn σ s < 60) : crv (ccA σ s a) s 0 = nI a := by
  unfold crv
  rw [ccA_n hn, if_pos (by omega), show crn σ s + 1 - 1 - 0 = crn σ s by omega]
  unfold ccA
  rw [sI_at, if_neg (by omega), sI_at, if_pos ⟨rfl, rfl, rfl⟩]
