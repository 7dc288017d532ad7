/-! what the check's own object holds, as numbers -/
theorem i_lt (a b : Int32) : a < b ↔ a.toInt < b.toInt := Int32.lt_iff_toInt_lt
theorem i_le (a b : Int32) : a ≤ b ↔ a.toInt ≤ b.toInt := Int32.le_iff_toInt_le
theorem i_eq (a b : Int32) : a = b ↔ a.toInt = b.toInt := Int32.toInt_inj.symm
theorem nI_I {n : Nat} (h : n < 2147483648) : (nI n).toInt = (n : Int) := nI_toInt h
theorem i_rng (x : Int32) : -2147483648 ≤ x.toInt ∧ x.toInt < 2147483648 := ⟨Int32.le_toInt x, Int32.toInt_lt x⟩
theorem i_add {x y : Int32} (h1 : -2147483648 ≤ x.toInt + y.toInt) (h2 : x.toInt + y.toInt < 2147483648) : (x + y).toInt = x.toInt + y.toInt := by
  rw [Int32.toInt_add]
  exact Int.bmod_eq_of_le (by omega) (by omega)
theorem i_sub {x y : Int32} (h1 : -2147483648 ≤ x.toInt - y.toInt) (h2 : x.toInt - y.toInt < 2147483648) : (x - y).toInt = x.toInt - y.toInt := by
  rw [Int32.toInt_sub]
  exact Int.bmod_eq_of_le (by omega) (by omega)
theorem i_nat {x : Int32} (h : 0 ≤ x.toInt) : x = nI x.toInt.toNat ∧ (x.toInt.toNat : Int) = x.toInt := by
  have h2 := i_rng x
  have e : (x.toInt.toNat : Int) = x.toInt := Int.toNat_of_nonneg h
  exact ⟨(i_eq _ _).mpr (by rw [nI_I (by omega), e]), e⟩
theorem bI_t {b : Bool} (h : b = true) : nI 1 = bI b := by rw [h]; rfl
theorem bI_f {b : Bool} (h : b = false) : nI 0 = bI b := by rw [h]; rfl
def inR (v lo hi : Int32) : Bool := decide (lo.toInt ≤ v.toInt ∧ v.toInt ≤ hi.toInt)
def nP (σ : gS) : Nat := (σ.1 0 0 0).toNatClampNeg
def stN (σ : gS) (p : Nat) : Nat := (σ.1 3 0 p).toNatClampNeg
def szN (σ : gS) (p k : Nat) : Nat := (σ.1 4 0 (4 * p + k)).toNatClampNeg
def acI (σ : gS) (p k : Nat) : Int := (σ.1 5 0 (4 * p + k)).toInt
def rfI (σ : gS) (p k : Nat) : Int := (σ.1 6 0 (4 * p + k)).toInt
/-- the SIZES of the first k STAGES together -/
def tot (σ : gS) (p : Nat) : Nat → Nat
  | 0 => 0
  | k + 1 => tot σ p k + szN σ p k
/-- one plan as it must be -/
def WfP1 (σ : gS) (p : Nat) : Prop := σ.1 3 0 p = nI (stN σ p) ∧ stN σ p ≤ 4 ∧ (∀ k, k < stN σ p → σ.1 4 0 (4 * p + k) = nI (szN σ p k) ∧ 1 ≤ szN σ p k ∧ -1 ≤ acI σ p k ∧ acI σ p k ≤ 60 ∧ acI σ p k < rfI σ p k ∧ rfI σ p k ≤ 61) ∧ tot σ p (stN σ p) ≤ 60 ∧ (∀ k, k + 1 < stN σ p → rfI σ p k ≠ acI σ p k + 1) ∧ (stN σ p = 4 → rfI σ p 3 = acI σ p 3 + 1)
def WfP (σ : gS) : Prop := σ.1 0 0 0 = nI (nP σ) ∧ nP σ ≤ 24 ∧ ∀ p, p < nP σ → WfP1 σ p
theorem tot_mono (σ : gS) (p : Nat) {a b : Nat} (h : a ≤ b) : tot σ p a ≤ tot σ p b := by
  induction b with
  | zero => rw [Nat.le_zero.mp h]; exact Nat.le_refl _
  | succ b ih =>
    rcases Nat.lt_or_ge a (b + 1) with q | q
    · exact Nat.le_trans (ih (by omega)) (by show tot σ p b ≤ tot σ p b + szN σ p b; omega)
    · rw [show a = b + 1 by omega]; exact Nat.le_refl _
def isPl (σ : gS) (x : Int32) : Bool := decide (0 ≤ x.toInt ∧ x.toInt < (nP σ : Int))
theorem isPl_t {σ : gS} {x : Int32} (h : isPl σ x = true) : ∃ p : Nat, p < nP σ ∧ x = nI p := by
  have h2 := of_decide_eq_true h
  obtain ⟨a, b⟩ := i_nat h2.1
  exact ⟨x.toInt.toNat, by omega, a⟩
def clo (σ : gS) (p : Nat) : Bool := decide (0 < stN σ p ∧ rfI σ p (stN σ p - 1) = acI σ p (stN σ p - 1) + 1)
def isCl (σ : gS) (x : Int32) : Bool := isPl σ x && clo σ x.toNatClampNeg
theorem isCl_nI {σ : gS} {p : Nat} (hp : p < nP σ) (h24 : nP σ ≤ 24) : isCl σ (nI p) = clo σ p := by
  unfold isCl isPl
  rw [nI_I (by omega), nI_clamp (by omega)]
  simp [hp]
theorem isCl_t {σ : gS} {x : Int32} (h24 : nP σ ≤ 24) (h : isCl σ x = true) : ∃ p : Nat, p < nP σ ∧ x = nI p ∧ clo σ p = true := by
  unfold isCl at h
  obtain ⟨h1, h2⟩ := Bool.and_eq_true_iff.mp h
  obtain ⟨p, hp, rfl⟩ := isPl_t h1
  rw [nI_clamp (by omega)] at h2
  exact ⟨p, hp, rfl, h2⟩
/-- binomial numbers -/
def ch : Nat → Nat → Nat
  | _, 0 => 1
  | 0, _ + 1 => 0
  | n + 1, k + 1 => ch n k + ch n (k + 1)
def chZ (n : Nat) (z : Int) : Nat := if z < 0 then 0 else ch n z.toNat
theorem ch_0 (n : Nat) : ch n 0 = 1 := by cases n <;> rfl
theorem ch_big {n k : Nat} (h : n < k) : ch n k = 0 := by
  induction n generalizing k with
  | zero => cases k with
    | zero => omega
    | succ k => rfl
  | succ n ih => cases k with
    | zero => omega
    | succ k => show ch n k + ch n (k + 1) = 0; rw [ih (by omega), ih (by omega)]
def WfCh (σ : gS) : Prop := ∀ n k, n ≤ 60 → k ≤ n → σ.2 9 0 (61 * n + k) = lN (ch n k)
theorem i0 : (0 : Int32).toInt = 0 := rfl
theorem im1 : (-1 : Int32).toInt = -1 := rfl
theorem n0I : (nI 0).toInt = 0 := rfl
theorem n1I : (nI 1).toInt = 1 := rfl
theorem tot_le {σ : gS} {p k : Nat} (h : WfP1 σ p) (hk : k ≤ stN σ p) : tot σ p k ≤ 60 := Nat.le_trans (tot_mono σ p hk) h.2.2.2.1
