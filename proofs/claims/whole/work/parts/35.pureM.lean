/-! Euclid within 200 steps -/
def EU (i u v : Nat) : Prop := (i = 0 → u * v ≤ 2 ^ 127) ∧ (0 < i → v ≤ u ∧ u * v * 2 ^ i ≤ 2 ^ 128)
theorem EU_0 {x y : Nat} (h1 : x < 9223372036854775808) (h2 : y < 9223372036854775808) : EU 0 x y := by
  refine ⟨fun _ => ?_, fun h => absurd h (by decide)⟩
  have := Nat.mul_le_mul (Nat.le_of_lt h1) (Nat.le_of_lt h2)
  exact Nat.le_trans this (by decide)
theorem mod_half {u v : Nat} (hv : 0 < v) (h : v ≤ u) : 2 * (u % v) ≤ u := by
  have h1 := Nat.mod_lt u hv
  have h2 : u % v = (u - v) % v := by rw [← Nat.mod_eq_sub_mod h]
  have h3 := Nat.mod_le (u - v) v
  omega
theorem EU_s {i u v : Nat} (hv : 0 < v) (h : EU i u v) : EU (i + 1) v (u % v) := by
  refine ⟨fun q => absurd q (by omega), fun _ => ⟨Nat.le_of_lt (Nat.mod_lt u hv), ?_⟩⟩
  rcases Nat.eq_zero_or_pos i with q | q
  · subst q
    have h1 := h.1 rfl
    have h2 : v * (u % v) ≤ v * u := Nat.mul_le_mul_left v (Nat.mod_le u v)
    rw [Nat.mul_comm v u] at h2
    have h3 : v * (u % v) * 2 ^ (0 + 1) ≤ 2 ^ 127 * 2 ^ (0 + 1) := Nat.mul_le_mul_right _ (Nat.le_trans h2 h1)
    exact Nat.le_trans h3 (by decide)
  · obtain ⟨h1, h2⟩ := h.2 q
    have h3 := mod_half hv h1
    have h4 : v * (u % v) * 2 ^ (i + 1) = v * (2 * (u % v)) * 2 ^ i := by
      rw [Nat.pow_succ, Nat.mul_comm 2 (u % v), ← Nat.mul_assoc v, Nat.mul_assoc (v * (u % v)) 2, Nat.mul_comm 2]
    rw [h4]
    refine Nat.le_trans (Nat.mul_le_mul_right _ (Nat.mul_le_mul_left v h3)) ?_
    rw [Nat.mul_comm v u]; exact h2
theorem EU_e {i u v : Nat} (h : EU i u v) (hi : 200 ≤ i) : v = 0 := by
  rcases Nat.eq_zero_or_pos v with q | q
  · exact q
  · exfalso
    obtain ⟨h1, h2⟩ := h.2 (by omega)
    have h3 : 1 * 2 ^ 200 ≤ u * v * 2 ^ i := Nat.mul_le_mul (Nat.mul_le_mul (show 1 ≤ u by omega) q) (Nat.pow_le_pow_right (by decide) hi)
    exact absurd (Nat.le_trans h3 h2) (by decide)
/-- the part at hand, as the class has it -/
def cQ (σ : gS) (u d : Nat) : Prop := σ.2 44 0 0 = lN u ∧ σ.2 44 0 1 = lN d ∧ 0 < d ∧ d < 9223372036854775808 ∧ u < 9223372036854775808 ∧ u ≤ 60 * d
/-- a told part, as the class has it -/
def cRd (σ : gS) (r : Nat) : Nat := (σ.1 49 r 1).toNatClampNeg
def cRu (σ : gS) (r : Nat) : Nat := (σ.1 49 r 2).toNatClampNeg
def cRn (σ : gS) (r : Nat) : Nat := (σ.1 49 r 3).toNatClampNeg
def RK (σ : gS) (r : Nat) : Prop := σ.1 49 r 0 = bI (isRk σ r) ∧ σ.1 49 r 1 = nI (cRd σ r) ∧ cRd σ r ≤ 60 ∧ σ.1 49 r 2 = nI (cRu σ r) ∧ σ.1 49 r 3 = nI (cRn σ r) ∧ 1 ≤ cRn σ r ∧ cRn σ r ≤ 1000 ∧ cRu σ r ≤ cRn σ r ∧ (isRk σ r = true → cRd σ r = rAt σ r ∧ cRu σ r = rUp σ r ∧ cRn σ r = rDn σ r)
def tlUp (σ : gS) (r : Nat) (d u n : Int32) : gS := sI (sI (sI (sI σ 49 r 0 (nI 1)) 49 r 1 d) 49 r 2 u) 49 r 3 n
theorem sh_eq (o n u : Nat) : o * u = n * (o / n * u + o % n * u / n) + o % n * u % n := by
  have h1 := Nat.div_add_mod o n
  have h2 := Nat.div_add_mod (o % n * u) n
  have h3 : o * u = n * (o / n * u) + o % n * u := by
    rw [← Nat.mul_assoc, ← Nat.add_mul, h1]
  rw [Nat.mul_add]
  omega
theorem sh_le {o n u : Nat} (hn : 0 < n) (hu : u ≤ n) : o / n * u + o % n * u / n ≤ o := by
  have h := sh_eq o n u
  have h2 : o * u ≤ n * o := by rw [Nat.mul_comm n o]; exact Nat.mul_le_mul_left o hu
  refine Nat.le_of_mul_le_mul_left (c := n) ?_ hn
  omega
theorem sg_share {t o n u : Nat} (hn : 0 < n) : sg3 (t * n) (o * u) = (if t = o / n * u + o % n * u / n then (if o % n * u % n = 0 then 0 else -1) else if o / n * u + o % n * u / n < t then 1 else -1) := by
  have h := sh_eq o n u
  have l := Nat.mod_lt (o % n * u) hn
  rw [h]
  generalize o / n * u + o % n * u / n = A
  generalize o % n * u % n = p at *
  rw [Nat.mul_comm t n]
  unfold sg3
  by_cases e : t = A
  · subst e
    rw [if_pos rfl]
    by_cases z : p = 0
    · rw [if_pos z, if_neg (by omega), if_neg (by omega)]
    · rw [if_neg z, if_pos (by omega)]
  · rw [if_neg e]
    by_cases z : A < t
    · have h5 : n * (A + 1) ≤ n * t := Nat.mul_le_mul_left n z
      rw [Nat.mul_add] at h5
      rw [if_pos z, if_neg (by omega), if_pos (by omega)]
    · have h5 : n * (t + 1) ≤ n * A := Nat.mul_le_mul_left n (by omega)
      rw [Nat.mul_add] at h5
      rw [if_neg z, if_pos (by omega)]
