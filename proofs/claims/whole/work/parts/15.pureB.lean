/-! numbers: sums, binomials, comparing, rounding -/
def sg3 (a b : Nat) : Int32 := if a < b then -1 else if b < a then 1 else 0
def rsum (f : Nat → Nat) : Nat → Nat
  | 0 => 0
  | n + 1 => rsum f n + f n
theorem rsum_cong {f g : Nat → Nat} {n : Nat} (h : ∀ k, k < n → f k = g k) : rsum f n = rsum g n := by
  induction n with
  | zero => rfl
  | succ n ih => show rsum f n + f n = rsum g n + g n; rw [ih (fun k hk => h k (by omega)), h n (by omega)]
theorem rsum_add (f g : Nat → Nat) (n : Nat) : rsum (fun k => f k + g k) n = rsum f n + rsum g n := by
  induction n with
  | zero => rfl
  | succ n ih => show rsum (fun k => f k + g k) n + (f n + g n) = (rsum f n + f n) + (rsum g n + g n); rw [ih]; omega
theorem rsum_le {f g : Nat → Nat} {n : Nat} (h : ∀ k, k < n → f k ≤ g k) : rsum f n ≤ rsum g n := by
  induction n with
  | zero => exact Nat.le_refl _
  | succ n ih => exact Nat.add_le_add (ih (fun k hk => h k (by omega))) (h n (by omega))
theorem rsum_mono (f : Nat → Nat) {a b : Nat} (h : a ≤ b) : rsum f a ≤ rsum f b := by
  induction b with
  | zero => rw [Nat.le_zero.mp h]; exact Nat.le_refl _
  | succ b ih =>
    rcases Nat.lt_or_ge a (b + 1) with q | q
    · exact Nat.le_trans (ih (by omega)) (Nat.le_add_right _ _)
    · rw [show a = b + 1 by omega]; exact Nat.le_refl _
theorem rsum_0 {f : Nat → Nat} {n : Nat} (h : ∀ k, k < n → f k = 0) : rsum f n = 0 := by
  induction n with
  | zero => rfl
  | succ n ih => show rsum f n + f n = 0; rw [ih (fun k hk => h k (by omega)), h n (by omega)]
theorem rsum_front (f : Nat → Nat) (n : Nat) : rsum f (n + 1) = f 0 + rsum (fun k => f (k + 1)) n := by
  induction n with
  | zero => show 0 + f 0 = f 0 + 0; omega
  | succ n ih => show rsum f (n + 1) + f (n + 1) = f 0 + (rsum (fun k => f (k + 1)) n + f (n + 1)); rw [ih]; omega
theorem rsum_tail {f : Nat → Nat} {a b : Nat} (h : a ≤ b) (hz : ∀ k, a ≤ k → k < b → f k = 0) : rsum f b = rsum f a := by
  induction b with
  | zero => rw [Nat.le_zero.mp h]
  | succ b ih =>
    rcases Nat.lt_or_ge a (b + 1) with q | q
    · show rsum f b + f b = rsum f a; rw [ih (by omega) (fun k h1 h2 => hz k h1 (by omega)), hz b (by omega) (by omega)]; omega
    · rw [show a = b + 1 by omega]
theorem rsum_mul (c : Nat) (f : Nat → Nat) (n : Nat) : rsum (fun k => c * f k) n = c * rsum f n := by
  induction n with
  | zero => rfl
  | succ n ih => show rsum (fun k => c * f k) n + c * f n = c * (rsum f n + f n); rw [ih, Nat.mul_add]
theorem rsum_mulr (c : Nat) (f : Nat → Nat) (n : Nat) : rsum (fun k => f k * c) n = rsum f n * c := by
  induction n with
  | zero => show 0 = 0 * c; omega
  | succ n ih => show rsum (fun k => f k * c) n + f n * c = (rsum f n + f n) * c; rw [ih, Nat.add_mul]
theorem rsum_swap (f : Nat → Nat → Nat) (a b : Nat) : rsum (fun i => rsum (fun j => f i j) b) a = rsum (fun j => rsum (fun i => f i j) a) b := by
  induction a with
  | zero => show 0 = rsum (fun j => 0) b; rw [rsum_0 (fun _ _ => rfl)]
  | succ a ih => show rsum (fun i => rsum (fun j => f i j) b) a + rsum (fun j => f a j) b = rsum (fun j => rsum (fun i => f i j) a + f a j) b; rw [ih, rsum_add]
theorem chZ_nat (n k : Nat) : chZ n (k : Int) = ch n k := by unfold chZ; rw [if_neg (by omega)]; rfl
theorem chZ_neg {n : Nat} {z : Int} (h : z < 0) : chZ n z = 0 := if_pos h
theorem chZ_succ (n : Nat) (z : Int) : chZ (n + 1) z = chZ n (z - 1) + chZ n z := by
  by_cases h : z < 0
  · rw [chZ_neg h, chZ_neg (by omega), chZ_neg h]
  · obtain ⟨k, rfl⟩ : ∃ k : Nat, z = k := ⟨z.toNat, by omega⟩
    cases k with
    | zero => rw [chZ_nat, chZ_neg (by omega), chZ_nat, ch_0, ch_0]
    | succ k => rw [chZ_nat, show ((k + 1 : Nat) : Int) - 1 = (k : Int) by omega, chZ_nat, chZ_nat]; rfl
/-- Vandermonde's sum, with the terms beyond n nothing -/
theorem vand (n m : Nat) : ∀ z : Int, rsum (fun s => ch n s * chZ m (z - s)) (n + 1) = chZ (n + m) z := by
  induction n with
  | zero =>
    intro z
    show 0 + ch 0 0 * chZ m (z - (0 : Nat)) = chZ (0 + m) z
    rw [ch_0]; simp
  | succ n ih =>
    intro z
    rw [rsum_front]
    have e : ∀ s, ch (n + 1) (s + 1) * chZ m (z - (s + 1 : Nat)) = ch n s * chZ m ((z - 1) - s) + ch n (s + 1) * chZ m (z - (s + 1 : Nat)) := fun s => by
      show (ch n s + ch n (s + 1)) * chZ m (z - (s + 1 : Nat)) = _
      rw [Nat.add_mul, show z - ((s + 1 : Nat) : Int) = (z - 1) - s by omega]
    rw [rsum_cong (fun s _ => e s), rsum_add, ih (z - 1)]
    have h2 := rsum_front (fun s => ch n s * chZ m (z - s)) (n + 1)
    have h3 : rsum (fun s => ch n s * chZ m (z - s)) (n + 1 + 1) = rsum (fun s => ch n s * chZ m (z - s)) (n + 1) := by
      show _ + ch n (n + 1) * _ = _
      rw [ch_big (Nat.lt_succ_self n)]; omega
    rw [h3, ih z] at h2
    rw [show n + 1 + m = (n + m) + 1 by omega, chZ_succ, h2, ch_0, ch_0]
    simp only [Int.ofNat_zero] at *
    have e0 : ((0 : Nat) : Int) = 0 := rfl
    rw [e0] at *
    omega
theorem lN_m (a b : Nat) : lN a * lN b = lN (a * b) := lN_mul a b
theorem lN_a (a b : Nat) : lN a + lN b = lN (a + b) := lN_add a b
theorem lN_0 : (0 : Int64) = lN 0 := rfl
theorem lN_1' : (1 : Int64) = lN 1 := rfl
/-- every binomial of at most 60 fits a long -/
theorem ch_sym_mono : ∀ n : Nat, n ≤ 60 → ∀ k, k ≤ n → 0 < ch n k ∧ 60 * ch n k < 9223372036854775808 := by decide +kernel
theorem ch_lt {n k : Nat} (hn : n ≤ 60) : 60 * ch n k < 9223372036854775808 := by
  rcases Nat.lt_or_ge n k with q | q
  · rw [ch_big q]; decide
  · exact (ch_sym_mono n hn k q).2
theorem ch_pos {n k : Nat} (hn : n ≤ 60) (hk : k ≤ n) : 0 < ch n k := (ch_sym_mono n hn k hk).1
/-- the orders in which the first n of lot items have fewer than c defective ones, of d in all -/
def hs (n lot d : Nat) (c : Nat) : Nat := rsum (fun s => ch n s * chZ (lot - n) ((d : Int) - s)) c
theorem hs_le {n lot d c : Nat} (hn : n ≤ lot) : hs n lot d c ≤ ch lot d := by
  have h := vand n (lot - n) (d : Int)
  rw [show n + (lot - n) = lot by omega, chZ_nat] at h
  rw [← h]
  unfold hs
  rcases Nat.lt_or_ge c (n + 1) with q | q
  · exact rsum_mono _ (by omega)
  · rw [rsum_tail q (fun k h1 _ => by rw [ch_big (by omega)]; omega)]; exact Nat.le_refl _
-- rounding
def inn (d r : Nat) : Nat → Nat × Nat
  | 0 => (0, 0)
  | i + 1 => if d - r ≤ (inn d r i).1 then ((inn d r i).1 - (d - r), (inn d r i).2 + 1) else ((inn d r i).1 + r, (inn d r i).2)
theorem inn_lt {d r : Nat} (h : r < d) (i : Nat) : (inn d r i).1 < d ∧ (inn d r i).2 ≤ i := by
  induction i with
  | zero => exact ⟨by show 0 < d; omega, Nat.le_refl 0⟩
  | succ i ih =>
    unfold inn
    split
    · exact ⟨by show _ - _ < d; omega, by show _ + 1 ≤ _; omega⟩
    · exact ⟨by show _ + _ < d; omega, by show _ ≤ _; omega⟩
def rnd (u d : Nat) : Nat → Nat × Nat
  | 0 => (u / d, u % d)
  | k + 1 => (10 * (rnd u d k).1 + (inn d (rnd u d k).2 10).2, (inn d (rnd u d k).2 10).1)
theorem rnd_lt {u d : Nat} (h : 0 < d) (hu : u ≤ 60 * d) (k : Nat) : (rnd u d k).2 < d ∧ (rnd u d k).1 + 10 ≤ 100 * 10 ^ k := by
  induction k with
  | zero =>
    refine ⟨Nat.mod_lt _ h, ?_⟩
    show u / d + 10 ≤ 100 * 10 ^ 0
    have : u / d ≤ 60 := Nat.div_le_of_le_mul (by rw [Nat.mul_comm]; exact hu)
    omega
  | succ k ih =>
    have h1 := inn_lt ih.1 10
    refine ⟨h1.1, ?_⟩
    show 10 * _ + _ + 10 ≤ 100 * 10 ^ (k + 1)
    rw [Nat.pow_succ]
    omega
def rndV (u d k : Nat) : Nat := if d - (rnd u d k).2 < (rnd u d k).2 ∨ ((rnd u d k).2 = d - (rnd u d k).2 ∧ (rnd u d k).1 % 2 = 1) then (rnd u d k).1 + 1 else (rnd u d k).1
theorem pw6 {k : Nat} (h : k ≤ 6) : 10 ^ k ≤ 1000000 := Nat.pow_le_pow_right (by decide) h
theorem lN_s {a b : Nat} (h : b ≤ a) : lN a - lN b = lN (a - b) := lN_sub h
theorem lN_lt' {a b : Nat} (ha : a < 9223372036854775808) (hb : b < 9223372036854775808) : lN a < lN b ↔ a < b := pk_lLT ha hb
theorem lN_eq' {a b : Nat} (ha : a < 9223372036854775808) (hb : b < 9223372036854775808) : lN a = lN b ↔ a = b := pk_lEQ ha hb
theorem lN_div {a b : Nat} (ha : a < 9223372036854775808) (h0 : 0 < b) (hb : b < 9223372036854775808) : lN a / lN b = lN (a / b) := pk_lDiv ha h0 hb
theorem lN_rem {a b : Nat} (ha : a < 9223372036854775808) (h0 : 0 < b) (hb : b < 9223372036854775808) : lN a - lN a / lN b * lN b = lN (a % b) := pk_lRem ha h0 hb
theorem lN_n0 {b : Nat} (h0 : 0 < b) (hb : b < 9223372036854775808) : ¬ lN b = 0 := fun q => by
  rw [lN_0, lN_eq' hb (by decide)] at q; omega
theorem sg_split {x y z w : Nat} : sg3 (x * y) (z * w) = (if x / 1000000000 * y + x % 1000000000 * y / 1000000000 ≠ z / 1000000000 * w + z % 1000000000 * w / 1000000000 then (if x / 1000000000 * y + x % 1000000000 * y / 1000000000 < z / 1000000000 * w + z % 1000000000 * w / 1000000000 then -1 else 1) else if x % 1000000000 * y % 1000000000 < z % 1000000000 * w % 1000000000 then -1 else if z % 1000000000 * w % 1000000000 < x % 1000000000 * y % 1000000000 then 1 else 0) := by
  have e : ∀ a b : Nat, a * b = 1000000000 * (a / 1000000000 * b + a % 1000000000 * b / 1000000000) + a % 1000000000 * b % 1000000000 := fun a b => by
    have h1 := Nat.div_add_mod a 1000000000
    have h2 := Nat.div_add_mod (a % 1000000000 * b) 1000000000
    have h3 : a * b = 1000000000 * (a / 1000000000 * b) + a % 1000000000 * b := by
      rw [← Nat.mul_assoc, ← Nat.add_mul, h1]
    omega
  have l1 : x % 1000000000 * y % 1000000000 < 1000000000 := Nat.mod_lt _ (by decide)
  have l2 : z % 1000000000 * w % 1000000000 < 1000000000 := Nat.mod_lt _ (by decide)
  have e1 := e x y
  have e2 := e z w
  generalize x / 1000000000 * y + x % 1000000000 * y / 1000000000 = A at *
  generalize z / 1000000000 * w + z % 1000000000 * w / 1000000000 = D at *
  generalize x % 1000000000 * y % 1000000000 = p at *
  generalize z % 1000000000 * w % 1000000000 = q at *
  unfold sg3
  rw [e1, e2]
  by_cases h : A = D
  · subst h
    simp only [ne_eq, not_true, if_false]
    by_cases h1 : p < q
    · rw [if_pos h1, if_pos (by omega)]
    · rw [if_neg h1, if_neg (by omega)]
      by_cases h2 : q < p
      · rw [if_pos h2, if_pos (by omega)]
      · rw [if_neg h2, if_neg (by omega)]
  · rw [if_pos h]
    by_cases h1 : A < D
    · rw [if_pos h1, if_pos (by omega)]
    · rw [if_neg h1, if_neg (by omega), if_pos (by omega)]
/-- what a part at hand is -/
def WfQ (σ : gS) (u d : Nat) : Prop := σ.2 0 0 7 = lN u ∧ σ.2 0 0 8 = lN d ∧ 0 < d ∧ d < 9223372036854775808 ∧ u < 9223372036854775808 ∧ u ≤ 60 * d
