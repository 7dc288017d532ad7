/-! told parts and least plans: class and check -/
theorem fits_i {σ : gS} {r : Nat} {n : Int32} (h : RK σ r) : (!(isRk σ r) || decide ((cRd σ r : Int) ≤ n.toInt)) = true ↔ (isRk σ r = true → (rAt σ r : Int) ≤ n.toInt) := by
  by_cases q : isRk σ r = true
  · rw [q, (h.2.2.2.2.2.2.2.2 q).1]
    simp
  · rw [Bool.eq_false_iff.mpr q]; simp
theorem hl_0 {σ : gS} {nn cn lt : Nat} (h : RK σ 0) : hl1 σ nn cn lt 0 = (!(isRk σ 0) || decide (ch lt (cRd σ 0) * cRu σ 0 ≤ hs nn lt (cRd σ 0) (cn + 1) * cRn σ 0)) := by
  unfold hl1
  rw [if_pos rfl]
  by_cases q : isRk σ 0 = true
  · obtain ⟨a, b, c⟩ := h.2.2.2.2.2.2.2.2 q
    rw [a, b, c]
  · rw [Bool.eq_false_iff.mpr q, Bool.not_false, Bool.true_or, Bool.true_or]
theorem hl_1 {σ : gS} {nn cn lt : Nat} (h : RK σ 1) : hl1 σ nn cn lt 1 = (!(isRk σ 1) || decide (hs nn lt (cRd σ 1) (cn + 1) * cRn σ 1 ≤ ch lt (cRd σ 1) * cRu σ 1)) := by
  unfold hl1
  rw [if_neg (by decide)]
  by_cases q : isRk σ 1 = true
  · obtain ⟨a, b, c⟩ := h.2.2.2.2.2.2.2.2 q
    rw [a, b, c]
  · rw [Bool.eq_false_iff.mpr q, Bool.not_false, Bool.true_or, Bool.true_or]
theorem hld_2 (σ : gS) (nn cn lt : Nat) : hld σ nn cn lt = (hl1 σ nn cn lt 0 && hl1 σ nn cn lt 1) := by
  show ((true && hl1 σ nn cn lt 0) && hl1 σ nn cn lt 1) = _
  rw [Bool.true_and]
theorem nI_nm1 {a : Nat} (h : a < 2147483648) : ¬ nI a = -1 := fun q => by
  rw [i_eq, nI_I h] at q
  have : (-1 : Int32).toInt = -1 := rfl
  omega
theorem lc_le {σ : gS} {lt m q : Nat} (h : lc σ lt m = some q) : q ≤ m := by have := (fnd_lt h).1; omega
theorem fnd_none {P : Nat → Bool} {k j : Nat} (h : fnd P k = none) (hj : j < k) : P j = false := by
  induction k with
  | zero => omega
  | succ k ih =>
    unfold fnd at h
    cases e : fnd P k with
    | some i => rw [e] at h; exact absurd h (by simp)
    | none =>
      rw [e] at h
      rcases Nat.lt_or_ge j k with z | z
      · exact ih e z
      · rw [show j = k by omega]
        cases q : P k with
        | true => simp [q] at h
        | false => rfl
theorem fnd_cong {P Q : Nat → Bool} {k : Nat} (h : ∀ j, j < k → fnd P j = none → P j = Q j) : fnd P k = fnd Q k := by
  induction k with
  | zero => rfl
  | succ k ih =>
    have e := ih (fun j hj => h j (by omega))
    unfold fnd
    rw [← e]
    cases q : fnd P k with
    | some i => rfl
    | none =>
      show (if P k then some k else none) = (if Q k then some k else none)
      rw [h k (by omega) q]
/-- the first of the minimal plans is the least -/
theorem mst_0 {σ : gS} {lt m : Nat} (h : fnd (fun m => (lc σ lt (m + 1)).isSome) m = none) : mst σ lt m = (0, 1000) := by
  induction m with
  | zero => rfl
  | succ m ih =>
    have h1 := fnd_none h (show m < m + 1 by omega)
    have h2 : fnd (fun m => (lc σ lt (m + 1)).isSome) m = none := by
      cases e : fnd (fun m => (lc σ lt (m + 1)).isSome) m with
      | none => rfl
      | some j => rw [fnd_up e (Nat.le_succ m)] at h; exact absurd h (by simp)
    have h3 : lc σ lt (m + 1) = none := by
      cases e : lc σ lt (m + 1) with
      | none => rfl
      | some q =>
        have h1 : (lc σ lt (m + 1)).isSome = false := h1
        rw [e] at h1; exact absurd h1 (by simp)
    rw [mst_n h3]; exact ih h2
theorem mn_sr {σ : gS} {lt : Nat} (hl : lt ≤ 60) : mnA σ lt 0 = srA σ lt := by
  have e : fnd (fun m => (lc σ lt (m + 1)).isSome) lt = fnd (mhit σ lt 0) lt := fnd_cong (fun j hj hn => by
    cases q : lc σ lt (j + 1) with
    | none => rw [mhit_n q]; rfl
    | some a =>
      have := lc_le q
      rw [mhit_s q, mst_0 hn]
      exact (decide_eq_true (by omega)).symm)
  unfold mnA srA
  rw [e]
