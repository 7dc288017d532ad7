theorem b01_n {x : Int32} (h : x = 0 ∨ x = 1) : narrow .boolean (.int x) = .int x := by rcases h with rfl | rfl <;> rfl
theorem b01_1 {x : Int32} (h : x = 0 ∨ x = 1) (h0 : ¬ x = 0) : x = 1 := h.elim (fun q => absurd q h0) (fun q => q)
theorem nd_lt {σ : gS} {q p : Nat} (hP : WfP1 σ p) (hc : clo σ p = true) {n : Nat} (h : (jd σ q p n).1 = 0) : (jD (jd σ q p n) : Int) < 61 := by
  cases n with
  | zero => show ((0 + 0 / 3 : Nat) : Int) < 61; decide
  | succ n =>
    have h0 := jd_before h (Nat.le_succ n)
    obtain ⟨a, -⟩ := jd_inv (q := q) hP hc h0
    have hr := (hP.2.2.1 _ a).2.2.2.2.2
    rw [jd_s h0] at h ⊢
    have e : jD (jdec σ p (jadd (jd σ q p n) (itm σ q n)) (itm σ q n)) = jD (jadd (jd σ q p n) (itm σ q n)) := by
      unfold jD; rw [(jdec_cnt _ _ _ _).2]
    rw [e]
    by_cases c1 : itm σ q n = 3 ∨ rfI σ p (jadd (jd σ q p n) (itm σ q n)).2.2.1 ≤ (jD (jadd (jd σ q p n) (itm σ q n)) : Int)
    · unfold jdec at h; rw [if_pos c1] at h; exact absurd (show (2 : Nat) = 0 from h) (by decide)
    · have c2 : ¬ rfI σ p (jd σ q p n).2.2.1 ≤ (jD (jadd (jd σ q p n) (itm σ q n)) : Int) := fun z => c1 (Or.inr z)
      omega
theorem nd_hit {σ : gS} {q j : Nat} (h0 : (jq σ q).1 = 0) (hn : fnd (ndH σ (lPl σ q) (lSn σ q) (jq σ q).2.2.1 (jD (jq σ q))) j = none) (hj : j < 60) (h : ndH σ (lPl σ q) (lSn σ q) (jq σ q).2.2.1 (jD (jq σ q)) j = true) : ndA σ q = nI (j + 1) := by
  have h3 := fnd_up (fnd_hit hn h) (show j + 1 ≤ 60 by omega)
  unfold ndA
  rw [if_pos h0, h3]
theorem nd_none {σ τ : gS} {p sn st D mi j : Nat} (hN : NC σ τ (3 * D + mi % 3) (j + 1)) (hk : 3 * D + mi % 3 + 3 * (j + 1) < 210) (h : ∀ k, k < 210 → τ.1 35 0 k = 1 → ¬ (rfI σ p (ns σ p sn st j) ≤ ((k / 3 : Nat) : Int)) ∧ (decide (sn + (j + 1) = tot σ p (ns σ p sn st j + 1)) = true → ¬ (((k / 3 : Nat) : Int) ≤ acI σ p (ns σ p sn st j)))) : ndH σ p sn st D j = false := by
  have h1 := (h _ hk hN.2.2.2.2).1
  have h2 := (h (3 * D + mi % 3) (by omega) hN.2.2.2.1).2
  rw [show (3 * D + mi % 3 + 3 * (j + 1)) / 3 = D + (j + 1) by omega] at h1
  rw [show (3 * D + mi % 3) / 3 = D by omega] at h2
  unfold ndH
  rw [decide_eq_false h1]
  by_cases e : decide (sn + (j + 1) = tot σ p (ns σ p sn st j + 1)) = true
  · rw [e, decide_eq_false (h2 e)]; rfl
  · rw [Bool.eq_false_iff.mpr e]; rfl
theorem nd_k {σ : gS} {p sn st D j : Nat} (hP : WfP1 σ p) (hs : ns σ p sn st j < stN σ p) (hno : ndH σ p sn st D j = false) : D + (j + 1) ≤ 60 := by
  have hr := (hP.2.2.1 _ hs).2.2.2.2.2
  unfold ndH at hno
  have h1 := of_decide_eq_false (Bool.or_eq_false_iff.mp hno).1
  omega
theorem nd_more {σ : gS} {p sn st D j : Nat} (hP : WfP1 σ p) (hc : clo σ p = true) (h1 : st < stN σ p) (h2 : tot σ p st ≤ sn) (h3 : sn < tot σ p (st + 1)) (h : sn + j < tot σ p (stN σ p)) (hno : ndH σ p sn st D j = false) : sn + (j + 1) < tot σ p (stN σ p) := by
  rcases Nat.lt_or_ge (sn + (j + 1)) (tot σ p (stN σ p)) with z | z
  · exact z
  · have h4 := nd_last (D := D) hP hc h1 h2 h3 (j := j) (by omega)
    rw [hno] at h4; exact absurd h4 (by decide)
