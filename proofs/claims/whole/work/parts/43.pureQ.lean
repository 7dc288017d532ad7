/-! sums of the class are the check's (shown later): what the desk's methods stand on -/
def SO (σ : gS) : Prop := ∀ p n d w, p < nP σ → clo σ p = true → n ≤ 60 → tot σ p (stN σ p) ≤ n → d ≤ n → w ≤ 2 → soo σ p n d w = paN σ p n d w ∧ paN σ p n d w < 9223372036854775808
theorem apP_5 {σ τ : gS} {p sn : Nat} {a r : Int32} (h : apP σ τ p sn a r) : τ.1 50 p 5 = nI (stN σ p + 1) := by
  rw [h.1]; unfold apI; rw [sI_at, if_neg (by omega), sI_at, if_pos ⟨rfl, rfl, rfl⟩]
def pcU (σ : gS) (p n d w : Nat) : gS := sJ (sJ σ 44 0 0 (lN (paN σ p n d w / Nat.gcd (paN σ p n d w) (pbN n d w)))) 44 0 1 (lN (pbN n d w / Nat.gcd (paN σ p n d w) (pbN n d w)))
theorem cc_3 (σ : gS) (a b n d : Nat) : ccN σ a b n d = -1 ∨ ccN σ a b n d = 0 ∨ ccN σ a b n d = 1 := by
  unfold ccN cmpJ
  split
  · exact Or.inr (Or.inr rfl)
  · split
    · exact Or.inl rfl
    · exact Or.inr (Or.inl rfl)
theorem cr_i (σ : gS) (a b n q : Nat) : crH σ a b n q = true ↔ (¬ ccN σ a b n q = 0 ∧ ccN σ a b n (q + 1) = -ccN σ a b n q) := by
  unfold crH
  rw [decide_eq_true_iff]
  rcases cc_3 σ a b n q with h | h | h <;> rcases cc_3 σ a b n (q + 1) with h2 | h2 | h2 <;> rw [h, h2] <;> decide
theorem cc_of {σ : gS} {a b n d x y : Nat} (hx : x = TK σ a n d) (hy : y = TK σ b n d) (h1 : x < 9223372036854775808) (h2 : y < 9223372036854775808) : ccN σ a b n d = if y < x then 1 else if x < y then -1 else 0 := by
  subst hx; subst hy
  unfold ccN cmpJ
  simp only [lN_lt' h1 h2, lN_lt' h2 h1]
