/-! a STAGE more -/
def apI (σ : gS) (p sn : Nat) (a r : Int32) : gS := sI (sI (sI (sI (sI (sI σ 51 p (stN σ p) (nI sn)) 52 p (stN σ p) a) 53 p (stN σ p) r) 54 p (stN σ p) (nI (tot σ p (stN σ p) + sn))) 50 p 5 (nI (stN σ p + 1))) 50 p 6 (bI (decide (r = a + nI 1)))
def apR (σ : gS) (p sn b x : Nat) : Nat := rsum (fun b => opw σ p (stN σ p) b * chZ sn ((x : Int) - (b : Int))) b
def apP (σ τ : gS) (p sn : Nat) (a r : Int32) : Prop := τ.1 = (apI σ p sn a r).1 ∧ (∀ k i j, ¬ (k = 56 ∧ i = 4 * p + stN σ p) → τ.2 k i j = σ.2 k i j) ∧ ∀ x, x ≤ 60 → τ.2 56 (4 * p + stN σ p) x = lN (apR σ p sn (tot σ p (stN σ p) + 1) x)
def apS (σ : gS) (p sn : Nat) (a r : Int32) : gS := sI (sI (sI (sI σ 51 p (stN σ p) (nI sn)) 52 p (stN σ p) a) 53 p (stN σ p) r) 54 p (stN σ p) (nI (tot σ p (stN σ p) + sn))
def AP (σ τ : gS) (p sn : Nat) (a r : Int32) (b mm : Nat) : Prop := τ.1 = (apS σ p sn a r).1 ∧ (∀ k i j, ¬ (k = 56 ∧ i = 4 * p + stN σ p) → τ.2 k i j = σ.2 k i j) ∧ ∀ x, x ≤ 60 → τ.2 56 (4 * p + stN σ p) x = lN (apR σ p sn b x + (if b ≤ x ∧ x < b + mm then opw σ p (stN σ p) b * ch sn (x - b) else 0))
theorem AP_0 {σ : gS} {p sn : Nat} {a r : Int32} (hZ : PZ σ p) (h4 : stN σ p < 4) : AP σ (apS σ p sn a r) p sn a r 0 0 := ⟨rfl, fun _ _ _ _ => rfl, fun x hx => by
  rw [if_neg (by omega)]
  exact hZ _ x (Nat.le_refl _) h4 hx⟩
theorem AP_put {σ τ : gS} {p sn : Nat} {a r : Int32} {b mm v : Nat} (h : AP σ τ p sn a r b mm) (hv : v = apR σ p sn b (b + mm) + opw σ p (stN σ p) b * ch sn mm) : AP σ (sJ τ 56 (4 * p + stN σ p) (b + mm) (lN v)) p sn a r b (mm + 1) := by
  refine ⟨h.1, fun k i j q => ?_, fun x hx => ?_⟩
  · rw [sJ_at, if_neg (fun z => q ⟨z.1, z.2.1⟩)]; exact h.2.1 k i j q
  · rw [sJ_at]
    by_cases e : x = b + mm
    · rw [if_pos ⟨rfl, rfl, e⟩, hv, e, if_pos (by omega), show b + mm - b = mm by omega]
    · rw [if_neg (fun z => e z.2.2), h.2.2 x hx]
      by_cases q : b ≤ x ∧ x < b + mm
      · rw [if_pos q, if_pos (by omega)]
      · rw [if_neg q, if_neg (by omega)]
theorem AP_at {σ τ : gS} {p sn : Nat} {a r : Int32} {b mm : Nat} (h : AP σ τ p sn a r b mm) (hx : b + mm ≤ 60) : τ.2 56 (4 * p + stN σ p) (b + mm) = lN (apR σ p sn b (b + mm)) := by
  rw [h.2.2 _ hx, if_neg (by omega), Nat.add_zero]
theorem AP_next {σ τ : gS} {p sn : Nat} {a r : Int32} {b : Nat} (h : AP σ τ p sn a r b (sn + 1)) : AP σ τ p sn a r (b + 1) 0 := ⟨h.1, h.2.1, fun x hx => by
  rw [h.2.2 x hx, if_neg (show ¬ (b + 1 ≤ x ∧ x < b + 1 + 0) by omega)]
  show lN (apR σ p sn b x + _) = lN (apR σ p sn b x + opw σ p (stN σ p) b * chZ sn ((x : Int) - (b : Int)) + 0)
  by_cases q : b ≤ x ∧ x < b + (sn + 1)
  · rw [if_pos q, show (x : Int) - (b : Int) = ((x - b : Nat) : Int) by omega, chZ_nat]; rfl
  · rw [if_neg q]
    by_cases z : x < b
    · rw [chZ_neg (by omega), Nat.mul_zero]
    · rw [show (x : Int) - (b : Int) = ((x - b : Nat) : Int) by omega, chZ_nat, ch_big (by omega), Nat.mul_zero]⟩
theorem AP_E {σ τ : gS} {p sn : Nat} {a r : Int32} {b mm : Nat} (h : AP σ τ p sn a r b mm) : eqP σ τ := fun k j h1 h2 => by
  rw [h.1]; unfold apS
  rw [sI_at, if_neg (by omega), sI_at, if_neg (by omega), sI_at, if_neg (by omega), sI_at, if_neg (by omega)]
theorem AP_PR {σ τ : gS} {p sn : Nat} {a r : Int32} {b mm : Nat} (h : AP σ τ p sn a r b mm) (hR : PR σ p) : PR τ p := by
  refine hR.cong (AP_E h) ⟨?_, ?_⟩ (fun k hk => ⟨?_, ?_, ?_, ?_⟩) (fun k x hk hx => h.2.1 _ _ _ (by omega))
  · rw [h.1]; unfold apS; rw [sI_at, if_neg (by omega), sI_at, if_neg (by omega), sI_at, if_neg (by omega), sI_at, if_neg (by omega)]
  · rw [h.1]; unfold apS; rw [sI_at, if_neg (by omega), sI_at, if_neg (by omega), sI_at, if_neg (by omega), sI_at, if_neg (by omega)]
  · rw [h.1]; unfold apS; rw [sI_at, if_neg (by omega), sI_at, if_neg (by omega), sI_at, if_neg (by omega), sI_at, if_neg (by omega)]
  · rw [h.1]; unfold apS; rw [sI_at, if_neg (by omega), sI_at, if_neg (by omega), sI_at, if_neg (by omega), sI_at, if_neg (by omega)]
  · rw [h.1]; unfold apS; rw [sI_at, if_neg (by omega), sI_at, if_neg (by omega), sI_at, if_neg (by omega), sI_at, if_neg (by omega)]
  · rw [h.1]; unfold apS; rw [sI_at, if_neg (by omega), sI_at, if_neg (by omega), sI_at, if_neg (by omega), sI_at, if_neg (by omega)]
theorem AP_W {σ τ : gS} {p sn : Nat} {a r : Int32} {b mm : Nat} (h : AP σ τ p sn a r b mm) (hW : WfW σ) : WfW τ := fun n k h1 h2 => by rw [h.2.1 43 n k (by omega)]; exact hW n k h1 h2
theorem AP_end {σ τ : gS} {p sn : Nat} {a r : Int32} (h : AP σ τ p sn a r (tot σ p (stN σ p) + 1) 0) : apP σ (sI (sI τ 50 p 5 (nI (stN σ p + 1))) 50 p 6 (bI (decide (r = a + nI 1)))) p sn a r := by
  refine ⟨?_, h.2.1, fun x hx => ?_⟩
  · funext k i j
    rw [sI_at, sI_at, h.1]
    unfold apI
    rw [sI_at, sI_at]
    rfl
  · show τ.2 56 _ x = _
    rw [h.2.2 x hx, if_neg (by omega), Nat.add_zero]
