/-! class and check in one state: what holds between calls -/
def DK (B : gB) (σ : gS) : Prop := σ.1 40 0 3 = nI (nP σ) ∧ B.2 50 = nP σ ∧ σ.1 40 0 7 = nI (nS σ) ∧ B.2 57 = nS σ ∧ σ.1 40 0 9 = nI (nL σ) ∧ B.2 60 = nL σ
def SR (σ : gS) (s : Nat) : Prop := σ.1 57 s 2 = σ.1 17 0 s ∧ σ.1 57 s 3 = σ.1 15 0 s ∧ σ.1 57 s 4 = σ.1 16 0 s ∧ (∀ j, j < 3 → σ.1 58 s j = σ.1 14 0 (3 * s + j)) ∧ ∀ k, k < rn σ s → σ.1 59 s k = σ.1 18 0 (60 * s + k)
def LR (σ : gS) (q : Nat) : Prop := σ.1 60 q 0 = nI (lSu σ q) ∧ σ.1 60 q 1 = nI (lSz σ q) ∧ σ.1 60 q 3 = nI (lPl σ q) ∧ σ.1 60 q 4 = nI (lRu σ q) ∧ LZ σ q (jq σ q) (itm σ q) ∧ ∀ k, k < lSn σ q → σ.1 61 q k = nI (itm σ q k)
def RN (σ : gS) : Prop := ∀ s, s < nS σ → rn σ s ≤ cnt (fun q => decide (lSu σ q = s) && !decide ((jq σ q).1 = 0)) (nL σ)
def RI (B : gB) (σ : gS) : Prop := (BkM B ∧ BkC B ∧ DK B σ) ∧ (WfP σ ∧ WfCh σ ∧ WfW σ ∧ WfR σ ∧ WfS σ ∧ WfL σ) ∧ (∀ p, p < nP σ → PR σ p ∧ PZ σ p) ∧ (∀ r, r < 2 → RK σ r) ∧ (∃ u d, WfQ σ u d ∧ cQ σ u d) ∧ (∀ s, s < nS σ → SR σ s) ∧ (∀ q, q < nL σ → LR σ q) ∧ (∀ w, w < 4 → σ.1 48 0 w = σ.1 25 0 w) ∧ RN σ
theorem RI.M {B : gB} {σ : gS} (h : RI B σ) : BkM B := h.1.1
theorem RI.C {B : gB} {σ : gS} (h : RI B σ) : BkC B := h.1.2.1
theorem RI.D {B : gB} {σ : gS} (h : RI B σ) : DK B σ := h.1.2.2
theorem RI.P {B : gB} {σ : gS} (h : RI B σ) : WfP σ := h.2.1.1
theorem RI.Ch {B : gB} {σ : gS} (h : RI B σ) : WfCh σ := h.2.1.2.1
theorem RI.W {B : gB} {σ : gS} (h : RI B σ) : WfW σ := h.2.1.2.2.1
theorem RI.R {B : gB} {σ : gS} (h : RI B σ) : WfR σ := h.2.1.2.2.2.1
theorem RI.S {B : gB} {σ : gS} (h : RI B σ) : WfS σ := h.2.1.2.2.2.2.1
theorem RI.L {B : gB} {σ : gS} (h : RI B σ) : WfL σ := h.2.1.2.2.2.2.2
theorem RI.pr {B : gB} {σ : gS} (h : RI B σ) {p : Nat} (hp : p < nP σ) : PR σ p := (h.2.2.1 p hp).1
theorem RI.pz {B : gB} {σ : gS} (h : RI B σ) {p : Nat} (hp : p < nP σ) : PZ σ p := (h.2.2.1 p hp).2
theorem RI.rk {B : gB} {σ : gS} (h : RI B σ) {r : Nat} (hr : r < 2) : RK σ r := h.2.2.2.1 r hr
theorem RI.q {B : gB} {σ : gS} (h : RI B σ) : ∃ u d, WfQ σ u d ∧ cQ σ u d := h.2.2.2.2.1
theorem RI.sr {B : gB} {σ : gS} (h : RI B σ) {s : Nat} (hs : s < nS σ) : SR σ s := h.2.2.2.2.2.1 s hs
theorem RI.lr {B : gB} {σ : gS} (h : RI B σ) {q : Nat} (hq : q < nL σ) : LR σ q := h.2.2.2.2.2.2.1 q hq
theorem RI.co {B : gB} {σ : gS} (h : RI B σ) {w : Nat} (hw : w < 4) : σ.1 48 0 w = σ.1 25 0 w := h.2.2.2.2.2.2.2.1 w hw
theorem RI.rn {B : gB} {σ : gS} (h : RI B σ) : RN σ := h.2.2.2.2.2.2.2.2
theorem SR.cs {σ : gS} {s : Nat} (h : SR σ s) (hW : WfS1 σ s) : CS σ s ∧ crn σ s = rn σ s ∧ crl σ s = rl σ s := by
  have h1 : crn σ s = rn σ s := by unfold crn rn; rw [h.1]
  have h2 : crl σ s = rl σ s := by unfold crl rl; rw [h.2.1]
  refine ⟨⟨?_, ?_, ?_, ?_⟩, h1, h2⟩
  · rw [h.1, h1]; exact hW.2.2.2.1
  · rw [h1]; exact hW.2.2.2.2
  · rw [h.2.1, h2]; exact hW.1
  · rw [h2]; exact hW.2.1
theorem cnt_ge {P : Nat → Bool} {n q : Nat} (hq : q < n) (h : P q = false) : cnt P n + 1 ≤ n := by
  induction n with
  | zero => exact absurd hq (by omega)
  | succ n ih =>
    have e : cnt P (n + 1) = cnt P n + (if P n then 1 else 0) := rfl
    rcases Nat.lt_or_ge q n with k | k
    · have := ih k
      rw [e]; split <;> omega
    · have : q = n := by omega
      subst this
      rw [e, h]
      have : ∀ m, cnt P m ≤ m := fun m => by
        induction m with
        | zero => exact Nat.le_refl 0
        | succ m ih2 => show cnt P m + (if P m then 1 else 0) ≤ m + 1; split <;> omega
      have := this q
      simp; omega
theorem RN.ok {σ : gS} (h : RN σ) (hL : WfL σ) : RunOK σ := fun q hq h0 => by
  have h1 := h (lSu σ q) (hL.2.2 q hq).2.1
  have h2 := cnt_ge (P := fun q2 => decide (lSu σ q2 = lSu σ q) && !decide ((jq σ q2).1 = 0)) hq (by simp [h0])
  have := hL.2.1
  omega
theorem isPl_if {σ : gS} {x : Int32} (h : isPl σ x = true) : 0 ≤ x.toInt ∧ x.toInt < (nP σ : Int) := of_decide_eq_true h
