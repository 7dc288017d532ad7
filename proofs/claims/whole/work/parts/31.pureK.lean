/-! the class' own cells, told by the check's numbers -/
theorem rfs_v {B : gB} {k i : Nat} (h : i < B.2 k) : va_rf (rfs B k i) = .ref (B.1 k i) := by unfold rfs; rw [if_pos h]; rfl
def WfW (σ : gS) : Prop := ∀ n k, n ≤ 60 → k ≤ n → σ.2 43 n k = lN (ch n k)
theorem chs_z {n : Nat} {k : Int32} (hn : n ≤ 60) (h : k.toInt < 0 ∨ (n : Int) < k.toInt) : lN 0 = lN (chZ n k.toInt) := ways_z hn h
theorem chs_v {σ : gS} {n q : Nat} {k : Int32} (hW : WfW σ) (hn : n ≤ 60) (hq : q ≤ n) (h : (q : Int) = k.toInt) : σ.2 43 n q = lN (chZ n k.toInt) := by
  rw [hW n q hn hq]
  unfold chZ
  rw [if_neg (by omega), ← h]
  rfl
/-- is it decided at the end of STAGE k with s defective items -/
def tkB (σ : gS) (p k s : Nat) : Bool := decide (k < stN σ p ∧ (s : Int) ≤ acI σ p k)
def rfB (σ : gS) (p k s : Nat) : Bool := decide (k < stN σ p ∧ rfI σ p k ≤ (s : Int))
def dcB (σ : gS) (p k s : Nat) : Bool := tkB σ p k s || rfB σ p k s
def enB (σ : gS) (p k m : Nat) : Bool := decide (k < stN σ p ∧ m = tot σ p (k + 1))
/-- ways to the end of STAGE k with x defective items, and to its beginning -/
def rch (σ : gS) (p : Nat) : Nat → Nat → Nat
  | 0 => fun x => rsum (fun b => (if b = 0 then 1 else 0) * chZ (szN σ p 0) ((x : Int) - b)) (tot σ p 0 + 1)
  | k + 1 => fun x => rsum (fun b => (if dcB σ p k b then 0 else rch σ p k b) * chZ (szN σ p (k + 1)) ((x : Int) - b)) (tot σ p (k + 1) + 1)
def opw (σ : gS) (p : Nat) : Nat → Nat → Nat
  | 0 => fun b => if b = 0 then 1 else 0
  | k + 1 => fun b => if dcB σ p k b then 0 else rch σ p k b
/-- a plan of the class, as the check has it -/
def PR (σ : gS) (p : Nat) : Prop := σ.1 50 p 5 = nI (stN σ p) ∧ σ.1 50 p 6 = bI (clo σ p) ∧ (∀ k, k < stN σ p → σ.1 51 p k = σ.1 4 0 (4 * p + k) ∧ σ.1 52 p k = σ.1 5 0 (4 * p + k) ∧ σ.1 53 p k = σ.1 6 0 (4 * p + k) ∧ σ.1 54 p k = nI (tot σ p (k + 1))) ∧ (∀ k x, k < stN σ p → x ≤ 60 → σ.2 56 (4 * p + k) x = lN (rch σ p k x)) ∧ ∀ k x, stN σ p ≤ k → k < 4 → x ≤ 60 → σ.2 56 (4 * p + k) x = lN 0
