/-! the class' own cells, told by the check's numbers -/
theorem rfs_v {B : gB} {k i : Nat} (h : i < B.2 k) : va_rf (rfs B k i) = .ref (B.1 k i) := by unfold rfs; rw [if_pos h]; rfl
def WfW (σ : gS) : Prop := ∀ n k, n ≤ 60 → k ≤ n → σ.2 43 n k = lN (ch n k)
theorem chs_z {n : Nat} {k : Int32} (hn : n ≤ 60) (h : k.toInt < 0 ∨ (n : Int) < k.toInt) : lN 0 = lN (chZ n k.toInt) := ways_z hn h
theorem chs_v {σ : gS} {n q : Nat} {k : Int32} (hW : WfW σ) (hn : n ≤ 60) (hq : q ≤ n) (h : (q : Int) = k.toInt) : σ.2 43 n q = lN (chZ n k.toInt) := by
  rw [hW n q hn hq]
  unfold chZ
  rw [if_neg (by omega), ← h]
  rfl
/-- is it decided at the end of STAGE k with s defective items -/
def tkB (σ : gS) (p k s : Nat) : Bool := decide (k < stN σ p ∧ (s : Int) ≤ acI σ p k)
def rfB (σ : gS) (p k s : Nat) : Bool := decide (k < stN σ p ∧ rfI σ p k ≤ (s : Int))
def dcB (σ : gS) (p k s : Nat) : Bool := tkB σ p k s || rfB σ p k s
def enB (σ : gS) (p k m : Nat) : Bool := decide (k < stN σ p ∧ m = tot σ p (k + 1))
/-- ways to the end of STAGE k with x defective items, and to its beginning -/
def rch (σ : gS) (p : Nat) : Nat → Nat → Nat
  | 0 => fun x => rsum (fun b => (if b = 0 then 1 else 0) * chZ (szN σ p 0) ((x : Int) - b)) (tot σ p 0 + 1)
  | k + 1 => fun x => rsum (fun b => (if dcB σ p k b then 0 else rch σ p k b) * chZ (szN σ p (k + 1)) ((x : Int) - b)) (tot σ p (k + 1) + 1)
def opw (σ : gS) (p : Nat) : Nat → Nat → Nat
  | 0 => fun b => if b = 0 then 1 else 0
  | k + 1 => fun b => if dcB σ p k b then 0 else rch σ p k b
/-- a plan of the class, as the check has it; rows of later STAGES are nothing yet -/
def PR (σ : gS) (p : Nat) : Prop := σ.1 50 p 5 = nI (stN σ p) ∧ σ.1 50 p 6 = bI (clo σ p) ∧ (∀ k, k < stN σ p → σ.1 51 p k = σ.1 4 0 (4 * p + k) ∧ σ.1 52 p k = σ.1 5 0 (4 * p + k) ∧ σ.1 53 p k = σ.1 6 0 (4 * p + k) ∧ σ.1 54 p k = nI (tot σ p (k + 1))) ∧ ∀ k x, k < stN σ p → x ≤ 60 → σ.2 56 (4 * p + k) x = lN (rch σ p k x)
def PZ (σ : gS) (p : Nat) : Prop := ∀ k x, stN σ p ≤ k → k < 4 → x ≤ 60 → σ.2 56 (4 * p + k) x = lN 0
theorem eqP.dc {σ τ : gS} (h : eqP σ τ) (p k s : Nat) : dcB τ p k s = dcB σ p k s := by unfold dcB tkB rfB; rw [h.st, h.ac, h.rf]
theorem eqP.rc {σ τ : gS} (h : eqP σ τ) (p : Nat) : ∀ k, rch τ p k = rch σ p k
  | 0 => by funext x; show rsum _ _ = rsum _ _; rw [h.sz]; rfl
  | k + 1 => by
    funext x
    show rsum (fun b => (if dcB τ p k b then 0 else rch τ p k b) * chZ (szN τ p (k + 1)) ((x : Int) - b)) (tot τ p (k + 1) + 1) = rsum (fun b => (if dcB σ p k b then 0 else rch σ p k b) * chZ (szN σ p (k + 1)) ((x : Int) - b)) (tot σ p (k + 1) + 1)
    rw [h.to, h.sz, eqP.rc h p k]
    exact rsum_cong (fun b _ => by rw [h.dc])
theorem eqP.op {σ τ : gS} (h : eqP σ τ) (p k b : Nat) : opw τ p k b = opw σ p k b := by
  cases k with
  | zero => rfl
  | succ k => show (if dcB τ p k b then 0 else rch τ p k b) = (if dcB σ p k b then 0 else rch σ p k b); rw [h.dc, h.rc]
theorem PR.cong {σ τ : gS} {p : Nat} (h : PR σ p) (hE : eqP σ τ) (h50 : τ.1 50 p 5 = σ.1 50 p 5 ∧ τ.1 50 p 6 = σ.1 50 p 6) (h5 : ∀ k, k < stN σ p → τ.1 51 p k = σ.1 51 p k ∧ τ.1 52 p k = σ.1 52 p k ∧ τ.1 53 p k = σ.1 53 p k ∧ τ.1 54 p k = σ.1 54 p k) (hJ : ∀ k x, k < stN σ p → x ≤ 60 → τ.2 56 (4 * p + k) x = σ.2 56 (4 * p + k) x) : PR τ p := by
  unfold PR
  rw [hE.st, hE.cl]
  refine ⟨h50.1.trans h.1, h50.2.trans h.2.1, fun k hk => ?_, fun k x hk hx => ?_⟩
  · obtain ⟨a, b, c, d⟩ := h5 k hk
    obtain ⟨a1, b1, c1, d1⟩ := h.2.2.1 k hk
    rw [a, b, c, d, hE 4 _ (by omega) (by omega), hE 5 _ (by omega) (by omega), hE 6 _ (by omega) (by omega), hE.to]
    exact ⟨a1, b1, c1, d1⟩
  · rw [hJ k x hk hx, hE.rc]; exact h.2.2.2 k x hk hx
def wgt (σ : gS) (p k x d w : Nat) : Nat := if w = 0 then (if tkB σ p k x then 1 else 0) else if w = 1 then (if dcB σ p k x then tot σ p (k + 1) else 0) else (if tkB σ p k x then d - x else 0)
def soT (σ : gS) (p n d w k x : Nat) : Nat := wgt σ p k x d w * rch σ p k x * chZ (n - tot σ p (k + 1)) ((d : Int) - (x : Int))
def soK (σ : gS) (p n d w k : Nat) : Nat := rsum (soT σ p n d w k) (min (tot σ p (k + 1)) d + 1)
/-- the sum over all orders, as the class has it -/
def soo (σ : gS) (p n d w : Nat) : Nat := rsum (soK σ p n d w) (stN σ p)
def adB (σ : gS) (p : Nat) (s a r : Int32) : Bool := decide (clo σ p = false ∧ stN σ p ≠ 4 ∧ (stN σ p = 3 → r.toInt = a.toInt + 1) ∧ (1 ≤ s.toInt ∧ s.toInt ≤ 60) ∧ (-1 ≤ a.toInt ∧ a.toInt ≤ 60) ∧ a.toInt < r.toInt ∧ r.toInt ≤ 61 ∧ (tot σ p (stN σ p) : Int) + s.toInt ≤ 60)
