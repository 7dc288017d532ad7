/-! what counts of a state: all but the check's own scratch numbers -/
def scI (k j : Nat) : Bool := decide (k = 35) || decide (k = 36) || (decide (k = 0) && decide (31 ≤ j) && decide (j ≤ 34))
def scJ (k j : Nat) : Bool := decide (k = 26) || decide (k = 27) || (decide (k = 0) && decide (28 ≤ j) && decide (j ≤ 30))
def core (σ : gS) : gS := (fun k i j => bif scI k j then 0 else σ.1 k i j, fun k i j => bif scJ k j then 0 else σ.2 k i j)
/-- the same but for scratch -/
def Sm (σ τ : gS) : Prop := core τ = core σ
theorem Sm.rf (σ : gS) : Sm σ σ := rfl
theorem Sm.tr {σ τ υ : gS} (h : Sm σ τ) (h2 : Sm τ υ) : Sm σ υ := Eq.trans h2 h
theorem Sm.cg {α : Sort _} (f : gS → α) {σ τ : gS} (h : Sm σ τ) : f (core τ) = f (core σ) := congrArg f h
theorem Sm.rd {σ τ : gS} (h : Sm σ τ) (k i j : Nat) (hs : scI k j = false) : τ.1 k i j = σ.1 k i j := by
  have h1 := congrArg (fun z : gS => z.1 k i j) h
  have h2 : (bif scI k j then 0 else τ.1 k i j) = (bif scI k j then 0 else σ.1 k i j) := h1
  rw [hs] at h2
  exact h2
theorem Sm.rdJ {σ τ : gS} (h : Sm σ τ) (k i j : Nat) (hs : scJ k j = false) : τ.2 k i j = σ.2 k i j := by
  have h1 := congrArg (fun z : gS => z.2 k i j) h
  have h2 : (bif scJ k j then 0 else τ.2 k i j) = (bif scJ k j then 0 else σ.2 k i j) := h1
  rw [hs] at h2
  exact h2
theorem Sm.mk' {σ τ : gS} (h1 : ∀ k i j, scI k j = false → τ.1 k i j = σ.1 k i j) (h2 : ∀ k i j, scJ k j = false → τ.2 k i j = σ.2 k i j) : Sm σ τ := by
  unfold Sm core
  refine Prod.ext ?_ ?_
  · funext k i j
    show (bif scI k j then 0 else τ.1 k i j) = (bif scI k j then 0 else σ.1 k i j)
    cases e : scI k j with
    | true => rfl
    | false => exact h1 k i j e
  · funext k i j
    show (bif scJ k j then 0 else τ.2 k i j) = (bif scJ k j then 0 else σ.2 k i j)
    cases e : scJ k j with
    | true => rfl
    | false => exact h2 k i j e
theorem Sm.put {σ τ : gS} (h : Sm σ τ) (k i j : Nat) (v : Int32) : Sm (sI σ k i j v) (sI τ k i j v) := Sm.mk' (fun a b c hs => by rw [sI_at, sI_at]; split; exact rfl; exact h.rd a b c hs) (fun a b c hs => h.rdJ a b c hs)
theorem Sm.putJ {σ τ : gS} (h : Sm σ τ) (k i j : Nat) (v : Int64) : Sm (sJ σ k i j v) (sJ τ k i j v) := Sm.mk' (fun a b c hs => h.rd a b c hs) (fun a b c hs => by rw [sJ_at, sJ_at]; split; exact rfl; exact h.rdJ a b c hs)
theorem JP.sm {σ τ : gS} {t : jT} (h : JP σ τ t) : Sm σ τ := Sm.mk' (fun k i j hs => h.1 k i j (fun q => by
    unfold scI at hs
    obtain ⟨rfl, q2, q3⟩ := q
    simp [q2, q3] at hs)) (fun k i j _ => by rw [h.2.1])
theorem Sm.eqP {σ τ : gS} (h : Sm σ τ) : eqP σ τ := fun k j h1 h2 => h.rd k 0 j (by
  unfold scI
  simp; omega)
theorem Sm.wfP {σ τ : gS} (h : Sm σ τ) (hW : WfP σ) : WfP τ := by
  have e : nP τ = nP σ := Sm.cg nP h
  refine ⟨by rw [e, h.rd 0 0 0 rfl]; exact hW.1, by rw [e]; exact hW.2.1, fun p hp => h.eqP.wf (hW.2.2 p (by rw [← e]; exact hp))⟩
theorem Sm.wfR {σ τ : gS} (h : Sm σ τ) (hW : WfR σ) : WfR τ := Eq.mpr (show WfR τ = WfR σ from Sm.cg WfR h) hW
theorem Sm.wfCh {σ τ : gS} (h : Sm σ τ) (hW : WfCh σ) : WfCh τ := Eq.mpr (show WfCh τ = WfCh σ from Sm.cg WfCh h) hW
/-- a lot as it must be -/
def jq (σ : gS) (q : Nat) : jT := jd σ q (lPl σ q) (lSn σ q)
def WfL1 (σ : gS) (q : Nat) : Prop := σ.1 19 0 q = nI (lSu σ q) ∧ lSu σ q < nS σ ∧ σ.1 20 0 q = nI (lSz σ q) ∧ σ.1 22 0 q = nI (lRu σ q) ∧ σ.1 21 0 q = nI (lPl σ q) ∧ lPl σ q < nP σ ∧ clo σ (lPl σ q) = true ∧ σ.1 23 0 q = nI (lSn σ q) ∧ lSn σ q ≤ 60 ∧ (∀ k, k < lSn σ q → σ.1 24 0 (60 * q + k) = nI (itm σ q k) ∧ itm σ q k ≤ 3) ∧ (jq σ q).2.1 = lSn σ q
def WfL (σ : gS) : Prop := σ.1 0 0 2 = nI (nL σ) ∧ nL σ ≤ 60 ∧ ∀ q, q < nL σ → WfL1 σ q
theorem WfL1.jh {σ : gS} {q : Nat} (hP : WfP σ) (hq : q < 60) (h : WfL1 σ q) : JH σ q (lPl σ q) (lSn σ q) := ⟨hq, by have := hP.2.1; have := h.2.2.2.2.2.1; omega, hP.2.2 _ h.2.2.2.2.2.1, h.2.2.2.2.2.2.1, h.2.2.2.2.1, h.2.2.2.2.2.2.2.1, h.2.2.2.2.2.2.2.2.1, h.2.2.2.2.2.2.2.2.2.1⟩
theorem jd_core (σ : gS) (q p : Nat) : ∀ n, jd (core σ) q p n = jd σ q p n
  | 0 => rfl
  | n + 1 => by
    have ht : ∀ k, tot (core σ) p k = tot σ p k := (Sm.eqP (σ := σ) (τ := core σ) (by
      refine Sm.mk' (fun k i j hs => ?_) (fun k i j hs => ?_)
      · show (bif scI k j then 0 else σ.1 k i j) = _; rw [hs]; rfl
      · show (bif scJ k j then 0 else σ.2 k i j) = _; rw [hs]; rfl)).to p
    show jstep (core σ) p (jd (core σ) q p n) (itm (core σ) q (jd (core σ) q p n).2.1) = jstep σ p (jd σ q p n) (itm σ q (jd σ q p n).2.1)
    rw [jd_core σ q p n]
    unfold jstep jdec
    simp only [ht]
    rfl
theorem Sm.jdE {σ τ : gS} (h : Sm σ τ) (q p n : Nat) : jd τ q p n = jd σ q p n := by
  rw [← jd_core τ, ← jd_core σ]
  exact congrArg (fun z => jd z q p n) h
theorem Sm.jqE {σ τ : gS} (h : Sm σ τ) (q : Nat) : jq τ q = jq σ q := by
  show jd τ q (lPl τ q) (lSn τ q) = _
  rw [h.jdE, show lPl τ q = lPl σ q from Sm.cg (fun z => lPl z q) h, show lSn τ q = lSn σ q from Sm.cg (fun z => lSn z q) h]
  rfl
def opn (σ : gS) (x : Int32) : Bool := isLo σ x && decide ((jq σ x.toNatClampNeg).1 = 0)
theorem opn_nI {σ : gS} {q : Nat} (hq : q < nL σ) (h : nL σ ≤ 60) : opn σ (nI q) = decide ((jq σ q).1 = 0) := by
  unfold opn
  rw [isLo_nI hq h, nI_clamp (by omega)]
  rfl
theorem opn_t {σ : gS} {x : Int32} (h60 : nL σ ≤ 60) (h : opn σ x = true) : ∃ q : Nat, q < nL σ ∧ x = nI q ∧ (jq σ q).1 = 0 := by
  unfold opn at h
  obtain ⟨h1, h2⟩ := Bool.and_eq_true_iff.mp h
  obtain ⟨q, hq, rfl⟩ := isLo_t h1
  rw [nI_clamp (by omega)] at h2
  exact ⟨q, hq, rfl, of_decide_eq_true h2⟩
/-- the k-th latest of a RUN -/
def rv (σ : gS) (s k : Nat) : Int32 := if k < rn σ s then σ.1 18 0 (60 * s + rn σ s - 1 - k) else 0
def rf5 (f : Nat → Int32) : Nat → Nat
  | 0 => 0
  | k + 1 => rf5 f k + (if f k = nI 2 then 1 else 0)
def ld (f : Nat → Int32) : Nat → Bool
  | 0 => true
  | k + 1 => ld f k && decide (f k = nI 1)
def nxr (r a : Nat) (f : Nat → Int32) : Nat := if r = 0 then (if 2 ≤ rf5 f 5 then 1 else if ld f 6 = true then 2 else 0) else if r = 1 then (if ld f 5 = true then 0 else 1) else (if a = 2 then 0 else 2)
theorem rf5_le (f : Nat → Int32) (k : Nat) : rf5 f k ≤ k := by
  induction k with
  | zero => exact Nat.le_refl 0
  | succ k ih => show rf5 f k + (if f k = nI 2 then 1 else 0) ≤ k + 1; split <;> omega
theorem ld_lt {f : Nat → Int32} {j k : Nat} (h : ld f j = true) (hk : k ≤ j) : ld f k = true := by
  induction j with
  | zero => rw [Nat.le_zero.mp hk]; rfl
  | succ j ih =>
    rcases Nat.lt_or_ge k (j + 1) with q | q
    · exact ih (Bool.and_eq_true_iff.mp h).1 (by omega)
    · rw [show k = j + 1 by omega]; exact h
theorem ld_at {f : Nat → Int32} {j k : Nat} (h : ld f k = true) (hj : j < k) : f j = nI 1 := by
  have h1 := ld_lt h (show j + 1 ≤ k by omega)
  exact of_decide_eq_true (Bool.and_eq_true_iff.mp h1).2
theorem ld_iff {f : Nat → Int32} {j k : Nat} (h : ld f j = true) (hn : ¬ f j = nI 1) : ld f k = true ↔ k ≤ j := by
  constructor
  · intro q
    rcases Nat.lt_or_ge j k with z | z
    · exact absurd (ld_at q z) hn
    · exact z
  · exact ld_lt h
/-- a decision comes to a supplier's RUN -/
def rcA (σ : gS) (s a : Nat) : gS := sI (sI σ 18 0 (60 * s + rn σ s) (nI a)) 17 0 s (nI (rn σ s + 1))
def rcv (σ : gS) (s a : Nat) : gS := if nxr (rl σ s) a (rv (rcA σ s a) s) = rl σ s then rcA σ s a else sI (sI (sI (rcA σ s a) 15 0 s (nI (nxr (rl σ s) a (rv (rcA σ s a) s)))) 16 0 s (σ.1 16 0 s + nI 1)) 17 0 s (nI 0)
theorem nxr_le (r a : Nat) (f : Nat → Int32) : nxr r a f ≤ 2 := by
  unfold nxr
  split
  · split
    · omega
    · split <;> omega
  · split
    · split <;> omega
    · split <;> omega
/-- what hears() does for a lot -/
def hrs (σ : gS) (q : Nat) : gS := if (jq σ q).1 = 0 then sI σ 23 0 q (nI (jq σ q).2.1) else rcv (sI σ 23 0 q (nI (jq σ q).2.1)) (lSu σ q) (jq σ q).1
