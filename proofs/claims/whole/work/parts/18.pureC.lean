/-! lots: items judged one by one -/
def lSu (σ : gS) (q : Nat) : Nat := (σ.1 19 0 q).toNatClampNeg
def lSz (σ : gS) (q : Nat) : Nat := (σ.1 20 0 q).toNatClampNeg
def lPl (σ : gS) (q : Nat) : Nat := (σ.1 21 0 q).toNatClampNeg
def lRu (σ : gS) (q : Nat) : Nat := (σ.1 22 0 q).toNatClampNeg
def lSn (σ : gS) (q : Nat) : Nat := (σ.1 23 0 q).toNatClampNeg
def itm (σ : gS) (q k : Nat) : Nat := (σ.1 24 0 (60 * q + k)).toNatClampNeg
/-- what is so behind some items: 0, 1, 2; items; STAGE; minors; majors and criticals -/
abbrev jT : Type := Nat × Nat × Nat × Nat × Nat
def jD (t : jT) : Nat := t.2.2.2.2 + t.2.2.2.1 / 3
def isM (v : Nat) : Nat := if v = 1 then 1 else 0
def isB (v : Nat) : Nat := if 1 < v then 1 else 0
theorem isM_le (v : Nat) : isM v ≤ 1 := by unfold isM; split <;> omega
theorem isB_le (v : Nat) : isB v ≤ 1 := by unfold isB; split <;> omega
/-- one item of class v more -/
def jadd (t : jT) (v : Nat) : jT := (t.1, t.2.1 + 1, t.2.2.1, t.2.2.2.1 + isM v, t.2.2.2.2 + isB v)
/-- what that decides -/
def jdec (σ : gS) (p : Nat) (t : jT) (v : Nat) : jT :=
  if v = 3 ∨ rfI σ p t.2.2.1 ≤ (jD t : Int) then (2, t.2)
  else if t.2.1 = tot σ p (t.2.2.1 + 1) then (if (jD t : Int) ≤ acI σ p t.2.2.1 then (1, t.2) else (0, t.2.1, t.2.2.1 + 1, t.2.2.2))
  else t
def jstep (σ : gS) (p : Nat) (t : jT) (v : Nat) : jT := if t.1 = 0 then jdec σ p (jadd t v) v else t
def jd (σ : gS) (q p : Nat) : Nat → jT
  | 0 => (0, 0, 0, 0, 0)
  | n + 1 => jstep σ p (jd σ q p n) (itm σ q (jd σ q p n).2.1)
theorem jd_fix {σ : gS} {q p j n : Nat} (h : (jd σ q p j).1 ≠ 0) (hn : j ≤ n) : jd σ q p n = jd σ q p j := by
  induction n with
  | zero => rw [Nat.le_zero.mp hn]
  | succ n ih =>
    rcases Nat.lt_or_ge j (n + 1) with k | k
    · have e := ih (by omega)
      show jstep σ p (jd σ q p n) _ = _
      rw [e]
      unfold jstep
      rw [if_neg h]
    · rw [show j = n + 1 by omega]
theorem jdec_cnt (σ : gS) (p : Nat) (t : jT) (v : Nat) : (jdec σ p t v).2.1 = t.2.1 ∧ (jdec σ p t v).2.2.2 = t.2.2.2 := by
  unfold jdec
  split
  · exact ⟨rfl, rfl⟩
  · split
    · split
      · exact ⟨rfl, rfl⟩
      · exact ⟨rfl, rfl⟩
    · exact ⟨rfl, rfl⟩
theorem jd_cnt {σ : gS} {q p n : Nat} (h : (jd σ q p n).1 = 0) : (jd σ q p n).2.1 = n := by
  induction n with
  | zero => rfl
  | succ n ih =>
    by_cases h0 : (jd σ q p n).1 = 0
    · have e : jd σ q p (n + 1) = jdec σ p (jadd (jd σ q p n) (itm σ q (jd σ q p n).2.1)) (itm σ q (jd σ q p n).2.1) := by
        show jstep σ p _ _ = _
        unfold jstep
        rw [if_pos h0]
      rw [e, (jdec_cnt _ _ _ _).1]
      show (jd σ q p n).2.1 + 1 = n + 1
      rw [ih h0]
    · rw [jd_fix h0 (Nat.le_succ n)] at h
      exact absurd h h0
theorem jd_le (σ : gS) (q p n : Nat) : (jd σ q p n).2.1 ≤ n := by
  induction n with
  | zero => exact Nat.le_refl 0
  | succ n ih =>
    show (jstep σ p (jd σ q p n) _).2.1 ≤ n + 1
    unfold jstep
    split
    · rw [(jdec_cnt _ _ _ _).1]
      show (jd σ q p n).2.1 + 1 ≤ n + 1
      omega
    · omega
/-- while it is undecided the STAGE at hand is one of the plan's, and its end is ahead -/
theorem jd_inv {σ : gS} {q p : Nat} (hP : WfP1 σ p) (hc : clo σ p = true) {n : Nat} (h : (jd σ q p n).1 = 0) : (jd σ q p n).2.2.1 < stN σ p ∧ n < tot σ p ((jd σ q p n).2.2.1 + 1) := by
  have hc2 := of_decide_eq_true hc
  induction n with
  | zero =>
    refine ⟨hc2.1, ?_⟩
    have := (hP.2.2.1 0 hc2.1).2.1
    show 0 < 0 + szN σ p 0
    omega
  | succ n ih =>
    by_cases h0 : (jd σ q p n).1 = 0
    · obtain ⟨a, b⟩ := ih h0
      have hcnt := jd_cnt h0
      have e : jd σ q p (n + 1) = jdec σ p (jadd (jd σ q p n) (itm σ q (jd σ q p n).2.1)) (itm σ q (jd σ q p n).2.1) := by
        show jstep σ p _ _ = _
        unfold jstep
        rw [if_pos h0]
      rw [e] at h ⊢
      generalize hu : jadd (jd σ q p n) (itm σ q (jd σ q p n).2.1) = u at h ⊢
      have us : u.2.2.1 = (jd σ q p n).2.2.1 := by rw [← hu]; rfl
      have uc : u.2.1 = n + 1 := by rw [← hu]; show (jd σ q p n).2.1 + 1 = n + 1; rw [hcnt]
      unfold jdec at h ⊢
      by_cases c1 : itm σ q (jd σ q p n).2.1 = 3 ∨ rfI σ p u.2.2.1 ≤ (jD u : Int)
      · rw [if_pos c1] at h; exact absurd (show (2 : Nat) = 0 from h) (by decide)
      · rw [if_neg c1] at h ⊢
        by_cases c2 : u.2.1 = tot σ p (u.2.2.1 + 1)
        · rw [if_pos c2] at h ⊢
          by_cases c3 : (jD u : Int) ≤ acI σ p u.2.2.1
          · rw [if_pos c3] at h; exact absurd (show (1 : Nat) = 0 from h) (by decide)
          · rw [if_neg c3]
            have hlast : u.2.2.1 + 1 < stN σ p := by
              rcases Nat.lt_or_ge (u.2.2.1 + 1) (stN σ p) with k | k
              · exact k
              · exfalso
                have : stN σ p - 1 = u.2.2.1 := by omega
                rw [this] at hc2
                omega
            refine ⟨hlast, ?_⟩
            show n + 1 < tot σ p (u.2.2.1 + 1) + szN σ p (u.2.2.1 + 1)
            have := (hP.2.2.1 (u.2.2.1 + 1) hlast).2.1
            omega
        · rw [if_neg c2]
          exact ⟨by omega, by rw [us] at c2 ⊢; rw [uc] at c2; omega⟩
    · rw [jd_fix h0 (Nat.le_succ n)] at h
      exact absurd h h0
theorem jd_mm (σ : gS) (q p n : Nat) : (jd σ q p n).2.2.2.1 ≤ n ∧ (jd σ q p n).2.2.2.2 ≤ n := by
  induction n with
  | zero => exact ⟨Nat.le_refl 0, Nat.le_refl 0⟩
  | succ n ih =>
    have : (jd σ q p (n + 1)).2.2.2 = (jadd (jd σ q p n) (itm σ q (jd σ q p n).2.1)).2.2.2 ∨ (jd σ q p (n + 1)).2.2.2 = (jd σ q p n).2.2.2 := by
      show (jstep σ p _ _).2.2.2 = _ ∨ (jstep σ p _ _).2.2.2 = _
      unfold jstep
      split
      · exact Or.inl (jdec_cnt _ _ _ _).2
      · exact Or.inr rfl
    rcases this with e | e
    · rw [e]
      unfold jadd
      refine ⟨?_, ?_⟩
      · show (jd σ q p n).2.2.2.1 + isM _ ≤ n + 1
        have := isM_le (itm σ q (jd σ q p n).2.1)
        omega
      · show (jd σ q p n).2.2.2.2 + isB _ ≤ n + 1
        have := isB_le (itm σ q (jd σ q p n).2.1)
        omega
    · rw [e]; exact ⟨by omega, by omega⟩
/-- the four numbers that judge() leaves -/
def JP (σ τ : gS) (t : jT) : Prop := (∀ k i j, ¬ (k = 0 ∧ 31 ≤ j ∧ j ≤ 34) → τ.1 k i j = σ.1 k i j) ∧ τ.2 = σ.2 ∧ τ.1 0 0 31 = nI t.1 ∧ τ.1 0 0 32 = nI t.2.1 ∧ τ.1 0 0 33 = nI (jD t) ∧ τ.1 0 0 34 = nI t.2.2.1
/-- what judge() needs of a lot -/
def JH (σ : gS) (q pn sn : Nat) : Prop := q < 60 ∧ pn < 24 ∧ WfP1 σ pn ∧ clo σ pn = true ∧ σ.1 21 0 q = nI pn ∧ σ.1 23 0 q = nI sn ∧ sn ≤ 60 ∧ ∀ k, k < sn → σ.1 24 0 (60 * q + k) = nI (itm σ q k) ∧ itm σ q k ≤ 3
theorem JP_in {σ τ : gS} {t u : jT} (h : JP σ τ t) {τ' : gS} (h1 : ∀ k i j, ¬ (k = 0 ∧ 31 ≤ j ∧ j ≤ 34) → τ'.1 k i j = τ.1 k i j) (h2 : τ'.2 = τ.2) (h3 : τ'.1 0 0 31 = nI u.1) (h4 : τ'.1 0 0 32 = nI u.2.1) (h5 : τ'.1 0 0 33 = nI (jD u)) (h6 : τ'.1 0 0 34 = nI u.2.2.1) : JP σ τ' u := ⟨fun k i j q => (h1 k i j q).trans (h.1 k i j q), h2.trans h.2.1, h3, h4, h5, h6⟩
theorem sI_scr {τ : gS} {a : Nat} {v : Int32} (ha : 31 ≤ a ∧ a ≤ 34) : ∀ k i j, ¬ (k = 0 ∧ 31 ≤ j ∧ j ≤ 34) → (sI τ 0 0 a v).1 k i j = τ.1 k i j := fun k i j q => by
  rw [sI_at, if_neg (fun z => q ⟨z.1, by omega, by omega⟩)]
/-- the two shapes that an item leaves: decided (or the STAGE goes on), or neither -/
theorem JP_A {σ τ : gS} {t u : jT} {a b v : Nat} (h : JP σ τ t) (h1 : u.1 = v) (h2 : u.2.1 = a) (h3 : jD u = b) (h4 : u.2.2.1 = t.2.2.1) : JP σ (sI (sI (sI τ 0 0 32 (nI a)) 0 0 33 (nI b)) 0 0 31 (nI v)) u := by
  refine JP_in h (fun k i j q => ?_) rfl ?_ ?_ ?_ ?_
  · rw [sI_scr (by omega) k i j q, sI_scr (by omega) k i j q, sI_scr (by omega) k i j q]
  · rw [sI_at, if_pos ⟨rfl, rfl, rfl⟩, h1]
  · rw [sI_at, if_neg (by omega), sI_at, if_neg (by omega), sI_at, if_pos ⟨rfl, rfl, rfl⟩, h2]
  · rw [sI_at, if_neg (by omega), sI_at, if_pos ⟨rfl, rfl, rfl⟩, h3]
  · rw [sI_at, if_neg (by omega), sI_at, if_neg (by omega), sI_at, if_neg (by omega), h4]; exact h.2.2.2.2.2
theorem JP_B {σ τ : gS} {t u : jT} {a b : Nat} (h : JP σ τ t) (h1 : u.1 = t.1) (h2 : u.2.1 = a) (h3 : jD u = b) (h4 : u.2.2.1 = t.2.2.1) : JP σ (sI (sI τ 0 0 32 (nI a)) 0 0 33 (nI b)) u := by
  refine JP_in h (fun k i j q => ?_) rfl ?_ ?_ ?_ ?_
  · rw [sI_scr (by omega) k i j q, sI_scr (by omega) k i j q]
  · rw [sI_at, if_neg (by omega), sI_at, if_neg (by omega), h1]; exact h.2.2.1
  · rw [sI_at, if_neg (by omega), sI_at, if_pos ⟨rfl, rfl, rfl⟩, h2]
  · rw [sI_at, if_pos ⟨rfl, rfl, rfl⟩, h3]
  · rw [sI_at, if_neg (by omega), sI_at, if_neg (by omega), h4]; exact h.2.2.2.2.2
theorem JP_C {σ τ : gS} {t u : jT} {a b v : Nat} (h : JP σ τ t) (h1 : u.1 = t.1) (h2 : u.2.1 = a) (h3 : jD u = b) (h4 : u.2.2.1 = v) : JP σ (sI (sI (sI τ 0 0 32 (nI a)) 0 0 33 (nI b)) 0 0 34 (nI v)) u := by
  refine JP_in h (fun k i j q => ?_) rfl ?_ ?_ ?_ ?_
  · rw [sI_scr (by omega) k i j q, sI_scr (by omega) k i j q, sI_scr (by omega) k i j q]
  · rw [sI_at, if_neg (by omega), sI_at, if_neg (by omega), sI_at, if_neg (by omega), h1]; exact h.2.2.1
  · rw [sI_at, if_neg (by omega), sI_at, if_neg (by omega), sI_at, if_pos ⟨rfl, rfl, rfl⟩, h2]
  · rw [sI_at, if_neg (by omega), sI_at, if_pos ⟨rfl, rfl, rfl⟩, h3]
  · rw [sI_at, if_pos ⟨rfl, rfl, rfl⟩, h4]
theorem JP_0 (σ : gS) : JP σ (sI (sI (sI (sI σ 0 0 31 (nI 0)) 0 0 32 (nI 0)) 0 0 33 (nI 0)) 0 0 34 (nI 0)) (0, 0, 0, 0, 0) := by
  refine ⟨fun k i j q => ?_, rfl, ?_, ?_, ?_, ?_⟩
  · rw [sI_scr (by omega) k i j q, sI_scr (by omega) k i j q, sI_scr (by omega) k i j q, sI_scr (by omega) k i j q]
  · simp [sI_at]
  · simp [sI_at]
  · simp [sI_at]; rfl
  · simp [sI_at]
theorem jdec_now (σ : gS) (p : Nat) (t : jT) (v : Nat) (h : t.1 ≤ 2) : (jdec σ p t v).1 ≤ 2 := by
  unfold jdec
  split
  · exact Nat.le_refl 2
  · split
    · split
      · show 1 ≤ 2; omega
      · show 0 ≤ 2; omega
    · exact h
theorem jd_now (σ : gS) (q p n : Nat) : (jd σ q p n).1 ≤ 2 := by
  induction n with
  | zero => show 0 ≤ 2; omega
  | succ n ih =>
    show (jstep σ p _ _).1 ≤ 2
    unfold jstep
    split
    · exact jdec_now _ _ _ _ ih
    · exact ih
theorem jd_s {σ : gS} {q p j : Nat} (h : (jd σ q p j).1 = 0) : jd σ q p (j + 1) = jdec σ p (jadd (jd σ q p j) (itm σ q j)) (itm σ q j) := by
  show jstep σ p _ _ = _
  unfold jstep
  rw [if_pos h, jd_cnt h]
theorem jd_2 {σ : gS} {q p j : Nat} (h : (jd σ q p j).1 = 0) (hc : itm σ q j = 3 ∨ rfI σ p (jd σ q p j).2.2.1 ≤ (((jd σ q p j).2.2.2.2 + isB (itm σ q j) + ((jd σ q p j).2.2.2.1 + isM (itm σ q j)) / 3 : Nat) : Int)) : jd σ q p (j + 1) = (2, (jadd (jd σ q p j) (itm σ q j)).2) := by
  rw [jd_s h]
  exact if_pos hc
theorem jd_1 {σ : gS} {q p j : Nat} (h : (jd σ q p j).1 = 0) (hc : ¬ (itm σ q j = 3 ∨ rfI σ p (jd σ q p j).2.2.1 ≤ (((jd σ q p j).2.2.2.2 + isB (itm σ q j) + ((jd σ q p j).2.2.2.1 + isM (itm σ q j)) / 3 : Nat) : Int))) (he : j + 1 = tot σ p ((jd σ q p j).2.2.1 + 1)) (ha : (((jd σ q p j).2.2.2.2 + isB (itm σ q j) + ((jd σ q p j).2.2.2.1 + isM (itm σ q j)) / 3 : Nat) : Int) ≤ acI σ p (jd σ q p j).2.2.1) : jd σ q p (j + 1) = (1, (jadd (jd σ q p j) (itm σ q j)).2) := by
  rw [jd_s h]
  exact (if_neg hc).trans ((if_pos (show (jadd (jd σ q p j) (itm σ q j)).2.1 = tot σ p ((jadd (jd σ q p j) (itm σ q j)).2.2.1 + 1) from (by show (jd σ q p j).2.1 + 1 = _; rw [jd_cnt h]; exact he))).trans (if_pos ha))
theorem jd_0s {σ : gS} {q p j : Nat} (h : (jd σ q p j).1 = 0) (hc : ¬ (itm σ q j = 3 ∨ rfI σ p (jd σ q p j).2.2.1 ≤ (((jd σ q p j).2.2.2.2 + isB (itm σ q j) + ((jd σ q p j).2.2.2.1 + isM (itm σ q j)) / 3 : Nat) : Int))) (he : j + 1 = tot σ p ((jd σ q p j).2.2.1 + 1)) (ha : ¬ (((jd σ q p j).2.2.2.2 + isB (itm σ q j) + ((jd σ q p j).2.2.2.1 + isM (itm σ q j)) / 3 : Nat) : Int) ≤ acI σ p (jd σ q p j).2.2.1) : jd σ q p (j + 1) = (0, (jadd (jd σ q p j) (itm σ q j)).2.1, (jd σ q p j).2.2.1 + 1, (jadd (jd σ q p j) (itm σ q j)).2.2.2) := by
  rw [jd_s h]
  exact (if_neg hc).trans ((if_pos (show (jadd (jd σ q p j) (itm σ q j)).2.1 = tot σ p ((jadd (jd σ q p j) (itm σ q j)).2.2.1 + 1) from (by show (jd σ q p j).2.1 + 1 = _; rw [jd_cnt h]; exact he))).trans (if_neg ha))
theorem jd_0 {σ : gS} {q p j : Nat} (h : (jd σ q p j).1 = 0) (hc : ¬ (itm σ q j = 3 ∨ rfI σ p (jd σ q p j).2.2.1 ≤ (((jd σ q p j).2.2.2.2 + isB (itm σ q j) + ((jd σ q p j).2.2.2.1 + isM (itm σ q j)) / 3 : Nat) : Int))) (he : j + 1 ≠ tot σ p ((jd σ q p j).2.2.1 + 1)) : jd σ q p (j + 1) = jadd (jd σ q p j) (itm σ q j) := by
  rw [jd_s h]
  exact (if_neg hc).trans (if_neg (show ¬ (jadd (jd σ q p j) (itm σ q j)).2.1 = tot σ p ((jadd (jd σ q p j) (itm σ q j)).2.2.1 + 1) from (by show ¬ (jd σ q p j).2.1 + 1 = _; rw [jd_cnt h]; exact he)))
/-- two states with the same plans -/
def eqP (σ τ : gS) : Prop := ∀ k j, 3 ≤ k → k ≤ 6 → τ.1 k 0 j = σ.1 k 0 j
theorem eqP.st {σ τ : gS} (h : eqP σ τ) (p : Nat) : stN τ p = stN σ p := by unfold stN; rw [h 3 p (by omega) (by omega)]
theorem eqP.sz {σ τ : gS} (h : eqP σ τ) (p k : Nat) : szN τ p k = szN σ p k := by unfold szN; rw [h 4 _ (by omega) (by omega)]
theorem eqP.ac {σ τ : gS} (h : eqP σ τ) (p k : Nat) : acI τ p k = acI σ p k := by unfold acI; rw [h 5 _ (by omega) (by omega)]
theorem eqP.rf {σ τ : gS} (h : eqP σ τ) (p k : Nat) : rfI τ p k = rfI σ p k := by unfold rfI; rw [h 6 _ (by omega) (by omega)]
theorem eqP.to {σ τ : gS} (h : eqP σ τ) (p : Nat) : ∀ k, tot τ p k = tot σ p k
  | 0 => rfl
  | k + 1 => by show tot τ p k + szN τ p k = _; rw [eqP.to h p k, h.sz]; rfl
theorem eqP.wf {σ τ : gS} (h : eqP σ τ) {p : Nat} (hP : WfP1 σ p) : WfP1 τ p := by
  unfold WfP1 at hP ⊢
  rw [h.st, h.to]
  refine ⟨by rw [h 3 p (by omega) (by omega)]; exact hP.1, hP.2.1, fun k hk => ?_, hP.2.2.2.1, fun k hk => ?_, fun hk => ?_⟩
  · rw [h 4 _ (by omega) (by omega), h.sz, h.ac, h.rf]; exact hP.2.2.1 k hk
  · rw [h.ac, h.rf]; exact hP.2.2.2.2.1 k hk
  · rw [h.ac, h.rf]; exact hP.2.2.2.2.2 hk
theorem eqP.cl {σ τ : gS} (h : eqP σ τ) (p : Nat) : clo τ p = clo σ p := by unfold clo; rw [h.st, h.ac, h.rf]
theorem JP.eqP {σ τ : gS} {t : jT} (h : JP σ τ t) : eqP σ τ := fun k j h1 h2 => h.1 k 0 j (by omega)
theorem eqP.put {σ τ : gS} (h : eqP σ τ) {k i j : Nat} {v : Int32} (hk : k < 3 ∨ 6 < k) : eqP σ (sI τ k i j v) := fun a b h1 h2 => by
  rw [sI_at, if_neg (by omega)]; exact h a b h1 h2
