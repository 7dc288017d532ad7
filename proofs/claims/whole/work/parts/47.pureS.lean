/-! lots at the desk -/
theorem ccv_off {σ : gS} {s a k i j : Nat} (h : ¬ (i = s ∧ (k = 57 ∨ k = 59))) : (ccv σ s a).1 k i j = σ.1 k i j := by
  have hA : (ccA σ s a).1 k i j = σ.1 k i j := by
    unfold ccA
    rw [sI_at, if_neg (by omega), sI_at, if_neg (by omega)]
  unfold ccv
  split
  · exact hA
  · rw [sI_at, if_neg (by omega), sI_at, if_neg (by omega), sI_at, if_neg (by omega)]; exact hA
theorem ccv_J (σ : gS) (s a : Nat) : (ccv σ s a).2 = σ.2 := by
  unfold ccv
  split <;> rfl
theorem LF.cs {σ τ : gS} {q s : Nat} (h : LF σ τ q) (hC : CS σ s) : CS τ s ∧ crn τ s = crn σ s ∧ crl τ s = crl σ s := by
  have h1 : crn τ s = crn σ s := by unfold crn; rw [h.1 57 s 2 (by omega)]
  have h2 : crl τ s = crl σ s := by unfold crl; rw [h.1 57 s 3 (by omega)]
  refine ⟨⟨?_, ?_, ?_, ?_⟩, h1, h2⟩
  · rw [h1, h.1 57 s 2 (by omega)]; exact hC.1
  · rw [h1]; exact hC.2.1
  · rw [h2, h.1 57 s 3 (by omega)]; exact hC.2.2.1
  · rw [h2]; exact hC.2.2.2
theorem LF.n {σ τ : gS} {q : Nat} (h : LF σ τ q) : nP τ = nP σ ∧ nS τ = nS σ ∧ nL τ = nL σ := by
  unfold nP nS nL
  rw [h.1 0 0 0 (by omega), h.1 0 0 1 (by omega), h.1 0 0 2 (by omega)]
  exact ⟨rfl, rfl, rfl⟩
theorem LF.dk {B : gB} {σ τ : gS} {q : Nat} (h : LF σ τ q) (hD : DK B σ) : DK B τ := by
  unfold DK
  rw [h.n.1, h.n.2.1, h.n.2.2, h.1 40 0 3 (by omega), h.1 40 0 7 (by omega), h.1 40 0 9 (by omega)]
  exact hD
theorem WfL1.ok {σ : gS} {q : Nat} (h : WfL1 σ q) (hP : WfP σ) (h0 : (jq σ q).1 = 0) : ((jq σ q).2.1 < 60 ∧ (jq σ q).2.2.1 < stN σ (lPl σ q) ∧ (jq σ q).2.2.2.1 = tal (itm σ q) 1 (jq σ q).2.1 ∧ (jq σ q).2.2.2.2 = tal (itm σ q) 2 (jq σ q).2.1 + tal (itm σ q) 3 (jq σ q).2.1) ∧ (jq σ q).2.2.1 < stN σ (lPl σ q) ∧ tot σ (lPl σ q) (jq σ q).2.2.1 ≤ (jq σ q).2.1 ∧ (jq σ q).2.1 < tot σ (lPl σ q) ((jq σ q).2.2.1 + 1) := by
  have hP1 := hP.2.2 _ h.2.2.2.2.2.1
  have h1 := jd_inv (q := q) hP1 h.2.2.2.2.2.2.1 h0
  have h2 := jd_tot (q := q) hP1 h.2.2.2.2.2.2.1 h0
  have h3 := jd_tal (ρ := σ) (q := q) (p := lPl σ q) (n := lSn σ q) (fun k hk => (h.2.2.2.2.2.2.2.2.2.1 k hk).2)
  have h4 := jd_cnt h0
  have h5 := tot_mono σ (lPl σ q) (show (jd σ q (lPl σ q) (lSn σ q)).2.2.1 + 1 ≤ stN σ (lPl σ q) by omega)
  have h6 := tot_le hP1 (Nat.le_refl _)
  refine ⟨⟨?_, h1.1, h3.1, h3.2⟩, h1.1, ?_, ?_⟩
  · show (jd σ q (lPl σ q) (lSn σ q)).2.1 < 60; omega
  · show tot σ (lPl σ q) (jd σ q (lPl σ q) (lSn σ q)).2.2.1 ≤ (jd σ q (lPl σ q) (lSn σ q)).2.1; omega
  · show (jd σ q (lPl σ q) (lSn σ q)).2.1 < tot σ (lPl σ q) ((jd σ q (lPl σ q) (lSn σ q)).2.2.1 + 1); omega
/-- behind a change: a decided lot goes to its supplier -/
def stl (μ : gS) (s a : Nat) : gS := if a = 0 then μ else ccv μ s a
def ITP (σ τ : gS) (q v : Nat) : Prop := ∃ μ, SEE σ μ q (lPl σ q) (jq σ q) (itm σ q) v ∧ τ = stl μ (lSu σ q) (jstep σ (lPl σ q) (jq σ q) v).1
def COP (σ τ : gS) (q i v : Nat) : Prop := ∃ μ, SA (sI σ 61 q i (nI v)) μ q (jd (coUp σ q i (nI v)) q (lPl σ q) (lSn σ q)) (itm (coUp σ q i (nI v)) q) ∧ τ = stl μ (lSu σ q) (jd (coUp σ q i (nI v)) q (lPl σ q) (lSn σ q)).1
theorem coUp_it {σ : gS} {q i v : Nat} (hv : v ≤ 3) (hi : i < 60) (k : Nat) : itm (coUp σ q i (nI v)) q k = if k = i then v else itm σ q k := by
  unfold itm coUp
  rw [sI_at]
  by_cases e : k = i
  · rw [if_pos (by omega), if_pos e, nI_clamp (by omega)]
  · rw [if_neg (by omega), if_neg e]
theorem coUp_E (σ : gS) (q i v : Nat) : eqP (sI σ 61 q i (nI v)) (coUp σ q i (nI v)) := fun k j h1 h2 => by
  unfold coUp
  rw [sI_at, if_neg (by omega), sI_at, if_neg (by omega)]
theorem co_LF (σ : gS) (q i v : Nat) : LF σ (sI σ 61 q i (nI v)) q := (LF.rf σ q).put (by omega)
/-- sums over items -/
theorem lN_succ (n : Nat) : lN n + lN 1 = lN (n + 1) := (lN_add n 1)
theorem s64_cong {f g : Nat → Int64} {n : Nat} (h : ∀ k, k < n → f k = g k) : s64 f n = s64 g n := by
  induction n with
  | zero => rfl
  | succ n ih => show s64 f n + f n = s64 g n + g n; rw [ih (fun k hk => h k (by omega)), h n (by omega)]
theorem s64_1 (n : Nat) : s64 (fun _ => lN 1) n = lN n := by
  induction n with
  | zero => rfl
  | succ n ih => show s64 (fun _ => lN 1) n + lN 1 = _; rw [ih, lN_succ]
theorem s64_4 (f : Nat → Nat) (n : Nat) : s64 (fun k => if 0 < f k then lN 1 else lN 0) n = lN (n - tal f 0 n) := by
  induction n with
  | zero => rfl
  | succ n ih =>
    show s64 (fun k => if 0 < f k then lN 1 else lN 0) n + (if 0 < f n then lN 1 else lN 0) = lN (n + 1 - (tal f 0 n + (if f n = 0 then 1 else 0)))
    have h := tal_le f 0 n
    rw [ih]
    by_cases q : f n = 0
    · rw [if_neg (by omega), if_pos q, show n + 1 - (tal f 0 n + 1) = n - tal f 0 n by omega]
      exact Int64.add_zero _
    · rw [if_pos (by omega), if_neg q, lN_succ]
      congr 1; omega
theorem j_rc (a b c : Int64) : a + b + c = a + c + b := by rw [Int64.add_assoc, Int64.add_comm b c, ← Int64.add_assoc]
theorem s64_5 {f : Nat → Nat} {c : Nat → Int64} {n : Nat} (h : ∀ k, k < n → f k ≤ 3) : s64 (fun k => c (f k)) n = s64 (fun z => lN (tal f z n) * c z) 4 := by
  induction n with
  | zero =>
    show (0 : Int64) = 0 + lN 0 * c 0 + lN 0 * c 1 + lN 0 * c 2 + lN 0 * c 3
    have e : ∀ x : Int64, lN 0 * x = 0 := fun x => Int64.zero_mul
    rw [e, e, e, e]; rfl
  | succ n ih =>
    have h3 := h n (by omega)
    show s64 (fun k => c (f k)) n + c (f n) = 0 + lN (tal f 0 n + (if f n = 0 then 1 else 0)) * c 0 + lN (tal f 1 n + (if f n = 1 then 1 else 0)) * c 1 + lN (tal f 2 n + (if f n = 2 then 1 else 0)) * c 2 + lN (tal f 3 n + (if f n = 3 then 1 else 0)) * c 3
    rw [ih (fun k hk => h k (by omega))]
    show 0 + lN (tal f 0 n) * c 0 + lN (tal f 1 n) * c 1 + lN (tal f 2 n) * c 2 + lN (tal f 3 n) * c 3 + c (f n) = _
    have e : ∀ (a : Nat) (x : Int64), lN (a + 1) * x = lN a * x + x := fun a x => by
      rw [← lN_succ, Int64.add_mul]
      congr 1
      exact Int64.one_mul x
    rcases (show f n = 0 ∨ f n = 1 ∨ f n = 2 ∨ f n = 3 by omega) with z | z | z | z
    · rw [z, if_pos rfl, if_neg (by decide), if_neg (by decide), if_neg (by decide), e]
      simp only [Nat.add_zero]
      generalize lN (tal f 0 n) * c 0 = A; generalize lN (tal f 1 n) * c 1 = B; generalize lN (tal f 2 n) * c 2 = C; generalize lN (tal f 3 n) * c 3 = D; generalize c 0 = E
      rw [← Int64.add_assoc 0 A E, j_rc (0 + A) E B, j_rc (0 + A + B) E C, j_rc (0 + A + B + C) E D]
    · rw [z, if_neg (by decide), if_pos rfl, if_neg (by decide), if_neg (by decide), e]
      simp only [Nat.add_zero]
      generalize lN (tal f 0 n) * c 0 = A; generalize lN (tal f 1 n) * c 1 = B; generalize lN (tal f 2 n) * c 2 = C; generalize lN (tal f 3 n) * c 3 = D; generalize c 1 = E
      rw [← Int64.add_assoc (0 + A) B E, j_rc (0 + A + B) E C, j_rc (0 + A + B + C) E D]
    · rw [z, if_neg (by decide), if_neg (by decide), if_pos rfl, if_neg (by decide), e]
      simp only [Nat.add_zero]
      generalize lN (tal f 0 n) * c 0 = A; generalize lN (tal f 1 n) * c 1 = B; generalize lN (tal f 2 n) * c 2 = C; generalize lN (tal f 3 n) * c 3 = D; generalize c 2 = E
      rw [← Int64.add_assoc (0 + A + B) C E, j_rc (0 + A + B + C) E D]
    · rw [z, if_neg (by decide), if_neg (by decide), if_neg (by decide), if_pos rfl, e]
      simp only [Nat.add_zero]
      rw [← Int64.add_assoc]
