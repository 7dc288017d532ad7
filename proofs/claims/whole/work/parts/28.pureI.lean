theorem ccN_eq {σ τ : gS} (h : eqP σ τ) (a b n d : Nat) : ccN τ a b n d = ccN σ a b n d := by unfold ccN; rw [TK_eq h, TK_eq h]
def crH (σ : gS) (a b n : Nat) (q : Nat) : Bool := decide (ccN σ a b n q * ccN σ a b n (q + 1) = -1)
def crA (σ : gS) (a b n k : Nat) : Int32 := match fnd (fun q => crH σ a b n q && decide (cnt (crH σ a b n) q = k)) n with
  | none => -1
  | some q => nI q
theorem crA_none {σ : gS} {a b n k : Nat} (h : fnd (fun q => crH σ a b n q && decide (cnt (crH σ a b n) q = k)) n = none) : crA σ a b n k = -1 := by unfold crA; rw [h]
theorem crA_some {σ : gS} {a b n k q : Nat} (h : fnd (fun q => crH σ a b n q && decide (cnt (crH σ a b n) q = k)) q = none) (hq : q < n) (h1 : crH σ a b n q = true) (h2 : cnt (crH σ a b n) q = k) : crA σ a b n k = nI q := by
  have h3 := fnd_up (fnd_hit h (show (crH σ a b n q && decide (cnt (crH σ a b n) q = k)) = true by rw [h1, decide_eq_true h2]; rfl)) (show q + 1 ≤ n by omega)
  unfold crA
  rw [h3]
-- needed(): the STAGE behind j items more, and whether the next one can decide
def ns (σ : gS) (p sn st : Nat) : Nat → Nat
  | 0 => st
  | j + 1 => if sn + (j + 1) = tot σ p (ns σ p sn st j + 1) then ns σ p sn st j + 1 else ns σ p sn st j
def ndH (σ : gS) (p sn st D j : Nat) : Bool := decide (rfI σ p (ns σ p sn st j) ≤ ((D + (j + 1) : Nat) : Int)) || (decide (sn + (j + 1) = tot σ p (ns σ p sn st j + 1)) && decide ((D : Int) ≤ acI σ p (ns σ p sn st j)))
def ndA (σ : gS) (q : Nat) : Int32 := if (jq σ q).1 = 0 then (match fnd (ndH σ (lPl σ q) (lSn σ q) (jq σ q).2.2.1 (jD (jq σ q))) 60 with
  | none => -1
  | some j => nI (j + 1)) else 0
theorem jd_tot {σ : gS} {q p : Nat} (hP : WfP1 σ p) (hc : clo σ p = true) {n : Nat} (h : (jd σ q p n).1 = 0) : tot σ p (jd σ q p n).2.2.1 ≤ n := by
  induction n with
  | zero => exact Nat.le_refl 0
  | succ n ih =>
    by_cases h0 : (jd σ q p n).1 = 0
    · have hi := ih h0
      rw [jd_s h0] at h ⊢
      generalize hu : jadd (jd σ q p n) (itm σ q n) = u at h ⊢
      have us : u.2.2.1 = (jd σ q p n).2.2.1 := by rw [← hu]; rfl
      have uc : u.2.1 = n + 1 := by rw [← hu]; show (jd σ q p n).2.1 + 1 = n + 1; rw [jd_cnt h0]
      unfold jdec at h ⊢
      by_cases c1 : itm σ q n = 3 ∨ rfI σ p u.2.2.1 ≤ (jD u : Int)
      · rw [if_pos c1] at h; exact absurd (show (2 : Nat) = 0 from h) (by decide)
      · rw [if_neg c1] at h ⊢
        by_cases c2 : u.2.1 = tot σ p (u.2.2.1 + 1)
        · rw [if_pos c2] at h ⊢
          by_cases c3 : (jD u : Int) ≤ acI σ p u.2.2.1
          · rw [if_pos c3] at h; exact absurd (show (1 : Nat) = 0 from h) (by decide)
          · rw [if_neg c3]
            show tot σ p (u.2.2.1 + 1) ≤ n + 1
            omega
        · rw [if_neg c2, us]; omega
    · rw [jd_fix h0 (Nat.le_succ n)] at h
      exact absurd h h0
theorem ns_inv {σ : gS} {p sn st : Nat} (hP : WfP1 σ p) (h1 : st < stN σ p) (h2 : tot σ p st ≤ sn) (h3 : sn < tot σ p (st + 1)) {j : Nat} (h : sn + j < tot σ p (stN σ p)) : ns σ p sn st j < stN σ p ∧ tot σ p (ns σ p sn st j) ≤ sn + j ∧ sn + j < tot σ p (ns σ p sn st j + 1) := by
  induction j with
  | zero => exact ⟨h1, h2, h3⟩
  | succ j ih =>
    obtain ⟨a, b, e⟩ := ih (by omega)
    show (if sn + (j + 1) = tot σ p (ns σ p sn st j + 1) then ns σ p sn st j + 1 else ns σ p sn st j) < stN σ p ∧ tot σ p (if sn + (j + 1) = tot σ p (ns σ p sn st j + 1) then ns σ p sn st j + 1 else ns σ p sn st j) ≤ sn + (j + 1) ∧ sn + (j + 1) < tot σ p ((if sn + (j + 1) = tot σ p (ns σ p sn st j + 1) then ns σ p sn st j + 1 else ns σ p sn st j) + 1)
    by_cases c : sn + (j + 1) = tot σ p (ns σ p sn st j + 1)
    · rw [if_pos c]
      have hl : ns σ p sn st j + 1 < stN σ p := by
        rcases Nat.lt_or_ge (ns σ p sn st j + 1) (stN σ p) with z | z
        · exact z
        · have := tot_mono σ p z; omega
      have := (hP.2.2.1 _ hl).2.1
      refine ⟨hl, by omega, ?_⟩
      show sn + (j + 1) < tot σ p (ns σ p sn st j + 1) + szN σ p (ns σ p sn st j + 1)
      omega
    · rw [if_neg c]; exact ⟨a, by omega, by omega⟩
/-- the end of the last STAGE decides -/
theorem nd_last {σ : gS} {p sn st D j : Nat} (hP : WfP1 σ p) (hc : clo σ p = true) (h1 : st < stN σ p) (h2 : tot σ p st ≤ sn) (h3 : sn < tot σ p (st + 1)) (h : sn + (j + 1) = tot σ p (stN σ p)) : ndH σ p sn st D j = true := by
  have hc2 := of_decide_eq_true hc
  obtain ⟨a, b, e⟩ := ns_inv hP h1 h2 h3 (j := j) (by omega)
  have hl : ns σ p sn st j + 1 = stN σ p := by
    rcases Nat.lt_or_ge (ns σ p sn st j + 1) (stN σ p) with z | z
    · have h4 := tot_mono σ p (show ns σ p sn st j + 1 + 1 ≤ stN σ p by omega)
      have h5 := (hP.2.2.1 _ z).2.1
      have h6 : tot σ p (ns σ p sn st j + 1 + 1) = tot σ p (ns σ p sn st j + 1) + szN σ p (ns σ p sn st j + 1) := rfl
      omega
    · omega
  unfold ndH
  rw [show stN σ p - 1 = ns σ p sn st j by omega] at hc2
  by_cases q : (D : Int) ≤ acI σ p (ns σ p sn st j)
  · rw [decide_eq_true (show sn + (j + 1) = tot σ p (ns σ p sn st j + 1) by rw [hl]; exact h), decide_eq_true q]; simp
  · rw [decide_eq_true (show rfI σ p (ns σ p sn st j) ≤ ((D + (j + 1) : Nat) : Int) by omega)]; rfl
theorem Sm.p35 {σ τ : gS} (h : Sm σ τ) {i j : Nat} {v : Int32} : Sm σ (sI τ 35 i j v) := Sm.mk' (fun a b c hs => by rw [sI_at, if_neg (fun z => by rw [z.1] at hs; exact absurd hs (by unfold scI; simp))]; exact h.rd a b c hs) (fun a b c hs => h.rdJ a b c hs)
theorem Sm.p36 {σ τ : gS} (h : Sm σ τ) {i j : Nat} {v : Int32} : Sm σ (sI τ 36 i j v) := Sm.mk' (fun a b c hs => by rw [sI_at, if_neg (fun z => by rw [z.1] at hs; exact absurd hs (by unfold scI; simp))]; exact h.rd a b c hs) (fun a b c hs => h.rdJ a b c hs)
def b01 (f : Nat → Int32) : Prop := ∀ k, k < 210 → f k = 0 ∨ f k = 1
/-- what can[] holds behind j items more, from the place k0 on -/
def NC (σ τ : gS) (k0 j : Nat) : Prop := Sm σ τ ∧ b01 (τ.1 35 0) ∧ (∀ k, k < 210 → τ.1 35 0 k = 1 → k0 ≤ k ∧ k ≤ k0 + 3 * j) ∧ τ.1 35 0 k0 = 1 ∧ τ.1 35 0 (k0 + 3 * j) = 1
def NZ (σ τ : gS) (i : Nat) : Prop := Sm σ τ ∧ ∀ k, k < i → τ.1 35 0 k = 0
theorem NZ_put {σ τ : gS} {i : Nat} (h : NZ σ τ i) : NZ σ (sI τ 35 0 i (nI 0)) (i + 1) := ⟨h.1.p35, fun k hk => by
  rw [sI_at]
  by_cases e : k = i
  · rw [if_pos ⟨rfl, rfl, e⟩]; rfl
  · rw [if_neg (fun z => e z.2.2)]; exact h.2 k (by omega)⟩
theorem NZ_C {σ τ : gS} {k0 : Nat} (h : NZ σ τ 210) : NC σ (sI τ 35 0 k0 (nI 1)) k0 0 := by
  have hat : ∀ k, (sI τ 35 0 k0 (nI 1)).1 35 0 k = if k = k0 then 1 else τ.1 35 0 k := fun k => by
    rw [sI_at]
    by_cases e : k = k0
    · rw [if_pos ⟨rfl, rfl, e⟩, if_pos e]; rfl
    · rw [if_neg (fun z => e z.2.2), if_neg e]
  refine ⟨h.1.p35, fun k hk => ?_, fun k hk he => ?_, ?_, ?_⟩
  · rw [hat]; split
    · exact Or.inr rfl
    · exact Or.inl (h.2 k hk)
  · rw [hat] at he
    by_cases e : k = k0
    · omega
    · rw [if_neg e, h.2 k hk] at he; exact absurd he (by decide)
  · rw [hat, if_pos rfl]
  · rw [hat, if_pos (by omega)]
/-- could[] copied; can[] wiped; can[] grown -/
def CP (σ τ : gS) (f : Nat → Int32) (i : Nat) : Prop := Sm σ τ ∧ (∀ k, k < 210 → τ.1 35 0 k = f k) ∧ ∀ k, k < i → τ.1 36 0 k = f k
def CW (σ τ : gS) (f : Nat → Int32) (i : Nat) : Prop := Sm σ τ ∧ (∀ k, k < 210 → τ.1 36 0 k = f k) ∧ ∀ k, k < i → τ.1 35 0 k = 0
def CX (σ τ : gS) (f : Nat → Int32) (i : Nat) : Prop := Sm σ τ ∧ (∀ k, k < 210 → τ.1 36 0 k = f k) ∧ b01 (τ.1 35 0) ∧ (∀ k, k < 210 → τ.1 35 0 k = 1 → ∃ k2, k2 < i ∧ f k2 = 1 ∧ (k = k2 ∨ k = k2 + 1 ∨ k = k2 + 3)) ∧ ∀ k2, k2 < i → f k2 = 1 → τ.1 35 0 k2 = 1 ∧ τ.1 35 0 (k2 + 3) = 1
theorem CP_put {σ τ : gS} {f : Nat → Int32} {i : Nat} {v : Int32} (h : CP σ τ f i) (hi : i < 210) (hv : v = f i) : CP σ (sI τ 36 0 i v) f (i + 1) := ⟨h.1.p36, fun k hk => by rw [sI_at, if_neg (by omega)]; exact h.2.1 k hk, fun k hk => by
  rw [sI_at]
  by_cases e : k = i
  · rw [if_pos ⟨rfl, rfl, e⟩, e]; exact hv
  · rw [if_neg (fun z => e z.2.2)]; exact h.2.2 k (by omega)⟩
theorem CW_put {σ τ : gS} {f : Nat → Int32} {i : Nat} (h : CW σ τ f i) : CW σ (sI τ 35 0 i (nI 0)) f (i + 1) := ⟨h.1.p35, fun k hk => by rw [sI_at, if_neg (by omega)]; exact h.2.1 k hk, fun k hk => by
  rw [sI_at]
  by_cases e : k = i
  · rw [if_pos ⟨rfl, rfl, e⟩]; rfl
  · rw [if_neg (fun z => e z.2.2)]; exact h.2.2 k (by omega)⟩
theorem CW_X {σ τ : gS} {f : Nat → Int32} (h : CW σ τ f 210) : CX σ τ f 0 := ⟨h.1, h.2.1, fun k hk => Or.inl (h.2.2 k hk), fun k hk he => by rw [h.2.2 k hk] at he; exact absurd he (by decide), fun k hk => absurd hk (by omega)⟩
theorem CX_skip {σ τ : gS} {f : Nat → Int32} {i : Nat} (h : CX σ τ f i) (hf : ¬ f i = 1) : CX σ τ f (i + 1) := ⟨h.1, h.2.1, h.2.2.1, fun k hk he => by
  obtain ⟨k2, a, b, e⟩ := h.2.2.2.1 k hk he
  exact ⟨k2, by omega, b, e⟩, fun k2 hk he => h.2.2.2.2 k2 (by rcases Nat.lt_or_ge k2 i with z | z; exact z; exact absurd (by rw [show i = k2 by omega]; exact he) hf) he⟩
theorem CX_put {σ τ : gS} {f : Nat → Int32} {i : Nat} (h : CX σ τ f i) (hi : i < 200) (hf : f i = 1) : CX σ (sI (sI (sI τ 35 0 i (nI 1)) 35 0 (i + 1) (nI 1)) 35 0 (i + 3) (nI 1)) f (i + 1) := by
  have hat : ∀ k, (sI (sI (sI τ 35 0 i (nI 1)) 35 0 (i + 1) (nI 1)) 35 0 (i + 3) (nI 1)).1 35 0 k = if k = i ∨ k = i + 1 ∨ k = i + 3 then 1 else τ.1 35 0 k := fun k => by
    rw [sI_at, sI_at, sI_at]
    by_cases c : k = i ∨ k = i + 1 ∨ k = i + 3
    · rw [if_pos c]
      rcases c with c | c | c
      · rw [if_neg (by omega), if_neg (by omega), if_pos ⟨rfl, rfl, c⟩]; rfl
      · rw [if_neg (by omega), if_pos ⟨rfl, rfl, c⟩]; rfl
      · rw [if_pos ⟨rfl, rfl, c⟩]; rfl
    · rw [if_neg c, if_neg (by omega), if_neg (by omega), if_neg (by omega)]
  refine ⟨h.1.p35.p35.p35, fun k hk => ?_, fun k hk => ?_, fun k hk he => ?_, fun k2 hk he => ?_⟩
  · rw [sI_at, if_neg (by omega), sI_at, if_neg (by omega), sI_at, if_neg (by omega)]; exact h.2.1 k hk
  · rw [hat]; split
    · exact Or.inr rfl
    · exact h.2.2.1 k hk
  · rw [hat] at he
    by_cases c : k = i ∨ k = i + 1 ∨ k = i + 3
    · exact ⟨i, by omega, hf, c⟩
    · rw [if_neg c] at he
      obtain ⟨k3, a, b, e⟩ := h.2.2.2.1 k hk he
      exact ⟨k3, by omega, b, e⟩
  · by_cases c : k2 = i
    · subst c
      exact ⟨by rw [hat, if_pos (by omega)], by rw [hat, if_pos (by omega)]⟩
    · obtain ⟨a, b⟩ := h.2.2.2.2 k2 (by omega) he
      refine ⟨?_, ?_⟩
      · rw [hat]; split
        · rfl
        · exact a
      · rw [hat]; split
        · rfl
        · exact b
theorem CX_C {σ τ υ : gS} {k0 j : Nat} (hN : NC σ υ k0 j) (h : CX σ τ (υ.1 35 0) 200) (h0 : k0 + 3 * j < 200) : NC σ τ k0 (j + 1) := by
  refine ⟨h.1, h.2.2.1, fun k hk he => ?_, (h.2.2.2.2 k0 (by omega) hN.2.2.2.1).1, ?_⟩
  · obtain ⟨k2, a, b, e⟩ := h.2.2.2.1 k hk he
    have := hN.2.2.1 k2 (by omega) b
    omega
  · have := (h.2.2.2.2 (k0 + 3 * j) h0 hN.2.2.2.2).2
    rw [show k0 + 3 * (j + 1) = k0 + 3 * j + 3 by omega]
    exact this
theorem NC_P {σ τ : gS} {k0 j : Nat} (h : NC σ τ k0 j) : CP σ τ (τ.1 35 0) 0 := ⟨h.1, fun _ _ => rfl, fun k hk => absurd hk (by omega)⟩
theorem CP_W {σ τ : gS} {f : Nat → Int32} (h : CP σ τ f 210) : CW σ τ f 0 := ⟨h.1, h.2.2, fun k hk => absurd hk (by omega)⟩
theorem jd_before {σ : gS} {q p j n : Nat} (h : (jd σ q p n).1 = 0) (hj : j ≤ n) : (jd σ q p j).1 = 0 := by
  by_cases c : (jd σ q p j).1 = 0
  · exact c
  · rw [jd_fix c hj] at h; exact h
theorem jd_mi {σ : gS} {q p n : Nat} (h : (jd σ q p n).1 = 0) : (jd σ q p n).2.2.2.1 = cnt (fun k => decide (itm σ q k = 1)) n := by
  induction n with
  | zero => rfl
  | succ n ih =>
    have h0 := jd_before h (Nat.le_succ n)
    rw [jd_s h0, (jdec_cnt _ _ _ _).2]
    show (jd σ q p n).2.2.2.1 + isM (itm σ q n) = cnt _ n + _
    rw [ih h0]
    unfold isM
    by_cases c : itm σ q n = 1
    · simp [c]
    · simp [c]
