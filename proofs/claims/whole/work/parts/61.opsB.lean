/-! one supplier, one lot in two states; supplier and lot keep what holds -/
def eqS (σ τ : gS) (s : Nat) : Prop := (∀ k, 15 ≤ k → k ≤ 17 → τ.1 k 0 s = σ.1 k 0 s) ∧ (∀ j, j < 3 → τ.1 14 0 (3 * s + j) = σ.1 14 0 (3 * s + j)) ∧ ∀ k, k < 60 → τ.1 18 0 (60 * s + k) = σ.1 18 0 (60 * s + k)
theorem eqS.rlE {σ τ : gS} {s : Nat} (h : eqS σ τ s) : rl τ s = rl σ s := by unfold rl; rw [h.1 15 (by decide) (by decide)]
theorem eqS.rnE {σ τ : gS} {s : Nat} (h : eqS σ τ s) : rn τ s = rn σ s := by unfold rn; rw [h.1 17 (by decide) (by decide)]
theorem eqS.wf {σ τ : gS} {s : Nat} (h : eqS σ τ s) (hW : WfS1 σ s) (hP : WfP σ) (hC : eC σ τ) (hn : nP σ ≤ nP τ) : WfS1 τ s := by
  obtain ⟨a1, a2, a3, a4, a5⟩ := hW
  unfold WfS1
  rw [h.rlE, h.rnE, h.1 15 (by decide) (by decide), h.1 17 (by decide) (by decide)]
  refine ⟨a1, a2, fun j hj => ?_, a4, a5⟩
  obtain ⟨b1, b2, b3⟩ := a3 j hj
  have e3 : pO τ s j = pO σ s j := by unfold pO; rw [h.2.1 j hj]
  rw [e3, h.2.1 j hj]
  exact ⟨b1, by omega, by rw [(hC _ b2 b3).cl (hP.2.2 _ b2).2.1]; exact b3⟩
theorem eqS.sr {σ τ : gS} {s : Nat} (h : eqS σ τ s) (hR : SR σ s) (hn : rn σ s ≤ 60) (h5 : ∀ k j, 57 ≤ k → k ≤ 59 → τ.1 k s j = σ.1 k s j) : SR τ s := by
  unfold SR
  rw [h.rnE, h5 57 2 (by decide) (by decide), h5 57 3 (by decide) (by decide), h5 57 4 (by decide) (by decide), h.1 17 (by decide) (by decide), h.1 15 (by decide) (by decide), h.1 16 (by decide) (by decide)]
  refine ⟨hR.1, hR.2.1, hR.2.2.1, fun j hj => ?_, fun k hk => ?_⟩
  · rw [h5 58 j (by decide) (by decide), h.2.1 j hj]; exact hR.2.2.2.1 j hj
  · rw [h5 59 k (by decide) (by decide), h.2.2 k (by omega)]; exact hR.2.2.2.2 k hk
def eqL (σ τ : gS) (q : Nat) : Prop := (∀ k, 19 ≤ k → k ≤ 23 → τ.1 k 0 q = σ.1 k 0 q) ∧ ∀ k, k < 60 → τ.1 24 0 (60 * q + k) = σ.1 24 0 (60 * q + k)
theorem eqL.l {σ τ : gS} {q : Nat} (h : eqL σ τ q) : lSu τ q = lSu σ q ∧ lSz τ q = lSz σ q ∧ lPl τ q = lPl σ q ∧ lRu τ q = lRu σ q ∧ lSn τ q = lSn σ q := by
  unfold lSu lSz lPl lRu lSn
  rw [h.1 19 (by decide) (by decide), h.1 20 (by decide) (by decide), h.1 21 (by decide) (by decide), h.1 22 (by decide) (by decide), h.1 23 (by decide) (by decide)]
  exact ⟨rfl, rfl, rfl, rfl, rfl⟩
theorem eqL.it {σ τ : gS} {q k : Nat} (h : eqL σ τ q) (hk : k < 60) : itm τ q k = itm σ q k := by unfold itm; rw [h.2 k hk]
theorem eqL.j {σ τ : gS} {q : Nat} (h : eqL σ τ q) (hP : WfP σ) (hC : eC σ τ) (hL : WfL1 σ q) : jq τ q = jq σ q := by
  obtain ⟨-, -, e3, -, e5⟩ := h.l
  show jd τ q (lPl τ q) (lSn τ q) = jd σ q (lPl σ q) (lSn σ q)
  rw [e3, e5]
  have h9 := hL.2.2.2.2.2.2.2.2.1
  exact (hC _ hL.2.2.2.2.2.1 hL.2.2.2.2.2.2.1).jdE (hP.2.2 _ hL.2.2.2.2.2.1) hL.2.2.2.2.2.2.1 (n := lSn σ q) (fun k hk => h.it (by omega)) _ (Nat.le_refl _)
theorem eqL.wf {σ τ : gS} {q : Nat} (h : eqL σ τ q) (hL : WfL1 σ q) (hP : WfP σ) (hC : eC σ τ) (hn : nP σ ≤ nP τ) (hs : nS σ ≤ nS τ) : WfL1 τ q := by
  obtain ⟨e1, e2, e3, e4, e5⟩ := h.l
  unfold WfL1
  rw [h.j hP hC hL, e1, e2, e3, e4, e5, h.1 19 (by decide) (by decide), h.1 20 (by decide) (by decide), h.1 21 (by decide) (by decide), h.1 22 (by decide) (by decide), h.1 23 (by decide) (by decide)]
  obtain ⟨a1, a2, a3, a4, a5, a6, a7, a8, a9, a10, a11⟩ := hL
  refine ⟨a1, by omega, a3, a4, a5, by omega, by rw [(hC _ a6 a7).cl (hP.2.2 _ a6).2.1]; exact a7, a8, a9, fun k hk2 => ?_, a11⟩
  rw [h.2 k (by omega), h.it (by omega)]; exact a10 k hk2
theorem eqL.lr {σ τ : gS} {q : Nat} (h : eqL σ τ q) (hR : LR σ q) (hL : WfL1 σ q) (hP : WfP σ) (hC : eC σ τ) (h6 : ∀ k j, 60 ≤ k → k ≤ 62 → τ.1 k q j = σ.1 k q j) : LR τ q := by
  obtain ⟨e1, e2, e3, e4, e5⟩ := h.l
  have h9 := hL.2.2.2.2.2.2.2.2.1
  have h11 := hL.2.2.2.2.2.2.2.2.2.2
  unfold LR LZ
  rw [h.j hP hC hL, e1, e2, e3, e4, e5, h6 60 0 (by decide) (by decide), h6 60 1 (by decide) (by decide), h6 60 3 (by decide) (by decide), h6 60 4 (by decide) (by decide), h6 60 9 (by decide) (by decide), h6 60 7 (by decide) (by decide), h6 60 8 (by decide) (by decide)]
  obtain ⟨a1, a2, a3, a4, ⟨a5, a6, a7, a8⟩, a9⟩ := hR
  refine ⟨a1, a2, a3, a4, ⟨a5, a6, a7, fun v hv => ?_⟩, fun k hk2 => ?_⟩
  · rw [h6 62 v (by decide) (by decide), tal_cong (g := itm σ q) (fun k hk => h.it (by omega))]; exact a8 v hv
  · rw [h6 61 k (by decide) (by decide), h.it (by omega)]; exact a9 k hk2
theorem cnt_le2 {P Q : Nat → Bool} {n : Nat} (h : ∀ k, k < n → P k = true → Q k = true) : cnt P n ≤ cnt Q n := by
  induction n with
  | zero => exact Nat.le_refl 0
  | succ n ih =>
    show cnt P n + (if P n then 1 else 0) ≤ cnt Q n + (if Q n then 1 else 0)
    have h1 := ih (fun k hk => h k (by omega))
    by_cases z : P n = true
    · rw [if_pos z, if_pos (h n (by omega) z)]; omega
    · rw [if_neg z]; omega
theorem gU2 (B : gB) (n q k : Nat) : (gU B n q).2 k = if 57 ≤ k ∧ k ≤ 59 then B.2 k + 1 else B.2 k := by
  show (bif Nat.ble 57 k && Nat.ble k 59 then B.2 k + 1 else B.2 k) = _
  cases e : (Nat.ble 57 k && Nat.ble k 59) with
  | true =>
    rw [Bool.and_eq_true] at e
    rw [if_pos ⟨Nat.le_of_ble_eq_true e.1, Nat.le_of_ble_eq_true e.2⟩]; rfl
  | false => rw [if_neg (fun z => by rw [Nat.ble_eq_true_of_le z.1, Nat.ble_eq_true_of_le z.2] at e; exact absurd e (by decide))]; rfl
theorem gL2 (B : gB) (n q k : Nat) : (gL B n q).2 k = if 60 ≤ k ∧ k ≤ 62 then B.2 k + 1 else B.2 k := by
  show (bif Nat.ble 60 k && Nat.ble k 62 then B.2 k + 1 else B.2 k) = _
  cases e : (Nat.ble 60 k && Nat.ble k 62) with
  | true =>
    rw [Bool.and_eq_true] at e
    rw [if_pos ⟨Nat.le_of_ble_eq_true e.1, Nat.le_of_ble_eq_true e.2⟩]; rfl
  | false => rw [if_neg (fun z => by rw [Nat.ble_eq_true_of_le z.1, Nat.ble_eq_true_of_le z.2] at e; exact absurd e (by decide))]; rfl
theorem gU_M {B : gB} {n q : Nat} (h : BkM B) : BkM (gU B n q) := h.of (fun k hk => by rw [gU2, if_neg (by omega)])
theorem gL_M {B : gB} {n q : Nat} (h : BkM B) : BkM (gL B n q) := h.of (fun k hk => by rw [gL2, if_neg (by omega)])
theorem gU_C {B : gB} {n q : Nat} (h : BkC B) : BkC (gU B n q) := by
  obtain ⟨a1, a2, a3, a4, a5, a6, a7⟩ := h
  refine ⟨fun k hk => ?_, ?_, ?_, fun k hk => ?_, ?_, fun k hk => ?_, fun k hk => ?_⟩
  · have : ∀ k ∈ [40, 41, 42, 44, 45, 46, 47, 48], k < 50 := by decide
    have := this k hk
    rw [gU2, if_neg (by omega)]; exact a1 k hk
  · rw [gU2, if_neg (by omega)]; exact a2
  · rw [gU2, if_neg (by omega)]; exact a3
  · have : ∀ k ∈ [51, 52, 53, 54, 55], 51 ≤ k ∧ k ≤ 55 := by decide
    have := this k hk
    rw [gU2, if_neg (by omega), gU2, if_neg (by omega), a4 k hk]
  · rw [gU2, if_neg (by omega), gU2, if_neg (by omega), a5]
  · have : ∀ k ∈ [58, 59], 57 < k ∧ k ≤ 59 := by decide
    have := this k hk
    rw [gU2, if_pos (by omega), gU2, if_pos (by omega), a6 k hk]
  · have : ∀ k ∈ [61, 62], 60 < k := by decide
    have := this k hk
    rw [gU2, if_neg (by omega), gU2, if_neg (by omega)]; exact a7 k hk
theorem gL_C {B : gB} {n q : Nat} (h : BkC B) : BkC (gL B n q) := by
  obtain ⟨a1, a2, a3, a4, a5, a6, a7⟩ := h
  refine ⟨fun k hk => ?_, ?_, ?_, fun k hk => ?_, ?_, fun k hk => ?_, fun k hk => ?_⟩
  · have : ∀ k ∈ [40, 41, 42, 44, 45, 46, 47, 48], k < 50 := by decide
    have := this k hk
    rw [gL2, if_neg (by omega)]; exact a1 k hk
  · rw [gL2, if_neg (by omega)]; exact a2
  · rw [gL2, if_neg (by omega)]; exact a3
  · have : ∀ k ∈ [51, 52, 53, 54, 55], 51 ≤ k ∧ k ≤ 55 := by decide
    have := this k hk
    rw [gL2, if_neg (by omega), gL2, if_neg (by omega), a4 k hk]
  · rw [gL2, if_neg (by omega), gL2, if_neg (by omega), a5]
  · have : ∀ k ∈ [58, 59], 57 < k ∧ k ≤ 59 := by decide
    have := this k hk
    rw [gL2, if_neg (by omega), gL2, if_neg (by omega), a6 k hk]
  · have : ∀ k ∈ [61, 62], 60 < k ∧ k ≤ 62 := by decide
    have := this k hk
    rw [gL2, if_pos (by omega), gL2, if_pos (by omega), a7 k hk]
theorem RI_supplier {B : gB} {σ τ1 : gS} {q : Nat} {x y z : Int32} (h : RI B σ) (hx : isCl σ x = true) (hy : isCl σ y = true) (hz : isCl σ z = true) (hn : nS σ ≠ 8) (hτ1 : τ1 = sI (sU σ (sI (sI (sI z00 58 0 0 x) 58 0 1 y) 58 0 2 z) (nS σ)) 40 0 7 (nI (nS σ + 1))) : eM σ τ1 ∧ RI (gU B (nS σ) q) (suUp τ1 x y z) := by
  have hD := h.D
  have h8 := h.S.2.1
  have h24 := h.P.2.1
  obtain ⟨n, hne⟩ : ∃ n, n = nS σ := ⟨_, rfl⟩
  rw [← hne] at hn hτ1 h8 ⊢
  have a1 : ∀ k i j, ¬ (57 ≤ k ∧ k ≤ 59 ∧ i = n) → ¬ (k = 40 ∧ i = 0 ∧ j = 7) → τ1.1 k i j = σ.1 k i j := fun k i j z1 z2 => by
    rw [hτ1, sI_at, if_neg z2]
    show (bif in1 57 59 n k i then _ else σ.1 k i j) = _
    rw [in1_f z1]; rfl
  have aJ : τ1.2 = σ.2 := by rw [hτ1]; rfl
  have hM : eM σ τ1 := eM.mk (fun k i j hk => a1 k i j (by omega) (by omega)) (fun k i j _ => by rw [aJ])
  refine ⟨hM, ?_⟩
  have n1 : nS τ1 = n := hM.n.2.1.trans hne.symm
  have b57 : ∀ k j, 57 ≤ k → k ≤ 59 → τ1.1 k n j = (sI (sI (sI z00 58 0 0 x) 58 0 1 y) 58 0 2 z).1 k 0 j := fun k j z1 z2 => by
    rw [hτ1, sI_at, if_neg (by omega), sU_new z1 z2]
  have b40 : τ1.1 40 0 7 = nI (n + 1) := by rw [hτ1, sI_at, if_pos ⟨rfl, rfl, rfl⟩]
  generalize hτ : suUp τ1 x y z = τ
  have e1 : ∀ k i j, ¬ (k = 14 ∧ i = 0 ∧ (j = 3 * n ∨ j = 3 * n + 1 ∨ j = 3 * n + 2)) → ¬ (k = 15 ∧ i = 0 ∧ j = n) → ¬ (k = 0 ∧ i = 0 ∧ j = 1) → τ.1 k i j = τ1.1 k i j := fun k i j z1 z2 z3 => by
    rw [← hτ]; unfold suUp
    rw [n1, sI_at, if_neg z3, sI_at, if_neg z2, sI_at, if_neg (by omega), sI_at, if_neg (by omega), sI_at, if_neg (by omega)]
  have eJ : τ.2 = σ.2 := by rw [← hτ]; exact aJ
  have c0 : τ.1 0 0 1 = nI (n + 1) := by rw [← hτ]; unfold suUp; rw [n1, sI_at, if_pos ⟨rfl, rfl, rfl⟩]
  have c15 : τ.1 15 0 n = nI 0 := by rw [← hτ]; unfold suUp; rw [n1, sI_at, if_neg (by omega), sI_at, if_pos ⟨rfl, rfl, rfl⟩]
  have d2 : τ.1 14 0 (3 * n + 2) = z := by rw [← hτ]; unfold suUp; rw [n1, sI_at, if_neg (by omega), sI_at, if_neg (by omega), sI_at, if_pos ⟨rfl, rfl, rfl⟩]
  have d1 : τ.1 14 0 (3 * n + 1) = y := by rw [← hτ]; unfold suUp; rw [n1, sI_at, if_neg (by omega), sI_at, if_neg (by omega), sI_at, if_neg (by omega), sI_at, if_pos ⟨rfl, rfl, rfl⟩]
  have d0 : τ.1 14 0 (3 * n) = x := by rw [← hτ]; unfold suUp; rw [n1, sI_at, if_neg (by omega), sI_at, if_neg (by omega), sI_at, if_neg (by omega), sI_at, if_neg (by omega), sI_at, if_pos ⟨rfl, rfl, rfl⟩]
  have e2 : ∀ k i j, ¬ (57 ≤ k ∧ k ≤ 59 ∧ i = n) → ¬ (k = 40 ∧ i = 0 ∧ j = 7) → ¬ (k = 14 ∧ i = 0 ∧ (j = 3 * n ∨ j = 3 * n + 1 ∨ j = 3 * n + 2)) → ¬ (k = 15 ∧ i = 0 ∧ j = n) → ¬ (k = 0 ∧ i = 0 ∧ j = 1) → τ.1 k i j = σ.1 k i j := fun k i j z1 z2 z3 z4 z5 => by rw [e1 k i j z3 z4 z5, a1 k i j z1 z2]
  have nSt : nS τ = n + 1 := by unfold nS; rw [c0]; exact nI_clamp (by omega)
  have nPt : τ.1 0 0 0 = σ.1 0 0 0 := e2 0 0 0 (by omega) (by omega) (by omega) (by omega) (by omega)
  have nLt : τ.1 0 0 2 = σ.1 0 0 2 := e2 0 0 2 (by omega) (by omega) (by omega) (by omega) (by omega)
  have ePn : nP τ = nP σ := by unfold nP; rw [nPt]
  have eLn : nL τ = nL σ := by unfold nL; rw [nLt]
  have hE : eqP σ τ := fun k j _ _ => e2 _ _ _ (by omega) (by omega) (by omega) (by omega) (by omega)
  have hk : ∀ k j, 19 ≤ k → k ≤ 24 → τ.1 k 0 j = σ.1 k 0 j := fun k j _ _ => e2 _ _ _ (by omega) (by omega) (by omega) (by omega) (by omega)
  have hS : ∀ s, s < n → eqS σ τ s := fun s hs => ⟨fun k _ _ => e2 _ _ _ (by omega) (by omega) (by omega) (by omega) (by omega), fun j hj => e2 _ _ _ (by omega) (by omega) (by omega) (by omega) (by omega), fun k _ => e2 _ _ _ (by omega) (by omega) (by omega) (by omega) (by omega)⟩
  have z16 := (h.S.2.2.2 n (by omega) (by omega)).1
  have z17 := (h.S.2.2.2 n (by omega) (by omega)).2
  have t16 : τ.1 16 0 n = 0 := (e2 _ _ _ (by omega) (by omega) (by omega) (by omega) (by omega)).trans z16
  have t17 : τ.1 17 0 n = 0 := (e2 _ _ _ (by omega) (by omega) (by omega) (by omega) (by omega)).trans z17
  have rnn : rn τ n = 0 := by unfold rn; rw [t17]; rfl
  have rln : rl τ n = 0 := by unfold rl; rw [c15]; rfl
  have clp : ∀ v : Int32, isCl σ v = true → v = nI v.toNatClampNeg ∧ v.toNatClampNeg < nP σ ∧ clo τ v.toNatClampNeg = true := fun v hv => by
    obtain ⟨p, hp, rfl, hc⟩ := isCl_t h24 hv
    rw [nI_clamp (by omega), hE.cl]
    exact ⟨rfl, hp, hc⟩
  have b3 : ∀ k j, 57 ≤ k → k ≤ 59 → τ.1 k n j = (sI (sI (sI z00 58 0 0 x) 58 0 1 y) 58 0 2 z).1 k 0 j := fun k j z1 z2 => by rw [e1 k n j (by omega) (by omega) (by omega), b57 k j z1 z2]
  refine RI.mk (gU_M h.M) (gU_C h.C) ?_ (h.kP hE nPt (fun k i j _ _ => e2 _ _ _ (by omega) (by omega) (by omega) (by omega) (by omega)) (fun i j => by rw [eJ])) (h.Ch.cg (fun _ => by rw [eJ])) (h.W.cg (fun _ _ => by rw [eJ])) (h.kR (fun k j _ _ => e2 _ _ _ (by omega) (by omega) (by omega) (by omega) (by omega)) (fun r j => e2 _ _ _ (by omega) (by omega) (by omega) (by omega) (by omega))) (h.kQ (by rw [eJ]) (by rw [eJ]) (fun _ => by rw [eJ])) ⟨⟨by rw [c0, nSt], by omega, fun s hs => ?_, fun s h1 h2 => ?_⟩, fun s hs => ?_⟩ ⟨h.L.cg h.P hE.c (Nat.le_of_eq ePn.symm) (by omega) nLt hk, fun q hq => ?_, fun s hs => ?_⟩ (fun w hw => by rw [e2 48 0 w (by omega) (by omega) (by omega) (by omega) (by omega), e2 25 0 w (by omega) (by omega) (by omega) (by omega) (by omega)]; exact h.co hw)
  · refine ⟨?_, ?_, ?_, ?_, ?_, ?_⟩
    · rw [ePn, e2 40 0 3 (by omega) (by omega) (by omega) (by omega) (by omega)]; exact hD.1
    · rw [ePn, gU2, if_neg (by omega)]; exact hD.2.1
    · rw [nSt, e1 40 0 7 (by omega) (by omega) (by omega)]; exact b40
    · rw [nSt, gU2, if_pos (by omega), hD.2.2.2.1, hne]
    · rw [eLn, e2 40 0 9 (by omega) (by omega) (by omega) (by omega) (by omega)]; exact hD.2.2.2.2.1
    · rw [eLn, gU2, if_neg (by omega)]; exact hD.2.2.2.2.2
  · rw [nSt] at hs
    by_cases w : s = n
    · subst w
      unfold WfS1
      rw [rln, rnn]
      refine ⟨c15, by omega, fun j hj => ?_, t17, by omega⟩
      unfold pO
      rw [ePn]
      rcases (show j = 0 ∨ j = 1 ∨ j = 2 by omega) with rfl | rfl | rfl
      · rw [Nat.add_zero, d0]; exact clp x hx
      · rw [d1]; exact clp y hy
      · rw [d2]; exact clp z hz
    · exact (hS s (by omega)).wf (h.S.2.2.1 s (by omega)) h.P hE.c (Nat.le_of_eq ePn.symm)
  · rw [nSt] at h1
    rw [e2 16 0 s (by omega) (by omega) (by omega) (by omega) (by omega), e2 17 0 s (by omega) (by omega) (by omega) (by omega) (by omega)]
    exact h.S.2.2.2 s (by omega) h2
  · rw [nSt] at hs
    by_cases w : s = n
    · subst w
      unfold SR
      rw [rnn, b3 57 2 (by decide) (by decide), b3 57 3 (by decide) (by decide), b3 57 4 (by decide) (by decide), t17, t16, c15]
      refine ⟨rfl, rfl, rfl, fun j hj => ?_, fun k hk => absurd hk (Nat.not_lt_zero k)⟩
      rw [b3 58 j (by decide) (by decide)]
      rcases (show j = 0 ∨ j = 1 ∨ j = 2 by omega) with rfl | rfl | rfl
      · rw [Nat.add_zero, d0, sI_at, if_neg (by omega), sI_at, if_neg (by omega), sI_at, if_pos ⟨rfl, rfl, rfl⟩]
      · rw [d1, sI_at, if_neg (by omega), sI_at, if_pos ⟨rfl, rfl, rfl⟩]
      · rw [d2, sI_at, if_pos ⟨rfl, rfl, rfl⟩]
    · exact (hS s (by omega)).sr (h.sr (by omega)) (h.S.2.2.1 s (by omega)).2.2.2.2 (fun k j _ _ => e2 _ _ _ (by omega) (by omega) (by omega) (by omega) (by omega))
  · rw [eLn] at hq
    exact (h.lr hq).cg (h.L.2.2 q hq) h.P hE.c hk (fun k j _ _ => e2 _ _ _ (by omega) (by omega) (by omega) (by omega) (by omega))
  · rw [nSt] at hs
    by_cases w : s = n
    · subst w; rw [rnn]; exact Nat.zero_le _
    · have h9 := h.rn s (by omega)
      rw [(hS s (by omega)).rnE, eLn, cnt_cg (Q := fun q => decide (lSu σ q = s) && !decide ((jq σ q).1 = 0)) (fun q hq => by rw [jq.cg h.P hE.c hk (h.L.2.2 q hq), (lot.cg hk q).1])]
      exact h9
theorem RI_lot {B : gB} {σ τ1 : gS} {q sn : Nat} {z : Int32} (h : RI B σ) (hsn : sn < nS σ) (hz : 1 ≤ z.toInt ∧ z.toInt ≤ 60) (hn : nL σ ≠ 60) (hτ1 : τ1 = sI (sL σ (sI (sI (sI (sI z00 60 0 0 (nI sn)) 60 0 1 z) 60 0 3 (nI (pO σ sn (rl σ sn)))) 60 0 4 (nI (rl σ sn))) (nL σ)) 40 0 9 (nI (nL σ + 1))) : eM σ τ1 ∧ RI (gL B (nL σ) q) (loUp τ1 sn z) := by
  have hD := h.D
  have h60 := h.L.2.1
  have h24 := h.P.2.1
  have h8 := h.S.2.1
  have hS1 := h.S.2.2.1 sn hsn
  have hpo := hS1.2.2.1 (rl σ sn) (by have := hS1.2.1; omega)
  have hrl2 := hS1.2.1
  obtain ⟨n, hne⟩ : ∃ n, n = nL σ := ⟨_, rfl⟩
  obtain ⟨pl, hpl⟩ : ∃ pl, pl = pO σ sn (rl σ sn) := ⟨_, rfl⟩
  obtain ⟨ru, hru⟩ : ∃ ru, ru = rl σ sn := ⟨_, rfl⟩
  rw [← hpl, ← hru] at hτ1
  rw [← hpl] at hpo
  rw [← hru] at hrl2
  rw [← hne] at hn hτ1 h60 ⊢
  have a1 : ∀ k i j, ¬ (60 ≤ k ∧ k ≤ 62 ∧ i = n) → ¬ (k = 40 ∧ i = 0 ∧ j = 9) → τ1.1 k i j = σ.1 k i j := fun k i j z1 z2 => by
    rw [hτ1, sI_at, if_neg z2]
    show (bif in1 60 62 n k i then _ else σ.1 k i j) = _
    rw [in1_f z1]; rfl
  have aJ : τ1.2 = σ.2 := by rw [hτ1]; rfl
  have hM : eM σ τ1 := eM.mk (fun k i j hk => a1 k i j (by omega) (by omega)) (fun k i j _ => by rw [aJ])
  refine ⟨hM, ?_⟩
  have n1 : nL τ1 = n := hM.n.2.2.trans hne.symm
  have r1 : rl τ1 sn = ru := by rw [hru]; unfold rl; rw [a1 15 0 sn (by omega) (by omega)]
  have p1 : pO τ1 sn ru = pl := by rw [hpl, ← hru]; unfold pO; rw [a1 14 0 _ (by omega) (by omega)]
  have b60 : ∀ k j, 60 ≤ k → k ≤ 62 → τ1.1 k n j = (sI (sI (sI (sI z00 60 0 0 (nI sn)) 60 0 1 z) 60 0 3 (nI pl)) 60 0 4 (nI ru)).1 k 0 j := fun k j z1 z2 => by
    rw [hτ1, sI_at, if_neg (by omega), sL_new z1 z2]
  have b40 : τ1.1 40 0 9 = nI (n + 1) := by rw [hτ1, sI_at, if_pos ⟨rfl, rfl, rfl⟩]
  generalize hτ : loUp τ1 sn z = τ
  have e1 : ∀ k i j, ¬ (19 ≤ k ∧ k ≤ 23 ∧ i = 0 ∧ j = n) → ¬ (k = 0 ∧ i = 0 ∧ j = 2) → τ.1 k i j = τ1.1 k i j := fun k i j z1 z2 => by
    rw [← hτ]; unfold loUp
    rw [n1, r1, p1, sI_at, if_neg z2, sI_at, if_neg (by omega), sI_at, if_neg (by omega), sI_at, if_neg (by omega), sI_at, if_neg (by omega), sI_at, if_neg (by omega)]
  have eJ : τ.2 = σ.2 := by rw [← hτ]; exact aJ
  have c0 : τ.1 0 0 2 = nI (n + 1) := by rw [← hτ]; unfold loUp; rw [n1, sI_at, if_pos ⟨rfl, rfl, rfl⟩]
  have c23 : τ.1 23 0 n = nI 0 := by rw [← hτ]; unfold loUp; rw [n1, sI_at, if_neg (by omega), sI_at, if_pos ⟨rfl, rfl, rfl⟩]
  have c21 : τ.1 21 0 n = nI pl := by rw [← hτ]; unfold loUp; rw [n1, r1, p1, sI_at, if_neg (by omega), sI_at, if_neg (by omega), sI_at, if_pos ⟨rfl, rfl, rfl⟩]
  have c22 : τ.1 22 0 n = nI ru := by rw [← hτ]; unfold loUp; rw [n1, r1, p1, sI_at, if_neg (by omega), sI_at, if_neg (by omega), sI_at, if_neg (by omega), sI_at, if_pos ⟨rfl, rfl, rfl⟩]
  have c20 : τ.1 20 0 n = z := by rw [← hτ]; unfold loUp; rw [n1, r1, p1, sI_at, if_neg (by omega), sI_at, if_neg (by omega), sI_at, if_neg (by omega), sI_at, if_neg (by omega), sI_at, if_pos ⟨rfl, rfl, rfl⟩]
  have c19 : τ.1 19 0 n = nI sn := by rw [← hτ]; unfold loUp; rw [n1, r1, p1, sI_at, if_neg (by omega), sI_at, if_neg (by omega), sI_at, if_neg (by omega), sI_at, if_neg (by omega), sI_at, if_neg (by omega), sI_at, if_pos ⟨rfl, rfl, rfl⟩]
  have e2 : ∀ k i j, ¬ (60 ≤ k ∧ k ≤ 62 ∧ i = n) → ¬ (k = 40 ∧ i = 0 ∧ j = 9) → ¬ (19 ≤ k ∧ k ≤ 23 ∧ i = 0 ∧ j = n) → ¬ (k = 0 ∧ i = 0 ∧ j = 2) → τ.1 k i j = σ.1 k i j := fun k i j z1 z2 z3 z4 => by rw [e1 k i j z3 z4, a1 k i j z1 z2]
  have nLt : nL τ = n + 1 := by unfold nL; rw [c0]; exact nI_clamp (by omega)
  have nPt : τ.1 0 0 0 = σ.1 0 0 0 := e2 0 0 0 (by omega) (by omega) (by omega) (by omega)
  have nSt : τ.1 0 0 1 = σ.1 0 0 1 := e2 0 0 1 (by omega) (by omega) (by omega) (by omega)
  have ePn : nP τ = nP σ := by unfold nP; rw [nPt]
  have eSn : nS τ = nS σ := by unfold nS; rw [nSt]
  have hE : eqP σ τ := fun k j _ _ => e2 _ _ _ (by omega) (by omega) (by omega) (by omega)
  have hL : ∀ q, q < n → eqL σ τ q := fun q hq => ⟨fun k _ _ => e2 _ _ _ (by omega) (by omega) (by omega) (by omega), fun k _ => e2 _ _ _ (by omega) (by omega) (by omega) (by omega)⟩
  have b3 : ∀ k j, 60 ≤ k → k ≤ 62 → τ.1 k n j = (sI (sI (sI (sI z00 60 0 0 (nI sn)) 60 0 1 z) 60 0 3 (nI pl)) 60 0 4 (nI ru)).1 k 0 j := fun k j z1 z2 => by rw [e1 k n j (by omega) (by omega), b60 k j z1 z2]
  obtain ⟨zc, zn⟩ := i_nat (show 0 ≤ z.toInt by omega)
  have zcl : z.toNatClampNeg = z.toInt.toNat := by have := nI_clamp (n := z.toInt.toNat) (by omega); rw [← zc] at this; exact this
  have l1 : lSu τ n = sn := by unfold lSu; rw [c19]; exact nI_clamp (by omega)
  have l2 : lSz τ n = z.toInt.toNat := by unfold lSz; rw [c20]; exact zcl
  have l3 : lPl τ n = pl := by unfold lPl; rw [c21]; exact nI_clamp (by omega)
  have l4 : lRu τ n = ru := by unfold lRu; rw [c22]; exact nI_clamp (by omega)
  have l5 : lSn τ n = 0 := by unfold lSn; rw [c23]; rfl
  have lj : jq τ n = (0, 0, 0, 0, 0) := by unfold jq; rw [l5]; rfl
  have g0 : ∀ v, v ≠ 0 → v ≠ 1 → v ≠ 3 → v ≠ 4 → (sI (sI (sI (sI z00 60 0 0 (nI sn)) 60 0 1 z) 60 0 3 (nI pl)) 60 0 4 (nI ru)).1 60 0 v = 0 := fun v h0 h1 h3 h4 => by
    rw [sI_at, if_neg (by omega), sI_at, if_neg (by omega), sI_at, if_neg (by omega), sI_at, if_neg (by omega)]; rfl
  have g1 : ∀ k v, 61 ≤ k → (sI (sI (sI (sI z00 60 0 0 (nI sn)) 60 0 1 z) 60 0 3 (nI pl)) 60 0 4 (nI ru)).1 k 0 v = 0 := fun k v h1 => by
    rw [sI_at, if_neg (by omega), sI_at, if_neg (by omega), sI_at, if_neg (by omega), sI_at, if_neg (by omega)]; rfl
  refine RI.mk (gL_M h.M) (gL_C h.C) ?_ (h.kP hE nPt (fun k i j _ _ => e2 _ _ _ (by omega) (by omega) (by omega) (by omega)) (fun i j => by rw [eJ])) (h.Ch.cg (fun _ => by rw [eJ])) (h.W.cg (fun _ _ => by rw [eJ])) (h.kR (fun k j _ _ => e2 _ _ _ (by omega) (by omega) (by omega) (by omega)) (fun r j => e2 _ _ _ (by omega) (by omega) (by omega) (by omega))) (h.kQ (by rw [eJ]) (by rw [eJ]) (fun _ => by rw [eJ])) (h.kS hE.c (Nat.le_of_eq ePn.symm) nSt (fun k j _ _ => e2 _ _ _ (by omega) (by omega) (by omega) (by omega)) (fun k i j _ _ _ => e2 _ _ _ (by omega) (by omega) (by omega) (by omega))) ⟨⟨by rw [c0, nLt], by omega, fun q hq => ?_⟩, fun q hq => ?_, fun s hs => ?_⟩ (fun w hw => by rw [e2 48 0 w (by omega) (by omega) (by omega) (by omega), e2 25 0 w (by omega) (by omega) (by omega) (by omega)]; exact h.co hw)
  · refine ⟨?_, ?_, ?_, ?_, ?_, ?_⟩
    · rw [ePn, e2 40 0 3 (by omega) (by omega) (by omega) (by omega)]; exact hD.1
    · rw [ePn, gL2, if_neg (by omega)]; exact hD.2.1
    · rw [eSn, e2 40 0 7 (by omega) (by omega) (by omega) (by omega)]; exact hD.2.2.1
    · rw [eSn, gL2, if_neg (by omega)]; exact hD.2.2.2.1
    · rw [nLt, e1 40 0 9 (by omega) (by omega)]; exact b40
    · rw [nLt, gL2, if_pos (by omega), hD.2.2.2.2.2, hne]
  · rw [nLt] at hq
    by_cases w : q = n
    · subst w
      unfold WfL1
      rw [l1, l2, l3, l4, l5, lj, ePn, eSn, hE.cl, c19, c20, c21, c22, c23]
      exact ⟨rfl, hsn, zc, rfl, rfl, hpo.2.1, hpo.2.2, rfl, by omega, fun k hk => absurd hk (Nat.not_lt_zero k), rfl⟩
    · exact (hL q (by omega)).wf (h.L.2.2 q (by omega)) h.P hE.c (Nat.le_of_eq ePn.symm) (Nat.le_of_eq eSn.symm)
  · rw [nLt] at hq
    by_cases w : q = n
    · subst w
      unfold LR LZ
      rw [l1, l2, l3, l4, l5, lj]
      refine ⟨?_, ?_, ?_, ?_, ⟨?_, ?_, ?_, fun v _ => ?_⟩, fun k hk => absurd hk (Nat.not_lt_zero k)⟩
      · rw [b3 60 0 (by decide) (by decide), sI_at, if_neg (by omega), sI_at, if_neg (by omega), sI_at, if_neg (by omega), sI_at, if_pos ⟨rfl, rfl, rfl⟩]
      · rw [b3 60 1 (by decide) (by decide), sI_at, if_neg (by omega), sI_at, if_neg (by omega), sI_at, if_pos ⟨rfl, rfl, rfl⟩]; exact zc
      · rw [b3 60 3 (by decide) (by decide), sI_at, if_neg (by omega), sI_at, if_pos ⟨rfl, rfl, rfl⟩]
      · rw [b3 60 4 (by decide) (by decide), sI_at, if_pos ⟨rfl, rfl, rfl⟩]
      · rw [b3 60 9 (by decide) (by decide)]; exact g0 9 (by decide) (by decide) (by decide) (by decide)
      · rw [b3 60 7 (by decide) (by decide)]; exact g0 7 (by decide) (by decide) (by decide) (by decide)
      · rw [b3 60 8 (by decide) (by decide)]; exact g0 8 (by decide) (by decide) (by decide) (by decide)
      · rw [b3 62 v (by decide) (by decide)]; exact g1 62 v (by decide)
    · exact (hL q (by omega)).lr (h.lr (by omega)) (h.L.2.2 q (by omega)) h.P hE.c (fun k j _ _ => e2 _ _ _ (by omega) (by omega) (by omega) (by omega))
  · rw [eSn] at hs
    have h9 := h.rn s hs
    have e3 : rn τ s = rn σ s := by unfold rn; rw [e2 17 0 s (by omega) (by omega) (by omega) (by omega)]
    rw [e3, nLt]
    refine Nat.le_trans h9 ?_
    rw [← hne, cnt_cg (n := n) (P := fun q => decide (lSu σ q = s) && !decide ((jq σ q).1 = 0)) (Q := fun q => decide (lSu τ q = s) && !decide ((jq τ q).1 = 0)) (fun q hq => by rw [(hL q hq).j h.P hE.c (h.L.2.2 q (by omega)), (hL q hq).l.1])]
    exact Nat.le_add_right _ _
