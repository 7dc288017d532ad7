/-! one plan in two states -/
def eqB (σ τ : gS) (p : Nat) : Prop := τ.1 3 0 p = σ.1 3 0 p ∧ ∀ k j, 4 ≤ k → k ≤ 6 → j < 4 → τ.1 k 0 (4 * p + j) = σ.1 k 0 (4 * p + j)
theorem eqP.b {σ τ : gS} (h : eqP σ τ) (p : Nat) : eqB σ τ p := ⟨h 3 p (by decide) (by decide), fun k j h1 h2 _ => h k _ (by omega) h2⟩
theorem eqB.st {σ τ : gS} {p : Nat} (h : eqB σ τ p) : stN τ p = stN σ p := by unfold stN; rw [h.1]
theorem eqB.sz {σ τ : gS} {p k : Nat} (h : eqB σ τ p) (hk : k < 4) : szN τ p k = szN σ p k := by unfold szN; rw [h.2 4 k (by decide) (by decide) hk]
theorem eqB.ac {σ τ : gS} {p k : Nat} (h : eqB σ τ p) (hk : k < 4) : acI τ p k = acI σ p k := by unfold acI; rw [h.2 5 k (by decide) (by decide) hk]
theorem eqB.rf {σ τ : gS} {p k : Nat} (h : eqB σ τ p) (hk : k < 4) : rfI τ p k = rfI σ p k := by unfold rfI; rw [h.2 6 k (by decide) (by decide) hk]
theorem eqB.to {σ τ : gS} {p : Nat} (h : eqB σ τ p) : ∀ k, k ≤ 4 → tot τ p k = tot σ p k
  | 0, _ => rfl
  | k + 1, hk => by show tot τ p k + szN τ p k = tot σ p k + szN σ p k; rw [eqB.to h k (by omega), h.sz (by omega)]
theorem eqB.wf {σ τ : gS} {p : Nat} (h : eqB σ τ p) (hP : WfP1 σ p) : WfP1 τ p := by
  have h4 := hP.2.1
  unfold WfP1 at hP ⊢
  rw [h.st, h.to _ h4]
  refine ⟨by rw [h.1]; exact hP.1, hP.2.1, fun k hk => ?_, hP.2.2.2.1, fun k hk => ?_, fun hk => ?_⟩
  · rw [h.2 4 k (by decide) (by decide) (by omega), h.sz (by omega), h.ac (by omega), h.rf (by omega)]; exact hP.2.2.1 k hk
  · rw [h.ac (by omega), h.rf (by omega)]; exact hP.2.2.2.2.1 k hk
  · rw [h.ac (by omega), h.rf (by omega)]; exact hP.2.2.2.2.2 hk
theorem eqB.cl {σ τ : gS} {p : Nat} (h : eqB σ τ p) (h4 : stN σ p ≤ 4) : clo τ p = clo σ p := by
  unfold clo
  rw [h.st]
  by_cases z : 0 < stN σ p
  · rw [h.ac (by omega), h.rf (by omega)]
  · rw [decide_eq_false (fun q => z q.1), decide_eq_false (fun q => z q.1)]
theorem eqB.dc {σ τ : gS} {p k : Nat} (h : eqB σ τ p) (hk : k < 4) (s : Nat) : dcB τ p k s = dcB σ p k s := by unfold dcB tkB rfB; rw [h.st, h.ac hk, h.rf hk]
theorem eqB.rc {σ τ : gS} {p : Nat} (h : eqB σ τ p) : ∀ k, k < 4 → rch τ p k = rch σ p k
  | 0, _ => by
    funext x
    show rsum (fun b => (if b = 0 then 1 else 0) * chZ (szN τ p 0) ((x : Int) - b)) (tot τ p 0 + 1) = rsum (fun b => (if b = 0 then 1 else 0) * chZ (szN σ p 0) ((x : Int) - b)) (tot σ p 0 + 1)
    rw [h.sz (by decide)]; rfl
  | k + 1, hk => by
    funext x
    show rsum (fun b => (if dcB τ p k b then 0 else rch τ p k b) * chZ (szN τ p (k + 1)) ((x : Int) - b)) (tot τ p (k + 1) + 1) = rsum (fun b => (if dcB σ p k b then 0 else rch σ p k b) * chZ (szN σ p (k + 1)) ((x : Int) - b)) (tot σ p (k + 1) + 1)
    rw [h.to _ (by omega), h.sz hk, eqB.rc h k (by omega)]
    exact rsum_cong (fun b _ => by rw [h.dc (by omega)])
theorem eqB.pr {σ τ : gS} {p : Nat} (h : eqB σ τ p) (hP : WfP1 σ p) (hR : PR σ p) (h5 : ∀ k j, 50 ≤ k → k ≤ 54 → τ.1 k p j = σ.1 k p j) (hJ : ∀ k x, k < 4 → τ.2 56 (4 * p + k) x = σ.2 56 (4 * p + k) x) : PR τ p := by
  have h4 := hP.2.1
  unfold PR
  rw [h.st, h.cl h4]
  refine ⟨(h5 50 5 (by decide) (by decide)).trans hR.1, (h5 50 6 (by decide) (by decide)).trans hR.2.1, fun k hk => ?_, fun k x hk hx => ?_⟩
  · obtain ⟨a1, b1, c1, d1⟩ := hR.2.2.1 k hk
    rw [h5 51 k (by decide) (by decide), h5 52 k (by decide) (by decide), h5 53 k (by decide) (by decide), h5 54 k (by decide) (by decide), h.2 4 k (by decide) (by decide) (by omega), h.2 5 k (by decide) (by decide) (by omega), h.2 6 k (by decide) (by decide) (by omega), h.to _ (by omega)]
    exact ⟨a1, b1, c1, d1⟩
  · rw [hJ k x (by omega), h.rc k (by omega)]; exact hR.2.2.2 k x hk hx
theorem eqB.pz {σ τ : gS} {p : Nat} (h : eqB σ τ p) (hZ : PZ σ p) (hJ : ∀ k x, k < 4 → τ.2 56 (4 * p + k) x = σ.2 56 (4 * p + k) x) : PZ τ p := by
  unfold PZ
  rw [h.st]
  intro k x h1 h2 h3
  rw [hJ k x h2]; exact hZ k x h1 h2 h3
theorem eqB.jdE {σ τ : gS} {p q n : Nat} (h : eqB σ τ p) (hP : WfP1 σ p) (hc : clo σ p = true) (hi : ∀ k, k < n → itm τ q k = itm σ q k) : ∀ m, m ≤ n → jd τ q p m = jd σ q p m
  | 0, _ => rfl
  | m + 1, hm => by
    have ih := eqB.jdE h hP hc hi m (by omega)
    show jstep τ p (jd τ q p m) (itm τ q (jd τ q p m).2.1) = jstep σ p (jd σ q p m) (itm σ q (jd σ q p m).2.1)
    rw [ih]
    by_cases z : (jd σ q p m).1 = 0
    · have h1 := jd_inv (q := q) hP hc z
      have h2 := jd_cnt z
      have h4 := hP.2.1
      rw [h2, hi m (by omega)]
      unfold jstep
      rw [if_pos z, if_pos z]
      have e : ((jadd (jd σ q p m) (itm σ q m)).2.2.1) = (jd σ q p m).2.2.1 := rfl
      unfold jdec
      rw [e, h.rf (by omega), h.ac (by omega), h.to _ (by omega)]
    · unfold jstep
      rw [if_neg z, if_neg z]
/-- closed plans are the same -/
def eC (σ τ : gS) : Prop := ∀ p, p < nP σ → clo σ p = true → eqB σ τ p
theorem eqP.c {σ τ : gS} (h : eqP σ τ) : eC σ τ := fun p _ _ => h.b p
theorem WfS.cg {σ τ : gS} (h : WfS σ) (hP : WfP σ) (hC : eC σ τ) (hn : nP σ ≤ nP τ) (hs : τ.1 0 0 1 = σ.1 0 0 1) (hk : ∀ k j, 14 ≤ k → k ≤ 17 → τ.1 k 0 j = σ.1 k 0 j) : WfS τ := by
  have e : nS τ = nS σ := by unfold nS; rw [hs]
  unfold WfS
  rw [e, hs]
  refine ⟨h.1, h.2.1, fun s hs => ?_, fun s h1 h2 => by rw [hk 16 s (by decide) (by decide), hk 17 s (by decide) (by decide)]; exact h.2.2.2 s h1 h2⟩
  obtain ⟨a1, a2, a3, a4, a5⟩ := h.2.2.1 s hs
  have e1 : rl τ s = rl σ s := by unfold rl; rw [hk 15 s (by decide) (by decide)]
  have e2 : rn τ s = rn σ s := by unfold rn; rw [hk 17 s (by decide) (by decide)]
  have e3 : ∀ j, pO τ s j = pO σ s j := fun j => by unfold pO; rw [hk 14 _ (by decide) (by decide)]
  unfold WfS1
  rw [e1, e2, hk 15 s (by decide) (by decide), hk 17 s (by decide) (by decide)]
  refine ⟨a1, a2, fun j hj => ?_, a4, a5⟩
  obtain ⟨b1, b2, b3⟩ := a3 j hj
  rw [e3, hk 14 _ (by decide) (by decide)]
  exact ⟨b1, by omega, by rw [(hC _ b2 b3).cl (hP.2.2 _ b2).2.1]; exact b3⟩
theorem itm.cg {σ τ : gS} (hk : ∀ k j, 19 ≤ k → k ≤ 24 → τ.1 k 0 j = σ.1 k 0 j) (q k : Nat) : itm τ q k = itm σ q k := by unfold itm; rw [hk 24 _ (by decide) (by decide)]
theorem lot.cg {σ τ : gS} (hk : ∀ k j, 19 ≤ k → k ≤ 24 → τ.1 k 0 j = σ.1 k 0 j) (q : Nat) : lSu τ q = lSu σ q ∧ lSz τ q = lSz σ q ∧ lPl τ q = lPl σ q ∧ lRu τ q = lRu σ q ∧ lSn τ q = lSn σ q := by
  unfold lSu lSz lPl lRu lSn
  rw [hk 19 q (by decide) (by decide), hk 20 q (by decide) (by decide), hk 21 q (by decide) (by decide), hk 22 q (by decide) (by decide), hk 23 q (by decide) (by decide)]
  exact ⟨rfl, rfl, rfl, rfl, rfl⟩
theorem jq.cg {σ τ : gS} (hP : WfP σ) (hC : eC σ τ) (hk : ∀ k j, 19 ≤ k → k ≤ 24 → τ.1 k 0 j = σ.1 k 0 j) {q : Nat} (h : WfL1 σ q) : jq τ q = jq σ q := by
  obtain ⟨-, -, e3, -, e5⟩ := lot.cg hk q
  show jd τ q (lPl τ q) (lSn τ q) = jd σ q (lPl σ q) (lSn σ q)
  rw [e3, e5]
  exact (hC _ h.2.2.2.2.2.1 h.2.2.2.2.2.2.1).jdE (hP.2.2 _ h.2.2.2.2.2.1) h.2.2.2.2.2.2.1 (n := lSn σ q) (fun k _ => itm.cg hk q k) _ (Nat.le_refl _)
theorem WfL1.cg {σ τ : gS} {q : Nat} (h : WfL1 σ q) (hP : WfP σ) (hC : eC σ τ) (hn : nP σ ≤ nP τ) (hs : nS σ ≤ nS τ) (hk : ∀ k j, 19 ≤ k → k ≤ 24 → τ.1 k 0 j = σ.1 k 0 j) : WfL1 τ q := by
  obtain ⟨e1, e2, e3, e4, e5⟩ := lot.cg hk q
  unfold WfL1
  rw [jq.cg hP hC hk h, e1, e2, e3, e4, e5, hk 19 q (by decide) (by decide), hk 20 q (by decide) (by decide), hk 21 q (by decide) (by decide), hk 22 q (by decide) (by decide), hk 23 q (by decide) (by decide)]
  obtain ⟨a1, a2, a3, a4, a5, a6, a7, a8, a9, a10, a11⟩ := h
  refine ⟨a1, by omega, a3, a4, a5, by omega, by rw [(hC _ a6 a7).cl (hP.2.2 _ a6).2.1]; exact a7, a8, a9, fun k hk2 => ?_, a11⟩
  rw [hk 24 _ (by decide) (by decide), itm.cg hk q k]; exact a10 k hk2
theorem WfL.cg {σ τ : gS} (h : WfL σ) (hP : WfP σ) (hC : eC σ τ) (hn : nP σ ≤ nP τ) (hs : nS σ ≤ nS τ) (hl : τ.1 0 0 2 = σ.1 0 0 2) (hk : ∀ k j, 19 ≤ k → k ≤ 24 → τ.1 k 0 j = σ.1 k 0 j) : WfL τ := by
  have e : nL τ = nL σ := by unfold nL; rw [hl]
  unfold WfL
  rw [e, hl]
  exact ⟨h.1, h.2.1, fun q hq => (h.2.2 q hq).cg hP hC hn hs hk⟩
theorem SR.cg {σ τ : gS} {s : Nat} (h : SR σ s) (h1 : ∀ k j, 14 ≤ k → k ≤ 18 → τ.1 k 0 j = σ.1 k 0 j) (h2 : ∀ k j, 57 ≤ k → k ≤ 59 → τ.1 k s j = σ.1 k s j) : SR τ s := by
  have e2 : rn τ s = rn σ s := by unfold rn; rw [h1 17 s (by decide) (by decide)]
  unfold SR
  rw [e2, h2 57 2 (by decide) (by decide), h2 57 3 (by decide) (by decide), h2 57 4 (by decide) (by decide), h1 17 s (by decide) (by decide), h1 15 s (by decide) (by decide), h1 16 s (by decide) (by decide)]
  refine ⟨h.1, h.2.1, h.2.2.1, fun j hj => ?_, fun k hk => ?_⟩
  · rw [h2 58 j (by decide) (by decide), h1 14 _ (by decide) (by decide)]; exact h.2.2.2.1 j hj
  · rw [h2 59 k (by decide) (by decide), h1 18 _ (by decide) (by decide)]; exact h.2.2.2.2 k hk
theorem LR.cg {σ τ : gS} {q : Nat} (h : LR σ q) (hL : WfL1 σ q) (hP : WfP σ) (hC : eC σ τ) (hk : ∀ k j, 19 ≤ k → k ≤ 24 → τ.1 k 0 j = σ.1 k 0 j) (h2 : ∀ k j, 60 ≤ k → k ≤ 62 → τ.1 k q j = σ.1 k q j) : LR τ q := by
  obtain ⟨e1, e2, e3, e4, e5⟩ := lot.cg hk q
  have ei : itm τ q = itm σ q := funext (itm.cg hk q)
  unfold LR LZ
  rw [jq.cg hP hC hk hL, e1, e2, e3, e4, e5, ei, h2 60 0 (by decide) (by decide), h2 60 1 (by decide) (by decide), h2 60 3 (by decide) (by decide), h2 60 4 (by decide) (by decide), h2 60 9 (by decide) (by decide), h2 60 7 (by decide) (by decide), h2 60 8 (by decide) (by decide)]
  obtain ⟨a1, a2, a3, a4, ⟨a5, a6, a7, a8⟩, a9⟩ := h
  refine ⟨a1, a2, a3, a4, ⟨a5, a6, a7, fun v hv => ?_⟩, fun k hk2 => ?_⟩
  · rw [h2 62 v (by decide) (by decide)]; exact a8 v hv
  · rw [h2 61 k (by decide) (by decide)]; exact a9 k hk2
theorem cnt_cg {P Q : Nat → Bool} {n : Nat} (h : ∀ k, k < n → P k = Q k) : cnt P n = cnt Q n := by
  induction n with
  | zero => rfl
  | succ n ih => show cnt P n + (if P n then 1 else 0) = cnt Q n + (if Q n then 1 else 0); rw [ih (fun k hk => h k (by omega)), h n (by omega)]
theorem RN.cg {σ τ : gS} (h : RN σ) (hL : WfL σ) (hP : WfP σ) (hC : eC σ τ) (hs : τ.1 0 0 1 = σ.1 0 0 1) (hl : τ.1 0 0 2 = σ.1 0 0 2) (h17 : ∀ j, τ.1 17 0 j = σ.1 17 0 j) (hk : ∀ k j, 19 ≤ k → k ≤ 24 → τ.1 k 0 j = σ.1 k 0 j) : RN τ := by
  have e1 : nS τ = nS σ := by unfold nS; rw [hs]
  have e2 : nL τ = nL σ := by unfold nL; rw [hl]
  unfold RN
  rw [e1, e2]
  intro s hs
  have e3 : rn τ s = rn σ s := by unfold rn; rw [h17 s]
  rw [e3, cnt_cg (Q := fun q => decide (lSu σ q = s) && !decide ((jq σ q).1 = 0)) (fun q hq => by rw [jq.cg hP hC hk (hL.2.2 q hq), (lot.cg hk q).1])]
  exact h s hs
theorem WfR.cg {σ τ : gS} (h : WfR σ) (hk : ∀ k j, 10 ≤ k → k ≤ 13 → τ.1 k 0 j = σ.1 k 0 j) : WfR τ := by
  intro r hr
  have e1 : isRk τ r = isRk σ r := by unfold isRk; rw [hk 13 r (by decide) (by decide)]
  have e2 : rAt τ r = rAt σ r := by unfold rAt; rw [hk 10 r (by decide) (by decide)]
  have e3 : rUp τ r = rUp σ r := by unfold rUp; rw [hk 11 r (by decide) (by decide)]
  have e4 : rDn τ r = rDn σ r := by unfold rDn; rw [hk 12 r (by decide) (by decide)]
  rw [e1, e2, e3, e4, hk 13 r (by decide) (by decide), hk 10 r (by decide) (by decide), hk 11 r (by decide) (by decide), hk 12 r (by decide) (by decide)]
  exact h r hr
theorem RK.cg {σ τ : gS} {r : Nat} (h : RK σ r) (hk : ∀ k j, 10 ≤ k → k ≤ 13 → τ.1 k 0 j = σ.1 k 0 j) (h9 : ∀ j, τ.1 49 r j = σ.1 49 r j) : RK τ r := by
  have e1 : isRk τ r = isRk σ r := by unfold isRk; rw [hk 13 r (by decide) (by decide)]
  have e2 : rAt τ r = rAt σ r := by unfold rAt; rw [hk 10 r (by decide) (by decide)]
  have e3 : rUp τ r = rUp σ r := by unfold rUp; rw [hk 11 r (by decide) (by decide)]
  have e4 : rDn τ r = rDn σ r := by unfold rDn; rw [hk 12 r (by decide) (by decide)]
  have e5 : cRd τ r = cRd σ r := by unfold cRd; rw [h9 1]
  have e6 : cRu τ r = cRu σ r := by unfold cRu; rw [h9 2]
  have e7 : cRn τ r = cRn σ r := by unfold cRn; rw [h9 3]
  unfold RK
  rw [e1, e2, e3, e4, e5, e6, e7, h9 0, h9 1, h9 2, h9 3]
  exact h
theorem WfP.cg {σ τ : gS} (h : WfP σ) (hE : eqP σ τ) (h0 : τ.1 0 0 0 = σ.1 0 0 0) : WfP τ := by
  have e : nP τ = nP σ := by unfold nP; rw [h0]
  unfold WfP
  rw [e, h0]
  exact ⟨h.1, h.2.1, fun p hp => (hE.b p).wf (h.2.2 p hp)⟩
theorem DK.cg {B : gB} {σ τ : gS} (h : DK B σ) (h0 : ∀ j, j < 3 → τ.1 0 0 j = σ.1 0 0 j) (h4 : ∀ j, τ.1 40 0 j = σ.1 40 0 j) : DK B τ := by
  unfold DK nP nS nL at *
  rw [h0 0 (by decide), h0 1 (by decide), h0 2 (by decide), h4 3, h4 7, h4 9]
  exact h
