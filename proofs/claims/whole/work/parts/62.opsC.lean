/-! item, undo, correct keep what holds -/
theorem sI_same {σ : gS} {k i j : Nat} {v : Int32} (h : σ.1 k i j = v) : sI σ k i j v = σ := by
  refine Prod.ext ?_ rfl
  funext a b c
  rw [sI_at]
  by_cases z : a = k ∧ b = i ∧ c = j
  · rw [if_pos z, z.1, z.2.1, z.2.2, h]
  · rw [if_neg z]
theorem sI_comm {σ : gS} {k i j k' i' j' : Nat} {v v' : Int32} (h : k ≠ k') : sI (sI σ k i j v) k' i' j' v' = sI (sI σ k' i' j' v') k i j v := by
  refine Prod.ext ?_ rfl
  funext a b c
  rw [sI_at, sI_at, sI_at, sI_at]
  by_cases z : a = k ∧ b = i ∧ c = j
  · rw [if_neg (fun w => h (z.1.symm.trans w.1)), if_pos z, if_pos z]
  · rw [if_neg z, if_neg z]
theorem ccA_put {σ : gS} {k i j s a : Nat} {v : Int32} (h1 : k ≠ 57) (h2 : k ≠ 59) : ccA (sI σ k i j v) s a = sI (ccA σ s a) k i j v := by
  have e : crn (sI σ k i j v) s = crn σ s := by unfold crn; rw [sI_at, if_neg (fun z => h1 z.1.symm)]
  unfold ccA
  rw [e, sI_comm h2, sI_comm h1]
theorem crv_put {σ : gS} {k i j s : Nat} {v : Int32} (h1 : k ≠ 57) (h2 : k ≠ 59) : crv (sI σ k i j v) s = crv σ s := by
  funext x
  have e : crn (sI σ k i j v) s = crn σ s := by unfold crn; rw [sI_at, if_neg (fun z => h1 z.1.symm)]
  have e9 : (sI σ k i j v).1 59 s (crn σ s - 1 - x) = σ.1 59 s (crn σ s - 1 - x) := by rw [sI_at, if_neg (fun z => h2 z.1.symm)]
  unfold crv
  rw [e, e9]
theorem ccv_put {σ : gS} {k i j s a : Nat} {v : Int32} (h1 : k ≠ 57) (h2 : k ≠ 59) : ccv (sI σ k i j v) s a = sI (ccv σ s a) k i j v := by
  have e : crl (sI σ k i j v) s = crl σ s := by unfold crl; rw [sI_at, if_neg (fun z => h1 z.1.symm)]
  have e4 : (sI σ k i j v).1 57 s 4 = σ.1 57 s 4 := by rw [sI_at, if_neg (fun z => h1 z.1.symm)]
  unfold ccv
  rw [e, e4, ccA_put h1 h2, crv_put h1 h2]
  split
  · rfl
  · rw [sI_comm h1, sI_comm h1, sI_comm h1]
theorem cnt_lt2 {P Q : Nat → Bool} {n q : Nat} (hq : q < n) (h : ∀ k, k < n → P k = true → Q k = true) (hp : P q = false) (hQ : Q q = true) : cnt P n + 1 ≤ cnt Q n := by
  induction n with
  | zero => omega
  | succ n ih =>
    show cnt P n + (if P n then 1 else 0) + 1 ≤ cnt Q n + (if Q n then 1 else 0)
    by_cases e : q = n
    · subst e
      rw [hp, hQ]
      have := cnt_le2 (P := P) (Q := Q) (n := q) (fun k hk => h k (by omega))
      simp; omega
    · have h1 := ih (by omega) (fun k hk => h k (by omega))
      by_cases z : P n = true
      · rw [if_pos z, if_pos (h n (by omega) z)]; omega
      · rw [if_neg z]; omega
theorem jstep_eqP {σ τ : gS} (h : eqP σ τ) (p : Nat) (t : jT) (v : Nat) : jstep τ p t v = jstep σ p t v := by
  unfold jstep jdec
  rw [h.rf, h.to, h.ac]
theorem jd_at (σ : gS) (q p : Nat) : ∀ n, jd σ q p (jd σ q p n).2.1 = jd σ q p n
  | 0 => rfl
  | n + 1 => by
    by_cases h : (jd σ q p n).1 = 0
    · have h2 : (jd σ q p (n + 1)).2.1 = n + 1 := by
        rw [jd_s h, (jdec_cnt _ _ _ _).1]
        show (jd σ q p n).2.1 + 1 = n + 1
        rw [jd_cnt h]
      rw [h2]
    · rw [jd_fix h (Nat.le_succ n)]; exact jd_at σ q p n
theorem RI_lot1 {B : gB} {σ τ : gS} {q m : Nat} (g : Nat → Nat) (t : jT) (h : RI B σ) (hq : q < nL σ) (h0 : (jq σ q).1 = 0) (e1 : ∀ k i j, ¬ (i = q ∧ ((k = 60 ∧ 7 ≤ j) ∨ k = 61 ∨ k = 62)) → ¬ (k = 23 ∧ i = 0 ∧ j = q) → ¬ (k = 24 ∧ i = 0 ∧ 60 * q ≤ j ∧ j < 60 * q + 60) → τ.1 k i j = σ.1 k i j) (eJ : τ.2 = σ.2) (hm : m ≤ 60) (c23 : τ.1 23 0 q = nI m) (c24 : ∀ k, k < m → τ.1 24 0 (60 * q + k) = nI (g k) ∧ g k ≤ 3) (c61 : ∀ k, k < m → τ.1 61 q k = nI (g k)) (ht : jd τ q (lPl σ q) m = t) (hm2 : t.2.1 = m) (hZ : LZ τ q t (itm τ q)) :
    RI B τ ∧ jq τ q = t ∧ (t.1 ≠ 0 → rn τ (lSu σ q) + 1 ≤ cnt (fun q' => decide (lSu τ q' = lSu σ q) && !decide ((jq τ q').1 = 0)) (nL τ)) := by
  have hL1 := h.L.2.2 q hq
  have hLR := h.lr hq
  have nPt : τ.1 0 0 0 = σ.1 0 0 0 := e1 0 0 0 (by omega) (by omega) (by omega)
  have nSt : τ.1 0 0 1 = σ.1 0 0 1 := e1 0 0 1 (by omega) (by omega) (by omega)
  have nLt : τ.1 0 0 2 = σ.1 0 0 2 := e1 0 0 2 (by omega) (by omega) (by omega)
  have ePn : nP τ = nP σ := by unfold nP; rw [nPt]
  have eSn : nS τ = nS σ := by unfold nS; rw [nSt]
  have eLn : nL τ = nL σ := by unfold nL; rw [nLt]
  have hE : eqP σ τ := fun k j _ _ => e1 _ _ _ (by omega) (by omega) (by omega)
  have hL : ∀ q', q' ≠ q → eqL σ τ q' := fun q' hne => ⟨fun k _ _ => e1 _ _ _ (by omega) (by omega) (by omega), fun k _ => e1 _ _ _ (by omega) (by omega) (by omega)⟩
  have f : ∀ k, 19 ≤ k → k ≤ 22 → τ.1 k 0 q = σ.1 k 0 q := fun k _ _ => e1 _ _ _ (by omega) (by omega) (by omega)
  have l1 : lSu τ q = lSu σ q := by unfold lSu; rw [f 19 (by decide) (by decide)]
  have l2 : lSz τ q = lSz σ q := by unfold lSz; rw [f 20 (by decide) (by decide)]
  have l3 : lPl τ q = lPl σ q := by unfold lPl; rw [f 21 (by decide) (by decide)]
  have l4 : lRu τ q = lRu σ q := by unfold lRu; rw [f 22 (by decide) (by decide)]
  have l5 : lSn τ q = m := by unfold lSn; rw [c23]; exact nI_clamp (by omega)
  have lj : jq τ q = t := by unfold jq; rw [l3, l5]; exact ht
  have li : ∀ k, k < m → itm τ q k = g k := fun k hk => by unfold itm; rw [(c24 k hk).1]; exact nI_clamp (by have := (c24 k hk).2; omega)
  have hcnt : ∀ s, ∀ q', q' < nL σ → (decide (lSu σ q' = s) && !decide ((jq σ q').1 = 0)) = true → (decide (lSu τ q' = s) && !decide ((jq τ q').1 = 0)) = true := fun s q' hq' hd => by
    by_cases z : q' = q
    · subst z
      rw [decide_eq_true h0, Bool.not_true, Bool.and_false] at hd
      exact absurd hd (by decide)
    · rw [(hL q' z).j h.P hE.c (h.L.2.2 q' hq'), (hL q' z).l.1]; exact hd
  have hrn : ∀ s, rn τ s = rn σ s := fun s => by unfold rn; rw [e1 17 0 s (by omega) (by omega) (by omega)]
  refine ⟨RI.mk h.M h.C (h.D.cg (fun j _ => e1 _ _ _ (by omega) (by omega) (by omega)) (fun j => e1 _ _ _ (by omega) (by omega) (by omega))) (h.kP hE nPt (fun k i j _ _ => e1 _ _ _ (by omega) (by omega) (by omega)) (fun i j => by rw [eJ])) (h.Ch.cg (fun _ => by rw [eJ])) (h.W.cg (fun _ _ => by rw [eJ])) (h.kR (fun k j _ _ => e1 _ _ _ (by omega) (by omega) (by omega)) (fun r j => e1 _ _ _ (by omega) (by omega) (by omega))) (h.kQ (by rw [eJ]) (by rw [eJ]) (fun _ => by rw [eJ])) (h.kS hE.c (Nat.le_of_eq ePn.symm) nSt (fun k j _ _ => e1 _ _ _ (by omega) (by omega) (by omega)) (fun k i j _ _ _ => e1 _ _ _ (by omega) (by omega) (by omega))) ⟨⟨by rw [nLt, eLn]; exact h.L.1, by rw [eLn]; exact h.L.2.1, fun q' hq' => ?_⟩, fun q' hq' => ?_, fun s hs => ?_⟩ (fun w hw => by rw [e1 48 0 w (by omega) (by omega) (by omega), e1 25 0 w (by omega) (by omega) (by omega)]; exact h.co hw), lj, fun hd => ?_⟩
  · rw [eLn] at hq'
    by_cases z : q' = q
    · subst z
      unfold WfL1
      rw [l1, l2, l3, l4, l5, lj, ePn, eSn, hE.cl, f 19 (by decide) (by decide), f 20 (by decide) (by decide), f 21 (by decide) (by decide), f 22 (by decide) (by decide), c23]
      obtain ⟨a1, a2, a3, a4, a5, a6, a7, a8, a9, a10, a11⟩ := hL1
      exact ⟨a1, a2, a3, a4, a5, a6, a7, rfl, hm, fun k hk => by rw [li k hk]; exact c24 k hk, hm2⟩
    · exact (hL q' z).wf (h.L.2.2 q' hq') h.P hE.c (Nat.le_of_eq ePn.symm) (Nat.le_of_eq eSn.symm)
  · rw [eLn] at hq'
    by_cases z : q' = q
    · subst z
      unfold LR
      rw [l1, l2, l3, l4, l5, lj, e1 60 q' 0 (by omega) (by omega) (by omega), e1 60 q' 1 (by omega) (by omega) (by omega), e1 60 q' 3 (by omega) (by omega) (by omega), e1 60 q' 4 (by omega) (by omega) (by omega)]
      exact ⟨hLR.1, hLR.2.1, hLR.2.2.1, hLR.2.2.2.1, hZ, fun k hk => by rw [li k hk]; exact c61 k hk⟩
    · exact (hL q' z).lr (h.lr hq') (h.L.2.2 q' hq') h.P hE.c (fun k j _ _ => e1 _ _ _ (by omega) (by omega) (by omega))
  · rw [eSn] at hs
    rw [hrn, eLn]
    exact Nat.le_trans (h.rn s hs) (cnt_le2 (hcnt s))
  · rw [hrn, eLn]
    have h9 := h.rn (lSu σ q) hL1.2.1
    have h8 := cnt_lt2 (P := fun q' => decide (lSu σ q' = lSu σ q) && !decide ((jq σ q').1 = 0)) (Q := fun q' => decide (lSu τ q' = lSu σ q) && !decide ((jq τ q').1 = 0)) hq (hcnt (lSu σ q)) (by simp [h0]) (by rw [lj, l1, decide_eq_true rfl, decide_eq_false hd]; rfl)
    omega
theorem ccv_M (σ : gS) (s a : Nat) : eM σ (ccv σ s a) := eM.mk (fun k i j hk => ccv_off (by omega)) (fun k i j _ => by rw [ccv_J])
theorem RI_rcv {B : gB} {σ : gS} {s a : Nat} (h : RI B σ) (hs : s < nS σ) (ha : a ≤ 2) (hn : rn σ s + 1 ≤ cnt (fun q' => decide (lSu σ q' = s) && !decide ((jq σ q').1 = 0)) (nL σ)) : RI B (rcv (ccv σ s a) s a) := by
  have hS1 := h.S.2.2.1 s hs
  have hSR := h.sr hs
  have hcs := hSR.cs hS1
  have h60 := h.L.2.1
  have hc60 := cnt_le (fun q' => decide (lSu σ q' = s) && !decide ((jq σ q').1 = 0)) (nL σ)
  have hM := ccv_M σ s a
  obtain ⟨R, hR⟩ : ∃ R, R = rn σ s := ⟨_, rfl⟩
  have hR60 : R < 60 := by omega
  have crn_e : crn σ s = R := by rw [hcs.2.1, hR]
  generalize hσ1 : ccv σ s a = σ1 at *
  have rn1 : rn σ1 s = R := by rw [hR]; unfold rn; rw [(hM 17 0 s (by decide)).1]
  have rl1 : rl σ1 s = rl σ s := by unfold rl; rw [(hM 15 0 s (by decide)).1]
  -- the same RUN
  have hrv : rv (rcA σ1 s a) s = crv (ccA σ s a) s := by
    funext k
    have e1 : rn (rcA σ1 s a) s = R + 1 := by rw [rn_rcA (by omega), rn1]
    have e2 : crn (ccA σ s a) s = R + 1 := by rw [ccA_n (by omega), crn_e]
    have h18 : ∀ j, (rcA σ1 s a).1 18 0 j = if j = 60 * s + R then nI a else σ1.1 18 0 j := fun j => by
      unfold rcA
      rw [rn1, sI_at, if_neg (by omega), sI_at]
      by_cases w : j = 60 * s + R
      · rw [if_pos ⟨rfl, rfl, w⟩, if_pos w]
      · rw [if_neg (fun q => w q.2.2), if_neg w]
    have h59 : ∀ j, (ccA σ s a).1 59 s j = if j = R then nI a else σ.1 59 s j := fun j => by
      unfold ccA
      rw [crn_e, sI_at, if_neg (by omega), sI_at]
      by_cases w : j = R
      · rw [if_pos ⟨rfl, rfl, w⟩, if_pos w]
      · rw [if_neg (fun q => w q.2.2), if_neg w]
    unfold rv crv
    rw [e1, e2, h18, h59]
    by_cases z : k < R + 1
    · rw [if_pos z, if_pos z]
      by_cases w : k = 0
      · rw [if_pos (by omega), if_pos (by omega)]
      · rw [if_neg (by omega), if_neg (by omega), (hM 18 0 _ (by decide)).1, show 60 * s + (R + 1) - 1 - k = 60 * s + (R + 1 - 1 - k) by omega]
        exact (hSR.2.2.2.2 _ (by omega)).symm
    · rw [if_neg z, if_neg z]
  obtain ⟨nx, hnx⟩ : ∃ nx, nx = nxr (rl σ s) a (crv (ccA σ s a) s) := ⟨_, rfl⟩
  have nx2 : nx ≤ 2 := by rw [hnx]; exact nxr_le _ _ _
  have hE0 : ∀ k i j, ¬ (i = s ∧ (k = 57 ∨ k = 59)) → σ1.1 k i j = σ.1 k i j := fun k i j z => by rw [← hσ1]; exact ccv_off z
  have hJ1 : σ1.2 = σ.2 := by rw [← hσ1]; exact ccv_J σ s a
  -- what both sides come to, by cells
  have key : ∃ (r' w' c' : Int32), (r' = nI (R + 1) ∧ w' = nI (rl σ s) ∧ c' = σ.1 16 0 s ∨ r' = nI 0 ∧ w' = nI nx ∧ c' = σ.1 16 0 s + nI 1) ∧ σ1.1 57 s 2 = r' ∧ σ1.1 57 s 3 = w' ∧ σ1.1 57 s 4 = c' ∧ (∀ j, σ1.1 59 s j = if j = R then nI a else σ.1 59 s j) ∧ (rcv σ1 s a).1 17 0 s = r' ∧ (rcv σ1 s a).1 15 0 s = w' ∧ (rcv σ1 s a).1 16 0 s = c' ∧ (∀ k i j, ¬ (k = 18 ∧ i = 0 ∧ j = 60 * s + R) → ¬ (15 ≤ k ∧ k ≤ 17 ∧ i = 0 ∧ j = s) → (rcv σ1 s a).1 k i j = σ1.1 k i j) ∧ (rcv σ1 s a).1 18 0 (60 * s + R) = nI a ∧ (rcv σ1 s a).2 = σ1.2 := by
    have k59 : ∀ j, (ccA σ s a).1 59 s j = if j = R then nI a else σ.1 59 s j := fun j => by
      unfold ccA
      rw [crn_e, sI_at, if_neg (by omega), sI_at]
      by_cases w : j = R
      · rw [if_pos ⟨rfl, rfl, w⟩, if_pos w]
      · rw [if_neg (fun q => w q.2.2), if_neg w]
    have off : ∀ k i j, ¬ (k = 18 ∧ i = 0 ∧ j = 60 * s + R) → ¬ (15 ≤ k ∧ k ≤ 17 ∧ i = 0 ∧ j = s) → (rcA σ1 s a).1 k i j = σ1.1 k i j := fun k i j z1 z2 => by
      unfold rcA
      rw [rn1, sI_at, if_neg (by omega), sI_at, if_neg z1]
    have o18 : (rcA σ1 s a).1 18 0 (60 * s + R) = nI a := by
      unfold rcA
      rw [rn1, sI_at, if_neg (by omega), sI_at, if_pos ⟨rfl, rfl, rfl⟩]
    by_cases c : nx = rl σ s
    · have hc1 : σ1 = ccA σ s a := by rw [← hσ1]; unfold ccv; rw [hcs.2.2, if_pos (by rw [← hnx]; exact c)]
      have hc2 : rcv σ1 s a = rcA σ1 s a := rcv_same (by rw [rl1, hrv, ← hnx]; exact c)
      refine ⟨nI (R + 1), nI (rl σ s), σ.1 16 0 s, Or.inl ⟨rfl, rfl, rfl⟩, ?_, ?_, ?_, fun j => ?_, ?_, ?_, ?_, ?_, ?_, ?_⟩
      · rw [hc1, ccA_2, crn_e]
      · rw [hc1, ccA_3, hSR.2.1]; exact hS1.1
      · rw [hc1, ccA_4]; exact hSR.2.2.1
      · rw [hc1]; exact k59 j
      · rw [hc2]; unfold rcA; rw [rn1, sI_at, if_pos ⟨rfl, rfl, rfl⟩]
      · rw [hc2, rcA_15, (hM 15 0 s (by decide)).1]; exact hS1.1
      · rw [hc2, rcA_16, (hM 16 0 s (by decide)).1]
      · rw [hc2]; exact off
      · rw [hc2]; exact o18
      · rw [hc2]; rfl
    · have hc1 : σ1 = sI (sI (sI (ccA σ s a) 57 s 3 (nI nx)) 57 s 4 (σ.1 57 s 4 + nI 1)) 57 s 2 (nI 0) := by rw [← hσ1]; unfold ccv; rw [hcs.2.2, if_neg (by rw [← hnx]; exact c), ← hnx]
      have hc2 : rcv σ1 s a = sI (sI (sI (rcA σ1 s a) 15 0 s (nI nx)) 16 0 s (σ1.1 16 0 s + nI 1)) 17 0 s (nI 0) := by
        rw [rcv_new (by rw [rl1, hrv, ← hnx]; exact c), rl1, hrv, ← hnx]
      refine ⟨nI 0, nI nx, σ.1 16 0 s + nI 1, Or.inr ⟨rfl, rfl, rfl⟩, ?_, ?_, ?_, fun j => ?_, ?_, ?_, ?_, fun k i j z1 z2 => ?_, ?_, ?_⟩
      · rw [hc1, sI_at, if_pos ⟨rfl, rfl, rfl⟩]
      · rw [hc1, sI_at, if_neg (by omega), sI_at, if_neg (by omega), sI_at, if_pos ⟨rfl, rfl, rfl⟩]
      · rw [hc1, sI_at, if_neg (by omega), sI_at, if_pos ⟨rfl, rfl, rfl⟩, hSR.2.2.1]
      · rw [hc1, sI_at, if_neg (by omega), sI_at, if_neg (by omega), sI_at, if_neg (by omega)]; exact k59 j
      · rw [hc2, sI_at, if_pos ⟨rfl, rfl, rfl⟩]
      · rw [hc2, sI_at, if_neg (by omega), sI_at, if_neg (by omega), sI_at, if_pos ⟨rfl, rfl, rfl⟩]
      · rw [hc2, sI_at, if_neg (by omega), sI_at, if_pos ⟨rfl, rfl, rfl⟩, (hM 16 0 s (by decide)).1]
      · rw [hc2, sI_at, if_neg (by omega), sI_at, if_neg (by omega), sI_at, if_neg (by omega)]; exact off k i j z1 z2
      · rw [hc2, sI_at, if_neg (by omega), sI_at, if_neg (by omega), sI_at, if_neg (by omega)]; exact o18
      · rw [hc2]; rfl
  obtain ⟨r', w', c', hopt, k2, k3, k4, k59, m17, m15, m16, moff, m18, mJ⟩ := key
  generalize rcv σ1 s a = τ at *
  have eJ : τ.2 = σ.2 := by rw [mJ, hJ1]
  have e2 : ∀ k i j, ¬ (i = s ∧ (k = 57 ∨ k = 59)) → ¬ (k = 18 ∧ i = 0 ∧ j = 60 * s + R) → ¬ (15 ≤ k ∧ k ≤ 17 ∧ i = 0 ∧ j = s) → τ.1 k i j = σ.1 k i j := fun k i j z1 z2 z3 => by rw [moff k i j z2 z3, hE0 k i j z1]
  have nPt : τ.1 0 0 0 = σ.1 0 0 0 := e2 _ _ _ (by omega) (by omega) (by omega)
  have nSt : τ.1 0 0 1 = σ.1 0 0 1 := e2 _ _ _ (by omega) (by omega) (by omega)
  have nLt : τ.1 0 0 2 = σ.1 0 0 2 := e2 _ _ _ (by omega) (by omega) (by omega)
  have ePn : nP τ = nP σ := by unfold nP; rw [nPt]
  have eSn : nS τ = nS σ := by unfold nS; rw [nSt]
  have eLn : nL τ = nL σ := by unfold nL; rw [nLt]
  have hE : eqP σ τ := fun k j _ _ => e2 _ _ _ (by omega) (by omega) (by omega)
  have hk : ∀ k j, 19 ≤ k → k ≤ 24 → τ.1 k 0 j = σ.1 k 0 j := fun k j _ _ => e2 _ _ _ (by omega) (by omega) (by omega)
  have h8 := h.S.2.1
  have hS : ∀ s', s' ≠ s → eqS σ τ s' := fun s' hne => ⟨fun k _ _ => e2 _ _ _ (by omega) (by omega) (by omega), fun j hj => e2 _ _ _ (by omega) (by omega) (by omega), fun k _ => e2 _ _ _ (by omega) (by omega) (by omega)⟩
  have rnt : rn τ s = r'.toNatClampNeg := by unfold rn; rw [m17]
  have rlt : rl τ s = w'.toNatClampNeg := by unfold rl; rw [m15]
  have hr2 : rn τ s ≤ R + 1 ∧ τ.1 17 0 s = nI (rn τ s) ∧ τ.1 15 0 s = nI (rl τ s) ∧ rl τ s ≤ 2 := by
    rcases hopt with ⟨o1, o2, o3⟩ | ⟨o1, o2, o3⟩
    · rw [rnt, rlt, m17, m15, o1, o2, nI_clamp (by omega), nI_clamp (by have := hS1.2.1; omega)]
      exact ⟨Nat.le_refl _, rfl, rfl, hS1.2.1⟩
    · rw [rnt, rlt, m17, m15, o1, o2, nI_clamp (by omega), nI_clamp (by omega)]
      exact ⟨by omega, rfl, rfl, nx2⟩
  refine RI.mk h.M h.C (h.D.cg (fun j _ => e2 _ _ _ (by omega) (by omega) (by omega)) (fun j => e2 _ _ _ (by omega) (by omega) (by omega))) (h.kP hE nPt (fun k i j _ _ => e2 _ _ _ (by omega) (by omega) (by omega)) (fun i j => by rw [eJ])) (h.Ch.cg (fun _ => by rw [eJ])) (h.W.cg (fun _ _ => by rw [eJ])) (h.kR (fun k j _ _ => e2 _ _ _ (by omega) (by omega) (by omega)) (fun r j => e2 _ _ _ (by omega) (by omega) (by omega))) (h.kQ (by rw [eJ]) (by rw [eJ]) (fun _ => by rw [eJ])) ⟨⟨by rw [nSt, eSn]; exact h.S.1, by omega, fun s' hs' => ?_, fun s' z1 z2 => ?_⟩, fun s' hs' => ?_⟩ ⟨h.L.cg h.P hE.c (Nat.le_of_eq ePn.symm) (Nat.le_of_eq eSn.symm) nLt hk, fun q hq => ?_, fun s' hs' => ?_⟩ (fun w hw => by rw [e2 48 0 w (by omega) (by omega) (by omega), e2 25 0 w (by omega) (by omega) (by omega)]; exact h.co hw)
  · rw [eSn] at hs'
    by_cases z : s' = s
    · subst z
      refine ⟨hr2.2.2.1, hr2.2.2.2, fun j hj => ?_, hr2.2.1, by omega⟩
      obtain ⟨b1, b2, b3⟩ := hS1.2.2.1 j hj
      have e14 : τ.1 14 0 (3 * s' + j) = σ.1 14 0 (3 * s' + j) := e2 _ _ _ (by omega) (by omega) (by omega)
      have e3 : pO τ s' j = pO σ s' j := by unfold pO; rw [e14]
      rw [e3, e14, ePn, hE.cl]
      exact ⟨b1, b2, b3⟩
    · exact (hS s' z).wf (h.S.2.2.1 s' hs') h.P hE.c (Nat.le_of_eq ePn.symm)
  · rw [eSn] at z1
    rw [e2 16 0 s' (by omega) (by omega) (by omega), e2 17 0 s' (by omega) (by omega) (by omega)]
    exact h.S.2.2.2 s' z1 z2
  · rw [eSn] at hs'
    by_cases z : s' = s
    · subst z
      unfold SR
      rw [moff 57 s' 2 (by omega) (by omega), moff 57 s' 3 (by omega) (by omega), moff 57 s' 4 (by omega) (by omega), k2, k3, k4, m17, m15, m16]
      refine ⟨rfl, rfl, rfl, fun j hj => ?_, fun k hk2 => ?_⟩
      · rw [e2 58 s' j (by omega) (by omega) (by omega), e2 14 0 _ (by omega) (by omega) (by omega)]; exact hSR.2.2.2.1 j hj
      · have hk3 : k ≤ R := by omega
        rw [moff 59 s' k (by omega) (by omega), k59]
        by_cases w : k = R
        · rw [if_pos w, w, m18]
        · rw [if_neg w, e2 18 0 _ (by omega) (by omega) (by omega)]; exact hSR.2.2.2.2 k (by omega)
    · exact (hS s' z).sr (h.sr hs') (h.S.2.2.1 s' hs').2.2.2.2 (fun k j _ _ => e2 _ _ _ (by omega) (by omega) (by omega))
  · rw [eLn] at hq
    exact (h.lr hq).cg (h.L.2.2 q hq) h.P hE.c hk (fun k j _ _ => e2 _ _ _ (by omega) (by omega) (by omega))
  · rw [eSn] at hs'
    rw [eLn, cnt_cg (Q := fun q => decide (lSu σ q = s') && !decide ((jq σ q).1 = 0)) (fun q hq => by rw [jq.cg h.P hE.c hk (h.L.2.2 q hq), (lot.cg hk q).1])]
    by_cases z : s' = s
    · subst z; exact Nat.le_trans hr2.1 (by rw [hR]; exact hn)
    · rw [(hS s' z).rnE]; exact h.rn s' hs'
