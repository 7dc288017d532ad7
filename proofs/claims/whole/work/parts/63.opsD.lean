/-! item, undo, correct -/
theorem LF.M {σ τ : gS} {q : Nat} (h : LF σ τ q) : eM σ τ := eM.mk (fun k i j hk => h.1 k i j (by omega)) (fun k i j _ => by rw [h.2])
theorem eM.tr {σ τ υ : gS} (h : eM σ τ) (h2 : eM τ υ) : eM σ υ := fun k i j hk => ⟨(h2 k i j hk).1.trans (h k i j hk).1, (h2 k i j hk).2.trans (h k i j hk).2⟩
theorem stl_M (σ : gS) (s a : Nat) : eM σ (stl σ s a) := by
  unfold stl
  split
  · exact fun k i j _ => ⟨rfl, rfl⟩
  · exact ccv_M σ s a
theorem eM.lot {σ τ : gS} (h : eM σ τ) (q : Nat) : lSu τ q = lSu σ q ∧ lPl τ q = lPl σ q ∧ lSn τ q = lSn σ q := by
  unfold lSu lPl lSn
  rw [(h 19 0 q (by decide)).1, (h 21 0 q (by decide)).1, (h 23 0 q (by decide)).1]
  exact ⟨rfl, rfl, rfl⟩
theorem RI_item {B : gB} {σ τ1 : gS} {q vn : Nat} (h : RI B σ) (hq : q < nL σ) (h0 : (jq σ q).1 = 0) (hv : vn ≤ 3) (hA : ITP σ τ1 q vn) : eM σ τ1 ∧ (jq (itUp τ1 q (nI vn)) q).1 = (jstep σ (lPl σ q) (jq σ q) vn).1 ∧ RI B (hrs (itUp τ1 q (nI vn)) q) := by
  obtain ⟨μ, hSEE, hτ1⟩ := hA
  have hL1 := h.L.2.2 q hq
  have hLR := h.lr hq
  have hP1 := h.P.2.2 _ hL1.2.2.2.2.2.1
  have hcl := hL1.2.2.2.2.2.2.1
  have hn60 := lSn_lt h.P hL1 h0
  have hLF := hSEE.1
  obtain ⟨hLZ, h61⟩ := hSEE.2.1 h0
  have hM : eM σ τ1 := by rw [hτ1]; exact hLF.M.tr (stl_M μ _ _)
  refine ⟨hM, ?_⟩
  have hcn : (jq σ q).2.1 = lSn σ q := hL1.2.2.2.2.2.2.2.2.2.2
  rw [hcn] at hLZ h61
  have hsn1 : lSn τ1 q = lSn σ q := (hM.lot q).2.2
  obtain ⟨n, hne⟩ : ∃ n, n = lSn σ q := ⟨_, rfl⟩
  have hit : itUp τ1 q (nI vn) = sI (sI τ1 24 0 (60 * q + n) (nI vn)) 23 0 q (nI (n + 1)) := by unfold itUp; rw [hsn1, ← hne]
  rw [hit]
  obtain ⟨t', ht'⟩ : ∃ t', t' = jstep σ (lPl σ q) (jq σ q) vn := ⟨_, rfl⟩
  have a2 : t'.1 ≤ 2 := by
    rw [ht']
    unfold jstep jdec
    rw [if_pos h0]
    split
    · exact Nat.le_refl 2
    · split
      · split
        · exact (by decide : 1 ≤ 2)
        · exact Nat.zero_le 2
      · show (jq σ q).1 ≤ 2; omega
  have hm2 : t'.2.1 = n + 1 := by
    rw [ht', jstep_u h0, (jdec_cnt _ _ _ _).1]
    show (jq σ q).2.1 + 1 = n + 1
    rw [hcn, hne]
  rw [← ht'] at hLZ hτ1 ⊢
  rw [← hne] at hLZ h61 hn60
  obtain ⟨ν, hν⟩ : ∃ ν, ν = sI (sI μ 24 0 (60 * q + n) (nI vn)) 23 0 q (nI (n + 1)) := ⟨_, rfl⟩
  have e1 : ∀ k i j, ¬ (i = q ∧ ((k = 60 ∧ 7 ≤ j) ∨ k = 61 ∨ k = 62)) → ¬ (k = 23 ∧ i = 0 ∧ j = q) → ¬ (k = 24 ∧ i = 0 ∧ j = 60 * q + n) → ν.1 k i j = σ.1 k i j := fun k i j z1 z2 z3 => by
    rw [hν, sI_at, if_neg z2, sI_at, if_neg z3]; exact hLF.1 k i j z1
  have c23 : ν.1 23 0 q = nI (n + 1) := by rw [hν, sI_at, if_pos ⟨rfl, rfl, rfl⟩]
  have c24 : ν.1 24 0 (60 * q + n) = nI vn := by rw [hν, sI_at, if_neg (by omega), sI_at, if_pos ⟨rfl, rfl, rfl⟩]
  have o60 : ∀ k j, 60 ≤ k → ν.1 k q j = μ.1 k q j := fun k j hk => by rw [hν, sI_at, if_neg (by omega), sI_at, if_neg (by omega)]
  have c24' : ∀ k, k < n → ν.1 24 0 (60 * q + k) = nI (itm σ q k) ∧ itm σ q k ≤ 3 := fun k hk => by
    rw [e1 24 0 _ (by omega) (by omega) (by omega)]; exact hL1.2.2.2.2.2.2.2.2.2.1 k (by omega)
  have hE : eqP σ ν := fun k j _ _ => e1 _ _ _ (by omega) (by omega) (by omega)
  have iN : ∀ k, k < n + 1 → itm ν q k = updN (itm σ q) n vn k := fun k hk => by
    unfold updN itm
    by_cases z : k = n
    · rw [if_pos z, z, c24]; exact nI_clamp (by omega)
    · rw [if_neg z, e1 24 0 _ (by omega) (by omega) (by omega)]
  have hj : jd ν q (lPl σ q) n = jq σ q := by
    rw [(hE.b _).jdE hP1 hcl (n := n) (fun k hk => by unfold itm; rw [e1 24 0 _ (by omega) (by omega) (by omega)]) n (Nat.le_refl _), hne]; rfl
  have hj1 : jd ν q (lPl σ q) (n + 1) = t' := by
    show jstep ν (lPl σ q) (jd ν q (lPl σ q) n) (itm ν q (jd ν q (lPl σ q) n).2.1) = t'
    rw [hj, hcn, ← hne, iN n (by omega), jstep_eqP hE, ht']
    unfold updN
    rw [if_pos rfl]
  have hZ : LZ ν q t' (itm ν q) := by
    refine ⟨by rw [o60 60 9 (by decide)]; exact hLZ.1, by rw [o60 60 7 (by decide)]; exact hLZ.2.1, by rw [o60 60 8 (by decide)]; exact hLZ.2.2.1, fun v hv4 => ?_⟩
    rw [o60 62 v (by decide), tal_cong (g := updN (itm σ q) n vn) (fun k hk => iN k (by omega))]
    exact hLZ.2.2.2 v hv4
  obtain ⟨r1, r2, r3⟩ := RI_lot1 (m := n + 1) (updN (itm σ q) n vn) t' h hq h0 (fun k i j z1 z2 z3 => e1 k i j z1 z2 (by omega)) (by rw [hν]; exact hLF.2) (by omega) c23 (fun k hk => by
      unfold updN
      by_cases z : k = n
      · rw [if_pos z, z]; exact ⟨c24, hv⟩
      · rw [if_neg z]; exact c24' k (by omega)) (fun k hk => by
      rw [o60 61 k (by decide), h61]
      unfold updN
      by_cases z : k = n
      · rw [if_pos z, if_pos z]
      · rw [if_neg z, if_neg z]; exact hLR.2.2.2.2.2 k (by omega)) hj1 hm2 hZ
  by_cases hd : t'.1 = 0
  · have e : τ1 = μ := by rw [hτ1]; unfold stl; rw [if_pos hd]
    rw [e, ← hν]
    refine ⟨by rw [r2], ?_⟩
    rw [hrs_0 (by rw [r2]; exact hd), r2, hm2, sI_same c23]
    exact r1
  · have e : τ1 = ccv μ (lSu σ q) t'.1 := by rw [hτ1]; unfold stl; rw [if_neg hd]
    have e2 : sI (sI τ1 24 0 (60 * q + n) (nI vn)) 23 0 q (nI (n + 1)) = ccv ν (lSu σ q) t'.1 := by
      rw [e, hν, ccv_put (by decide) (by decide), ccv_put (by decide) (by decide)]
    have hMc := ccv_M ν (lSu σ q) t'.1
    have hq' : q < nL ν := by unfold nL; rw [e1 0 0 2 (by omega) (by omega) (by omega)]; exact hq
    have hjc : jq (ccv ν (lSu σ q) t'.1) q = t' := by
      rw [jq.cg r1.P hMc.p.c (fun k j _ hk => (hMc k 0 j (by omega)).1) (r1.L.2.2 q hq'), r2]
    have hlu : lSu (ccv ν (lSu σ q) t'.1) q = lSu σ q := by
      rw [(hMc.lot q).1]; unfold lSu; rw [e1 19 0 q (by omega) (by omega) (by omega)]
    have hns : nS ν = nS σ := by unfold nS; rw [e1 0 0 1 (by omega) (by omega) (by omega)]
    rw [e2]
    refine ⟨by rw [hjc], ?_⟩
    rw [hrs_1 (by rw [hjc]; exact hd), hjc, hlu, hm2, sI_same (by rw [(hMc 23 0 q (by decide)).1]; exact c23)]
    exact RI_rcv r1 (by rw [hns]; exact hL1.2.1) a2 (r3 hd)
theorem RI_undo {B : gB} {σ τ1 : gS} {q : Nat} (h : RI B σ) (hq : q < nL σ) (h0 : (jq σ q).1 = 0) (hn0 : lSn σ q ≠ 0) (hA : SA σ τ1 q (jd σ q (lPl σ q) (lSn σ q - 1)) (itm σ q)) : eM σ τ1 ∧ RI B (sI τ1 23 0 q (nI (lSn σ q - 1))) := by
  have hL1 := h.L.2.2 q hq
  have hLR := h.lr hq
  have hP1 := h.P.2.2 _ hL1.2.2.2.2.2.1
  have hcl := hL1.2.2.2.2.2.2.1
  have hn60 := hL1.2.2.2.2.2.2.2.2.1
  obtain ⟨hLF, h61, hLZ⟩ := hA
  refine ⟨hLF.M, ?_⟩
  obtain ⟨m, hm⟩ : ∃ m, m = lSn σ q - 1 := ⟨_, rfl⟩
  rw [← hm] at hLZ ⊢
  obtain ⟨ν, hν⟩ : ∃ ν, ν = sI τ1 23 0 q (nI m) := ⟨_, rfl⟩
  rw [← hν]
  have hu : (jd σ q (lPl σ q) m).1 = 0 := by
    by_cases z : (jd σ q (lPl σ q) m).1 = 0
    · exact z
    · have := jd_fix (n := lSn σ q) z (by omega)
      have h1 : (jd σ q (lPl σ q) (lSn σ q)).1 = 0 := h0
      rw [this] at h1; exact absurd h1 z
  have e1 : ∀ k i j, ¬ (i = q ∧ ((k = 60 ∧ 7 ≤ j) ∨ k = 61 ∨ k = 62)) → ¬ (k = 23 ∧ i = 0 ∧ j = q) → ν.1 k i j = σ.1 k i j := fun k i j z1 z2 => by
    rw [hν, sI_at, if_neg z2]; exact hLF.1 k i j z1
  have o60 : ∀ k j, 60 ≤ k → ν.1 k q j = τ1.1 k q j := fun k j hk => by rw [hν, sI_at, if_neg (by omega)]
  have hE : eqP σ ν := fun k j _ _ => e1 _ _ _ (by omega) (by omega)
  have ei : itm ν q = itm σ q := funext (fun k => by unfold itm; rw [e1 24 0 _ (by omega) (by omega)])
  have hj : jd ν q (lPl σ q) m = jd σ q (lPl σ q) m := (hE.b _).jdE hP1 hcl (n := m) (fun k _ => by rw [ei]) m (Nat.le_refl _)
  exact (RI_lot1 (m := m) (itm σ q) (jd σ q (lPl σ q) m) h hq h0 (fun k i j z1 z2 _ => e1 k i j z1 z2) (by rw [hν]; exact hLF.2) (by omega) (by rw [hν, sI_at, if_pos ⟨rfl, rfl, rfl⟩]) (fun k hk => by rw [e1 24 0 _ (by omega) (by omega)]; exact hL1.2.2.2.2.2.2.2.2.2.1 k (by omega)) (fun k hk => by rw [o60 61 k (by decide), h61]; exact hLR.2.2.2.2.2 k (by omega)) hj (jd_cnt hu) (by
    rw [ei]
    exact ⟨by rw [o60 60 9 (by decide)]; exact hLZ.1, by rw [o60 60 7 (by decide)]; exact hLZ.2.1, by rw [o60 60 8 (by decide)]; exact hLZ.2.2.1, fun v hv4 => by rw [o60 62 v (by decide)]; exact hLZ.2.2.2 v hv4⟩)).1
theorem RI_correct {B : gB} {σ τ1 : gS} {q i vn : Nat} (h : RI B σ) (hq : q < nL σ) (h0 : (jq σ q).1 = 0) (hi : i < lSn σ q) (hv : vn ≤ 3) (hA : COP σ τ1 q i vn) : eM σ τ1 ∧ (jq (coUp τ1 q i (nI vn)) q).1 = (jd (coUp σ q i (nI vn)) q (lPl σ q) (lSn σ q)).1 ∧ RI B (hrs (coUp τ1 q i (nI vn)) q) := by
  obtain ⟨μ, hSA, hτ1⟩ := hA
  have hL1 := h.L.2.2 q hq
  have hLR := h.lr hq
  have hP1 := h.P.2.2 _ hL1.2.2.2.2.2.1
  have hcl := hL1.2.2.2.2.2.2.1
  have hn60 := hL1.2.2.2.2.2.2.2.2.1
  obtain ⟨hLF0, h61, hLZ⟩ := hSA
  have hLF : LF σ μ q := (co_LF σ q i vn).tr hLF0
  have hM : eM σ τ1 := by rw [hτ1]; exact hLF.M.tr (stl_M μ _ _)
  refine ⟨hM, ?_⟩
  obtain ⟨n, hne⟩ : ∃ n, n = lSn σ q := ⟨_, rfl⟩
  obtain ⟨ρ0, hρ0⟩ : ∃ ρ0, ρ0 = coUp σ q i (nI vn) := ⟨_, rfl⟩
  rw [← hρ0, ← hne] at hLZ hτ1
  rw [← hρ0, ← hne]
  rw [← hne] at hi hn60
  obtain ⟨t', ht'⟩ : ∃ t', t' = jd ρ0 q (lPl σ q) n := ⟨_, rfl⟩
  rw [← ht'] at hLZ hτ1 ⊢
  have a2 : t'.1 ≤ 2 := by rw [ht']; exact jd_now _ _ _ _
  obtain ⟨m, hm⟩ : ∃ m, m = t'.2.1 := ⟨_, rfl⟩
  have hmn : m ≤ n := by rw [hm, ht']; exact jd_le _ _ _ _
  have hE0 : eqP σ ρ0 := by rw [hρ0]; exact eqP_co σ q i (nI vn)
  have it0 : ∀ k, itm ρ0 q k = if k = i then vn else itm σ q k := fun k => by rw [hρ0]; exact coUp_it hv (by omega) k
  have i3 : ∀ k, k < n → itm ρ0 q k ≤ 3 := fun k hk => by
    rw [it0]
    by_cases z : k = i
    · rw [if_pos z]; exact hv
    · rw [if_neg z]; exact (hL1.2.2.2.2.2.2.2.2.2.1 k (by omega)).2
  obtain ⟨ν, hν⟩ : ∃ ν, ν = sI (sI μ 24 0 (60 * q + i) (nI vn)) 23 0 q (nI m) := ⟨_, rfl⟩
  have e1 : ∀ k i' j, ¬ (i' = q ∧ ((k = 60 ∧ 7 ≤ j) ∨ k = 61 ∨ k = 62)) → ¬ (k = 23 ∧ i' = 0 ∧ j = q) → ¬ (k = 24 ∧ i' = 0 ∧ j = 60 * q + i) → ν.1 k i' j = σ.1 k i' j := fun k i' j z1 z2 z3 => by
    rw [hν, sI_at, if_neg z2, sI_at, if_neg z3]; exact hLF.1 k i' j z1
  have c23 : ν.1 23 0 q = nI m := by rw [hν, sI_at, if_pos ⟨rfl, rfl, rfl⟩]
  have c24 : ν.1 24 0 (60 * q + i) = nI vn := by rw [hν, sI_at, if_neg (by omega), sI_at, if_pos ⟨rfl, rfl, rfl⟩]
  have o60 : ∀ k j, 60 ≤ k → ν.1 k q j = μ.1 k q j := fun k j hk => by rw [hν, sI_at, if_neg (by omega), sI_at, if_neg (by omega)]
  have hE : eqP σ ν := fun k j _ _ => e1 _ _ _ (by omega) (by omega) (by omega)
  have iν : ∀ k, itm ν q k = itm ρ0 q k := fun k => by
    rw [it0]
    unfold itm
    by_cases z : k = i
    · rw [if_pos z, z, c24]; exact nI_clamp (by omega)
    · rw [if_neg z, e1 24 0 _ (by omega) (by omega) (by omega)]
  have hEρ : eqP ρ0 ν := fun k j a b => (hE k j a b).trans (hE0 k j a b).symm
  have hj1 : jd ν q (lPl σ q) m = t' := by
    rw [(hEρ.b _).jdE (hE0.wf hP1) (by rw [hE0.cl]; exact hcl) (n := m) (fun k _ => iν k) m (Nat.le_refl _), hm, ht']
    exact jd_at ρ0 q (lPl σ q) n
  have hZ : LZ ν q t' (itm ν q) := by
    refine ⟨by rw [o60 60 9 (by decide)]; exact hLZ.1, by rw [o60 60 7 (by decide)]; exact hLZ.2.1, by rw [o60 60 8 (by decide)]; exact hLZ.2.2.1, fun v hv4 => ?_⟩
    rw [o60 62 v (by decide), tal_cong (g := itm ρ0 q) (fun k _ => iν k)]
    exact hLZ.2.2.2 v hv4
  obtain ⟨r1, r2, r3⟩ := RI_lot1 (m := m) (itm ρ0 q) t' h hq h0 (fun k i' j z1 z2 z3 => e1 k i' j z1 z2 (by omega)) (by rw [hν]; exact hLF.2) (by omega) c23 (fun k hk => by
      refine ⟨?_, i3 k (by omega)⟩
      rw [it0]
      by_cases z : k = i
      · rw [if_pos z, z]; exact c24
      · rw [if_neg z, e1 24 0 _ (by omega) (by omega) (by omega)]; exact (hL1.2.2.2.2.2.2.2.2.2.1 k (by omega)).1) (fun k hk => by
      rw [o60 61 k (by decide), h61, sI_at, it0]
      by_cases z : k = i
      · rw [if_pos ⟨rfl, rfl, z⟩, if_pos z]
      · rw [if_neg (fun w => z w.2.2), if_neg z]; exact hLR.2.2.2.2.2 k (by omega)) hj1 hm.symm hZ
  obtain ⟨ρ, hρ⟩ : ∃ ρ, ρ = coUp τ1 q i (nI vn) := ⟨_, rfl⟩
  have hρ1 : ∀ k i' j, k < 40 → ¬ (k = 24 ∧ i' = 0 ∧ j = 60 * q + i) → ρ.1 k i' j = σ.1 k i' j := fun k i' j hk z => by
    rw [hρ]; unfold coUp; rw [sI_at, if_neg z]; exact (hM k i' j hk).1
  have hEr : eqP ρ0 ρ := fun k j a b => (hρ1 k 0 j (by omega) (by omega)).trans (hE0 k j a b).symm
  have iρ : ∀ k, itm ρ q k = itm ρ0 q k := fun k => by
    rw [it0]
    unfold itm
    by_cases z : k = i
    · rw [if_pos z, z, hρ]; unfold coUp; rw [sI_at, if_pos ⟨rfl, rfl, rfl⟩]; exact nI_clamp (by omega)
    · rw [if_neg z, hρ1 24 0 _ (by omega) (by omega)]
  have hjr : jq ρ q = t' := by
    have l3 : lPl ρ q = lPl σ q := by unfold lPl; rw [hρ1 21 0 q (by omega) (by omega)]
    have l5 : lSn ρ q = n := by rw [hne]; unfold lSn; rw [hρ1 23 0 q (by omega) (by omega)]
    unfold jq
    rw [l3, l5, ht']
    exact (hEr.b _).jdE (hE0.wf hP1) (by rw [hE0.cl]; exact hcl) (n := n) (fun k _ => iρ k) n (Nat.le_refl _)
  have hlu : lSu ρ q = lSu σ q := by unfold lSu; rw [hρ1 19 0 q (by omega) (by omega)]
  rw [← hρ]
  refine ⟨by rw [hjr], ?_⟩
  by_cases hd : t'.1 = 0
  · have e : τ1 = μ := by rw [hτ1]; unfold stl; rw [if_pos hd]
    rw [hrs_0 (by rw [hjr]; exact hd), hjr, ← hm]
    have e3 : sI ρ 23 0 q (nI m) = ν := by rw [hρ, hν, e]; rfl
    rw [e3]; exact r1
  · have e : τ1 = ccv μ (lSu σ q) t'.1 := by rw [hτ1]; unfold stl; rw [if_neg hd]
    have hns : nS ν = nS σ := by unfold nS; rw [e1 0 0 1 (by omega) (by omega) (by omega)]
    rw [hrs_1 (by rw [hjr]; exact hd), hjr, ← hm, hlu]
    have e3 : sI ρ 23 0 q (nI m) = ccv ν (lSu σ q) t'.1 := by
      rw [hρ, hν, e, ccv_put (by decide) (by decide), ccv_put (by decide) (by decide)]; rfl
    rw [e3]
    exact RI_rcv r1 (by rw [hns]; exact hL1.2.1) a2 (r3 hd)
