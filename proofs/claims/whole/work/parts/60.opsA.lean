/-! part, plan, stage keep what holds -/
theorem paN_eq {σ τ : gS} (h : eqP σ τ) (p n d w : Nat) : paN τ p n d w = paN σ p n d w := by unfold paN TK AV OU; rw [eqP_tot h, gs_eq h]
theorem RI_part {B : gB} {σ : gS} {p n d w : Nat} (h : RI B σ) (hp : p < nP σ) (hc : clo σ p = true) (h1 : 1 ≤ n) (h60 : n ≤ 60) (ht : tot σ p (stN σ p) ≤ n) (hd : d ≤ n) (hw : w ≤ 2) : RI B (paUp (pcU σ p n d w) p n d w) := by
  have hE : eqP σ (pcU σ p n d w) := fun k j a b => rfl
  have e9 : paN (pcU σ p n d w) p n d w = paN σ p n d w := paN_eq hE p n d w
  have hbd := (SO_of h.P p n d w hp hc h60 ht hd hw).2
  have h60b := paN_60 (h.P.2.2 p hp) ht hd hw
  have hpp : 0 < pbN n d w ∧ pbN n d w < 9223372036854775808 := pbN_pos h60 h1 hd
  generalize hτ : paUp (pcU σ p n d w) p n d w = τ
  have e1 : τ.1 = σ.1 := by rw [← hτ]; rfl
  have e2 : ∀ k i j, ¬ (k = 0 ∧ i = 0 ∧ (j = 7 ∨ j = 8)) → ¬ (k = 44 ∧ i = 0 ∧ (j = 0 ∨ j = 1)) → τ.2 k i j = σ.2 k i j := fun k i j z1 z2 => by
    rw [← hτ]; unfold paUp pcU
    rw [sJ_at, if_neg (by omega), sJ_at, if_neg (by omega), sJ_at, if_neg (by omega), sJ_at, if_neg (by omega)]
  have q7 : τ.2 0 0 7 = lN (paN σ p n d w / Nat.gcd (paN σ p n d w) (pbN n d w)) := by
    rw [← hτ]; unfold paUp; rw [sJ_at, if_neg (by omega), sJ_at, if_pos ⟨rfl, rfl, rfl⟩, e9]
  have q8 : τ.2 0 0 8 = lN (pbN n d w / Nat.gcd (paN σ p n d w) (pbN n d w)) := by
    rw [← hτ]; unfold paUp; rw [sJ_at, if_pos ⟨rfl, rfl, rfl⟩, e9]
  have c0 : τ.2 44 0 0 = lN (paN σ p n d w / Nat.gcd (paN σ p n d w) (pbN n d w)) := by
    rw [← hτ]; unfold paUp pcU; rw [sJ_at, if_neg (by omega), sJ_at, if_neg (by omega), sJ_at, if_neg (by omega), sJ_at, if_pos ⟨rfl, rfl, rfl⟩]
  have c1 : τ.2 44 0 1 = lN (pbN n d w / Nat.gcd (paN σ p n d w) (pbN n d w)) := by
    rw [← hτ]; unfold paUp pcU; rw [sJ_at, if_neg (by omega), sJ_at, if_neg (by omega), sJ_at, if_pos ⟨rfl, rfl, rfl⟩]
  generalize paN σ p n d w = a at *
  generalize pbN n d w = b at *
  have hg : 0 < Nat.gcd a b := Nat.gcd_pos_of_pos_right _ hpp.1
  have ha : Nat.gcd a b * (a / Nat.gcd a b) = a := Nat.mul_div_cancel' (Nat.gcd_dvd_left a b)
  have hb : Nat.gcd a b * (b / Nat.gcd a b) = b := Nat.mul_div_cancel' (Nat.gcd_dvd_right a b)
  have hau : a / Nat.gcd a b ≤ a := Nat.div_le_self _ _
  have hbu : b / Nat.gcd a b ≤ b := Nat.div_le_self _ _
  generalize Nat.gcd a b = g at *
  generalize a / g = u at *
  generalize b / g = v at *
  have hv : 0 < v := by
    rcases Nat.eq_zero_or_pos v with z | z
    · rw [z, Nat.mul_zero] at hb; omega
    · exact z
  have hu : u ≤ 60 * v := by
    refine Nat.le_of_mul_le_mul_left (c := g) ?_ hg
    rw [ha, Nat.mul_left_comm, hb]; exact h60b
  have hE2 : eqP σ τ := fun k j _ _ => by rw [e1]
  refine RI.mk h.M h.C (h.D.cg (fun j _ => by rw [e1]) (fun j => by rw [e1])) (h.kP hE2 (by rw [e1]) (fun k i j _ _ => by rw [e1]) (fun i j => e2 _ _ _ (by omega) (by omega))) (h.Ch.cg (fun _ => e2 _ _ _ (by omega) (by omega))) (h.W.cg (fun _ _ => e2 _ _ _ (by omega) (by omega))) (h.kR (fun k j _ _ => by rw [e1]) (fun r j => by rw [e1])) ⟨u, v, ⟨q7, q8, hv, by omega, by omega, hu⟩, ⟨c0, c1, hv, by omega, by omega, hu⟩⟩ (h.kS hE2.c (Nat.le_of_eq (by unfold nP; rw [e1])) (by rw [e1]) (fun k j _ _ => by rw [e1]) (fun k i j _ _ _ => by rw [e1])) (h.kL hE2.c (Nat.le_of_eq (by unfold nP; rw [e1])) (by rw [e1]) (by rw [e1]) (fun j => by rw [e1]) (fun k j _ _ => by rw [e1]) (fun k i j _ _ _ => by rw [e1])) (fun w hw => by rw [e1]; exact h.co hw)
theorem gP2 (B : gB) (n q k : Nat) : (gP B n q).2 k = if 50 ≤ k ∧ k ≤ 55 then B.2 k + 1 else if k = 56 then B.2 56 + 4 else B.2 k := by
  show (bif Nat.ble 50 k && Nat.ble k 55 then B.2 k + 1 else bif Nat.beq k 56 then B.2 56 + 4 else B.2 k) = _
  cases e : (Nat.ble 50 k && Nat.ble k 55) with
  | true =>
    rw [Bool.and_eq_true] at e
    rw [if_pos ⟨Nat.le_of_ble_eq_true e.1, Nat.le_of_ble_eq_true e.2⟩]; rfl
  | false =>
    rw [if_neg (fun z => by rw [Nat.ble_eq_true_of_le z.1, Nat.ble_eq_true_of_le z.2] at e; exact absurd e (by decide))]
    cases e2 : Nat.beq k 56 with
    | true => rw [if_pos (Nat.eq_of_beq_eq_true e2)]; rfl
    | false => rw [if_neg (Nat.ne_of_beq_eq_false e2)]; rfl
theorem BkM.of {B B' : gB} (h : BkM B) (hb : ∀ k, k < 40 → B'.2 k = B.2 k) : BkM B' := fun k hk => by
  rw [hb k (by
    have : ∀ k ∈ [0, 3, 4, 5, 6, 9, 10, 11, 12, 13, 14, 15, 16, 17, 18, 19, 20, 21, 22, 23, 24, 25, 26, 27, 35, 36], k < 40 := by decide
    exact this k hk)]
  exact h k hk
theorem gP_M {B : gB} {n q : Nat} (h : BkM B) : BkM (gP B n q) := h.of (fun k hk => by rw [gP2, if_neg (by omega), if_neg (by omega)])
theorem gP_C {B : gB} {n q : Nat} (h : BkC B) : BkC (gP B n q) := by
  obtain ⟨a1, a2, a3, a4, a5, a6, a7⟩ := h
  refine ⟨fun k hk => ?_, ?_, ?_, fun k hk => ?_, ?_, fun k hk => ?_, fun k hk => ?_⟩
  · have : ∀ k ∈ [40, 41, 42, 44, 45, 46, 47, 48], k < 50 := by decide
    have := this k hk
    rw [gP2, if_neg (by omega), if_neg (by omega)]; exact a1 k hk
  · rw [gP2, if_neg (by omega), if_neg (by omega)]; exact a2
  · rw [gP2, if_neg (by omega), if_neg (by omega)]; exact a3
  · have : ∀ k ∈ [51, 52, 53, 54, 55], 51 ≤ k ∧ k ≤ 55 := by decide
    have := this k hk
    rw [gP2, if_pos (by omega), gP2, if_pos (by omega), a4 k hk]
  · rw [gP2, if_neg (by omega), if_pos rfl, gP2, if_pos (by omega), a5]; omega
  · have : ∀ k ∈ [58, 59], 57 < k := by decide
    have := this k hk
    rw [gP2, if_neg (by omega), if_neg (by omega), gP2, if_neg (by omega), if_neg (by omega)]; exact a6 k hk
  · have : ∀ k ∈ [61, 62], 57 < k := by decide
    have := this k hk
    rw [gP2, if_neg (by omega), if_neg (by omega), gP2, if_neg (by omega), if_neg (by omega)]; exact a7 k hk
theorem RI_plan {B : gB} {σ : gS} {q : Nat} (h : RI B σ) (hn : nP σ < 24) : RI (gP B (nP σ) q) (sI (sI (sI (sP σ (nP σ)) 40 0 3 (nI (nP σ + 1))) 3 0 (nP σ) (nI 0)) 0 0 0 (nI (nP σ + 1))) := by
  have hD := h.D
  obtain ⟨n, hne⟩ : ∃ n, n = nP σ := ⟨_, rfl⟩
  rw [← hne] at hn ⊢
  generalize hτ : sI (sI (sI (sP σ n) 40 0 3 (nI (n + 1))) 3 0 n (nI 0)) 0 0 0 (nI (n + 1)) = τ
  have e1 : ∀ k i j, ¬ (50 ≤ k ∧ k ≤ 55 ∧ i = n) → ¬ (k = 40 ∧ i = 0 ∧ j = 3) → ¬ (k = 3 ∧ i = 0 ∧ j = n) → ¬ (k = 0 ∧ i = 0 ∧ j = 0) → τ.1 k i j = σ.1 k i j := fun k i j z1 z2 z3 z4 => by
    rw [← hτ, sI_at, if_neg z4, sI_at, if_neg z3, sI_at, if_neg z2]
    show (bif in1 50 55 n k i then 0 else σ.1 k i j) = _
    rw [in1_f z1]; rfl
  have eJ : ∀ k i j, ¬ (k = 56 ∧ 4 * n ≤ i) → τ.2 k i j = σ.2 k i j := fun k i j z => by
    rw [← hτ]
    show (bif in5 n k i then 0 else σ.2 k i j) = _
    rw [in5_f z]; rfl
  have c0 : τ.1 0 0 0 = nI (n + 1) := by rw [← hτ, sI_at, if_pos ⟨rfl, rfl, rfl⟩]
  have c3 : τ.1 3 0 n = nI 0 := by rw [← hτ, sI_at, if_neg (by omega), sI_at, if_pos ⟨rfl, rfl, rfl⟩]
  have c40 : τ.1 40 0 3 = nI (n + 1) := by rw [← hτ, sI_at, if_neg (by omega), sI_at, if_neg (by omega), sI_at, if_pos ⟨rfl, rfl, rfl⟩]
  have c50 : ∀ k j, 50 ≤ k → k ≤ 55 → τ.1 k n j = 0 := fun k j z1 z2 => by
    rw [← hτ, sI_at, if_neg (by omega), sI_at, if_neg (by omega), sI_at, if_neg (by omega), sP_new z1 z2]
  have c56 : ∀ j x, τ.2 56 (4 * n + j) x = lN 0 := fun j x => by
    rw [← hτ]
    show (sP σ n).2 56 (4 * n + j) x = _
    rw [sP_56]; rfl
  have nPt : nP τ = n + 1 := by unfold nP; rw [c0]; exact nI_clamp (by omega)
  have nSt : τ.1 0 0 1 = σ.1 0 0 1 := e1 0 0 1 (by omega) (by omega) (by omega) (by omega)
  have nLt : τ.1 0 0 2 = σ.1 0 0 2 := e1 0 0 2 (by omega) (by omega) (by omega) (by omega)
  have st0 : stN τ n = 0 := by unfold stN; rw [c3]; rfl
  have cl0 : clo τ n = false := by unfold clo; rw [st0]; exact decide_eq_false (fun z => absurd z.1 (by omega))
  have hB : ∀ p, p < n → eqB σ τ p := fun p hp => ⟨e1 3 0 p (by omega) (by omega) (by omega) (by omega), fun k j z1 z2 _ => e1 k 0 _ (by omega) (by omega) (by omega) (by omega)⟩
  have hC : eC σ τ := fun p hp _ => hB p (by omega)
  refine RI.mk (gP_M h.M) (gP_C h.C) ?_ ⟨⟨by rw [c0, nPt], by omega, fun p hp => ?_⟩, fun p hp => ?_⟩ (h.Ch.cg (fun _ => eJ _ _ _ (by omega))) (h.W.cg (fun _ _ => eJ _ _ _ (by omega))) (h.kR (fun k j _ _ => e1 _ _ _ (by omega) (by omega) (by omega) (by omega)) (fun r j => e1 _ _ _ (by omega) (by omega) (by omega) (by omega))) (h.kQ (eJ _ _ _ (by omega)) (eJ _ _ _ (by omega)) (fun j => eJ _ _ _ (by omega))) (h.kS hC (by omega) nSt (fun k j _ _ => e1 _ _ _ (by omega) (by omega) (by omega) (by omega)) (fun k i j _ _ _ => e1 _ _ _ (by omega) (by omega) (by omega) (by omega))) (h.kL hC (by omega) nSt nLt (fun j => e1 _ _ _ (by omega) (by omega) (by omega) (by omega)) (fun k j _ _ => e1 _ _ _ (by omega) (by omega) (by omega) (by omega)) (fun k i j _ _ _ => e1 _ _ _ (by omega) (by omega) (by omega) (by omega))) (fun w hw => by rw [e1 48 0 w (by omega) (by omega) (by omega) (by omega), e1 25 0 w (by omega) (by omega) (by omega) (by omega)]; exact h.co hw)
  · have eS : nS τ = nS σ := by unfold nS; rw [nSt]
    have eL : nL τ = nL σ := by unfold nL; rw [nLt]
    refine ⟨by rw [c40, nPt], by rw [gP2, if_pos (by omega), nPt, hD.2.1]; omega, ?_, ?_, ?_, ?_⟩
    · rw [eS, e1 40 0 7 (by omega) (by omega) (by omega) (by omega)]; exact hD.2.2.1
    · rw [eS, gP2, if_neg (by omega), if_neg (by omega)]; exact hD.2.2.2.1
    · rw [eL, e1 40 0 9 (by omega) (by omega) (by omega) (by omega)]; exact hD.2.2.2.2.1
    · rw [eL, gP2, if_neg (by omega), if_neg (by omega)]; exact hD.2.2.2.2.2
  · rw [nPt] at hp
    by_cases z : p = n
    · subst z
      unfold WfP1
      rw [st0]
      exact ⟨c3, by omega, fun k hk => absurd hk (Nat.not_lt_zero k), Nat.zero_le _, fun k hk => absurd hk (Nat.not_lt_zero _), fun hk => absurd hk (by decide)⟩
    · exact (hB p (by omega)).wf (h.P.2.2 p (by omega))
  · rw [nPt] at hp
    by_cases z : p = n
    · subst z
      refine ⟨?_, fun k x _ h4 _ => c56 k x⟩
      unfold PR
      rw [st0, cl0]
      exact ⟨c50 50 5 (by decide) (by decide), c50 50 6 (by decide) (by decide), fun k hk => absurd hk (Nat.not_lt_zero k), fun k x hk => absurd hk (Nat.not_lt_zero k)⟩
    · have hpn : p < nP σ := by omega
      exact ⟨(hB p (by omega)).pr (h.P.2.2 p hpn) (h.pr hpn) (fun k j a b => e1 _ _ _ (by omega) (by omega) (by omega) (by omega)) (fun k x hk => eJ _ _ _ (by omega)), (hB p (by omega)).pz (h.pz hpn) (fun k x hk => eJ _ _ _ (by omega))⟩
/-- the first K STAGES of a plan are the same -/
def eqK (σ τ : gS) (p K : Nat) : Prop := K ≤ stN σ p ∧ K ≤ stN τ p ∧ ∀ k, k < K → szN τ p k = szN σ p k ∧ acI τ p k = acI σ p k ∧ rfI τ p k = rfI σ p k
theorem eqK.to {σ τ : gS} {p K : Nat} (h : eqK σ τ p K) : ∀ k, k ≤ K → tot τ p k = tot σ p k
  | 0, _ => rfl
  | k + 1, hk => by show tot τ p k + szN τ p k = tot σ p k + szN σ p k; rw [eqK.to h k (by omega), (h.2.2 k (by omega)).1]
theorem eqK.dc {σ τ : gS} {p K k : Nat} (h : eqK σ τ p K) (hk : k < K) (s : Nat) : dcB τ p k s = dcB σ p k s := by
  have h1 : k < stN σ p := by have := h.1; omega
  have h2 : k < stN τ p := by have := h.2.1; omega
  unfold dcB tkB rfB
  rw [(h.2.2 k hk).2.1, (h.2.2 k hk).2.2]
  simp [h1, h2]
theorem eqK.op {σ τ : gS} {p K : Nat} (h : eqK σ τ p K) : ∀ k, k ≤ K → opw τ p k = opw σ p k
  | 0, _ => rfl
  | k + 1, hk => by
    funext b
    show (if dcB τ p k b then 0 else rch τ p k b) = (if dcB σ p k b then 0 else rch σ p k b)
    rw [h.dc (by omega)]
    have : rch τ p k b = rch σ p k b := by
      rw [fr_rch, fr_rch]
      unfold fr
      rw [eqK.op h k (by omega), h.to k (by omega), (h.2.2 k (by omega)).1]
    rw [this]
theorem eqK.rc {σ τ : gS} {p K k : Nat} (h : eqK σ τ p K) (hk : k < K) (x : Nat) : rch τ p k x = rch σ p k x := by
  rw [fr_rch, fr_rch]
  unfold fr
  rw [h.op k (by omega), h.to k (by omega), (h.2.2 k hk).1]
theorem RI_stage {B : gB} {σ τ1 : gS} {p sq : Nat} {a r : Int32} (h : RI B σ) (hp : p < nP σ) (hcl : clo σ p = false) (h4 : stN σ p ≠ 4) (h3 : stN σ p = 3 → r.toInt = a.toInt + 1) (hs1 : 1 ≤ sq) (ha : -1 ≤ a.toInt ∧ a.toInt ≤ 60) (hr : a.toInt < r.toInt) (hr2 : r.toInt ≤ 61) (ht : tot σ p (stN σ p) + sq ≤ 60) (hA : apP σ τ1 p sq a r) : eM σ τ1 ∧ RI B (stUp τ1 p (nI sq) a r) := by
  have hP1 := h.P.2.2 p hp
  have hR1 := h.pr hp
  have h24 := h.P.2.1
  have hK4 : stN σ p < 4 := by have := hP1.2.1; omega
  have a1 : ∀ k i j, ¬ (50 ≤ k ∧ k ≤ 54 ∧ i = p) → τ1.1 k i j = σ.1 k i j := fun k i j z => by
    rw [hA.1]; unfold apI
    rw [sI_at, if_neg (by omega), sI_at, if_neg (by omega), sI_at, if_neg (by omega), sI_at, if_neg (by omega), sI_at, if_neg (by omega), sI_at, if_neg (by omega)]
  have hM : eM σ τ1 := eM.mk (fun k i j hk => a1 k i j (by omega)) (fun k i j hk => hA.2.1 k i j (by omega))
  refine ⟨hM, ?_⟩
  have st1 : stN τ1 p = stN σ p := hM.p.st p
  generalize hτ : stUp τ1 p (nI sq) a r = τ
  obtain ⟨K, hK⟩ : ∃ K, K = stN σ p := ⟨_, rfl⟩
  have e1 : ∀ k i j, ¬ (4 ≤ k ∧ k ≤ 6 ∧ i = 0 ∧ j = 4 * p + K) → ¬ (k = 3 ∧ i = 0 ∧ j = p) → τ.1 k i j = τ1.1 k i j := fun k i j z1 z2 => by
    rw [← hτ]; unfold stUp
    rw [st1, ← hK, sI_at, if_neg z2, sI_at, if_neg (by omega), sI_at, if_neg (by omega), sI_at, if_neg (by omega)]
  have eJ : τ.2 = τ1.2 := by rw [← hτ]; rfl
  have c3 : τ.1 3 0 p = nI (K + 1) := by rw [← hτ]; unfold stUp; rw [st1, ← hK, sI_at, if_pos ⟨rfl, rfl, rfl⟩]
  have c4 : τ.1 4 0 (4 * p + K) = nI sq := by rw [← hτ]; unfold stUp; rw [st1, ← hK, sI_at, if_neg (by omega), sI_at, if_neg (by omega), sI_at, if_neg (by omega), sI_at, if_pos ⟨rfl, rfl, rfl⟩]
  have c5 : τ.1 5 0 (4 * p + K) = a := by rw [← hτ]; unfold stUp; rw [st1, ← hK, sI_at, if_neg (by omega), sI_at, if_neg (by omega), sI_at, if_pos ⟨rfl, rfl, rfl⟩]
  have c6 : τ.1 6 0 (4 * p + K) = r := by rw [← hτ]; unfold stUp; rw [st1, ← hK, sI_at, if_neg (by omega), sI_at, if_pos ⟨rfl, rfl, rfl⟩]
  -- the class' own numbers
  have i5 : τ1.1 50 p 5 = nI (K + 1) := by rw [hK]; exact apP_5 hA
  have i6 : τ1.1 50 p 6 = bI (decide (r = a + nI 1)) := by rw [hA.1]; unfold apI; rw [sI_at, if_pos ⟨rfl, rfl, rfl⟩]
  have i51 : ∀ k, τ1.1 51 p k = if k = K then nI sq else σ.1 51 p k := fun k => by
    rw [hA.1]; unfold apI
    rw [sI_at, if_neg (by omega), sI_at, if_neg (by omega), sI_at, if_neg (by omega), sI_at, if_neg (by omega), sI_at, if_neg (by omega), sI_at, hK]
    by_cases z : k = stN σ p
    · rw [if_pos ⟨rfl, rfl, z⟩, if_pos z]
    · rw [if_neg (fun q => z q.2.2), if_neg z]
  have i52 : ∀ k, τ1.1 52 p k = if k = K then a else σ.1 52 p k := fun k => by
    rw [hA.1]; unfold apI
    rw [sI_at, if_neg (by omega), sI_at, if_neg (by omega), sI_at, if_neg (by omega), sI_at, if_neg (by omega), sI_at, hK]
    by_cases z : k = stN σ p
    · rw [if_pos ⟨rfl, rfl, z⟩, if_pos z]
    · rw [if_neg (fun q => z q.2.2), if_neg z, sI_at, if_neg (by omega)]
  have i53 : ∀ k, τ1.1 53 p k = if k = K then r else σ.1 53 p k := fun k => by
    rw [hA.1]; unfold apI
    rw [sI_at, if_neg (by omega), sI_at, if_neg (by omega), sI_at, if_neg (by omega), sI_at, hK]
    by_cases z : k = stN σ p
    · rw [if_pos ⟨rfl, rfl, z⟩, if_pos z]
    · rw [if_neg (fun q => z q.2.2), if_neg z, sI_at, if_neg (by omega), sI_at, if_neg (by omega)]
  have i54 : ∀ k, τ1.1 54 p k = if k = K then nI (tot σ p K + sq) else σ.1 54 p k := fun k => by
    rw [hA.1]; unfold apI
    rw [sI_at, if_neg (by omega), sI_at, if_neg (by omega), sI_at, hK]
    by_cases z : k = stN σ p
    · rw [if_pos ⟨rfl, rfl, z⟩, if_pos z]
    · rw [if_neg (fun q => z q.2.2), if_neg z, sI_at, if_neg (by omega), sI_at, if_neg (by omega), sI_at, if_neg (by omega)]
  rw [← hK] at ht hK4
  have stt : stN τ p = K + 1 := by unfold stN; rw [c3]; exact nI_clamp (by omega)
  have rd : ∀ k j, 4 ≤ k → k ≤ 6 → j < K → τ.1 k 0 (4 * p + j) = σ.1 k 0 (4 * p + j) := fun k j z1 z2 z3 => by rw [e1 k 0 _ (by omega) (by omega), a1 k 0 _ (by omega)]
  have hEK : eqK σ τ p K := ⟨Nat.le_of_eq hK, by omega, fun k hk => by
    unfold szN acI rfI
    rw [rd 4 k (by decide) (by decide) hk, rd 5 k (by decide) (by decide) hk, rd 6 k (by decide) (by decide) hk]
    exact ⟨rfl, rfl, rfl⟩⟩
  have szK : szN τ p K = sq := by unfold szN; rw [c4]; exact nI_clamp (by omega)
  have acK : acI τ p K = a.toInt := by unfold acI; rw [c5]
  have rfK : rfI τ p K = r.toInt := by unfold rfI; rw [c6]
  have totK : tot τ p (K + 1) = tot σ p K + sq := by show tot τ p K + szN τ p K = _; rw [szK, hEK.to K (Nat.le_refl _)]
  have hcl2 : clo τ p = decide (r = a + nI 1) := by
    unfold clo
    rw [stt, Nat.add_sub_cancel, acK, rfK]
    have e : (a + nI 1).toInt = a.toInt + 1 := by
      rw [i_add (by rw [n1I]; omega) (by rw [n1I]; omega), n1I]
    by_cases z : r = a + nI 1
    · rw [decide_eq_true z, decide_eq_true ⟨by omega, by rw [z, e]⟩]
    · rw [decide_eq_false z, decide_eq_false (fun q => z ((i_eq _ _).mpr (by rw [e]; exact q.2)))]
  have hnP : nP τ = nP σ := by unfold nP; rw [e1 0 0 0 (by omega) (by omega), a1 0 0 0 (by omega)]
  have hB : ∀ p', p' < nP σ → p' ≠ p → eqB σ τ p' := fun p' hp' hne => ⟨by rw [e1 3 0 p' (by omega) (by omega), a1 3 0 p' (by omega)], fun k j z1 z2 z3 => by rw [e1 k 0 _ (by omega) (by omega), a1 k 0 _ (by omega)]⟩
  have hC : eC σ τ := fun p' hp' hc => hB p' hp' (fun z => by rw [z, hcl] at hc; exact absurd hc (by decide))
  have e2 : ∀ k i j, ¬ (3 ≤ k ∧ k ≤ 6) → ¬ (50 ≤ k ∧ k ≤ 54) → τ.1 k i j = σ.1 k i j := fun k i j z1 z2 => by rw [e1 k i j (by omega) (by omega), a1 k i j (by omega)]
  have e3 : ∀ k i j, ¬ (k = 56 ∧ i = 4 * p + K) → τ.2 k i j = σ.2 k i j := fun k i j z => by rw [eJ]; exact hA.2.1 k i j (by rw [← hK]; exact z)
  refine RI.mk h.M h.C (h.D.cg (fun j _ => e2 _ _ _ (by omega) (by omega)) (fun j => e2 _ _ _ (by omega) (by omega))) ⟨⟨by rw [hnP, e2 0 0 0 (by omega) (by omega)]; exact h.P.1, by omega, fun p' hp' => ?_⟩, fun p' hp' => ?_⟩ (h.Ch.cg (fun _ => e3 _ _ _ (by omega))) (h.W.cg (fun _ _ => e3 _ _ _ (by omega))) (h.kR (fun k j _ _ => e2 _ _ _ (by omega) (by omega)) (fun r j => e2 _ _ _ (by omega) (by omega))) (h.kQ (e3 _ _ _ (by omega)) (e3 _ _ _ (by omega)) (fun j => e3 _ _ _ (by omega))) (h.kS hC (by omega) (e2 _ _ _ (by omega) (by omega)) (fun k j _ _ => e2 _ _ _ (by omega) (by omega)) (fun k i j _ _ _ => e2 _ _ _ (by omega) (by omega))) (h.kL hC (by omega) (e2 _ _ _ (by omega) (by omega)) (e2 _ _ _ (by omega) (by omega)) (fun j => e2 _ _ _ (by omega) (by omega)) (fun k j _ _ => e2 _ _ _ (by omega) (by omega)) (fun k i j _ _ _ => e2 _ _ _ (by omega) (by omega))) (fun w hw => by rw [e2 48 0 w (by omega) (by omega), e2 25 0 w (by omega) (by omega)]; exact h.co hw)
  · rw [hnP] at hp'
    by_cases z : p' = p
    · subst z
      unfold WfP1
      rw [stt]
      refine ⟨c3, by omega, fun k hk => ?_, by rw [totK]; exact ht, fun k hk => ?_, fun hk => ?_⟩
      · by_cases w : k = K
        · subst w
          rw [szK, acK, rfK]
          exact ⟨c4, hs1, ha.1, ha.2, hr, hr2⟩
        · have hk2 : k < K := by omega
          obtain ⟨b1, b2, b3⟩ := hEK.2.2 k hk2
          rw [rd 4 k (by decide) (by decide) hk2, b1, b2, b3]
          exact hP1.2.2.1 k (by omega)
      · have hk2 : k < K := by omega
        obtain ⟨b1, b2, b3⟩ := hEK.2.2 k hk2
        rw [b2, b3]
        by_cases w : k + 1 = K
        · intro q
          have h0 := of_decide_eq_false hcl
          refine h0 ⟨by omega, ?_⟩
          rw [← hK, show K - 1 = k by omega]; exact q
        · exact hP1.2.2.2.2.1 k (by omega)
      · have hK3 : K = 3 := by omega
        have hh := h3 (by omega)
        rw [hK3] at acK rfK
        rw [acK, rfK]; exact hh
    · exact (hB p' hp' z).wf (h.P.2.2 p' hp')
  · rw [hnP] at hp'
    by_cases z : p' = p
    · subst z
      refine ⟨?_, fun k x z1 z2 z3 => ?_⟩
      · unfold PR
        rw [stt, hcl2]
        refine ⟨by rw [e1 50 p' 5 (by omega) (by omega)]; exact i5, by rw [e1 50 p' 6 (by omega) (by omega)]; exact i6, fun k hk => ?_, fun k x hk hx => ?_⟩
        · rw [e1 51 p' k (by omega) (by omega), e1 52 p' k (by omega) (by omega), e1 53 p' k (by omega) (by omega), e1 54 p' k (by omega) (by omega), i51, i52, i53, i54]
          by_cases w : k = K
          · subst w
            rw [if_pos rfl, if_pos rfl, if_pos rfl, if_pos rfl, c4, c5, c6, totK]
            exact ⟨rfl, rfl, rfl, rfl⟩
          · have hk2 : k < K := by omega
            rw [if_neg w, if_neg w, if_neg w, if_neg w, rd 4 k (by decide) (by decide) hk2, rd 5 k (by decide) (by decide) hk2, rd 6 k (by decide) (by decide) hk2, hEK.to (k + 1) (by omega)]
            exact hR1.2.2.1 k (by omega)
        · by_cases w : k = K
          · subst w
            have h9 := hA.2.2 x hx
            rw [← hK] at h9
            rw [eJ, h9]
            congr 1
            rw [fr_rch, szK]
            unfold fr apR
            rw [hEK.op _ (Nat.le_refl _), hEK.to _ (Nat.le_refl _), ← hK]
          · have hk2 : k < K := by omega
            rw [e3 _ _ _ (by omega), hEK.rc hk2]
            exact hR1.2.2.2 k x (by omega) hx
      · rw [stt] at z1
        rw [e3 _ _ _ (by omega)]
        exact h.pz hp k x (by omega) z2 z3
    · exact ⟨(hB p' hp' z).pr (h.P.2.2 p' hp') (h.pr hp') (fun k j z1 z2 => by rw [e1 k p' j (by omega) (by omega), a1 k p' j (by omega)]) (fun k x hk => e3 _ _ _ (by omega)), (hB p' hp' z).pz (h.pz hp') (fun k x hk => e3 _ _ _ (by omega))⟩
