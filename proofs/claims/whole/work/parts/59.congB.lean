/-! what holds between calls, piece by piece -/
theorem scI_hi {k j : Nat} (h : 40 ≤ k) : scI k j = false := by unfold scI; simp; omega
theorem scI_mid {k j : Nat} (h1 : 1 ≤ k) (h2 : k ≤ 25) : scI k j = false := by unfold scI; simp; omega
theorem scJ_hi {k j : Nat} (h : 28 ≤ k) : scJ k j = false := by unfold scJ; simp; omega
theorem RI.kR {B : gB} {σ τ : gS} (h : RI B σ) (hk : ∀ k j, 10 ≤ k → k ≤ 13 → τ.1 k 0 j = σ.1 k 0 j) (h9 : ∀ r j, τ.1 49 r j = σ.1 49 r j) : WfR τ ∧ ∀ r, r < 2 → RK τ r := ⟨h.R.cg hk, fun _ hr => (h.rk hr).cg hk (h9 _)⟩
theorem RI.kQ {B : gB} {σ τ : gS} (h : RI B σ) (h7 : τ.2 0 0 7 = σ.2 0 0 7) (h8 : τ.2 0 0 8 = σ.2 0 0 8) (h4 : ∀ j, τ.2 44 0 j = σ.2 44 0 j) : ∃ u d, WfQ τ u d ∧ cQ τ u d := by
  obtain ⟨u, d, a, b⟩ := h.q
  refine ⟨u, d, ?_, ?_⟩
  · unfold WfQ; rw [h7, h8]; exact a
  · unfold cQ; rw [h4 0, h4 1]; exact b
theorem RI.kS {B : gB} {σ τ : gS} (h : RI B σ) (hC : eC σ τ) (hn : nP σ ≤ nP τ) (h1 : τ.1 0 0 1 = σ.1 0 0 1) (hk : ∀ k j, 14 ≤ k → k ≤ 18 → τ.1 k 0 j = σ.1 k 0 j) (h5 : ∀ k i j, 57 ≤ k → k ≤ 59 → i < nS σ → τ.1 k i j = σ.1 k i j) : WfS τ ∧ ∀ s, s < nS τ → SR τ s := by
  have e : nS τ = nS σ := by unfold nS; rw [h1]
  refine ⟨h.S.cg h.P hC hn h1 (fun k j a b => hk k j a (by omega)), fun s hs => ?_⟩
  rw [e] at hs
  exact (h.sr hs).cg hk (fun k j a b => h5 k s j a b hs)
theorem RI.kL {B : gB} {σ τ : gS} (h : RI B σ) (hC : eC σ τ) (hn : nP σ ≤ nP τ) (h1 : τ.1 0 0 1 = σ.1 0 0 1) (h2 : τ.1 0 0 2 = σ.1 0 0 2) (h17 : ∀ j, τ.1 17 0 j = σ.1 17 0 j) (hk : ∀ k j, 19 ≤ k → k ≤ 24 → τ.1 k 0 j = σ.1 k 0 j) (h6 : ∀ k i j, 60 ≤ k → k ≤ 62 → i < nL σ → τ.1 k i j = σ.1 k i j) : WfL τ ∧ (∀ q, q < nL τ → LR τ q) ∧ RN τ := by
  have e : nL τ = nL σ := by unfold nL; rw [h2]
  have e1 : nS τ = nS σ := by unfold nS; rw [h1]
  refine ⟨h.L.cg h.P hC hn (by omega) h2 hk, fun q hq => ?_, h.rn.cg h.L h.P hC h1 h2 h17 hk⟩
  rw [e] at hq
  exact (h.lr hq).cg (h.L.2.2 q hq) h.P hC hk (fun k j a b => h6 k q j a b hq)
theorem RI.kP {B : gB} {σ τ : gS} (h : RI B σ) (hE : eqP σ τ) (h0 : τ.1 0 0 0 = σ.1 0 0 0) (h5 : ∀ k i j, 50 ≤ k → k ≤ 54 → τ.1 k i j = σ.1 k i j) (h56 : ∀ i j, τ.2 56 i j = σ.2 56 i j) : WfP τ ∧ ∀ p, p < nP τ → PR τ p ∧ PZ τ p := by
  have e : nP τ = nP σ := by unfold nP; rw [h0]
  refine ⟨h.P.cg hE h0, fun p hp => ?_⟩
  rw [e] at hp
  exact ⟨(hE.b p).pr (h.P.2.2 p hp) (h.pr hp) (fun k j a b => h5 k p j a b) (fun k x _ => h56 _ _), (hE.b p).pz (h.pz hp) (fun k x _ => h56 _ _)⟩
theorem RI.mk {B : gB} {τ : gS} (hM : BkM B) (hC : BkC B) (hD : DK B τ) (hP : WfP τ ∧ ∀ p, p < nP τ → PR τ p ∧ PZ τ p) (hCh : WfCh τ) (hW : WfW τ) (hR : WfR τ ∧ ∀ r, r < 2 → RK τ r) (hQ : ∃ u d, WfQ τ u d ∧ cQ τ u d) (hS : WfS τ ∧ ∀ s, s < nS τ → SR τ s) (hL : WfL τ ∧ (∀ q, q < nL τ → LR τ q) ∧ RN τ) (hco : ∀ w, w < 4 → τ.1 48 0 w = τ.1 25 0 w) : RI B τ :=
  ⟨⟨hM, hC, hD⟩, ⟨hP.1, hCh, hW, hR.1, hS.1, hL.1⟩, hP.2, hR.2, hQ, hS.2, hL.2.1, hco, hL.2.2⟩
theorem WfCh.cg {σ τ : gS} (h : WfCh σ) (hk : ∀ j, τ.2 9 0 j = σ.2 9 0 j) : WfCh τ := fun n k h1 h2 => by rw [hk]; exact h n k h1 h2
theorem WfW.cg {σ τ : gS} (h : WfW σ) (hk : ∀ i j, τ.2 43 i j = σ.2 43 i j) : WfW τ := fun n k h1 h2 => by rw [hk]; exact h n k h1 h2
theorem RI.sm {B : gB} {σ τ : gS} (h : RI B σ) (hs : Sm σ τ) : RI B τ := by
  have hE := hs.eqP
  have hn : nP τ = nP σ := hs.nPE
  refine RI.mk h.M h.C (h.D.cg (fun j hj => hs.rd 0 0 j (by unfold scI; simp; omega)) (fun j => hs.rd 40 0 j (scI_hi (by decide)))) (h.kP hE (hs.rd 0 0 0 rfl) (fun k i j a b => hs.rd k i j (scI_hi (by omega))) (fun i j => hs.rdJ 56 i j (scJ_hi (by decide)))) (hs.wfCh h.Ch) (h.W.cg (fun i j => hs.rdJ 43 i j (scJ_hi (by decide)))) (h.kR (fun k j a b => hs.rd k 0 j (scI_mid (by omega) (by omega))) (fun r j => hs.rd 49 r j (scI_hi (by decide)))) (h.kQ (hs.rdJ 0 0 7 rfl) (hs.rdJ 0 0 8 rfl) (fun j => hs.rdJ 44 0 j (scJ_hi (by decide)))) (h.kS hE.c (by omega) (hs.rd 0 0 1 rfl) (fun k j a b => hs.rd k 0 j (scI_mid (by omega) (by omega))) (fun k i j a b _ => hs.rd k i j (scI_hi (by omega)))) (h.kL hE.c (by omega) (hs.rd 0 0 1 rfl) (hs.rd 0 0 2 rfl) (fun j => hs.rd 17 0 j (scI_mid (by decide) (by decide))) (fun k j a b => hs.rd k 0 j (scI_mid (by omega) (by omega))) (fun k i j a b _ => hs.rd k i j (scI_hi (by omega)))) (fun w hw => ?_)
  rw [hs.rd 48 0 w (scI_hi (by decide)), hs.rd 25 0 w (scI_mid (by decide) (by decide))]
  exact h.co hw
/-- the check's cells are the same -/
def eM (σ τ : gS) : Prop := ∀ k i j, k < 40 → τ.1 k i j = σ.1 k i j ∧ τ.2 k i j = σ.2 k i j
def MI (σ : gS) : Prop := WfP σ ∧ WfCh σ ∧ WfR σ ∧ WfS σ ∧ WfL σ ∧ RunOK σ
theorem RI.mi {B : gB} {σ : gS} (h : RI B σ) : MI σ := ⟨h.P, h.Ch, h.R, h.S, h.L, h.rn.ok h.L⟩
theorem eM.p {σ τ : gS} (h : eM σ τ) : eqP σ τ := fun k j _ h2 => (h k 0 j (by omega)).1
theorem eM.n {σ τ : gS} (h : eM σ τ) : nP τ = nP σ ∧ nS τ = nS σ ∧ nL τ = nL σ := by
  unfold nP nS nL
  rw [(h 0 0 0 (by decide)).1, (h 0 0 1 (by decide)).1, (h 0 0 2 (by decide)).1]
  exact ⟨rfl, rfl, rfl⟩
theorem eM.mi {σ τ : gS} (h : eM σ τ) (hI : MI σ) : MI τ := by
  obtain ⟨a1, a2, a3, a4, a5, a6⟩ := hI
  have hk : ∀ k j, 19 ≤ k → k ≤ 24 → τ.1 k 0 j = σ.1 k 0 j := fun k j _ h2 => (h k 0 j (by omega)).1
  refine ⟨a1.cg h.p (h 0 0 0 (by decide)).1, a2.cg (fun j => (h 9 0 j (by decide)).2), a3.cg (fun k j _ h2 => (h k 0 j (by omega)).1), a4.cg a1 h.p.c (by rw [h.n.1]; exact Nat.le_refl _) (h 0 0 1 (by decide)).1 (fun k j _ h2 => (h k 0 j (by omega)).1), a5.cg a1 h.p.c (by rw [h.n.1]; exact Nat.le_refl _) (by rw [h.n.2.1]; exact Nat.le_refl _) (h 0 0 2 (by decide)).1 hk, fun q hq h0 => ?_⟩
  rw [h.n.2.2] at hq
  rw [jq.cg a1 h.p.c hk (a5.2.2 q hq)] at h0
  have := a6 q hq h0
  rw [(lot.cg hk q).1]
  show rn τ (lSu σ q) < 60
  have e : rn τ (lSu σ q) = rn σ (lSu σ q) := by unfold rn; rw [(h 17 0 _ (by decide)).1]
  rw [e]; exact this
theorem eM.mk {σ τ : gS} (h1 : ∀ k i j, k < 40 → τ.1 k i j = σ.1 k i j) (h2 : ∀ k i j, k < 40 → τ.2 k i j = σ.2 k i j) : eM σ τ := fun k i j hk => ⟨h1 k i j hk, h2 k i j hk⟩
/-! cost, risk, forget -/
theorem RI_cost {B : gB} {σ : gS} {q : Nat} {u : Int32} (h : RI B σ) : RI B (sI (sI σ 48 0 q u) 25 0 q u) := by
  have e1 : ∀ k i j, k ≠ 48 → k ≠ 25 → (sI (sI σ 48 0 q u) 25 0 q u).1 k i j = σ.1 k i j := fun k i j h1 h2 => by rw [sI_at, if_neg (fun z => h2 z.1), sI_at, if_neg (fun z => h1 z.1)]
  have hE : eqP σ (sI (sI σ 48 0 q u) 25 0 q u) := fun k j a b => e1 k 0 j (by omega) (by omega)
  refine RI.mk h.M h.C (h.D.cg (fun j hj => e1 0 0 j (by decide) (by decide)) (fun j => e1 40 0 j (by decide) (by decide))) (h.kP hE (e1 _ _ _ (by decide) (by decide)) (fun k i j a b => e1 k i j (by omega) (by omega)) (fun i j => rfl)) (h.Ch.cg (fun _ => rfl)) (h.W.cg (fun _ _ => rfl)) (h.kR (fun k j a b => e1 k 0 j (by omega) (by omega)) (fun r j => e1 49 r j (by decide) (by decide))) (h.kQ rfl rfl (fun _ => rfl)) (h.kS hE.c (Nat.le_refl _) rfl (fun k j a b => e1 k 0 j (by omega) (by omega)) (fun k i j a b _ => e1 k i j (by omega) (by omega))) (h.kL hE.c (Nat.le_refl _) rfl rfl (fun j => rfl) (fun k j a b => e1 k 0 j (by omega) (by omega)) (fun k i j a b _ => e1 k i j (by omega) (by omega))) (fun w hw => ?_)
  rw [sI_at, sI_at, sI_at, sI_at]
  by_cases z : w = q
  · subst z; simp
  · simp [z]; exact h.co hw
theorem RI_risk {B : gB} {σ : gS} {q : Nat} {d u n : Int32} (h : RI B σ) (hq : q < 2) (hd : 0 ≤ d.toInt ∧ d.toInt ≤ 60) (hn : 1 ≤ n.toInt ∧ n.toInt ≤ 1000) (hu : 0 ≤ u.toInt ∧ u.toInt ≤ n.toInt) : RI B (rkUp (tlUp σ q d u n) q d u n) := by
  have e1 : ∀ k i j, ¬ (k = 49 ∧ i = q) → ¬ (10 ≤ k ∧ k ≤ 13 ∧ i = 0 ∧ j = q) → (rkUp (tlUp σ q d u n) q d u n).1 k i j = σ.1 k i j := fun k i j h1 h2 => by
    unfold rkUp tlUp
    rw [sI_at, if_neg (by omega), sI_at, if_neg (by omega), sI_at, if_neg (by omega), sI_at, if_neg (by omega), sI_at, if_neg (by omega), sI_at, if_neg (by omega), sI_at, if_neg (by omega), sI_at, if_neg (by omega)]
  have hE : eqP σ (rkUp (tlUp σ q d u n) q d u n) := fun k j a b => e1 k 0 j (by omega) (by omega)
  have c13 : (rkUp (tlUp σ q d u n) q d u n).1 13 0 q = nI 1 := by
    unfold rkUp; rw [sI_at, if_neg (by omega), sI_at, if_neg (by omega), sI_at, if_neg (by omega), sI_at, if_pos ⟨rfl, rfl, rfl⟩]
  have c10 : (rkUp (tlUp σ q d u n) q d u n).1 10 0 q = d := by
    unfold rkUp; rw [sI_at, if_neg (by omega), sI_at, if_neg (by omega), sI_at, if_pos ⟨rfl, rfl, rfl⟩]
  have c11 : (rkUp (tlUp σ q d u n) q d u n).1 11 0 q = u := by
    unfold rkUp; rw [sI_at, if_neg (by omega), sI_at, if_pos ⟨rfl, rfl, rfl⟩]
  have c12 : (rkUp (tlUp σ q d u n) q d u n).1 12 0 q = n := by
    unfold rkUp; rw [sI_at, if_pos ⟨rfl, rfl, rfl⟩]
  have t : ∀ j, (rkUp (tlUp σ q d u n) q d u n).1 49 q j = (tlUp σ q d u n).1 49 q j := fun j => by
    unfold rkUp; rw [sI_at, if_neg (by omega), sI_at, if_neg (by omega), sI_at, if_neg (by omega), sI_at, if_neg (by omega)]
  have t0 : (rkUp (tlUp σ q d u n) q d u n).1 49 q 0 = nI 1 := by
    rw [t]; unfold tlUp; rw [sI_at, if_neg (by omega), sI_at, if_neg (by omega), sI_at, if_neg (by omega), sI_at, if_pos ⟨rfl, rfl, rfl⟩]
  have t1 : (rkUp (tlUp σ q d u n) q d u n).1 49 q 1 = d := by
    rw [t]; unfold tlUp; rw [sI_at, if_neg (by omega), sI_at, if_neg (by omega), sI_at, if_pos ⟨rfl, rfl, rfl⟩]
  have t2 : (rkUp (tlUp σ q d u n) q d u n).1 49 q 2 = u := by
    rw [t]; unfold tlUp; rw [sI_at, if_neg (by omega), sI_at, if_pos ⟨rfl, rfl, rfl⟩]
  have t3 : (rkUp (tlUp σ q d u n) q d u n).1 49 q 3 = n := by
    rw [t]; unfold tlUp; rw [sI_at, if_pos ⟨rfl, rfl, rfl⟩]
  obtain ⟨d1, d2⟩ := i_nat hd.1
  obtain ⟨n1, n2⟩ := i_nat (show 0 ≤ n.toInt by omega)
  obtain ⟨u1, u2⟩ := i_nat hu.1
  have cl : ∀ {v : Int32}, v = nI v.toInt.toNat → v.toInt.toNat < 2147483648 → v.toNatClampNeg = v.toInt.toNat := fun {v} h1 h2 => by
    have := nI_clamp h2
    rw [← h1] at this; exact this
  have dc := cl d1 (by omega)
  have nc := cl n1 (by omega)
  have uc := cl u1 (by omega)
  generalize hτ : rkUp (tlUp σ q d u n) q d u n = τ at *
  have ik : isRk τ q = true := by unfold isRk; rw [c13]; rfl
  have a1 : rAt τ q = d.toInt.toNat := by unfold rAt; rw [c10, dc]
  have a2 : rUp τ q = u.toInt.toNat := by unfold rUp; rw [c11, uc]
  have a3 : rDn τ q = n.toInt.toNat := by unfold rDn; rw [c12, nc]
  have b1 : cRd τ q = d.toInt.toNat := by unfold cRd; rw [t1, dc]
  have b2 : cRu τ q = u.toInt.toNat := by unfold cRu; rw [t2, uc]
  have b3 : cRn τ q = n.toInt.toNat := by unfold cRn; rw [t3, nc]
  have hJ : τ.2 = σ.2 := by rw [← hτ]; rfl
  refine RI.mk h.M h.C (h.D.cg (fun j hj => e1 0 0 j (by omega) (by omega)) (fun j => e1 40 0 j (by omega) (by omega))) (h.kP hE (e1 _ _ _ (by omega) (by omega)) (fun k i j a b => e1 k i j (by omega) (by omega)) (fun i j => by rw [hJ])) (h.Ch.cg (fun _ => by rw [hJ])) (h.W.cg (fun _ _ => by rw [hJ])) ⟨fun r hr => ?_, fun r hr => ?_⟩ (h.kQ (by rw [hJ]) (by rw [hJ]) (fun _ => by rw [hJ])) (h.kS hE.c (Nat.le_of_eq (by unfold nP; rw [e1 0 0 0 (by omega) (by omega)])) (e1 0 0 1 (by omega) (by omega)) (fun k j a b => e1 k 0 j (by omega) (by omega)) (fun k i j a b _ => e1 k i j (by omega) (by omega))) (h.kL hE.c (Nat.le_of_eq (by unfold nP; rw [e1 0 0 0 (by omega) (by omega)])) (e1 0 0 1 (by omega) (by omega)) (e1 0 0 2 (by omega) (by omega)) (fun j => e1 17 0 j (by omega) (by omega)) (fun k j a b => e1 k 0 j (by omega) (by omega)) (fun k i j a b _ => e1 k i j (by omega) (by omega))) (fun w hw => by rw [e1 48 0 w (by omega) (by omega), e1 25 0 w (by omega) (by omega)]; exact h.co hw)
  · by_cases z : r = q
    · subst z
      rw [ik, a1, a2, a3, c13, c10, c11, c12]
      exact ⟨rfl, fun _ => ⟨d1, by omega, u1, n1, by omega, by omega, by omega⟩⟩
    · have w1 : ∀ k, 10 ≤ k → k ≤ 13 → τ.1 k 0 r = σ.1 k 0 r := fun k h1 h2 => e1 k 0 r (by omega) (by omega)
      have v1 : isRk τ r = isRk σ r := by unfold isRk; rw [w1 13 (by decide) (by decide)]
      have v2 : rAt τ r = rAt σ r := by unfold rAt; rw [w1 10 (by decide) (by decide)]
      have v3 : rUp τ r = rUp σ r := by unfold rUp; rw [w1 11 (by decide) (by decide)]
      have v4 : rDn τ r = rDn σ r := by unfold rDn; rw [w1 12 (by decide) (by decide)]
      rw [v1, v2, v3, v4, w1 13 (by decide) (by decide), w1 10 (by decide) (by decide), w1 11 (by decide) (by decide), w1 12 (by decide) (by decide)]
      exact h.R r hr
  · by_cases z : r = q
    · subst z
      unfold RK
      rw [ik, a1, a2, a3, b1, b2, b3, t0, t1, t2, t3]
      exact ⟨rfl, d1, by omega, u1, n1, by omega, by omega, by omega, fun _ => ⟨rfl, rfl, rfl⟩⟩
    · have w1 : ∀ k, 10 ≤ k → k ≤ 13 → τ.1 k 0 r = σ.1 k 0 r := fun k h1 h2 => e1 k 0 r (by omega) (by omega)
      have w2 : ∀ j, τ.1 49 r j = σ.1 49 r j := fun j => e1 49 r j (by omega) (by omega)
      have v1 : isRk τ r = isRk σ r := by unfold isRk; rw [w1 13 (by decide) (by decide)]
      have v2 : rAt τ r = rAt σ r := by unfold rAt; rw [w1 10 (by decide) (by decide)]
      have v3 : rUp τ r = rUp σ r := by unfold rUp; rw [w1 11 (by decide) (by decide)]
      have v4 : rDn τ r = rDn σ r := by unfold rDn; rw [w1 12 (by decide) (by decide)]
      have v5 : cRd τ r = cRd σ r := by unfold cRd; rw [w2 1]
      have v6 : cRu τ r = cRu σ r := by unfold cRu; rw [w2 2]
      have v7 : cRn τ r = cRn σ r := by unfold cRn; rw [w2 3]
      unfold RK
      rw [v1, v2, v3, v4, v5, v6, v7, w2 0, w2 1, w2 2, w2 3]
      exact h.rk hr
theorem RI_forget {B : gB} {σ : gS} (h : RI B σ) : RI B (sI (sI (sI (sI σ 49 0 0 (nI 0)) 49 1 0 (nI 0)) 13 0 0 (nI 0)) 13 0 1 (nI 0)) := by
  generalize hτ : sI (sI (sI (sI σ 49 0 0 (nI 0)) 49 1 0 (nI 0)) 13 0 0 (nI 0)) 13 0 1 (nI 0) = τ
  have e1 : ∀ k i j, ¬ (k = 49 ∧ j = 0) → ¬ (k = 13) → τ.1 k i j = σ.1 k i j := fun k i j h1 h2 => by
    rw [← hτ, sI_at, if_neg (by omega), sI_at, if_neg (by omega), sI_at, if_neg (by omega), sI_at, if_neg (by omega)]
  have hE : eqP σ τ := fun k j a b => e1 k 0 j (by omega) (by omega)
  have hJ : τ.2 = σ.2 := by rw [← hτ]; rfl
  have c13 : ∀ r, r < 2 → τ.1 13 0 r = nI 0 := fun r hr => by
    rcases (show r = 0 ∨ r = 1 by omega) with rfl | rfl
    · rw [← hτ, sI_at, if_neg (by omega), sI_at, if_pos ⟨rfl, rfl, rfl⟩]
    · rw [← hτ, sI_at, if_pos ⟨rfl, rfl, rfl⟩]
  have c49 : ∀ r, r < 2 → τ.1 49 r 0 = nI 0 := fun r hr => by
    rcases (show r = 0 ∨ r = 1 by omega) with rfl | rfl
    · rw [← hτ, sI_at, if_neg (by omega), sI_at, if_neg (by omega), sI_at, if_neg (by omega), sI_at, if_pos ⟨rfl, rfl, rfl⟩]
    · rw [← hτ, sI_at, if_neg (by omega), sI_at, if_neg (by omega), sI_at, if_pos ⟨rfl, rfl, rfl⟩]
  have ik : ∀ r, r < 2 → isRk τ r = false := fun r hr => by unfold isRk; rw [c13 r hr]; rfl
  refine RI.mk h.M h.C (h.D.cg (fun j hj => e1 0 0 j (by omega) (by omega)) (fun j => e1 40 0 j (by omega) (by omega))) (h.kP hE (e1 _ _ _ (by omega) (by omega)) (fun k i j a b => e1 k i j (by omega) (by omega)) (fun i j => by rw [hJ])) (h.Ch.cg (fun _ => by rw [hJ])) (h.W.cg (fun _ _ => by rw [hJ])) ⟨fun r hr => ?_, fun r hr => ?_⟩ (h.kQ (by rw [hJ]) (by rw [hJ]) (fun _ => by rw [hJ])) (h.kS hE.c (Nat.le_of_eq (by unfold nP; rw [e1 0 0 0 (by omega) (by omega)])) (e1 0 0 1 (by omega) (by omega)) (fun k j a b => e1 k 0 j (by omega) (by omega)) (fun k i j a b _ => e1 k i j (by omega) (by omega))) (h.kL hE.c (Nat.le_of_eq (by unfold nP; rw [e1 0 0 0 (by omega) (by omega)])) (e1 0 0 1 (by omega) (by omega)) (e1 0 0 2 (by omega) (by omega)) (fun j => e1 17 0 j (by omega) (by omega)) (fun k j a b => e1 k 0 j (by omega) (by omega)) (fun k i j a b _ => e1 k i j (by omega) (by omega))) (fun w hw => by rw [e1 48 0 w (by omega) (by omega), e1 25 0 w (by omega) (by omega)]; exact h.co hw)
  · rw [ik r hr, c13 r hr]
    exact ⟨rfl, fun z => absurd z (by decide)⟩
  · have k := h.rk hr
    have v5 : cRd τ r = cRd σ r := by unfold cRd; rw [e1 49 r 1 (by omega) (by omega)]
    have v6 : cRu τ r = cRu σ r := by unfold cRu; rw [e1 49 r 2 (by omega) (by omega)]
    have v7 : cRn τ r = cRn σ r := by unfold cRn; rw [e1 49 r 3 (by omega) (by omega)]
    unfold RK
    rw [ik r hr, v5, v6, v7, c49 r hr, e1 49 r 1 (by omega) (by omega), e1 49 r 2 (by omega) (by omega), e1 49 r 3 (by omega) (by omega)]
    exact ⟨rfl, k.2.1, k.2.2.1, k.2.2.2.1, k.2.2.2.2.1, k.2.2.2.2.2.1, k.2.2.2.2.2.2.1, k.2.2.2.2.2.2.2.1, fun z => absurd z (by decide)⟩
