/-! a call on the class, then on the check: the same answer, and what holds holds again -/
theorem eM.rf (σ : gS) : eM σ σ := fun _ _ _ _ => ⟨rfl, rfl⟩
theorem eM.isP {σ τ : gS} (h : eM σ τ) (x : Int32) : isPl τ x = isPl σ x := by unfold isPl; rw [h.n.1]
theorem eM.isC {σ τ : gS} (h : eM σ τ) (x : Int32) : isCl τ x = isCl σ x := by unfold isCl; rw [h.isP, h.p.cl]
theorem eM.fit {σ τ : gS} (h : eM σ τ) (x n : Int32) : fitb τ x n = fitb σ x n := by unfold fitb; rw [h.isC, h.p.st, h.p.to]
theorem eM.stO {σ τ : gS} (h : eM σ τ) (x s a r : Int32) : stOK τ x s a r = stOK σ x s a r := by unfold stOK; rw [h.isP, h.p.cl, h.p.st, h.p.to]
theorem eM.opnE {σ τ : gS} (h : eM σ τ) (hI : MI σ) (x : Int32) : opn τ x = opn σ x := by
  have hl : isLo τ x = isLo σ x := by unfold isLo; rw [h.n.2.2]
  unfold opn
  rw [hl]
  by_cases z : isLo σ x = true
  · obtain ⟨q, hq, rfl⟩ := isLo_t z
    have h60 := hI.2.2.2.2.1.2.1
    rw [nI_clamp (by omega), jq.cg hI.1 h.p.c (fun k j _ hk => (h k 0 j (by omega)).1) (hI.2.2.2.2.1.2.2 q hq)]
  · rw [Bool.eq_false_iff.mpr z, Bool.false_and, Bool.false_and]
theorem cl_nI {q : Nat} (h : q < 2147483648) : (nI q).toNatClampNeg = q := nI_clamp h
theorem nI_inj {a b : Nat} (ha : a < 2147483648) (hb : b < 2147483648) (h : nI a = nI b) : a = b := (nI_eq ha hb).mp h
theorem hbd_of {τ : gS} (hP : WfP τ) : ∀ p n d w : Nat, p < nP τ → clo τ p = true → n ≤ 60 → tot τ p (stN τ p) ≤ n → d ≤ n → paN τ p n d w < 9223372036854775808 := fun p n d w h1 h2 h3 h4 h5 => by
  by_cases z : w ≤ 2
  · exact (SO_of hP p n d w h1 h2 h3 h4 h5 z).2
  · have e : paN τ p n d w = paN τ p n d 2 := by unfold paN; rw [if_neg (by omega), if_neg (by omega), if_neg (by decide), if_neg (by decide)]
    rw [e]; exact (SO_of hP p n d 2 h1 h2 h3 h4 h5 (Nat.le_refl 2)).2
theorem st_plan {B : gB} {σ : gS} {r1 : Int32} {u : gB × gS} (hI : RI B σ) (hp : if nP σ = 24 then r1 = -2 ∧ u = (B, σ) else r1 = nI (nP σ) ∧ ∃ q, u = (gP B (nP σ) q, sI (sP σ (nP σ)) 40 0 3 (nI (nP σ + 1)))) : (WfP u.2 ∧ BkM u.1) ∧ (u.1.1 40 0 = B.1 40 0 ∧ u.1.1 0 0 = B.1 0 0) ∧ ∀ r2 τ2, (if nP u.2 = 24 then r2 = -2 ∧ τ2 = u.2 else r2 = nI (nP u.2) ∧ τ2 = sI (sI u.2 3 0 (nP u.2) (nI 0)) 0 0 0 (nI (nP u.2 + 1))) → r1 = r2 ∧ RI u.1 τ2 := by
  by_cases z : nP σ = 24
  · rw [if_pos z] at hp
    obtain ⟨rfl, rfl⟩ := hp
    refine ⟨⟨hI.P, hI.M⟩, ⟨rfl, rfl⟩, fun r2 τ2 h2 => ?_⟩
    rw [if_pos z] at h2
    exact ⟨h2.1.symm, by rw [h2.2]; exact hI⟩
  · rw [if_neg z] at hp
    obtain ⟨rfl, q, rfl⟩ := hp
    have h24 := hI.P.2.1
    have hn : nP (sI (sP σ (nP σ)) 40 0 3 (nI (nP σ + 1))) = nP σ := rfl
    have hM : eM σ (sI (sP σ (nP σ)) 40 0 3 (nI (nP σ + 1))) := eM.mk (fun k i j hk => by
      rw [sI_at, if_neg (by omega)]
      show (bif in1 50 55 (nP σ) k i then 0 else σ.1 k i j) = _
      rw [in1_f (by omega)]; rfl) (fun k i j hk => by
      show (bif in5 (nP σ) k i then 0 else σ.2 k i j) = _
      rw [in5_f (by omega)]; rfl)
    refine ⟨⟨(hM.mi hI.mi).1, gP_M hI.M⟩, ⟨rfl, rfl⟩, fun r2 τ2 h2 => ?_⟩
    have h2 : if nP σ = 24 then r2 = -2 ∧ τ2 = sI (sP σ (nP σ)) 40 0 3 (nI (nP σ + 1)) else r2 = nI (nP σ) ∧ τ2 = sI (sI (sI (sP σ (nP σ)) 40 0 3 (nI (nP σ + 1))) 3 0 (nP σ) (nI 0)) 0 0 0 (nI (nP σ + 1)) := h2
    rw [if_neg z] at h2
    exact ⟨h2.1.symm, by rw [h2.2]; exact RI_plan hI (by omega)⟩
theorem st_stage {B : gB} {σ τ1 : gS} {r1 x sz a r : Int32} (hI : RI B σ) (hp : if stOK σ x sz a r = true then r1 = nI (stN σ x.toNatClampNeg + 1) ∧ ∃ sq : Nat, 1 ≤ sq ∧ tot σ x.toNatClampNeg (stN σ x.toNatClampNeg) + sq ≤ 60 ∧ sz = nI sq ∧ apP σ τ1 x.toNatClampNeg sq a r else r1 = -2 ∧ τ1 = σ) : WfP τ1 ∧ ∀ r2 τ2, (if stOK τ1 x sz a r = true then ∃ pn : Nat, pn < nP τ1 ∧ x = nI pn ∧ r2 = nI (stN τ1 pn + 1) ∧ τ2 = stUp τ1 pn sz a r else r2 = -2 ∧ τ2 = τ1) → r1 = r2 ∧ RI B τ2 := by
  have h24 := hI.P.2.1
  by_cases z : stOK σ x sz a r = true
  · rw [if_pos z] at hp
    obtain ⟨rfl, sq, h1, h2, rfl, hA⟩ := hp
    obtain ⟨pn, hpn, rfl⟩ := isPl_t (Bool.and_eq_true_iff.mp z).1
    have z2 := z
    rw [stOK_nI hpn h24] at z2
    obtain ⟨b1, b2, b3, b4, b5, b6, b7, b8⟩ := of_decide_eq_true z2
    rw [cl_nI (by omega)] at h2 hA ⊢
    obtain ⟨hM, hR⟩ := RI_stage hI hpn b1 b2 b3 h1 b5 b6 b7 h2 hA
    refine ⟨(hM.mi hI.mi).1, fun r2 τ2 h2 => ?_⟩
    rw [if_pos (by rw [hM.stO]; exact z)] at h2
    obtain ⟨pn', hpn', e, e2, e3⟩ := h2
    rw [hM.n.1] at hpn'
    have e4 := nI_inj (by omega) (by omega) e
    subst e4
    exact ⟨by rw [e2, hM.p.st], by rw [e3]; exact hR⟩
  · rw [if_neg z] at hp
    obtain ⟨rfl, rfl⟩ := hp
    refine ⟨hI.P, fun r2 τ2 h2 => ?_⟩
    rw [if_neg z] at h2
    exact ⟨h2.1.symm, by rw [h2.2]; exact hI⟩
theorem st_part {B : gB} {σ τ1 : gS} {r1 x n d v : Int32} (hI : RI B σ) (hp : if paOK σ x n d v = true then r1 = nI 1 ∧ τ1 = pcU σ x.toNatClampNeg n.toNatClampNeg d.toNatClampNeg v.toNatClampNeg else r1 = -2 ∧ τ1 = σ) : MI τ1 ∧ ∀ r2 τ2, (if paOK τ1 x n d v = true then ∃ pq nq dq wq : Nat, pq < nP τ1 ∧ clo τ1 pq = true ∧ 1 ≤ nq ∧ nq ≤ 60 ∧ tot τ1 pq (stN τ1 pq) ≤ nq ∧ dq ≤ nq ∧ wq ≤ 2 ∧ x = nI pq ∧ n = nI nq ∧ d = nI dq ∧ v = nI wq ∧ r2 = nI 1 ∧ Sm (paUp τ1 pq nq dq wq) τ2 else r2 = -2 ∧ Sm τ1 τ2) → r1 = r2 ∧ RI B τ2 := by
  have h24 := hI.P.2.1
  by_cases z : paOK σ x n d v = true
  · rw [if_pos z] at hp
    obtain ⟨rfl, hτ⟩ := hp
    have hM : eM σ τ1 := eM.mk (fun k i j _ => by rw [hτ]; rfl) (fun k i j hk => by rw [hτ]; unfold pcU; rw [sJ_at, if_neg (by omega), sJ_at, if_neg (by omega)])
    refine ⟨hM.mi hI.mi, fun r2 τ2 h2 => ?_⟩
    rw [if_pos (by unfold paOK at z ⊢; rw [hM.fit]; exact z)] at h2
    obtain ⟨pq, nq, dq, wq, c1, c2, c3, c4, c5, c6, c7, rfl, rfl, rfl, rfl, c8, c9⟩ := h2
    rw [hM.n.1] at c1
    rw [hM.p.cl] at c2
    rw [hM.p.to, hM.p.st] at c5
    rw [cl_nI (by omega), cl_nI (by omega), cl_nI (by omega), cl_nI (by omega)] at hτ
    refine ⟨c8.symm, RI.sm ?_ c9⟩
    rw [hτ]
    exact RI_part hI c1 c2 c3 c4 c5 c6 c7
  · rw [if_neg z] at hp
    obtain ⟨rfl, rfl⟩ := hp
    refine ⟨hI.mi, fun r2 τ2 h2 => ?_⟩
    rw [if_neg z] at h2
    exact ⟨h2.1.symm, hI.sm h2.2⟩
theorem st_compare {B : gB} {σ τ1 : gS} {r1 x y n d : Int32} (hI : RI B σ) (hp : if coOK4 σ x y n d = true then r1 = ccN σ x.toNatClampNeg y.toNatClampNeg n.toNatClampNeg d.toNatClampNeg ∧ τ1 = σ else r1 = -2 ∧ τ1 = σ) : τ1 = σ ∧ ∀ r2 τ2, (if coOK4 σ x y n d = true then ∃ aq bq nq dq : Nat, aq < nP σ ∧ bq < nP σ ∧ clo σ aq = true ∧ clo σ bq = true ∧ 1 ≤ nq ∧ nq ≤ 60 ∧ tot σ aq (stN σ aq) ≤ nq ∧ tot σ bq (stN σ bq) ≤ nq ∧ dq ≤ nq ∧ x = nI aq ∧ y = nI bq ∧ n = nI nq ∧ d = nI dq ∧ r2 = ccN σ aq bq nq dq ∧ Sm σ τ2 else r2 = -2 ∧ Sm σ τ2) → r1 = r2 ∧ RI B τ2 := by
  have h24 := hI.P.2.1
  by_cases z : coOK4 σ x y n d = true
  · rw [if_pos z] at hp
    refine ⟨hp.2, fun r2 τ2 h2 => ?_⟩
    rw [if_pos z] at h2
    obtain ⟨aq, bq, nq, dq, c1, c2, c3, c4, c5, c6, c7, c8, c9, rfl, rfl, rfl, rfl, c10, c11⟩ := h2
    have hp1 := hp.1
    rw [cl_nI (by omega), cl_nI (by omega), cl_nI (by omega), cl_nI (by omega)] at hp1
    exact ⟨hp1.trans c10.symm, hI.sm c11⟩
  · rw [if_neg z] at hp
    refine ⟨hp.2, fun r2 τ2 h2 => ?_⟩
    rw [if_neg z] at h2
    exact ⟨hp.1.trans h2.1.symm, hI.sm h2.2⟩
theorem st_crossing {B : gB} {σ τ1 : gS} {r1 x y n k : Int32} (hI : RI B σ) (hp : if crOK σ x y n k = true then r1 = crA σ x.toNatClampNeg y.toNatClampNeg n.toNatClampNeg k.toNatClampNeg ∧ τ1 = σ else r1 = -2 ∧ τ1 = σ) : τ1 = σ ∧ ∀ r2 τ2, (if crOK σ x y n k = true then ∃ aq bq nq kq : Nat, aq < nP σ ∧ bq < nP σ ∧ clo σ aq = true ∧ clo σ bq = true ∧ 1 ≤ nq ∧ nq ≤ 60 ∧ tot σ aq (stN σ aq) ≤ nq ∧ tot σ bq (stN σ bq) ≤ nq ∧ x = nI aq ∧ y = nI bq ∧ n = nI nq ∧ k = nI kq ∧ kq < 2147483648 ∧ r2 = crA σ aq bq nq kq ∧ Sm σ τ2 else r2 = -2 ∧ Sm σ τ2) → r1 = r2 ∧ RI B τ2 := by
  have h24 := hI.P.2.1
  by_cases z : crOK σ x y n k = true
  · rw [if_pos z] at hp
    refine ⟨hp.2, fun r2 τ2 h2 => ?_⟩
    rw [if_pos z] at h2
    obtain ⟨aq, bq, nq, kq, c1, c2, c3, c4, c5, c6, c7, c8, rfl, rfl, rfl, rfl, c9, c10, c11⟩ := h2
    have hp1 := hp.1
    rw [cl_nI (by omega), cl_nI (by omega), cl_nI (by omega), cl_nI (by omega)] at hp1
    exact ⟨hp1.trans c10.symm, hI.sm c11⟩
  · rw [if_neg z] at hp
    refine ⟨hp.2, fun r2 τ2 h2 => ?_⟩
    rw [if_neg z] at h2
    exact ⟨hp.1.trans h2.1.symm, hI.sm h2.2⟩
theorem st_risk {B : gB} {σ τ1 : gS} {r1 t d u n : Int32} (hI : RI B σ) (hp : if rkOK t d u n = true then ∃ q : Nat, q < 2 ∧ t = nI q ∧ r1 = nI 1 ∧ τ1 = tlUp σ q d u n else r1 = -2 ∧ τ1 = σ) : ∀ r2 τ2, (if rkOK t d u n = true then ∃ q : Nat, q < 2 ∧ t = nI q ∧ r2 = 1 ∧ τ2 = rkUp τ1 q d u n else r2 = -2 ∧ τ2 = τ1) → r1 = r2 ∧ RI B τ2 := by
  intro r2 τ2 h2
  by_cases z : rkOK t d u n = true
  · rw [if_pos z] at hp h2
    obtain ⟨q, hq, rfl, rfl, rfl⟩ := hp
    obtain ⟨q', hq', e, rfl, rfl⟩ := h2
    have e4 := nI_inj (by omega) (by omega) e
    subst e4
    obtain ⟨z1, z2, z3, z4⟩ := of_decide_eq_true z
    exact ⟨rfl, RI_risk hI hq z2 z3 z4⟩
  · rw [if_neg z] at hp h2
    exact ⟨hp.1.trans h2.1.symm, by rw [h2.2, hp.2]; exact hI⟩
theorem st_forget {B : gB} {σ τ1 : gS} {r1 : Int32} (hI : RI B σ) (hp : r1 = nI (rkN σ) ∧ τ1 = sI (sI σ 49 0 0 (nI 0)) 49 1 0 (nI 0)) : WfR τ1 ∧ ∀ r2 τ2, (r2 = nI (rkN τ1) ∧ τ2 = sI (sI τ1 13 0 0 (nI 0)) 13 0 1 (nI 0)) → r1 = r2 ∧ RI B τ2 := by
  obtain ⟨rfl, hτ⟩ := hp
  have hM : eM σ τ1 := eM.mk (fun k i j hk => by rw [hτ, sI_at, if_neg (by omega), sI_at, if_neg (by omega)]) (fun k i j _ => by rw [hτ]; rfl)
  refine ⟨(hM.mi hI.mi).2.2.1, fun r2 τ2 h2 => ⟨?_, ?_⟩⟩
  · have e : rkN τ1 = rkN σ := by unfold rkN isRk; rw [(hM 13 0 0 (by decide)).1, (hM 13 0 1 (by decide)).1]
    rw [h2.1, e]
  · rw [h2.2, hτ]; exact RI_forget hI
theorem st_supplier {B : gB} {σ : gS} {r1 x y z : Int32} {u : gB × gS} (hI : RI B σ) (hp : if suOK σ x y z = true then r1 = nI (nS σ) ∧ ∃ q, u = (gU B (nS σ) q, sI (sU σ (sI (sI (sI z00 58 0 0 x) 58 0 1 y) 58 0 2 z) (nS σ)) 40 0 7 (nI (nS σ + 1))) else r1 = -2 ∧ u = (B, σ)) : (MI u.2 ∧ BkM u.1) ∧ (u.1.1 40 0 = B.1 40 0 ∧ u.1.1 0 0 = B.1 0 0) ∧ ∀ r2 τ2, (if suOK u.2 x y z = true then r2 = nI (nS u.2) ∧ τ2 = suUp u.2 x y z else r2 = -2 ∧ τ2 = u.2) → r1 = r2 ∧ RI u.1 τ2 := by
  by_cases w : suOK σ x y z = true
  · rw [if_pos w] at hp
    obtain ⟨rfl, q, rfl⟩ := hp
    have w2 := w
    unfold suOK at w2
    rw [Bool.and_eq_true, Bool.and_eq_true, Bool.and_eq_true] at w2
    obtain ⟨hM, hR⟩ := RI_supplier (q := q) hI w2.1.1.1 w2.1.1.2 w2.1.2 (of_decide_eq_true w2.2) rfl
    refine ⟨⟨hM.mi hI.mi, gU_M hI.M⟩, ⟨rfl, rfl⟩, fun r2 τ2 h2 => ?_⟩
    rw [if_pos (by unfold suOK; rw [hM.isC, hM.isC, hM.isC, hM.n.2.1]; exact w)] at h2
    exact ⟨by rw [h2.1, hM.n.2.1], by rw [h2.2]; exact hR⟩
  · rw [if_neg w] at hp
    obtain ⟨rfl, rfl⟩ := hp
    refine ⟨⟨hI.mi, hI.M⟩, ⟨rfl, rfl⟩, fun r2 τ2 h2 => ?_⟩
    rw [if_neg w] at h2
    exact ⟨h2.1.symm, by rw [h2.2]; exact hI⟩
theorem st_lot {B : gB} {σ : gS} {r1 x z : Int32} {u : gB × gS} (hI : RI B σ) (hp : if loOK σ x z = true then r1 = nI (nL σ) ∧ ∃ q, u = (gL B (nL σ) q, sI (sL σ (sI (sI (sI (sI z00 60 0 0 (x)) 60 0 1 z) 60 0 3 (nI (pO σ x.toNatClampNeg (rl σ x.toNatClampNeg)))) 60 0 4 (nI (rl σ x.toNatClampNeg))) (nL σ)) 40 0 9 (nI (nL σ + 1))) else r1 = -2 ∧ u = (B, σ)) : (MI u.2 ∧ BkM u.1) ∧ (u.1.1 40 0 = B.1 40 0 ∧ u.1.1 0 0 = B.1 0 0) ∧ ∀ r2 τ2, (if loOK u.2 x z = true then ∃ sn : Nat, sn < nS u.2 ∧ x = nI sn ∧ r2 = nI (nL u.2) ∧ τ2 = loUp u.2 sn z else r2 = -2 ∧ τ2 = u.2) → r1 = r2 ∧ RI u.1 τ2 := by
  have h8 := hI.S.2.1
  by_cases w : loOK σ x z = true
  · rw [if_pos w] at hp
    obtain ⟨rfl, q, rfl⟩ := hp
    have w2 := w
    unfold loOK at w2
    rw [Bool.and_eq_true] at w2
    obtain ⟨sn, hsn, rfl⟩ := isSu_t w2.1
    have w3 := of_decide_eq_true w2.2
    rw [cl_nI (by omega)] at w3 ⊢
    obtain ⟨hM, hR⟩ := RI_lot (q := q) hI hsn w3.1 w3.2.2 rfl
    refine ⟨⟨hM.mi hI.mi, gL_M hI.M⟩, ⟨rfl, rfl⟩, fun r2 τ2 h2 => ?_⟩
    have e : ∀ τ, eM σ τ → loOK τ (nI sn) z = loOK σ (nI sn) z := fun τ hm => by
      have e1 : isSu τ (nI sn) = isSu σ (nI sn) := by unfold isSu; rw [hm.n.2.1]
      have e2 : rl τ (nI sn).toNatClampNeg = rl σ (nI sn).toNatClampNeg := by unfold rl; rw [(hm 15 0 _ (by decide)).1]
      have e3 : ∀ j, pO τ (nI sn).toNatClampNeg j = pO σ (nI sn).toNatClampNeg j := fun j => by unfold pO; rw [(hm 14 0 _ (by decide)).1]
      unfold loOK
      rw [e1, e2, e3, hm.p.st, hm.p.to, hm.n.2.2]
    rw [if_pos (by rw [e _ hM]; exact w)] at h2
    obtain ⟨sn', hsn', e5, e6, e7⟩ := h2
    rw [hM.n.2.1] at hsn'
    have e8 := nI_inj (by omega) (by omega) e5
    subst e8
    exact ⟨by rw [e6, hM.n.2.2], by rw [e7]; exact hR⟩
  · rw [if_neg w] at hp
    obtain ⟨rfl, rfl⟩ := hp
    refine ⟨⟨hI.mi, hI.M⟩, ⟨rfl, rfl⟩, fun r2 τ2 h2 => ?_⟩
    rw [if_neg w] at h2
    exact ⟨h2.1.symm, by rw [h2.2]; exact hI⟩
theorem st_item {B : gB} {σ τ1 : gS} {r1 x v : Int32} (hI : RI B σ) (hp : if itOK σ x v = true then r1 = nI (jstep σ (lPl σ x.toNatClampNeg) (jq σ x.toNatClampNeg) v.toNatClampNeg).1 ∧ ITP σ τ1 x.toNatClampNeg v.toNatClampNeg else r1 = -2 ∧ τ1 = σ) : MI τ1 ∧ ∀ r2 τ2, (r2 = (if itOK τ1 x v = true then nI (jq (itUp τ1 x.toNatClampNeg v) x.toNatClampNeg).1 else -2) ∧ Sm (if itOK τ1 x v = true then hrs (itUp τ1 x.toNatClampNeg v) x.toNatClampNeg else τ1) τ2) → r1 = r2 ∧ RI B τ2 := by
  have h60 := hI.L.2.1
  by_cases w : itOK σ x v = true
  · rw [if_pos w] at hp
    have w2 := w
    unfold itOK at w2
    rw [Bool.and_eq_true] at w2
    obtain ⟨q, hq, rfl, h0⟩ := opn_t h60 w2.1
    have w3 := of_decide_eq_true w2.2
    obtain ⟨v1, v2⟩ := i_nat w3.1
    obtain ⟨vn, hvn⟩ : ∃ z : Nat, z = v.toInt.toNat := ⟨_, rfl⟩
    rw [← hvn] at v1 v2
    have hv3 : vn ≤ 3 := by omega
    clear hvn v2 w3
    subst v1
    rw [cl_nI (by omega), cl_nI (by omega)] at hp
    rw [cl_nI (by omega)]
    obtain ⟨hM, hr, hR⟩ := RI_item hI hq h0 hv3 hp.2
    refine ⟨hM.mi hI.mi, fun r2 τ2 h2 => ?_⟩
    have e : itOK τ1 (nI q) (nI vn) = true := by
      unfold itOK
      rw [hM.opnE hI.mi]; exact w
    rw [if_pos e, if_pos e, hr] at h2
    exact ⟨hp.1.trans h2.1.symm, hR.sm h2.2⟩
  · rw [if_neg w] at hp
    obtain ⟨rfl, rfl⟩ := hp
    refine ⟨hI.mi, fun r2 τ2 h2 => ?_⟩
    rw [if_neg w, if_neg w] at h2
    exact ⟨h2.1.symm, hI.sm h2.2⟩
theorem st_undo {B : gB} {σ τ1 : gS} {r1 x : Int32} (hI : RI B σ) (hp : if unOK σ x = true then r1 = nI (lSn σ x.toNatClampNeg - 1) ∧ SA σ τ1 x.toNatClampNeg (jd σ x.toNatClampNeg (lPl σ x.toNatClampNeg) (lSn σ x.toNatClampNeg - 1)) (itm σ x.toNatClampNeg) else r1 = -2 ∧ τ1 = σ) : MI τ1 ∧ ∀ r2 τ2, (r2 = (if unOK τ1 x = true then nI (lSn τ1 x.toNatClampNeg - 1) else -2) ∧ Sm (if unOK τ1 x = true then sI τ1 23 0 x.toNatClampNeg (nI (lSn τ1 x.toNatClampNeg - 1)) else τ1) τ2) → r1 = r2 ∧ RI B τ2 := by
  have h60 := hI.L.2.1
  by_cases w : unOK σ x = true
  · rw [if_pos w] at hp
    have w2 := w
    unfold unOK at w2
    rw [Bool.and_eq_true] at w2
    obtain ⟨q, hq, rfl, h0⟩ := opn_t h60 w2.1
    have w3 := of_decide_eq_true w2.2
    rw [cl_nI (by omega)] at hp w3 ⊢
    obtain ⟨hM, hR⟩ := RI_undo hI hq h0 w3 hp.2
    refine ⟨hM.mi hI.mi, fun r2 τ2 h2 => ?_⟩
    have e9 : lSn τ1 q = lSn σ q := (hM.lot q).2.2
    have e : unOK τ1 (nI q) = true := by
      unfold unOK at w ⊢
      rw [cl_nI (by omega)] at w ⊢
      rw [hM.opnE hI.mi, e9]; exact w
    rw [if_pos e, if_pos e, e9] at h2
    exact ⟨hp.1.trans h2.1.symm, hR.sm h2.2⟩
  · rw [if_neg w] at hp
    obtain ⟨rfl, rfl⟩ := hp
    refine ⟨hI.mi, fun r2 τ2 h2 => ?_⟩
    rw [if_neg w, if_neg w] at h2
    exact ⟨h2.1.symm, hI.sm h2.2⟩
theorem st_correct {B : gB} {σ τ1 : gS} {r1 x k v : Int32} (hI : RI B σ) (hp : if ctOK σ x k v = true then r1 = nI (jd (coUp σ x.toNatClampNeg k.toNatClampNeg (nI v.toNatClampNeg)) x.toNatClampNeg (lPl σ x.toNatClampNeg) (lSn σ x.toNatClampNeg)).1 ∧ COP σ τ1 x.toNatClampNeg k.toNatClampNeg v.toNatClampNeg else r1 = -2 ∧ τ1 = σ) : MI τ1 ∧ ∀ r2 τ2, (r2 = (if ctOK τ1 x k v = true then nI (jq (coUp τ1 x.toNatClampNeg k.toNatClampNeg v) x.toNatClampNeg).1 else -2) ∧ Sm (if ctOK τ1 x k v = true then hrs (coUp τ1 x.toNatClampNeg k.toNatClampNeg v) x.toNatClampNeg else τ1) τ2) → r1 = r2 ∧ RI B τ2 := by
  have h60 := hI.L.2.1
  by_cases w : ctOK σ x k v = true
  · rw [if_pos w] at hp
    have w2 := w
    unfold ctOK at w2
    rw [Bool.and_eq_true] at w2
    obtain ⟨q, hq, rfl, h0⟩ := opn_t h60 w2.1
    have w3 := of_decide_eq_true w2.2
    rw [cl_nI (by omega)] at w3
    have hs60 := (hI.L.2.2 q hq).2.2.2.2.2.2.2.2.1
    obtain ⟨v1, v2⟩ := i_nat w3.2.1
    obtain ⟨vn, hvn⟩ : ∃ z : Nat, z = v.toInt.toNat := ⟨_, rfl⟩
    rw [← hvn] at v1 v2
    have hv3 : vn ≤ 3 := by omega
    obtain ⟨k1, k2⟩ := i_nat w3.1.1
    obtain ⟨kn, hkn⟩ : ∃ z : Nat, z = k.toInt.toNat := ⟨_, rfl⟩
    rw [← hkn] at k1 k2
    have hk3 : kn < lSn σ q := by omega
    clear hvn v2 w3 hkn k2
    subst v1
    subst k1
    rw [cl_nI (by omega), cl_nI (by omega), cl_nI (by omega)] at hp
    rw [cl_nI (by omega), cl_nI (by omega)]
    obtain ⟨hM, hr, hR⟩ := RI_correct hI hq h0 hk3 hv3 hp.2
    refine ⟨hM.mi hI.mi, fun r2 τ2 h2 => ?_⟩
    have e : ctOK τ1 (nI q) (nI kn) (nI vn) = true := by
      unfold ctOK at w ⊢
      rw [cl_nI (by omega)] at w ⊢
      rw [hM.opnE hI.mi, (hM.lot q).2.2]; exact w
    rw [if_pos e, if_pos e, hr] at h2
    exact ⟨hp.1.trans h2.1.symm, hR.sm h2.2⟩
  · rw [if_neg w] at hp
    obtain ⟨rfl, rfl⟩ := hp
    refine ⟨hI.mi, fun r2 τ2 h2 => ?_⟩
    rw [if_neg w, if_neg w] at h2
    exact ⟨h2.1.symm, hI.sm h2.2⟩
theorem st_cost {B : gB} {σ τ1 : gS} {r1 t u : Int32} (hI : RI B σ) (hp : if coOK t u = true then ∃ q : Nat, q < 4 ∧ t = nI q ∧ r1 = σ.1 25 0 q ∧ τ1 = sI σ 48 0 q u else r1 = -2 ∧ τ1 = σ) : ∀ r2 τ2, (if coOK t u = true then ∃ q : Nat, q < 4 ∧ t = nI q ∧ r2 = τ1.1 25 0 q ∧ τ2 = sI τ1 25 0 q u else r2 = -2 ∧ τ2 = τ1) → r1 = r2 ∧ RI B τ2 := by
  intro r2 τ2 h2
  by_cases z : coOK t u = true
  · rw [if_pos z] at hp h2
    obtain ⟨q, hq, rfl, rfl, rfl⟩ := hp
    obtain ⟨q', hq', e, rfl, rfl⟩ := h2
    have e4 := nI_inj (by omega) (by omega) e
    subst e4
    exact ⟨by rw [sI_at, if_neg (by omega)], RI_cost hI⟩
  · rw [if_neg z] at hp h2
    exact ⟨hp.1.trans h2.1.symm, by rw [h2.2, hp.2]; exact hI⟩
