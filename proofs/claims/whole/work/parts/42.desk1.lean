set_option maxHeartbeats 4000000 in
set_option maxRecDepth 100000 in
theorem c_X6_planAt (l : Launch) (G : gG) (B : gB) (σ : gS) (hC : BkC B) (hD : DK B σ) (hmx : nP σ ≤ 24) (x : Int32) : Met l yX6_planAt [.code yX6_planAt cX6_planAt 2 (some (.object "SamplingDesk$Plan"))] ({ frames := 0, cells := 0, slots := 0, locals := 0 } : Room) (mPc G B σ [.ref (B.1 40 0), .int (x)]) (mQq G B (fun r σ' => r = (if isPl σ x = true then some (B.1 50 x.toNatClampNeg) else none) ∧ σ' = σ)) 0 0 (mA G) := by
  refine m_start (by decide) (Nat.le_of_ble_eq_true rfl) ?_
  intro p e s m below meth c ⟨hx, hb, hr, hml, hown, hK, hlk, hz⟩ hH hS ls hl
  have hl : lv_has ls 2 [(0, .ref (B.1 40 0)), (1, .int (x))] := hl
  have en := nI_I (n := nP σ) (by omega)
  refine lv_iload_n hx hb dX6_planAt_0 rfl (lv_at hl 1 rfl) ?_
  refine lv_if_lt (tgt := 21) hx hb dX6_planAt_1 (by decide) (fun c_1 => ?_) (fun c_1 => ?_)
  · refine lv_null hx hb dX6_planAt_21 ?_
    exact m_aret (r := none) hx hb hr hlk hH hS dX6_planAt_22 (⟨(if_neg (fun z => by have z2 := of_decide_eq_true z; first | (rw [i_lt, i0] at c_1; omega) | (rw [i_le, en] at c_9; omega))).symm, rfl⟩)
  · refine lv_iload_n hx hb dX6_planAt_4 rfl (lv_at hl 1 rfl) ?_
    refine lv_aload_n hx hb dX6_planAt_5 rfl (lv_at hl 0 rfl) ?_
    refine gf_X6_55 hx hb hown hK hH (bc hC 40) dX6_planAt_6 ?_
    refine m_toi (nP σ) (hD.1) ?_
    refine lv_icmp_ge (tgt := 21) hx hb dX6_planAt_9 (by decide) (fun c_9 => ?_) (fun c_9 => ?_)
    · refine lv_null hx hb dX6_planAt_21 ?_
      exact m_aret (r := none) hx hb hr hlk hH hS dX6_planAt_22 (⟨(if_neg (fun z => by have z2 := of_decide_eq_true z; first | (rw [i_lt, i0] at c_1; omega) | (rw [i_le, en] at c_9; omega))).symm, rfl⟩)
    · have hb9 : isPl σ x = true := decide_eq_true (by rw [i_lt, i0] at c_1; rw [i_le, en] at c_9; omega)
      obtain ⟨un, hun, he⟩ := isPl_t hb9
      subst he
      have hkB : un < B.2 50 := by rw [hD.2.1]; exact hun
      refine lv_aload_n hx hb dX6_planAt_12 rfl (lv_at hl 0 rfl) ?_
      refine gf_X6_25 hx hb hown hK hH (bc hC 40) dX6_planAt_13 ?_
      refine lv_iload_n hx hb dX6_planAt_16 rfl (lv_at hl 1 rfl) ?_
      refine m_aald hx hb hK hH (n := 24) 3 (bc hC 45) (fun _ _ => rfl) rfl rfl (un) (rfl) (by omega) (by decide) (rfs_v hkB) dX6_planAt_17 ?_
      refine lv_goto (tgt := 22) hx hb dX6_planAt_18 (by decide) ?_
      exact m_aret (r := some (B.1 50 un)) hx hb hr hlk hH hS dX6_planAt_22 (⟨by rw [if_pos hb9, nI_clamp (by omega)], rfl⟩)
set_option maxHeartbeats 4000000 in
set_option maxRecDepth 100000 in
theorem c_X6_supplierAt (l : Launch) (G : gG) (B : gB) (σ : gS) (hC : BkC B) (hD : DK B σ) (hmx : nS σ ≤ 8) (x : Int32) : Met l yX6_supplierAt [.code yX6_supplierAt cX6_supplierAt 2 (some (.object "SamplingDesk$Supplier"))] ({ frames := 0, cells := 0, slots := 0, locals := 0 } : Room) (mPc G B σ [.ref (B.1 40 0), .int (x)]) (mQq G B (fun r σ' => r = (if isSu σ x = true then some (B.1 57 x.toNatClampNeg) else none) ∧ σ' = σ)) 0 0 (mA G) := by
  refine m_start (by decide) (Nat.le_of_ble_eq_true rfl) ?_
  intro p e s m below meth c ⟨hx, hb, hr, hml, hown, hK, hlk, hz⟩ hH hS ls hl
  have hl : lv_has ls 2 [(0, .ref (B.1 40 0)), (1, .int (x))] := hl
  have en := nI_I (n := nS σ) (by omega)
  refine lv_iload_n hx hb dX6_supplierAt_0 rfl (lv_at hl 1 rfl) ?_
  refine lv_if_lt (tgt := 21) hx hb dX6_supplierAt_1 (by decide) (fun c_1 => ?_) (fun c_1 => ?_)
  · refine lv_null hx hb dX6_supplierAt_21 ?_
    exact m_aret (r := none) hx hb hr hlk hH hS dX6_supplierAt_22 (⟨(if_neg (fun z => by have z2 := of_decide_eq_true z; first | (rw [i_lt, i0] at c_1; omega) | (rw [i_le, en] at c_9; omega))).symm, rfl⟩)
  · refine lv_iload_n hx hb dX6_supplierAt_4 rfl (lv_at hl 1 rfl) ?_
    refine lv_aload_n hx hb dX6_supplierAt_5 rfl (lv_at hl 0 rfl) ?_
    refine gf_X6_168 hx hb hown hK hH (bc hC 40) dX6_supplierAt_6 ?_
    refine m_toi (nS σ) (hD.2.2.1) ?_
    refine lv_icmp_ge (tgt := 21) hx hb dX6_supplierAt_9 (by decide) (fun c_9 => ?_) (fun c_9 => ?_)
    · refine lv_null hx hb dX6_supplierAt_21 ?_
      exact m_aret (r := none) hx hb hr hlk hH hS dX6_supplierAt_22 (⟨(if_neg (fun z => by have z2 := of_decide_eq_true z; first | (rw [i_lt, i0] at c_1; omega) | (rw [i_le, en] at c_9; omega))).symm, rfl⟩)
    · have hb9 : isSu σ x = true := decide_eq_true (by rw [i_lt, i0] at c_1; rw [i_le, en] at c_9; omega)
      obtain ⟨un, hun, he⟩ := isSu_t hb9
      subst he
      have hkB : un < B.2 57 := by rw [hD.2.2.2.1]; exact hun
      refine lv_aload_n hx hb dX6_supplierAt_12 rfl (lv_at hl 0 rfl) ?_
      refine gf_X6_41 hx hb hown hK hH (bc hC 40) dX6_supplierAt_13 ?_
      refine lv_iload_n hx hb dX6_supplierAt_16 rfl (lv_at hl 1 rfl) ?_
      refine m_aald hx hb hK hH (n := 8) 4 (bc hC 46) (fun _ _ => rfl) rfl rfl (un) (rfl) (by omega) (by decide) (rfs_v hkB) dX6_supplierAt_17 ?_
      refine lv_goto (tgt := 22) hx hb dX6_supplierAt_18 (by decide) ?_
      exact m_aret (r := some (B.1 57 un)) hx hb hr hlk hH hS dX6_supplierAt_22 (⟨by rw [if_pos hb9, nI_clamp (by omega)], rfl⟩)
set_option maxHeartbeats 4000000 in
set_option maxRecDepth 100000 in
theorem c_X6_lotAt (l : Launch) (G : gG) (B : gB) (σ : gS) (hC : BkC B) (hD : DK B σ) (hmx : nL σ ≤ 60) (x : Int32) : Met l yX6_lotAt [.code yX6_lotAt cX6_lotAt 2 (some (.object "SamplingDesk$Lot"))] ({ frames := 0, cells := 0, slots := 0, locals := 0 } : Room) (mPc G B σ [.ref (B.1 40 0), .int (x)]) (mQq G B (fun r σ' => r = (if isLo σ x = true then some (B.1 60 x.toNatClampNeg) else none) ∧ σ' = σ)) 0 0 (mA G) := by
  refine m_start (by decide) (Nat.le_of_ble_eq_true rfl) ?_
  intro p e s m below meth c ⟨hx, hb, hr, hml, hown, hK, hlk, hz⟩ hH hS ls hl
  have hl : lv_has ls 2 [(0, .ref (B.1 40 0)), (1, .int (x))] := hl
  have en := nI_I (n := nL σ) (by omega)
  refine lv_iload_n hx hb dX6_lotAt_0 rfl (lv_at hl 1 rfl) ?_
  refine lv_if_lt (tgt := 21) hx hb dX6_lotAt_1 (by decide) (fun c_1 => ?_) (fun c_1 => ?_)
  · refine lv_null hx hb dX6_lotAt_21 ?_
    exact m_aret (r := none) hx hb hr hlk hH hS dX6_lotAt_22 (⟨(if_neg (fun z => by have z2 := of_decide_eq_true z; first | (rw [i_lt, i0] at c_1; omega) | (rw [i_le, en] at c_9; omega))).symm, rfl⟩)
  · refine lv_iload_n hx hb dX6_lotAt_4 rfl (lv_at hl 1 rfl) ?_
    refine lv_aload_n hx hb dX6_lotAt_5 rfl (lv_at hl 0 rfl) ?_
    refine gf_X6_177 hx hb hown hK hH (bc hC 40) dX6_lotAt_6 ?_
    refine m_toi (nL σ) (hD.2.2.2.2.1) ?_
    refine lv_icmp_ge (tgt := 21) hx hb dX6_lotAt_9 (by decide) (fun c_9 => ?_) (fun c_9 => ?_)
    · refine lv_null hx hb dX6_lotAt_21 ?_
      exact m_aret (r := none) hx hb hr hlk hH hS dX6_lotAt_22 (⟨(if_neg (fun z => by have z2 := of_decide_eq_true z; first | (rw [i_lt, i0] at c_1; omega) | (rw [i_le, en] at c_9; omega))).symm, rfl⟩)
    · have hb9 : isLo σ x = true := decide_eq_true (by rw [i_lt, i0] at c_1; rw [i_le, en] at c_9; omega)
      obtain ⟨un, hun, he⟩ := isLo_t hb9
      subst he
      have hkB : un < B.2 60 := by rw [hD.2.2.2.2.2]; exact hun
      refine lv_aload_n hx hb dX6_lotAt_12 rfl (lv_at hl 0 rfl) ?_
      refine gf_X6_47 hx hb hown hK hH (bc hC 40) dX6_lotAt_13 ?_
      refine lv_iload_n hx hb dX6_lotAt_16 rfl (lv_at hl 1 rfl) ?_
      refine m_aald hx hb hK hH (n := 60) 5 (bc hC 47) (fun _ _ => rfl) rfl rfl (un) (rfl) (by omega) (by decide) (rfs_v hkB) dX6_lotAt_17 ?_
      refine lv_goto (tgt := 22) hx hb dX6_lotAt_18 (by decide) ?_
      exact m_aret (r := some (B.1 60 un)) hx hb hr hlk hH hS dX6_lotAt_22 (⟨by rw [if_pos hb9, nI_clamp (by omega)], rfl⟩)
set_option maxHeartbeats 4000000 in
set_option maxRecDepth 100000 in
theorem c_X6_closedPlanAt (l : Launch) (G : gG) (B : gB) (σ : gS) (hI : RI B σ) (x : Int32) : Met l yX6_closedPlanAt [.code yX6_closedPlanAt cX6_closedPlanAt 3 (some (.object "SamplingDesk$Plan"))] ({ frames := 1, cells := 0, slots := 0, locals := 21 } : Room) (mPc G B σ [.ref (B.1 40 0), .int (x)]) (mQq G B (fun r σ' => r = (if isCl σ x = true then some (B.1 50 x.toNatClampNeg) else none) ∧ σ' = σ)) 0 0 (mA G) := by
  refine m_start (by decide) (Nat.le_of_ble_eq_true rfl) ?_
  intro p e s m below meth c ⟨hx, hb, hr, hml, hown, hK, hlk, hz⟩ hH hS ls hl
  have hl : lv_has ls 3 [(0, .ref (B.1 40 0)), (1, .int (x))] := hl
  have hC := hI.C
  have h24 := hI.P.2.1
  have h8 := hI.S.2.1
  have h60 := hI.L.2.1
  refine lv_aload_n hx hb dX6_closedPlanAt_0 rfl (lv_at hl 0 rfl) ?_
  refine lv_iload_n hx hb dX6_closedPlanAt_1 rfl (lv_at hl 1 rfl) ?_
  refine m_kq (m_runV (k := 40) (i := 0) (ci := 6) ⟨hx, hb, hml, hown, hz⟩ hK hH hS (bc hC 40) rfl rfl (c_X6_planAt l G B σ hI.C hI.D hI.P.2.1 (x)) mw_X6_planAt wl_X6_60 ⟨rfl, rfl⟩ ⟨by decide, by decide⟩ rfl hl.1 rfl (Nat.le_of_ble_eq_true rfl) dX6_closedPlanAt_2 ⟨Nat.zero_le _, Nat.zero_le _⟩) hS (fun r_2 σ_2 H locs hp hH hS => ?_)
  obtain ⟨hr1, hs1⟩ := hp
  rw [hs1] at hH
  by_cases b_2 : isPl σ x = true
  · rw [if_pos b_2] at hr1
    obtain ⟨pn, hpn, he⟩ := isPl_t b_2
    subst he
    rw [nI_clamp (by omega)] at hr1
    subst hr1
    have hB_pn : pn < B.2 50 := by rw [hI.D.2.1]; exact hpn
    have hP_pn := hI.P.2.2 pn hpn
    have hR_pn := hI.pr hpn
    refine lv_astore_n (lv' := [(2, .ref (B.1 50 pn)), (0, .ref (B.1 40 0)), (1, .int (nI pn))]) hx hb dX6_closedPlanAt_5 rfl hl (by decide) rfl (fun ls hl => ?_)
    refine lv_aload_n hx hb dX6_closedPlanAt_6 rfl (lv_at hl 0 rfl) ?_
    refine lv_ifnull hx hb dX6_closedPlanAt_7 ?_
    refine lv_aload_n hx hb dX6_closedPlanAt_10 rfl (lv_at hl 0 rfl) ?_
    refine gf_X6_117 hx hb hown hK hH hB_pn dX6_closedPlanAt_11 ?_
    refine m_toe (bI (clo σ pn)) (hR_pn.2.1) ?_
    refine m_ifeqB (tgt := 21) hx hb dX6_closedPlanAt_14 (by decide) (fun c_14 => ?_) (fun c_14 => ?_)
    · refine lv_null hx hb dX6_closedPlanAt_21 ?_
      exact m_aret (r := none) hx hb hr hlk hH hS dX6_closedPlanAt_22 (⟨(if_neg (by first | (rw [isCl_nI hpn h24, c_14]; decide) | (intro z; exact b_2 (Bool.and_eq_true_iff.mp z).1))).symm, rfl⟩)
    · refine lv_aload_n hx hb dX6_closedPlanAt_17 rfl (lv_at hl 0 rfl) ?_
      refine lv_goto (tgt := 22) hx hb dX6_closedPlanAt_18 (by decide) ?_
      exact m_aret (r := some (B.1 50 pn)) hx hb hr hlk hH hS dX6_closedPlanAt_22 (⟨by rw [if_pos (by rw [isCl_nI hpn h24]; exact c_14), nI_clamp (by omega)], rfl⟩)
  · rw [if_neg b_2] at hr1
    subst hr1
    refine lv_astore_nN (lv' := [(2, .null), (0, .ref (B.1 40 0)), (1, .int (x))]) hx hb dX6_closedPlanAt_5 rfl hl (by decide) rfl (fun ls hl => ?_)
    refine lv_aload_nN hx hb dX6_closedPlanAt_6 rfl (lv_at hl 0 rfl) ?_
    refine lv_ifnullN (tgt := 21) hx hb dX6_closedPlanAt_7 (by decide) ?_
    refine lv_null hx hb dX6_closedPlanAt_21 ?_
    exact m_aret (r := none) hx hb hr hlk hH hS dX6_closedPlanAt_22 (⟨(if_neg (by first | (rw [isCl_nI hpn h24, c_14]; decide) | (intro z; exact b_2 (Bool.and_eq_true_iff.mp z).1))).symm, rfl⟩)
set_option maxHeartbeats 4000000 in
set_option maxRecDepth 100000 in
theorem c_X6_planForLot (l : Launch) (G : gG) (B : gB) (σ : gS) (hI : RI B σ) (x n : Int32) : Met l yX6_planForLot [.code yX6_planForLot cX6_planForLot 4 (some (.object "SamplingDesk$Plan"))] ({ frames := 2, cells := 0, slots := 0, locals := 43 } : Room) (mPc G B σ [.ref (B.1 40 0), .int (x), .int (n)]) (mQq G B (fun r σ' => r = (if fitb σ x n = true then some (B.1 50 x.toNatClampNeg) else none) ∧ σ' = σ)) 0 0 (mA G) := by
  refine m_start (by decide) (Nat.le_of_ble_eq_true rfl) ?_
  intro p e s m below meth c ⟨hx, hb, hr, hml, hown, hK, hlk, hz⟩ hH hS ls hl
  have hl : lv_has ls 4 [(0, .ref (B.1 40 0)), (1, .int (x)), (2, .int (n))] := hl
  have hC := hI.C
  have h24 := hI.P.2.1
  have h8 := hI.S.2.1
  have h60 := hI.L.2.1
  refine lv_aload_n hx hb dX6_planForLot_0 rfl (lv_at hl 0 rfl) ?_
  refine lv_iload_n hx hb dX6_planForLot_1 rfl (lv_at hl 1 rfl) ?_
  refine m_kq (m_runV (k := 40) (i := 0) (ci := 6) ⟨hx, hb, hml, hown, hz⟩ hK hH hS (bc hC 40) rfl rfl (c_X6_closedPlanAt l G B σ hI (x)) mw_X6_closedPlanAt wl_X6_121 ⟨rfl, rfl⟩ ⟨by decide, by decide⟩ rfl hl.1 rfl (Nat.le_of_ble_eq_true rfl) dX6_planForLot_2 ⟨Nat.zero_le _, Nat.zero_le _⟩) hS (fun r_2 σ_2 H locs hp hH hS => ?_)
  obtain ⟨hr1, hs1⟩ := hp
  rw [hs1] at hH
  by_cases b_2 : isCl σ x = true
  · rw [if_pos b_2] at hr1
    obtain ⟨pn, hpn, he, hcl⟩ := isCl_t h24 b_2
    subst he
    rw [nI_clamp (by omega)] at hr1
    subst hr1
    have hB_pn : pn < B.2 50 := by rw [hI.D.2.1]; exact hpn
    have hP_pn := hI.P.2.2 pn hpn
    have hR_pn := hI.pr hpn
    have ht := tot_le hP_pn (Nat.le_refl _)
    have et := nI_I (n := tot σ pn (stN σ pn)) (by omega)
    refine lv_astore_n (lv' := [(3, .ref (B.1 50 pn)), (0, .ref (B.1 40 0)), (1, .int (nI pn)), (2, .int (n))]) hx hb dX6_planForLot_5 rfl hl (by decide) rfl (fun ls hl => ?_)
    refine lv_aload_n hx hb dX6_planForLot_6 rfl (lv_at hl 0 rfl) ?_
    refine lv_ifnull hx hb dX6_planForLot_7 ?_
    refine lv_iload_n hx hb dX6_planForLot_10 rfl (lv_at hl 3 rfl) ?_
    refine m_ki (m_runS ⟨hx, hb, hml, hown, hz⟩ hK hH hS (c_X6_isLotSize l G B σ n) mw_X6_isLotSize wl_X6_124 ⟨rfl, rfl⟩ ⟨by decide, by decide⟩ rfl hl.1 rfl (Nat.le_of_ble_eq_true rfl) dX6_planForLot_11 ⟨Nat.zero_le _, Nat.zero_le _⟩) hS (fun r_11 σ_11 H locs hp hH hS => ?_)
    obtain ⟨hr1, hs1⟩ := hp
    subst hr1
    rw [hs1] at hH
    refine m_ifeqB (tgt := 29) hx hb dX6_planForLot_14 (by decide) (fun c_14 => ?_) (fun c_14 => ?_)
    · refine lv_null hx hb dX6_planForLot_29 ?_
      exact m_aret (r := none) hx hb hr hlk hH hS dX6_planForLot_30 (⟨(if_neg (by first | (intro z; exact b_2 (Bool.and_eq_true_iff.mp z).1) | (rw [fitb_nI hpn h24, hcl]; intro z; have z2 := of_decide_eq_true z; first | (have z3 := of_decide_eq_false c_14; omega) | (rw [i_lt, et] at c_22; omega)))).symm, rfl⟩)
    · refine lv_aload_n hx hb dX6_planForLot_17 rfl (lv_at hl 0 rfl) ?_
      refine m_ki (m_runV (k := 50) (i := pn) (ci := 2) ⟨hx, hb, hml, hown, hz⟩ hK hH hS hB_pn rfl rfl (c_X2_total l G B σ hC pn hB_pn hP_pn hR_pn) mw_X2_total wl_X6_127 ⟨rfl, rfl⟩ ⟨by decide, by decide⟩ rfl hl.1 rfl (Nat.le_of_ble_eq_true rfl) dX6_planForLot_18 ⟨Nat.zero_le _, Nat.zero_le _⟩) hS (fun r_18 σ_18 H locs hp hH hS => ?_)
      obtain ⟨hr1, hs1⟩ := hp
      subst hr1
      rw [hs1] at hH
      refine lv_iload_n hx hb dX6_planForLot_21 rfl (lv_at hl 3 rfl) ?_
      refine lv_icmp_gt (tgt := 29) hx hb dX6_planForLot_22 (by decide) (fun c_22 => ?_) (fun c_22 => ?_)
      · refine lv_null hx hb dX6_planForLot_29 ?_
        exact m_aret (r := none) hx hb hr hlk hH hS dX6_planForLot_30 (⟨(if_neg (by first | (intro z; exact b_2 (Bool.and_eq_true_iff.mp z).1) | (rw [fitb_nI hpn h24, hcl]; intro z; have z2 := of_decide_eq_true z; first | (have z3 := of_decide_eq_false c_14; omega) | (rw [i_lt, et] at c_22; omega)))).symm, rfl⟩)
      · refine lv_aload_n hx hb dX6_planForLot_25 rfl (lv_at hl 0 rfl) ?_
        refine lv_goto (tgt := 30) hx hb dX6_planForLot_26 (by decide) ?_
        exact m_aret (r := some (B.1 50 pn)) hx hb hr hlk hH hS dX6_planForLot_30 (⟨by rw [if_pos (by rw [fitb_nI hpn h24, hcl]; have z := of_decide_eq_true c_14; rw [i_lt, et] at c_22; exact decide_eq_true (by omega)), nI_clamp (by omega)], rfl⟩)
  · rw [if_neg b_2] at hr1
    subst hr1
    refine lv_astore_nN (lv' := [(3, .null), (0, .ref (B.1 40 0)), (1, .int (x)), (2, .int (n))]) hx hb dX6_planForLot_5 rfl hl (by decide) rfl (fun ls hl => ?_)
    refine lv_aload_nN hx hb dX6_planForLot_6 rfl (lv_at hl 0 rfl) ?_
    refine lv_ifnullN (tgt := 29) hx hb dX6_planForLot_7 (by decide) ?_
    refine lv_null hx hb dX6_planForLot_29 ?_
    exact m_aret (r := none) hx hb hr hlk hH hS dX6_planForLot_30 (⟨(if_neg (by first | (intro z; exact b_2 (Bool.and_eq_true_iff.mp z).1) | (rw [fitb_nI hpn h24, hcl]; intro z; have z2 := of_decide_eq_true z; first | (have z3 := of_decide_eq_false c_14; omega) | (rw [i_lt, et] at c_22; omega)))).symm, rfl⟩)
set_option maxHeartbeats 4000000 in
set_option maxRecDepth 100000 in
theorem c_X6_openLotAt (l : Launch) (G : gG) (B : gB) (σ : gS) (hI : RI B σ) (x : Int32) : Met l yX6_openLotAt [.code yX6_openLotAt cX6_openLotAt 3 (some (.object "SamplingDesk$Lot"))] ({ frames := 1, cells := 0, slots := 0, locals := 21 } : Room) (mPc G B σ [.ref (B.1 40 0), .int (x)]) (mQq G B (fun r σ' => r = (if opn σ x = true then some (B.1 60 x.toNatClampNeg) else none) ∧ σ' = σ)) 0 0 (mA G) := by
  refine m_start (by decide) (Nat.le_of_ble_eq_true rfl) ?_
  intro p e s m below meth c ⟨hx, hb, hr, hml, hown, hK, hlk, hz⟩ hH hS ls hl
  have hl : lv_has ls 3 [(0, .ref (B.1 40 0)), (1, .int (x))] := hl
  have hC := hI.C
  have h24 := hI.P.2.1
  have h8 := hI.S.2.1
  have h60 := hI.L.2.1
  refine lv_aload_n hx hb dX6_openLotAt_0 rfl (lv_at hl 0 rfl) ?_
  refine lv_iload_n hx hb dX6_openLotAt_1 rfl (lv_at hl 1 rfl) ?_
  refine m_kq (m_runV (k := 40) (i := 0) (ci := 6) ⟨hx, hb, hml, hown, hz⟩ hK hH hS (bc hC 40) rfl rfl (c_X6_lotAt l G B σ hI.C hI.D hI.L.2.1 (x)) mw_X6_lotAt wl_X6_216 ⟨rfl, rfl⟩ ⟨by decide, by decide⟩ rfl hl.1 rfl (Nat.le_of_ble_eq_true rfl) dX6_openLotAt_2 ⟨Nat.zero_le _, Nat.zero_le _⟩) hS (fun r_2 σ_2 H locs hp hH hS => ?_)
  obtain ⟨hr1, hs1⟩ := hp
  rw [hs1] at hH
  by_cases b_2 : isLo σ x = true
  · rw [if_pos b_2] at hr1
    obtain ⟨qn, hqn, he⟩ := isLo_t b_2
    subst he
    rw [nI_clamp (by omega)] at hr1
    subst hr1
    have hB_qn : qn < B.2 60 := by rw [hI.D.2.2.2.2.2]; exact hqn
    have hL_qn := hI.L.2.2 qn hqn
    have hR_qn := hI.lr hqn
    have hj2 : (jq σ qn).1 ≤ 2 := jd_now _ _ _ _
    refine lv_astore_n (lv' := [(2, .ref (B.1 60 qn)), (0, .ref (B.1 40 0)), (1, .int (nI qn))]) hx hb dX6_openLotAt_5 rfl hl (by decide) rfl (fun ls hl => ?_)
    refine lv_aload_n hx hb dX6_openLotAt_6 rfl (lv_at hl 0 rfl) ?_
    refine lv_ifnull hx hb dX6_openLotAt_7 ?_
    refine lv_aload_n hx hb dX6_openLotAt_10 rfl (lv_at hl 0 rfl) ?_
    refine gf_X6_219 hx hb hown hK hH hB_qn dX6_openLotAt_11 ?_
    refine m_toi ((jq σ qn).1) (hR_qn.2.2.2.2.1.1) ?_
    refine m_ifneN (tgt := 21) (by omega) hx hb dX6_openLotAt_14 (by decide) (fun c_14 => ?_) (fun c_14 => ?_)
    · refine lv_null hx hb dX6_openLotAt_21 ?_
      exact m_aret (r := none) hx hb hr hlk hH hS dX6_openLotAt_22 (⟨(if_neg (by first | (rw [opn_nI hqn h60]; intro z; have z2 := of_decide_eq_true z; omega) | (intro z; exact b_2 (Bool.and_eq_true_iff.mp z).1))).symm, rfl⟩)
    · refine lv_aload_n hx hb dX6_openLotAt_17 rfl (lv_at hl 0 rfl) ?_
      refine lv_goto (tgt := 22) hx hb dX6_openLotAt_18 (by decide) ?_
      exact m_aret (r := some (B.1 60 qn)) hx hb hr hlk hH hS dX6_openLotAt_22 (⟨by rw [if_pos (by rw [opn_nI hqn h60]; exact decide_eq_true c_14), nI_clamp (by omega)], rfl⟩)
  · rw [if_neg b_2] at hr1
    subst hr1
    refine lv_astore_nN (lv' := [(2, .null), (0, .ref (B.1 40 0)), (1, .int (x))]) hx hb dX6_openLotAt_5 rfl hl (by decide) rfl (fun ls hl => ?_)
    refine lv_aload_nN hx hb dX6_openLotAt_6 rfl (lv_at hl 0 rfl) ?_
    refine lv_ifnullN (tgt := 21) hx hb dX6_openLotAt_7 (by decide) ?_
    refine lv_null hx hb dX6_openLotAt_21 ?_
    exact m_aret (r := none) hx hb hr hlk hH hS dX6_openLotAt_22 (⟨(if_neg (by first | (rw [opn_nI hqn h60]; intro z; have z2 := of_decide_eq_true z; omega) | (intro z; exact b_2 (Bool.and_eq_true_iff.mp z).1))).symm, rfl⟩)
