set_option maxHeartbeats 4000000 in
set_option maxRecDepth 100000 in
theorem c_X6_settle (l : Launch) (G : gG) (B : gB) (σ : gS) (hC : BkC B) (hD : DK B σ) (h8 : nS σ ≤ 8) (qn : Nat) (hqB : qn < B.2 60) (sn : Nat) (hsn : sn < nS σ) (h0 : σ.1 60 qn 0 = nI sn) (an : Nat) (ha : an ≤ 2) (h9 : σ.1 60 qn 9 = nI an) (hC4 : CS σ sn) (hn : an ≠ 0 → crn σ sn < 60) : Met l yX6_settle [.code yX6_settle cX6_settle 3 (some .int)] ({ frames := 4, cells := 0, slots := 0, locals := 87 } : Room) (mPc G B σ [.ref (B.1 40 0), .ref (B.1 60 qn)]) (mQi G B (fun v τ => v = nI an ∧ τ = stl σ sn an)) 0 0 (mA G) := by
  refine m_start (by decide) (Nat.le_of_ble_eq_true rfl) ?_
  intro p e s m below meth c ⟨hx, hb, hr, hml, hown, hK, hlk, hz⟩ hH hS ls hl
  have hl : lv_has ls 3 [(0, .ref (B.1 40 0)), (1, .ref (B.1 60 qn))] := hl
  have hB_sn : sn < B.2 57 := by rw [hD.2.2.2.1]; exact hsn
  refine lv_aload_n hx hb dX6_settle_0 rfl (lv_at hl 0 rfl) ?_
  refine lv_aload_n hx hb dX6_settle_1 rfl (lv_at hl 1 rfl) ?_
  refine gf_X6_244 hx hb hown hK hH hqB dX6_settle_2 ?_
  refine m_toi (sn) (h0) ?_
  refine m_kq (m_runV (k := 40) (i := 0) (ci := 6) ⟨hx, hb, hml, hown, hz⟩ hK hH hS (bc hC 40) rfl rfl (c_X6_supplierAt l G B σ hC hD h8 (nI sn)) mw_X6_supplierAt wl_X6_173 ⟨rfl, rfl⟩ ⟨by decide, by decide⟩ rfl hl.1 rfl (Nat.le_of_ble_eq_true rfl) dX6_settle_5 ⟨Nat.zero_le _, Nat.zero_le _⟩) hS (fun r_5 σ_5 H locs hp hH hS => ?_)
  obtain ⟨hr1, hs1⟩ := hp
  rw [hs1] at hH
  rw [if_pos (isSu_nI hsn h8), nI_clamp (by omega)] at hr1
  subst hr1
  refine lv_astore_n (lv' := [(2, .ref (B.1 57 sn)), (0, .ref (B.1 40 0)), (1, .ref (B.1 60 qn))]) hx hb dX6_settle_8 rfl hl (by decide) rfl (fun ls hl => ?_)
  refine lv_aload_n hx hb dX6_settle_9 rfl (lv_at hl 2 rfl) ?_
  refine gf_X6_219 hx hb hown hK hH hqB dX6_settle_10 ?_
  refine m_toi (an) (h9) ?_
  refine m_ifeqN (tgt := 28) (by omega) hx hb dX6_settle_13 (by decide) (fun c_13 => ?_) (fun c_13 => ?_)
  · refine lv_aload_n hx hb dX6_settle_28 rfl (lv_at hl 2 rfl) ?_
    refine gf_X6_219 hx hb hown hK hH hqB dX6_settle_29 ?_
    refine m_toi (an) (by first | exact h9 | (rw [ccv_off (by omega)]; exact h9)) ?_
    exact m_iret hx hb hr hlk hH hS dX6_settle_32 (⟨rfl, by unfold stl; first | rw [if_pos c_13] | rw [if_neg (by omega)]⟩)
  · refine lv_aload_n hx hb dX6_settle_16 rfl (lv_at hl 0 rfl) ?_
    refine lv_ifnull hx hb dX6_settle_17 ?_
    refine lv_aload_n hx hb dX6_settle_20 rfl (lv_at hl 0 rfl) ?_
    refine lv_aload_n hx hb dX6_settle_21 rfl (lv_at hl 2 rfl) ?_
    refine gf_X6_219 hx hb hown hK hH hqB dX6_settle_22 ?_
    refine m_toi (an) (h9) ?_
    refine m_kv (m_runV (k := 57) (i := sn) (ci := 4) ⟨hx, hb, hml, hown, hz⟩ hK hH hS hB_sn rfl rfl (c_X4_receive l G B σ hC sn hB_sn hC4 (hn (by omega)) an ha) mw_X4_receive wl_X6_247 ⟨rfl, rfl⟩ ⟨by decide, by decide⟩ rfl hl.1 rfl (Nat.le_of_ble_eq_true rfl) dX6_settle_25 ⟨Nat.zero_le _, Nat.zero_le _⟩) hS (fun σ_25 H locs hp hH hS => ?_)
    rw [hp] at hH
    refine lv_aload_n hx hb dX6_settle_28 rfl (lv_at hl 2 rfl) ?_
    refine gf_X6_219 hx hb hown hK hH hqB dX6_settle_29 ?_
    refine m_toi (an) (by first | exact h9 | (rw [ccv_off (by omega)]; exact h9)) ?_
    exact m_iret hx hb hr hlk hH hS dX6_settle_32 (⟨rfl, by unfold stl; first | rw [if_pos c_13] | rw [if_neg (by omega)]⟩)
set_option maxHeartbeats 4000000 in
set_option maxRecDepth 100000 in
theorem c_X6_item (l : Launch) (G : gG) (B : gB) (σ : gS) (hI : RI B σ) (x v : Int32) : Met l yX6_item [.code yX6_item cX6_item 4 (some .int)] ({ frames := 5, cells := 0, slots := 0, locals := 109 } : Room) (mPc G B σ [.ref (B.1 40 0), .int (x), .int (v)]) (mQi G B (fun r τ => if itOK σ x v = true then r = nI (jstep σ (lPl σ x.toNatClampNeg) (jq σ x.toNatClampNeg) v.toNatClampNeg).1 ∧ ITP σ τ x.toNatClampNeg v.toNatClampNeg else r = -2 ∧ τ = σ)) 0 0 (mA G) := by
  refine m_start (by decide) (Nat.le_of_ble_eq_true rfl) ?_
  intro p e s m below meth c ⟨hx, hb, hr, hml, hown, hK, hlk, hz⟩ hH hS ls hl
  have hl : lv_has ls 4 [(0, .ref (B.1 40 0)), (1, .int (x)), (2, .int (v))] := hl
  have hC := hI.C
  have h24 := hI.P.2.1
  have h8 := hI.S.2.1
  have h60 := hI.L.2.1
  refine lv_aload_n hx hb dX6_item_0 rfl (lv_at hl 0 rfl) ?_
  refine lv_iload_n hx hb dX6_item_1 rfl (lv_at hl 1 rfl) ?_
  refine m_kq (m_runV (k := 40) (i := 0) (ci := 6) ⟨hx, hb, hml, hown, hz⟩ hK hH hS (bc hC 40) rfl rfl (c_X6_openLotAt l G B σ hI x) mw_X6_openLotAt wl_X6_189 ⟨rfl, rfl⟩ ⟨by decide, by decide⟩ rfl hl.1 rfl (Nat.le_of_ble_eq_true rfl) dX6_item_2 ⟨Nat.zero_le _, Nat.zero_le _⟩) hS (fun r_2 σ_2 H locs hp hH hS => ?_)
  obtain ⟨hr1, hs1⟩ := hp
  rw [hs1] at hH
  by_cases b_2 : opn σ x = true
  · rw [if_pos b_2] at hr1
    obtain ⟨qn, hqn, he, hop⟩ := opn_t h60 b_2
    subst he
    rw [nI_clamp (by omega)] at hr1
    subst hr1
    have hB_qn : qn < B.2 60 := by rw [hI.D.2.2.2.2.2]; exact hqn
    have hL_qn := hI.L.2.2 qn hqn
    have hR_qn := hI.lr hqn
    have hj2 : (jq σ qn).1 ≤ 2 := jd_now _ _ _ _
    obtain ⟨hok, hst⟩ := hL_qn.ok hI.P hop
    obtain ⟨hS_cs, hS_n, hS_l⟩ := (hI.sr hL_qn.2.1).cs (hI.S.2.2.1 _ hL_qn.2.1)
    have hrn := hI.rn.ok hI.L qn hqn hop
    have hpn := hL_qn.2.2.2.2.2.1
    have hB_pn : lPl σ qn < B.2 50 := by rw [hI.D.2.1]; exact hpn
    have hP_pn := hI.P.2.2 _ hpn
    have hR_pn := hI.pr hpn
    have hsn := hL_qn.2.2.2.2.2.2.2.2.1
    have hcn : (jq σ qn).2.1 = lSn σ qn := hL_qn.2.2.2.2.2.2.2.2.2.2
    have hB_sn : lSu σ qn < B.2 57 := by rw [hI.D.2.2.2.1]; exact hL_qn.2.1
    refine lv_astore_n (lv' := [(3, .ref (B.1 60 qn)), (0, .ref (B.1 40 0)), (1, .int (nI qn)), (2, .int (v))]) hx hb dX6_item_5 rfl hl (by decide) rfl (fun ls hl => ?_)
    refine lv_aload_n hx hb dX6_item_6 rfl (lv_at hl 0 rfl) ?_
    refine lv_ifnull hx hb dX6_item_7 ?_
    refine lv_iload_n hx hb dX6_item_10 rfl (lv_at hl 3 rfl) ?_
    refine m_ki (m_runS ⟨hx, hb, hml, hown, hz⟩ hK hH hS (c_X6_isClass l G B σ v) mw_X6_isClass wl_X6_193 ⟨rfl, rfl⟩ ⟨by decide, by decide⟩ rfl hl.1 rfl (Nat.le_of_ble_eq_true rfl) dX6_item_11 ⟨Nat.zero_le _, Nat.zero_le _⟩) hS (fun r_11 σ_11 H locs hp hH hS => ?_)
    obtain ⟨hr1, hs1⟩ := hp
    subst hr1
    rw [hs1] at hH
    refine m_ifneB (tgt := 20) hx hb dX6_item_14 (by decide) (fun c_14 => ?_) (fun c_14 => ?_)
    · have c_14b := of_decide_eq_true c_14
      have hyes : itOK σ (nI qn) v = true := by unfold itOK; rw [b_2, c_14]; rfl
      obtain ⟨k1, k2⟩ := i_nat (x := v) (c_14b.1)
      obtain ⟨vn, hq9⟩ : ∃ z : Nat, z = v.toInt.toNat := ⟨_, rfl⟩
      rw [← hq9] at k1 k2
      have hvn : vn ≤ 3 := by omega
      clear c_14 c_14b k2
      clear hq9
      subst k1
      refine lv_aload_n hx hb dX6_item_20 rfl (lv_at hl 0 rfl) ?_
      refine lv_iload_n hx hb dX6_item_21 rfl (lv_at hl 3 rfl) ?_
      refine m_kv (m_runV (k := 60) (i := qn) (ci := 0) ⟨hx, hb, hml, hown, hz⟩ hK hH hS hB_qn rfl rfl (c_X0_see l G B σ hC qn hB_qn (lPl σ qn) hB_pn hP_pn hR_pn hR_qn.2.2.1 (by omega) (jq σ qn) (itm σ qn) hR_qn.2.2.2.2.1 hj2 (fun _ => hok) vn hvn) mw_X0_see wl_X6_196 ⟨rfl, rfl⟩ ⟨by decide, by decide⟩ rfl hl.1 rfl (Nat.le_of_ble_eq_true rfl) dX6_item_22 ⟨Nat.zero_le _, Nat.zero_le _⟩) hS (fun σ_22 H locs hp8 hH hS => ?_)
      obtain ⟨hZ8, hit8⟩ := hp8.2.1 hop
      obtain ⟨hC8, hn8, hl8⟩ := hp8.1.cs hS_cs
      have hu2 : (jstep σ (lPl σ qn) (jq σ qn) vn).1 ≤ 2 := by rw [jstep_u hop]; exact jdec_now _ _ _ _ hj2
      refine lv_aload_n hx hb dX6_item_25 rfl (lv_at hl 1 rfl) ?_
      refine lv_aload_n hx hb dX6_item_26 rfl (lv_at hl 0 rfl) ?_
      refine m_ki (m_runV (k := 40) (i := 0) (ci := 6) ⟨hx, hb, hml, hown, hz⟩ hK hH hS (bc hC 40) rfl rfl (c_X6_settle l G B σ_22 hC (hp8.1.dk hI.D) (by rw [hp8.1.n.2.1]; exact h8) qn hB_qn (lSu σ qn) (by rw [hp8.1.n.2.1]; exact hL_qn.2.1) ((hp8.1.1 60 qn 0 (by omega)).trans hR_qn.1) (jstep σ (lPl σ qn) (jq σ qn) vn).1 hu2 hZ8.1 hC8 (fun _ => by rw [hn8, hS_n]; exact hrn)) mw_X6_settle wl_X6_200 ⟨rfl, rfl⟩ ⟨by decide, by decide⟩ rfl hl.1 rfl (Nat.le_of_ble_eq_true rfl) dX6_item_27 ⟨Nat.zero_le _, Nat.zero_le _⟩) hS (fun r_27 σ_27 H locs hp hH hS => ?_)
      obtain ⟨hr1, hs1⟩ := hp
      subst hr1
      exact m_iret hx hb hr hlk hH hS dX6_item_30 (by rw [if_pos hyes, nI_clamp (by omega), nI_clamp (by omega)]; exact ⟨rfl, σ_22, hp8, hs1⟩)
    · refine lv_bipush (v := (-2)) hx hb dX6_item_17 (by decide) ?_
      exact m_iret hx hb hr hlk hH hS dX6_item_19 (by rw [if_neg (fun z => by have z2 := Bool.and_eq_true_iff.mp z; first | exact b_2 z2.1 | (rw [z2.2] at c_14; exact absurd c_14 (by decide)))]; exact ⟨rfl, rfl⟩)
  · rw [if_neg b_2] at hr1
    subst hr1
    refine lv_astore_nN (lv' := [(3, .null), (0, .ref (B.1 40 0)), (1, .int (x)), (2, .int (v))]) hx hb dX6_item_5 rfl hl (by decide) rfl (fun ls hl => ?_)
    refine lv_aload_nN hx hb dX6_item_6 rfl (lv_at hl 0 rfl) ?_
    refine lv_ifnullN (tgt := 17) hx hb dX6_item_7 (by decide) ?_
    refine lv_bipush (v := (-2)) hx hb dX6_item_17 (by decide) ?_
    exact m_iret hx hb hr hlk hH hS dX6_item_19 (by rw [if_neg (fun z => by have z2 := Bool.and_eq_true_iff.mp z; first | exact b_2 z2.1 | (rw [z2.2] at c_14; exact absurd c_14 (by decide)))]; exact ⟨rfl, rfl⟩)
set_option maxHeartbeats 4000000 in
set_option maxRecDepth 100000 in
theorem c_X6_undo (l : Launch) (G : gG) (B : gB) (σ : gS) (hI : RI B σ) (x : Int32) : Met l yX6_undo [.code yX6_undo cX6_undo 3 (some .int)] ({ frames := 4, cells := 0, slots := 0, locals := 87 } : Room) (mPc G B σ [.ref (B.1 40 0), .int (x)]) (mQi G B (fun r τ => if unOK σ x = true then r = nI (lSn σ x.toNatClampNeg - 1) ∧ SA σ τ x.toNatClampNeg (jd σ x.toNatClampNeg (lPl σ x.toNatClampNeg) (lSn σ x.toNatClampNeg - 1)) (itm σ x.toNatClampNeg) else r = -2 ∧ τ = σ)) 0 0 (mA G) := by
  refine m_start (by decide) (Nat.le_of_ble_eq_true rfl) ?_
  intro p e s m below meth c ⟨hx, hb, hr, hml, hown, hK, hlk, hz⟩ hH hS ls hl
  have hl : lv_has ls 3 [(0, .ref (B.1 40 0)), (1, .int (x))] := hl
  have hC := hI.C
  have h24 := hI.P.2.1
  have h8 := hI.S.2.1
  have h60 := hI.L.2.1
  refine lv_aload_n hx hb dX6_undo_0 rfl (lv_at hl 0 rfl) ?_
  refine lv_iload_n hx hb dX6_undo_1 rfl (lv_at hl 1 rfl) ?_
  refine m_kq (m_runV (k := 40) (i := 0) (ci := 6) ⟨hx, hb, hml, hown, hz⟩ hK hH hS (bc hC 40) rfl rfl (c_X6_openLotAt l G B σ hI x) mw_X6_openLotAt wl_X6_189 ⟨rfl, rfl⟩ ⟨by decide, by decide⟩ rfl hl.1 rfl (Nat.le_of_ble_eq_true rfl) dX6_undo_2 ⟨Nat.zero_le _, Nat.zero_le _⟩) hS (fun r_2 σ_2 H locs hp hH hS => ?_)
  obtain ⟨hr1, hs1⟩ := hp
  rw [hs1] at hH
  by_cases b_2 : opn σ x = true
  · rw [if_pos b_2] at hr1
    obtain ⟨qn, hqn, he, hop⟩ := opn_t h60 b_2
    subst he
    rw [nI_clamp (by omega)] at hr1
    subst hr1
    have hB_qn : qn < B.2 60 := by rw [hI.D.2.2.2.2.2]; exact hqn
    have hL_qn := hI.L.2.2 qn hqn
    have hR_qn := hI.lr hqn
    have hj2 : (jq σ qn).1 ≤ 2 := jd_now _ _ _ _
    obtain ⟨hok, hst⟩ := hL_qn.ok hI.P hop
    obtain ⟨hS_cs, hS_n, hS_l⟩ := (hI.sr hL_qn.2.1).cs (hI.S.2.2.1 _ hL_qn.2.1)
    have hrn := hI.rn.ok hI.L qn hqn hop
    have hpn := hL_qn.2.2.2.2.2.1
    have hB_pn : lPl σ qn < B.2 50 := by rw [hI.D.2.1]; exact hpn
    have hP_pn := hI.P.2.2 _ hpn
    have hR_pn := hI.pr hpn
    have hsn := hL_qn.2.2.2.2.2.2.2.2.1
    have hcn : (jq σ qn).2.1 = lSn σ qn := hL_qn.2.2.2.2.2.2.2.2.2.2
    have hB_sn : lSu σ qn < B.2 57 := by rw [hI.D.2.2.2.1]; exact hL_qn.2.1
    refine lv_astore_n (lv' := [(2, .ref (B.1 60 qn)), (0, .ref (B.1 40 0)), (1, .int (nI qn))]) hx hb dX6_undo_5 rfl hl (by decide) rfl (fun ls hl => ?_)
    refine lv_aload_n hx hb dX6_undo_6 rfl (lv_at hl 0 rfl) ?_
    refine lv_ifnull hx hb dX6_undo_7 ?_
    refine lv_aload_n hx hb dX6_undo_10 rfl (lv_at hl 0 rfl) ?_
    refine gf_X6_204 hx hb hown hK hH hB_qn dX6_undo_11 ?_
    refine m_toi (lSn σ qn) (hR_qn.2.2.2.2.1.2.1.trans (by rw [hcn])) ?_
    refine m_ifneN (tgt := 20) (by omega) hx hb dX6_undo_14 (by decide) (fun c_14 => ?_) (fun c_14 => ?_)
    · have hyes : unOK σ (nI qn) = true := by unfold unOK; rw [b_2, nI_clamp (by omega), decide_eq_true (show lSn σ qn ≠ 0 by omega)]; rfl
      refine lv_aload_n hx hb dX6_undo_20 rfl (lv_at hl 0 rfl) ?_
      refine lv_aload_n hx hb dX6_undo_21 rfl (lv_at hl 0 rfl) ?_
      refine gf_X6_204 hx hb hown hK hH hB_qn dX6_undo_22 ?_
      refine m_toi (lSn σ qn) (hR_qn.2.2.2.2.1.2.1.trans (by rw [hcn])) ?_
      refine lv_iconst (v := nI 1) hx hb dX6_undo_25 (by decide) ?_
      refine m_isubN (by omega) hx hb dX6_undo_26 ?_
      refine m_kv (m_runV (k := 60) (i := qn) (ci := 0) ⟨hx, hb, hml, hown, hz⟩ hK hH hS hB_qn rfl rfl (c_X0_seeAgain l G B σ hC qn hB_qn (lPl σ qn) hB_pn hP_pn hR_pn hR_qn.2.2.1 (by omega) σ (fun _ _ _ _ => rfl) hL_qn.2.2.2.2.2.2.1 qn (lSn σ qn - 1) (by omega) (fun k hk => ⟨hR_qn.2.2.2.2.2 k (by omega), (hL_qn.2.2.2.2.2.2.2.2.2.1 k (by omega)).2⟩)) mw_X0_seeAgain wl_X6_207 ⟨rfl, rfl⟩ ⟨by decide, by decide⟩ rfl hl.1 rfl (Nat.le_of_ble_eq_true rfl) dX6_undo_27 ⟨Nat.zero_le _, Nat.zero_le _⟩) hS (fun σ_27 H locs hp hH hS => ?_)
      have hb0 := jd_before (q := qn) (p := lPl σ qn) (j := lSn σ qn - 1) hop (Nat.sub_le _ _)
      have hb1 := jd_cnt hb0
      refine lv_aload_n hx hb dX6_undo_30 rfl (lv_at hl 0 rfl) ?_
      refine gf_X6_204 hx hb hown hK hH hB_qn dX6_undo_31 ?_
      refine m_toi (lSn σ qn - 1) (hp.2.2.2.1.trans (by rw [hb1])) ?_
      exact m_iret hx hb hr hlk hH hS dX6_undo_34 (by rw [if_pos hyes, nI_clamp (by omega)]; exact ⟨rfl, hp⟩)
    · refine lv_bipush (v := (-2)) hx hb dX6_undo_17 (by decide) ?_
      exact m_iret hx hb hr hlk hH hS dX6_undo_19 (by rw [if_neg (fun z => by have z2 := Bool.and_eq_true_iff.mp z; first | exact b_2 z2.1 | (have z3 := of_decide_eq_true z2.2; rw [nI_clamp (by omega)] at z3; exact z3 c_14))]; exact ⟨rfl, rfl⟩)
  · rw [if_neg b_2] at hr1
    subst hr1
    refine lv_astore_nN (lv' := [(2, .null), (0, .ref (B.1 40 0)), (1, .int (x))]) hx hb dX6_undo_5 rfl hl (by decide) rfl (fun ls hl => ?_)
    refine lv_aload_nN hx hb dX6_undo_6 rfl (lv_at hl 0 rfl) ?_
    refine lv_ifnullN (tgt := 17) hx hb dX6_undo_7 (by decide) ?_
    refine lv_bipush (v := (-2)) hx hb dX6_undo_17 (by decide) ?_
    exact m_iret hx hb hr hlk hH hS dX6_undo_19 (by rw [if_neg (fun z => by have z2 := Bool.and_eq_true_iff.mp z; first | exact b_2 z2.1 | (have z3 := of_decide_eq_true z2.2; rw [nI_clamp (by omega)] at z3; exact z3 c_14))]; exact ⟨rfl, rfl⟩)
set_option maxHeartbeats 4000000 in
set_option maxRecDepth 100000 in
theorem c_X6_correct (l : Launch) (G : gG) (B : gB) (σ : gS) (hI : RI B σ) (x i v : Int32) : Met l yX6_correct [.code yX6_correct cX6_correct 5 (some .int)] ({ frames := 5, cells := 0, slots := 0, locals := 109 } : Room) (mPc G B σ [.ref (B.1 40 0), .int (x), .int (i), .int (v)]) (mQi G B (fun r τ => if ctOK σ x i v = true then r = nI (jd (coUp σ x.toNatClampNeg i.toNatClampNeg (nI v.toNatClampNeg)) x.toNatClampNeg (lPl σ x.toNatClampNeg) (lSn σ x.toNatClampNeg)).1 ∧ COP σ τ x.toNatClampNeg i.toNatClampNeg v.toNatClampNeg else r = -2 ∧ τ = σ)) 0 0 (mA G) := by
  refine m_start (by decide) (Nat.le_of_ble_eq_true rfl) ?_
  intro p e s m below meth c ⟨hx, hb, hr, hml, hown, hK, hlk, hz⟩ hH hS ls hl
  have hl : lv_has ls 5 [(0, .ref (B.1 40 0)), (1, .int (x)), (2, .int (i)), (3, .int (v))] := hl
  have hC := hI.C
  have h24 := hI.P.2.1
  have h8 := hI.S.2.1
  have h60 := hI.L.2.1
  refine lv_aload_n hx hb dX6_correct_0 rfl (lv_at hl 0 rfl) ?_
  refine lv_iload_n hx hb dX6_correct_1 rfl (lv_at hl 1 rfl) ?_
  refine m_kq (m_runV (k := 40) (i := 0) (ci := 6) ⟨hx, hb, hml, hown, hz⟩ hK hH hS (bc hC 40) rfl rfl (c_X6_openLotAt l G B σ hI x) mw_X6_openLotAt wl_X6_189 ⟨rfl, rfl⟩ ⟨by decide, by decide⟩ rfl hl.1 rfl (Nat.le_of_ble_eq_true rfl) dX6_correct_2 ⟨Nat.zero_le _, Nat.zero_le _⟩) hS (fun r_2 σ_2 H locs hp hH hS => ?_)
  obtain ⟨hr1, hs1⟩ := hp
  rw [hs1] at hH
  by_cases b_2 : opn σ x = true
  · rw [if_pos b_2] at hr1
    obtain ⟨qn, hqn, he, hop⟩ := opn_t h60 b_2
    subst he
    rw [nI_clamp (by omega)] at hr1
    subst hr1
    have hB_qn : qn < B.2 60 := by rw [hI.D.2.2.2.2.2]; exact hqn
    have hL_qn := hI.L.2.2 qn hqn
    have hR_qn := hI.lr hqn
    have hj2 : (jq σ qn).1 ≤ 2 := jd_now _ _ _ _
    obtain ⟨hok, hst⟩ := hL_qn.ok hI.P hop
    obtain ⟨hS_cs, hS_n, hS_l⟩ := (hI.sr hL_qn.2.1).cs (hI.S.2.2.1 _ hL_qn.2.1)
    have hrn := hI.rn.ok hI.L qn hqn hop
    have hpn := hL_qn.2.2.2.2.2.1
    have hB_pn : lPl σ qn < B.2 50 := by rw [hI.D.2.1]; exact hpn
    have hP_pn := hI.P.2.2 _ hpn
    have hR_pn := hI.pr hpn
    have hsn := hL_qn.2.2.2.2.2.2.2.2.1
    have hcn : (jq σ qn).2.1 = lSn σ qn := hL_qn.2.2.2.2.2.2.2.2.2.2
    have hB_sn : lSu σ qn < B.2 57 := by rw [hI.D.2.2.2.1]; exact hL_qn.2.1
    refine lv_astore (lv' := [(4, .ref (B.1 60 qn)), (0, .ref (B.1 40 0)), (1, .int (nI qn)), (2, .int (i)), (3, .int (v))]) hx hb dX6_correct_5 hl (by decide) rfl (fun ls hl => ?_)
    refine lv_aload hx hb dX6_correct_7 (lv_at hl 0 rfl) ?_
    refine lv_ifnull hx hb dX6_correct_9 ?_
    refine lv_aload hx hb dX6_correct_12 (lv_at hl 0 rfl) ?_
    refine lv_iload_n hx hb dX6_correct_14 rfl (lv_at hl 3 rfl) ?_
    refine m_ki (m_runV (k := 60) (i := qn) (ci := 0) ⟨hx, hb, hml, hown, hz⟩ hK hH hS hB_qn rfl rfl (c_X0_hasItem l G B σ hC qn hB_qn (lSn σ qn) hsn (hR_qn.2.2.2.2.1.2.1.trans (by rw [hcn])) i) mw_X0_hasItem wl_X6_210 ⟨rfl, rfl⟩ ⟨by decide, by decide⟩ rfl hl.1 rfl (Nat.le_of_ble_eq_true rfl) dX6_correct_15 ⟨Nat.zero_le _, Nat.zero_le _⟩) hS (fun r_15 σ_15 H locs hp hH hS => ?_)
    obtain ⟨hr1, hs1⟩ := hp
    subst hr1
    rw [hs1] at hH
    refine m_ifeqB (tgt := 28) hx hb dX6_correct_18 (by decide) (fun c_18 => ?_) (fun c_18 => ?_)
    · refine lv_bipush (v := (-2)) hx hb dX6_correct_28 (by decide) ?_
      exact m_iret hx hb hr hlk hH hS dX6_correct_30 (by rw [if_neg (fun z => by have z2 := Bool.and_eq_true_iff.mp z; first | exact b_2 z2.1 | (have z3 := of_decide_eq_true z2.2; rw [nI_clamp (by omega)] at z3; first | exact of_decide_eq_false c_18 z3.1 | exact of_decide_eq_false c_25 z3.2))]; exact ⟨rfl, rfl⟩)
    · refine lv_iload_n hx hb dX6_correct_21 rfl (lv_at hl 4 rfl) ?_
      refine m_ki (m_runS ⟨hx, hb, hml, hown, hz⟩ hK hH hS (c_X6_isClass l G B σ v) mw_X6_isClass wl_X6_193 ⟨rfl, rfl⟩ ⟨by decide, by decide⟩ rfl hl.1 rfl (Nat.le_of_ble_eq_true rfl) dX6_correct_22 ⟨Nat.zero_le _, Nat.zero_le _⟩) hS (fun r_22 σ_22 H locs hp hH hS => ?_)
      obtain ⟨hr1, hs1⟩ := hp
      subst hr1
      rw [hs1] at hH
      refine m_ifneB (tgt := 31) hx hb dX6_correct_25 (by decide) (fun c_25 => ?_) (fun c_25 => ?_)
      · have c_18b := of_decide_eq_true c_18
        have c_25b := of_decide_eq_true c_25
        have hyes : ctOK σ (nI qn) i v = true := by unfold ctOK; rw [b_2, nI_clamp (by omega), decide_eq_true ⟨c_18b, c_25b⟩]; rfl
        obtain ⟨k1, k2⟩ := i_nat (x := v) (c_25b.1)
        obtain ⟨vn, hq9⟩ : ∃ z : Nat, z = v.toInt.toNat := ⟨_, rfl⟩
        rw [← hq9] at k1 k2
        have hvn : vn ≤ 3 := by omega
        clear c_25 c_25b k2
        clear hq9
        subst k1
        obtain ⟨k1, k2⟩ := i_nat (x := i) (c_18b.1)
        obtain ⟨ci9, hq9⟩ : ∃ z : Nat, z = i.toInt.toNat := ⟨_, rfl⟩
        rw [← hq9] at k1 k2
        have hin : ci9 < lSn σ qn := by omega
        clear c_18 c_18b k2
        clear hq9
        subst k1
        refine lv_aload hx hb dX6_correct_31 (lv_at hl 0 rfl) ?_
        refine gf_X6_213 hx hb hown hK hH hB_qn dX6_correct_33 ?_
        refine lv_iload_n hx hb dX6_correct_36 rfl (lv_at hl 3 rfl) ?_
        refine lv_iload_n hx hb dX6_correct_37 rfl (lv_at hl 4 rfl) ?_
        refine m_iast hx hb hK hH hS (n := 60) (bl hC 61 hB_qn) (fun _ _ => rfl) (ci9) (rfl) (by omega) (by decide) dX6_correct_38 (fun H locs hH hS => ?_)
        obtain ⟨σ9, hσ9⟩ : ∃ z, z = sI σ 61 qn ci9 (nI vn) := ⟨_, rfl⟩
        rw [← hσ9] at hH
        have hF := co_LF σ qn ci9 vn
        rw [← hσ9] at hF
        have h61 : ∀ k, k < lSn σ qn → σ9.1 61 qn k = nI (itm (coUp σ qn ci9 (nI vn)) qn k) ∧ itm (coUp σ qn ci9 (nI vn)) qn k ≤ 3 := fun k hk => by
          rw [coUp_it hvn (by omega), hσ9, sI_at]
          by_cases e : k = ci9
          · rw [if_pos ⟨rfl, rfl, e⟩, if_pos e]; exact ⟨rfl, hvn⟩
          · rw [if_neg (fun z => e z.2.2), if_neg e]; exact ⟨hR_qn.2.2.2.2.2 k hk, (hL_qn.2.2.2.2.2.2.2.2.2.1 k hk).2⟩
        refine lv_aload hx hb dX6_correct_39 (lv_at hl 0 rfl) ?_
        refine lv_aload hx hb dX6_correct_41 (lv_at hl 0 rfl) ?_
        refine gf_X6_204 hx hb hown hK hH hB_qn dX6_correct_43 ?_
        refine m_toi (lSn σ qn) (by rw [hσ9, sI_at, if_neg (by omega)]; exact hR_qn.2.2.2.2.1.2.1.trans (by rw [hcn])) ?_
        refine m_kv (m_runV (k := 60) (i := qn) (ci := 0) ⟨hx, hb, hml, hown, hz⟩ hK hH hS hB_qn rfl rfl (c_X0_seeAgain l G B σ9 hC qn hB_qn (lPl σ qn) hB_pn (hF.eqP.wf hP_pn) (hF.pr hR_pn) ((hF.1 60 qn 3 (by omega)).trans hR_qn.2.2.1) (by omega) (coUp σ qn ci9 (nI vn)) (by rw [hσ9]; exact coUp_E σ qn ci9 vn) (by rw [hF.eqP.cl]; exact hL_qn.2.2.2.2.2.2.1) qn (lSn σ qn) hsn h61) mw_X0_seeAgain wl_X6_207 ⟨rfl, rfl⟩ ⟨by decide, by decide⟩ rfl hl.1 rfl (Nat.le_of_ble_eq_true rfl) dX6_correct_46 ⟨Nat.zero_le _, Nat.zero_le _⟩) hS (fun σ_46 H locs hp8 hH hS => ?_)
        have hF8 := hF.tr hp8.1
        obtain ⟨hC8, hn8, hl8⟩ := hF8.cs hS_cs
        have hu2 := jd_now (coUp σ qn ci9 (nI vn)) qn (lPl σ qn) (lSn σ qn)
        refine lv_aload_n hx hb dX6_correct_49 rfl (lv_at hl 1 rfl) ?_
        refine lv_aload hx hb dX6_correct_50 (lv_at hl 0 rfl) ?_
        refine m_ki (m_runV (k := 40) (i := 0) (ci := 6) ⟨hx, hb, hml, hown, hz⟩ hK hH hS (bc hC 40) rfl rfl (c_X6_settle l G B σ_46 hC (hF8.dk hI.D) (by rw [hF8.n.2.1]; exact h8) qn hB_qn (lSu σ qn) (by rw [hF8.n.2.1]; exact hL_qn.2.1) ((hF8.1 60 qn 0 (by omega)).trans hR_qn.1) (jd (coUp σ qn ci9 (nI vn)) qn (lPl σ qn) (lSn σ qn)).1 hu2 hp8.2.2.1 hC8 (fun _ => by rw [hn8, hS_n]; exact hrn)) mw_X6_settle wl_X6_200 ⟨rfl, rfl⟩ ⟨by decide, by decide⟩ rfl hl.1 rfl (Nat.le_of_ble_eq_true rfl) dX6_correct_52 ⟨Nat.zero_le _, Nat.zero_le _⟩) hS (fun r_52 σ_52 H locs hp hH hS => ?_)
        obtain ⟨hr1, hs1⟩ := hp
        subst hr1
        exact m_iret hx hb hr hlk hH hS dX6_correct_55 (by rw [if_pos hyes, nI_clamp (by omega), nI_clamp (by omega), nI_clamp (by omega)]; exact ⟨rfl, σ_46, by rw [← hσ9]; exact hp8, hs1⟩)
      · refine lv_bipush (v := (-2)) hx hb dX6_correct_28 (by decide) ?_
        exact m_iret hx hb hr hlk hH hS dX6_correct_30 (by rw [if_neg (fun z => by have z2 := Bool.and_eq_true_iff.mp z; first | exact b_2 z2.1 | (have z3 := of_decide_eq_true z2.2; rw [nI_clamp (by omega)] at z3; first | exact of_decide_eq_false c_18 z3.1 | exact of_decide_eq_false c_25 z3.2))]; exact ⟨rfl, rfl⟩)
  · rw [if_neg b_2] at hr1
    subst hr1
    refine lv_astoreN (lv' := [(4, .null), (0, .ref (B.1 40 0)), (1, .int (x)), (2, .int (i)), (3, .int (v))]) hx hb dX6_correct_5 hl (by decide) rfl (fun ls hl => ?_)
    refine lv_aloadN hx hb dX6_correct_7 (lv_at hl 0 rfl) ?_
    refine lv_ifnullN (tgt := 28) hx hb dX6_correct_9 (by decide) ?_
    refine lv_bipush (v := (-2)) hx hb dX6_correct_28 (by decide) ?_
    exact m_iret hx hb hr hlk hH hS dX6_correct_30 (by rw [if_neg (fun z => by have z2 := Bool.and_eq_true_iff.mp z; first | exact b_2 z2.1 | (have z3 := of_decide_eq_true z2.2; rw [nI_clamp (by omega)] at z3; first | exact of_decide_eq_false c_18 z3.1 | exact of_decide_eq_false c_25 z3.2))]; exact ⟨rfl, rfl⟩)
set_option maxHeartbeats 4000000 in
set_option maxRecDepth 100000 in
theorem c_X6_about (l : Launch) (G : gG) (B : gB) (σ : gS) (hI : RI B σ) (x v : Int32) : Met l yX6_about [.code yX6_about cX6_about 4 (some .int)] ({ frames := 1, cells := 0, slots := 0, locals := 21 } : Room) (mPc G B σ [.ref (B.1 40 0), .int (x), .int (v)]) (mQi G B (fun r τ => r = (if isLo σ x = true then abA σ x.toNatClampNeg v else -2) ∧ τ = σ)) 0 0 (mA G) := by
  refine m_start (by decide) (Nat.le_of_ble_eq_true rfl) ?_
  intro p e s m below meth c ⟨hx, hb, hr, hml, hown, hK, hlk, hz⟩ hH hS ls hl
  have hl : lv_has ls 4 [(0, .ref (B.1 40 0)), (1, .int (x)), (2, .int (v))] := hl
  have hC := hI.C
  have h24 := hI.P.2.1
  have h8 := hI.S.2.1
  have h60 := hI.L.2.1
  refine lv_aload_n hx hb dX6_about_0 rfl (lv_at hl 0 rfl) ?_
  refine lv_iload_n hx hb dX6_about_1 rfl (lv_at hl 1 rfl) ?_
  refine m_kq (m_runV (k := 40) (i := 0) (ci := 6) ⟨hx, hb, hml, hown, hz⟩ hK hH hS (bc hC 40) rfl rfl (c_X6_lotAt l G B σ hI.C hI.D hI.L.2.1 (x)) mw_X6_lotAt wl_X6_216 ⟨rfl, rfl⟩ ⟨by decide, by decide⟩ rfl hl.1 rfl (Nat.le_of_ble_eq_true rfl) dX6_about_2 ⟨Nat.zero_le _, Nat.zero_le _⟩) hS (fun r_2 σ_2 H locs hp hH hS => ?_)
  obtain ⟨hr1, hs1⟩ := hp
  rw [hs1] at hH
  by_cases b_2 : isLo σ x = true
  · rw [if_pos b_2] at hr1
    obtain ⟨qn, hqn, he⟩ := isLo_t b_2
    subst he
    rw [nI_clamp (by omega)] at hr1
    subst hr1
    have hB_qn : qn < B.2 60 := by rw [hI.D.2.2.2.2.2]; exact hqn
    have hL_qn := hI.L.2.2 qn hqn
    have hR_qn := hI.lr hqn
    have hj2 : (jq σ qn).1 ≤ 2 := jd_now _ _ _ _
    have hcn : (jq σ qn).2.1 = lSn σ qn := hL_qn.2.2.2.2.2.2.2.2.2.2
    have hsn := hL_qn.2.2.2.2.2.2.2.2.1
    refine lv_astore_n (lv' := [(3, .ref (B.1 60 qn)), (0, .ref (B.1 40 0)), (1, .int (nI qn)), (2, .int (v))]) hx hb dX6_about_5 rfl hl (by decide) rfl (fun ls hl => ?_)
    refine lv_aload_n hx hb dX6_about_6 rfl (lv_at hl 0 rfl) ?_
    refine lv_ifnonnull (tgt := 13) hx hb dX6_about_7 (by decide) ?_
    refine lv_iload_n hx hb dX6_about_13 rfl (lv_at hl 3 rfl) ?_
    by_cases s_14_0 : v = nI 0
    · refine m_toe (nI 0) s_14_0 ?_
      refine lv_tableIn (off := 42) (tgt := 56) hx hb dX6_about_14 (by decide) (by decide) (by decide) (by decide) ?_
      refine lv_aload_n hx hb dX6_about_56 rfl (lv_at hl 0 rfl) ?_
      refine gf_X6_219 hx hb hown hK hH hB_qn dX6_about_57 ?_
      exact m_iret hx hb hr hlk hH hS dX6_about_60 (⟨by rw [if_pos b_2, nI_clamp (by omega)]; unfold abA; rw [if_pos s_14_0]; exact hR_qn.2.2.2.2.1.1, rfl⟩)
    by_cases s_14_1 : v = nI 1
    · refine m_toe (nI 1) s_14_1 ?_
      refine lv_tableIn (off := 47) (tgt := 61) hx hb dX6_about_14 (by decide) (by decide) (by decide) (by decide) ?_
      refine lv_aload_n hx hb dX6_about_61 rfl (lv_at hl 0 rfl) ?_
      refine gf_X6_204 hx hb hown hK hH hB_qn dX6_about_62 ?_
      exact m_iret hx hb hr hlk hH hS dX6_about_65 (⟨by rw [if_pos b_2, nI_clamp (by omega)]; unfold abA; rw [if_neg s_14_0, if_pos s_14_1]; exact hR_qn.2.2.2.2.1.2.1.trans (by rw [hcn]), rfl⟩)
    by_cases s_14_2 : v = nI 2
    · refine m_toe (nI 2) s_14_2 ?_
      refine lv_tableIn (off := 52) (tgt := 66) hx hb dX6_about_14 (by decide) (by decide) (by decide) (by decide) ?_
      have htl := jd_tal (ρ := σ) (q := qn) (p := lPl σ qn) (n := lSn σ qn) (fun k hk => (hL_qn.2.2.2.2.2.2.2.2.2.1 k hk).2)
      have g1 := tal_le (itm σ qn) 1 (jq σ qn).2.1
      refine lv_aload_n hx hb dX6_about_66 rfl (lv_at hl 0 rfl) ?_
      refine m_ki (m_runV (k := 60) (i := qn) (ci := 0) ⟨hx, hb, hml, hown, hz⟩ hK hH hS hB_qn rfl rfl (c_X0_defects l G B σ hC qn hB_qn (tal (itm σ qn) 1 (jq σ qn).2.1) (tal (itm σ qn) 2 (jq σ qn).2.1) (tal (itm σ qn) 3 (jq σ qn).2.1) (hR_qn.2.2.2.2.1.2.2.2 1 (by omega)) (hR_qn.2.2.2.2.1.2.2.2 2 (by omega)) (hR_qn.2.2.2.2.1.2.2.2 3 (by omega)) (by omega)) mw_X0_defects wl_X6_222 ⟨rfl, rfl⟩ ⟨by decide, by decide⟩ rfl hl.1 rfl (Nat.le_of_ble_eq_true rfl) dX6_about_67 ⟨Nat.zero_le _, Nat.zero_le _⟩) hS (fun r_67 σ_67 H locs hp hH hS => ?_)
      obtain ⟨hr1, hs1⟩ := hp
      rw [hs1] at hH
      rw [show tal (itm σ qn) 2 (jq σ qn).2.1 + tal (itm σ qn) 3 (jq σ qn).2.1 + tal (itm σ qn) 1 (jq σ qn).2.1 / 3 = jD (jq σ qn) from (by unfold jD; rw [show (jq σ qn).2.2.2.2 = _ from htl.2, show (jq σ qn).2.2.2.1 = _ from htl.1]; rfl)] at hr1
      subst hr1
      exact m_iret hx hb hr hlk hH hS dX6_about_70 (⟨by rw [if_pos b_2, nI_clamp (by omega)]; unfold abA; rw [if_neg s_14_0, if_neg s_14_1, if_pos s_14_2], rfl⟩)
    by_cases s_14_3 : v = nI 3
    · refine m_toe (nI 3) s_14_3 ?_
      refine lv_tableIn (off := 57) (tgt := 71) hx hb dX6_about_14 (by decide) (by decide) (by decide) (by decide) ?_
      refine lv_aload_n hx hb dX6_about_71 rfl (lv_at hl 0 rfl) ?_
      refine gf_X6_225 hx hb hown hK hH hB_qn dX6_about_72 ?_
      exact m_iret hx hb hr hlk hH hS dX6_about_75 (⟨by rw [if_pos b_2, nI_clamp (by omega)]; unfold abA; rw [if_neg s_14_0, if_neg s_14_1, if_neg s_14_2, if_pos s_14_3]; exact hR_qn.2.2.2.2.1.2.2.1, rfl⟩)
    by_cases s_14_4 : v = nI 4
    · refine m_toe (nI 4) s_14_4 ?_
      refine lv_tableIn (off := 62) (tgt := 76) hx hb dX6_about_14 (by decide) (by decide) (by decide) (by decide) ?_
      refine lv_aload_n hx hb dX6_about_76 rfl (lv_at hl 0 rfl) ?_
      refine gf_X6_228 hx hb hown hK hH hB_qn dX6_about_77 ?_
      exact m_iret hx hb hr hlk hH hS dX6_about_80 (⟨by rw [if_pos b_2, nI_clamp (by omega)]; unfold abA; rw [if_neg s_14_0, if_neg s_14_1, if_neg s_14_2, if_neg s_14_3, if_pos s_14_4]; exact hR_qn.2.2.1, rfl⟩)
    by_cases s_14_5 : v = nI 5
    · refine m_toe (nI 5) s_14_5 ?_
      refine lv_tableIn (off := 67) (tgt := 81) hx hb dX6_about_14 (by decide) (by decide) (by decide) (by decide) ?_
      refine lv_aload_n hx hb dX6_about_81 rfl (lv_at hl 0 rfl) ?_
      refine gf_X6_231 hx hb hown hK hH hB_qn dX6_about_82 ?_
      exact m_iret hx hb hr hlk hH hS dX6_about_85 (⟨by rw [if_pos b_2, nI_clamp (by omega)]; unfold abA; rw [if_neg s_14_0, if_neg s_14_1, if_neg s_14_2, if_neg s_14_3, if_neg s_14_4, if_pos s_14_5]; exact hR_qn.2.1, rfl⟩)
    by_cases s_14_6 : v = nI 6
    · refine m_toe (nI 6) s_14_6 ?_
      refine lv_tableIn (off := 72) (tgt := 86) hx hb dX6_about_14 (by decide) (by decide) (by decide) (by decide) ?_
      refine lv_aload_n hx hb dX6_about_86 rfl (lv_at hl 0 rfl) ?_
      refine gf_X6_234 hx hb hown hK hH hB_qn dX6_about_87 ?_
      exact m_iret hx hb hr hlk hH hS dX6_about_90 (⟨by rw [if_pos b_2, nI_clamp (by omega)]; unfold abA; rw [if_neg s_14_0, if_neg s_14_1, if_neg s_14_2, if_neg s_14_3, if_neg s_14_4, if_neg s_14_5, if_pos s_14_6]; exact hR_qn.2.2.2.1, rfl⟩)
    have so_14 : v.toInt < 0 ∨ 6 < v.toInt := by
      simp only [i_eq] at s_14_0 s_14_1 s_14_2 s_14_3 s_14_4 s_14_5 s_14_6
      simp only [show (nI 0).toInt = 0 from rfl, show (nI 1).toInt = 1 from rfl, show (nI 2).toInt = 2 from rfl, show (nI 3).toInt = 3 from rfl, show (nI 4).toInt = 4 from rfl, show (nI 5).toInt = 5 from rfl, show (nI 6).toInt = 6 from rfl] at s_14_0 s_14_1 s_14_2 s_14_3 s_14_4 s_14_5 s_14_6
      omega
    refine lv_tableOut (tgt := 91) hx hb dX6_about_14 so_14 (by decide) ?_
    refine lv_bipush (v := (-2)) hx hb dX6_about_91 (by decide) ?_
    exact m_iret hx hb hr hlk hH hS dX6_about_93 (⟨by rw [if_pos b_2, nI_clamp (by omega)]; unfold abA; rw [if_neg s_14_0, if_neg s_14_1, if_neg s_14_2, if_neg s_14_3, if_neg s_14_4, if_neg s_14_5, if_neg s_14_6], rfl⟩)
  · rw [if_neg b_2] at hr1
    subst hr1
    refine lv_astore_nN (lv' := [(3, .null), (0, .ref (B.1 40 0)), (1, .int (x)), (2, .int (v))]) hx hb dX6_about_5 rfl hl (by decide) rfl (fun ls hl => ?_)
    refine lv_aload_nN hx hb dX6_about_6 rfl (lv_at hl 0 rfl) ?_
    refine lv_ifnonnullN hx hb dX6_about_7 ?_
    refine lv_bipush (v := (-2)) hx hb dX6_about_10 (by decide) ?_
    exact m_iret hx hb hr hlk hH hS dX6_about_12 (⟨(if_neg b_2).symm, rfl⟩)
set_option maxHeartbeats 4000000 in
set_option maxRecDepth 100000 in
theorem c_X6_needed (l : Launch) (G : gG) (B : gB) (σ : gS) (hI : RI B σ) (x : Int32) : Met l yX6_needed [.code yX6_needed cX6_needed 3 (some .int)] ({ frames := 3, cells := 0, slots := 0, locals := 67 } : Room) (mPc G B σ [.ref (B.1 40 0), .int (x)]) (mQi G B (fun r τ => r = (if isLo σ x = true then ndA σ x.toNatClampNeg else -2) ∧ τ = σ)) 0 0 (mA G) := by
  refine m_start (by decide) (Nat.le_of_ble_eq_true rfl) ?_
  intro p e s m below meth c ⟨hx, hb, hr, hml, hown, hK, hlk, hz⟩ hH hS ls hl
  have hl : lv_has ls 3 [(0, .ref (B.1 40 0)), (1, .int (x))] := hl
  have hC := hI.C
  have h24 := hI.P.2.1
  have h8 := hI.S.2.1
  have h60 := hI.L.2.1
  refine lv_aload_n hx hb dX6_needed_0 rfl (lv_at hl 0 rfl) ?_
  refine lv_iload_n hx hb dX6_needed_1 rfl (lv_at hl 1 rfl) ?_
  refine m_kq (m_runV (k := 40) (i := 0) (ci := 6) ⟨hx, hb, hml, hown, hz⟩ hK hH hS (bc hC 40) rfl rfl (c_X6_lotAt l G B σ hI.C hI.D hI.L.2.1 (x)) mw_X6_lotAt wl_X6_216 ⟨rfl, rfl⟩ ⟨by decide, by decide⟩ rfl hl.1 rfl (Nat.le_of_ble_eq_true rfl) dX6_needed_2 ⟨Nat.zero_le _, Nat.zero_le _⟩) hS (fun r_2 σ_2 H locs hp hH hS => ?_)
  obtain ⟨hr1, hs1⟩ := hp
  rw [hs1] at hH
  by_cases b_2 : isLo σ x = true
  · rw [if_pos b_2] at hr1
    obtain ⟨qn, hqn, he⟩ := isLo_t b_2
    subst he
    rw [nI_clamp (by omega)] at hr1
    subst hr1
    have hB_qn : qn < B.2 60 := by rw [hI.D.2.2.2.2.2]; exact hqn
    have hL_qn := hI.L.2.2 qn hqn
    have hR_qn := hI.lr hqn
    have hj2 : (jq σ qn).1 ≤ 2 := jd_now _ _ _ _
    have hcn : (jq σ qn).2.1 = lSn σ qn := hL_qn.2.2.2.2.2.2.2.2.2.2
    have hsn := hL_qn.2.2.2.2.2.2.2.2.1
    refine lv_astore_n (lv' := [(2, .ref (B.1 60 qn)), (0, .ref (B.1 40 0)), (1, .int (nI qn))]) hx hb dX6_needed_5 rfl hl (by decide) rfl (fun ls hl => ?_)
    refine lv_aload_n hx hb dX6_needed_6 rfl (lv_at hl 0 rfl) ?_
    refine lv_ifnonnull (tgt := 15) hx hb dX6_needed_7 (by decide) ?_
    have hpn := hL_qn.2.2.2.2.2.1
    have hB_pn : lPl σ qn < B.2 50 := by rw [hI.D.2.1]; exact hpn
    refine lv_aload_n hx hb dX6_needed_15 rfl (lv_at hl 0 rfl) ?_
    refine m_ki (m_runV (k := 60) (i := qn) (ci := 0) ⟨hx, hb, hml, hown, hz⟩ hK hH hS hB_qn rfl rfl (c_X0_leastFurther l G B σ hC qn hB_qn (lPl σ qn) hB_pn (hI.P.2.2 _ hpn) (hI.pr hpn) hR_qn.2.2.1 (by omega) (jq σ qn) (itm σ qn) hR_qn.2.2.2.2.1 hj2 hL_qn.2.2.2.2.2.2.1 (fun h0 => (hL_qn.ok hI.P h0).1) (fun h0 => (hL_qn.ok hI.P h0).2)) mw_X0_leastFurther wl_X6_237 ⟨rfl, rfl⟩ ⟨by decide, by decide⟩ rfl hl.1 rfl (Nat.le_of_ble_eq_true rfl) dX6_needed_16 ⟨Nat.zero_le _, Nat.zero_le _⟩) hS (fun r_16 σ_16 H locs hp hH hS => ?_)
    obtain ⟨hr1, hs1⟩ := hp
    rw [hs1] at hH
    rw [hcn, ← ndA_lf] at hr1
    subst hr1
    exact m_iret hx hb hr hlk hH hS dX6_needed_19 (⟨by rw [if_pos b_2, nI_clamp (by omega)], rfl⟩)
  · rw [if_neg b_2] at hr1
    subst hr1
    refine lv_astore_nN (lv' := [(2, .null), (0, .ref (B.1 40 0)), (1, .int (x))]) hx hb dX6_needed_5 rfl hl (by decide) rfl (fun ls hl => ?_)
    refine lv_aload_nN hx hb dX6_needed_6 rfl (lv_at hl 0 rfl) ?_
    refine lv_ifnonnullN hx hb dX6_needed_7 ?_
    refine lv_bipush (v := (-2)) hx hb dX6_needed_10 (by decide) ?_
    refine lv_goto (tgt := 19) hx hb dX6_needed_12 (by decide) ?_
    exact m_iret hx hb hr hlk hH hS dX6_needed_19 (⟨(if_neg b_2).symm, rfl⟩)
set_option maxHeartbeats 4000000 in
set_option maxRecDepth 100000 in
theorem c_X6_rule (l : Launch) (G : gG) (B : gB) (σ : gS) (hI : RI B σ) (x : Int32) : Met l yX6_rule [.code yX6_rule cX6_rule 3 (some .int)] ({ frames := 1, cells := 0, slots := 0, locals := 21 } : Room) (mPc G B σ [.ref (B.1 40 0), .int (x)]) (mQi G B (fun r τ => r = (if isSu σ x = true then σ.1 15 0 x.toNatClampNeg else -2) ∧ τ = σ)) 0 0 (mA G) := by
  refine m_start (by decide) (Nat.le_of_ble_eq_true rfl) ?_
  intro p e s m below meth c ⟨hx, hb, hr, hml, hown, hK, hlk, hz⟩ hH hS ls hl
  have hl : lv_has ls 3 [(0, .ref (B.1 40 0)), (1, .int (x))] := hl
  have hC := hI.C
  have h24 := hI.P.2.1
  have h8 := hI.S.2.1
  have h60 := hI.L.2.1
  refine lv_aload_n hx hb dX6_rule_0 rfl (lv_at hl 0 rfl) ?_
  refine lv_iload_n hx hb dX6_rule_1 rfl (lv_at hl 1 rfl) ?_
  refine m_kq (m_runV (k := 40) (i := 0) (ci := 6) ⟨hx, hb, hml, hown, hz⟩ hK hH hS (bc hC 40) rfl rfl (c_X6_supplierAt l G B σ hI.C hI.D hI.S.2.1 (x)) mw_X6_supplierAt wl_X6_173 ⟨rfl, rfl⟩ ⟨by decide, by decide⟩ rfl hl.1 rfl (Nat.le_of_ble_eq_true rfl) dX6_rule_2 ⟨Nat.zero_le _, Nat.zero_le _⟩) hS (fun r_2 σ_2 H locs hp hH hS => ?_)
  obtain ⟨hr1, hs1⟩ := hp
  rw [hs1] at hH
  by_cases b_2 : isSu σ x = true
  · rw [if_pos b_2] at hr1
    obtain ⟨sn, hsn, he⟩ := isSu_t b_2
    subst he
    rw [nI_clamp (by omega)] at hr1
    subst hr1
    have hB_sn : sn < B.2 57 := by rw [hI.D.2.2.2.1]; exact hsn
    have hS_sn := hI.sr hsn
    have hW_sn := hI.S.2.2.1 sn hsn
    obtain ⟨hS_cs, hS_n, hS_l⟩ := hS_sn.cs hW_sn
    refine lv_astore_n (lv' := [(2, .ref (B.1 57 sn)), (0, .ref (B.1 40 0)), (1, .int (nI sn))]) hx hb dX6_rule_5 rfl hl (by decide) rfl (fun ls hl => ?_)
    refine lv_aload_n hx hb dX6_rule_6 rfl (lv_at hl 0 rfl) ?_
    refine lv_ifnonnull (tgt := 15) hx hb dX6_rule_7 (by decide) ?_
    refine lv_aload_n hx hb dX6_rule_15 rfl (lv_at hl 0 rfl) ?_
    refine gf_X6_183 hx hb hown hK hH hB_sn dX6_rule_16 ?_
    exact m_iret hx hb hr hlk hH hS dX6_rule_19 (⟨by rw [if_pos b_2, nI_clamp (by omega)]; exact hS_sn.2.1, rfl⟩)
  · rw [if_neg b_2] at hr1
    subst hr1
    refine lv_astore_nN (lv' := [(2, .null), (0, .ref (B.1 40 0)), (1, .int (x))]) hx hb dX6_rule_5 rfl hl (by decide) rfl (fun ls hl => ?_)
    refine lv_aload_nN hx hb dX6_rule_6 rfl (lv_at hl 0 rfl) ?_
    refine lv_ifnonnullN hx hb dX6_rule_7 ?_
    refine lv_bipush (v := (-2)) hx hb dX6_rule_10 (by decide) ?_
    refine lv_goto (tgt := 19) hx hb dX6_rule_12 (by decide) ?_
    exact m_iret hx hb hr hlk hH hS dX6_rule_19 (⟨(if_neg b_2).symm, rfl⟩)
theorem rv_is (σ : gS) (s k : Nat) : rv σ s k = if k < rn σ s then σ.1 18 0 (60 * s + rn σ s - 1 - k) else 0 := rfl
theorem SR.rv {σ : gS} {s : Nat} (h : SR σ s) (hW : WfS1 σ s) (k : Nat) : crv σ s k = rv σ s k := by
  rw [rv_is]
  unfold crv
  rw [(h.cs hW).2.1]
  by_cases e : k < rn σ s
  · rw [if_pos e, if_pos e, h.2.2.2.2 _ (by omega), show 60 * s + (rn σ s - 1 - k) = 60 * s + rn σ s - 1 - k by omega]
  · rw [if_neg e, if_neg e]
set_option maxHeartbeats 4000000 in
set_option maxRecDepth 100000 in
theorem c_X6_run (l : Launch) (G : gG) (B : gB) (σ : gS) (hI : RI B σ) (x k : Int32) : Met l yX6_run [.code yX6_run cX6_run 4 (some .int)] ({ frames := 1, cells := 0, slots := 0, locals := 21 } : Room) (mPc G B σ [.ref (B.1 40 0), .int (x), .int (k)]) (mQi G B (fun r τ => r = (if isSu σ x = true ∧ 0 ≤ k.toInt then rv σ x.toNatClampNeg k.toNatClampNeg else -2) ∧ τ = σ)) 0 0 (mA G) := by
  refine m_start (by decide) (Nat.le_of_ble_eq_true rfl) ?_
  intro p e s m below meth c ⟨hx, hb, hr, hml, hown, hK, hlk, hz⟩ hH hS ls hl
  have hl : lv_has ls 4 [(0, .ref (B.1 40 0)), (1, .int (x)), (2, .int (k))] := hl
  have hC := hI.C
  have h24 := hI.P.2.1
  have h8 := hI.S.2.1
  have h60 := hI.L.2.1
  refine lv_aload_n hx hb dX6_run_0 rfl (lv_at hl 0 rfl) ?_
  refine lv_iload_n hx hb dX6_run_1 rfl (lv_at hl 1 rfl) ?_
  refine m_kq (m_runV (k := 40) (i := 0) (ci := 6) ⟨hx, hb, hml, hown, hz⟩ hK hH hS (bc hC 40) rfl rfl (c_X6_supplierAt l G B σ hI.C hI.D hI.S.2.1 (x)) mw_X6_supplierAt wl_X6_173 ⟨rfl, rfl⟩ ⟨by decide, by decide⟩ rfl hl.1 rfl (Nat.le_of_ble_eq_true rfl) dX6_run_2 ⟨Nat.zero_le _, Nat.zero_le _⟩) hS (fun r_2 σ_2 H locs hp hH hS => ?_)
  obtain ⟨hr1, hs1⟩ := hp
  rw [hs1] at hH
  by_cases b_2 : isSu σ x = true
  · rw [if_pos b_2] at hr1
    obtain ⟨sn, hsn, he⟩ := isSu_t b_2
    subst he
    rw [nI_clamp (by omega)] at hr1
    subst hr1
    have hB_sn : sn < B.2 57 := by rw [hI.D.2.2.2.1]; exact hsn
    have hS_sn := hI.sr hsn
    have hW_sn := hI.S.2.2.1 sn hsn
    obtain ⟨hS_cs, hS_n, hS_l⟩ := hS_sn.cs hW_sn
    refine lv_astore_n (lv' := [(3, .ref (B.1 57 sn)), (0, .ref (B.1 40 0)), (1, .int (nI sn)), (2, .int (k))]) hx hb dX6_run_5 rfl hl (by decide) rfl (fun ls hl => ?_)
    refine lv_aload_n hx hb dX6_run_6 rfl (lv_at hl 0 rfl) ?_
    refine lv_ifnull hx hb dX6_run_7 ?_
    refine lv_iload_n hx hb dX6_run_10 rfl (lv_at hl 3 rfl) ?_
    refine lv_if_ge (tgt := 17) hx hb dX6_run_11 (by decide) (fun c_11 => ?_) (fun c_11 => ?_)
    · rw [i_le, i0] at c_11
      have k3 := i_rng k
      obtain ⟨k1, k2⟩ := i_nat (x := k) (c_11)
      obtain ⟨kn, hq9⟩ : ∃ z : Nat, z = k.toInt.toNat := ⟨_, rfl⟩
      rw [← hq9] at k1 k2
      have hkn : kn < 2147483648 := by omega
      clear c_11 k2 k3
      clear hq9
      subst k1
      refine lv_aload_n hx hb dX6_run_17 rfl (lv_at hl 0 rfl) ?_
      refine lv_iload_n hx hb dX6_run_18 rfl (lv_at hl 3 rfl) ?_
      refine m_ki (m_runV (k := 57) (i := sn) (ci := 4) ⟨hx, hb, hml, hown, hz⟩ hK hH hS hB_sn rfl rfl (c_X4_latest l G B σ hC sn hB_sn hS_cs kn hkn) mw_X4_latest wl_X6_240 ⟨rfl, rfl⟩ ⟨by decide, by decide⟩ rfl hl.1 rfl (Nat.le_of_ble_eq_true rfl) dX6_run_19 ⟨Nat.zero_le _, Nat.zero_le _⟩) hS (fun r_19 σ_19 H locs hp hH hS => ?_)
      obtain ⟨hr1, hs1⟩ := hp
      subst hr1
      rw [hs1] at hH
      exact m_iret hx hb hr hlk hH hS dX6_run_22 (⟨by rw [if_pos ⟨b_2, by rw [nI_I (by omega)]; omega⟩, nI_clamp (by omega), nI_clamp (by omega), hS_sn.rv hW_sn], rfl⟩)
    · refine lv_bipush (v := (-2)) hx hb dX6_run_14 (by decide) ?_
      exact m_iret hx hb hr hlk hH hS dX6_run_16 (⟨(if_neg (fun z => by first | exact b_2 z.1 | (rw [i_le, i0] at c_11; exact c_11 z.2))).symm, rfl⟩)
  · rw [if_neg b_2] at hr1
    subst hr1
    refine lv_astore_nN (lv' := [(3, .null), (0, .ref (B.1 40 0)), (1, .int (x)), (2, .int (k))]) hx hb dX6_run_5 rfl hl (by decide) rfl (fun ls hl => ?_)
    refine lv_aload_nN hx hb dX6_run_6 rfl (lv_at hl 0 rfl) ?_
    refine lv_ifnullN (tgt := 14) hx hb dX6_run_7 (by decide) ?_
    refine lv_bipush (v := (-2)) hx hb dX6_run_14 (by decide) ?_
    exact m_iret hx hb hr hlk hH hS dX6_run_16 (⟨(if_neg (fun z => by first | exact b_2 z.1 | (rw [i_le, i0] at c_11; exact c_11 z.2))).symm, rfl⟩)
set_option maxHeartbeats 4000000 in
set_option maxRecDepth 100000 in
theorem c_X6_cost (l : Launch) (G : gG) (B : gB) (σ : gS) (hI : RI B σ) (t u : Int32) : Met l yX6_cost [.code yX6_cost cX6_cost 4 (some .int)] ({ frames := 1, cells := 0, slots := 0, locals := 20 } : Room) (mPc G B σ [.ref (B.1 40 0), .int (t), .int (u)]) (mQi G B (fun r τ => if coOK t u = true then ∃ q : Nat, q < 4 ∧ t = nI q ∧ r = σ.1 25 0 q ∧ τ = sI σ 48 0 q u else r = -2 ∧ τ = σ)) 0 0 (mA G) := by
  refine m_start (by decide) (Nat.le_of_ble_eq_true rfl) ?_
  intro p e s m below meth c ⟨hx, hb, hr, hml, hown, hK, hlk, hz⟩ hH hS ls hl
  have hl : lv_has ls 4 [(0, .ref (B.1 40 0)), (1, .int (t)), (2, .int (u))] := hl
  have hC := hI.C
  have h24 := hI.P.2.1
  have h8 := hI.S.2.1
  have h60 := hI.L.2.1
  have h1e5 : (100000 : Int32).toInt = 100000 := rfl
  refine lv_iload_n hx hb dX6_cost_0 rfl (lv_at hl 1 rfl) ?_
  refine m_ki (m_runS ⟨hx, hb, hml, hown, hz⟩ hK hH hS (c_X6_isClass l G B σ t) mw_X6_isClass wl_X6_193 ⟨rfl, rfl⟩ ⟨by decide, by decide⟩ rfl hl.1 rfl (Nat.le_of_ble_eq_true rfl) dX6_cost_1 ⟨Nat.zero_le _, Nat.zero_le _⟩) hS (fun r_1 σ_1 H locs hp hH hS => ?_)
  obtain ⟨hr1, hs1⟩ := hp
  subst hr1
  rw [hs1] at hH
  refine m_ifeqB (tgt := 17) hx hb dX6_cost_4 (by decide) (fun c_4 => ?_) (fun c_4 => ?_)
  · refine lv_bipush (v := (-2)) hx hb dX6_cost_17 (by decide) ?_
    exact m_iret hx hb hr hlk hH hS dX6_cost_19 (by rw [if_neg (fun z => by have z2 := of_decide_eq_true z; first | exact of_decide_eq_false c_4 z2.1 | (rw [i_lt, i0] at c_8; omega) | (rw [i_le, h1e5] at c_14; omega))]; exact ⟨rfl, rfl⟩)
  · refine lv_iload_n hx hb dX6_cost_7 rfl (lv_at hl 2 rfl) ?_
    refine lv_if_lt (tgt := 17) hx hb dX6_cost_8 (by decide) (fun c_8 => ?_) (fun c_8 => ?_)
    · refine lv_bipush (v := (-2)) hx hb dX6_cost_17 (by decide) ?_
      exact m_iret hx hb hr hlk hH hS dX6_cost_19 (by rw [if_neg (fun z => by have z2 := of_decide_eq_true z; first | exact of_decide_eq_false c_4 z2.1 | (rw [i_lt, i0] at c_8; omega) | (rw [i_le, h1e5] at c_14; omega))]; exact ⟨rfl, rfl⟩)
    · refine lv_iload_n hx hb dX6_cost_11 rfl (lv_at hl 2 rfl) ?_
      refine lv_ldc hx hb hown (hK.2 _ wc_X6_250 rfl _) dX6_cost_12 ?_
      refine lv_icmp_le (tgt := 20) hx hb dX6_cost_14 (by decide) (fun c_14 => ?_) (fun c_14 => ?_)
      · have c_4b := of_decide_eq_true c_4
        have hyes : coOK t u = true := decide_eq_true ⟨c_4b, by rw [i_lt, i0] at c_8; rw [i_le, h1e5] at c_14; omega⟩
        obtain ⟨k1, k2⟩ := i_nat (x := t) (c_4b.1)
        obtain ⟨tn, hq9⟩ : ∃ z : Nat, z = t.toInt.toNat := ⟨_, rfl⟩
        rw [← hq9] at k1 k2
        have htn : tn ≤ 3 := by omega
        clear c_4 c_4b k2
        clear hq9
        subst k1
        refine lv_aload_n hx hb dX6_cost_20 rfl (lv_at hl 0 rfl) ?_
        refine gf_X6_51 hx hb hown hK hH (bc hC 40) dX6_cost_21 ?_
        refine lv_iload_n hx hb dX6_cost_24 rfl (lv_at hl 1 rfl) ?_
        refine m_iald hx hb hK hH (n := 4) (bc hC 48) (fun _ _ => rfl) (tn) (rfl) (by omega) (by decide) dX6_cost_25 ?_
        refine m_toe (σ.1 25 0 tn) (hI.co (by omega)) ?_
        refine lv_istore_n (lv' := [(3, .int (σ.1 25 0 tn)), (0, .ref (B.1 40 0)), (1, .int (nI tn)), (2, .int (u))]) hx hb dX6_cost_26 rfl hl (by decide) rfl (fun ls hl => ?_)
        refine lv_aload_n hx hb dX6_cost_27 rfl (lv_at hl 1 rfl) ?_
        refine gf_X6_51 hx hb hown hK hH (bc hC 40) dX6_cost_28 ?_
        refine lv_iload_n hx hb dX6_cost_31 rfl (lv_at hl 2 rfl) ?_
        refine lv_iload_n hx hb dX6_cost_32 rfl (lv_at hl 3 rfl) ?_
        refine m_iast hx hb hK hH hS (n := 4) (bc hC 48) (fun _ _ => rfl) (tn) (rfl) (by omega) (by decide) dX6_cost_33 (fun H locs hH hS => ?_)
        refine lv_iload_n hx hb dX6_cost_34 rfl (lv_at hl 0 rfl) ?_
        exact m_iret hx hb hr hlk hH hS dX6_cost_35 (by rw [if_pos hyes]; exact ⟨tn, by omega, rfl, rfl, rfl⟩)
      · refine lv_bipush (v := (-2)) hx hb dX6_cost_17 (by decide) ?_
        exact m_iret hx hb hr hlk hH hS dX6_cost_19 (by rw [if_neg (fun z => by have z2 := of_decide_eq_true z; first | exact of_decide_eq_false c_4 z2.1 | (rw [i_lt, i0] at c_8; omega) | (rw [i_le, h1e5] at c_14; omega))]; exact ⟨rfl, rfl⟩)
set_option maxHeartbeats 4000000 in
set_option maxRecDepth 100000 in
theorem c_X6_scoreOfLot (l : Launch) (G : gG) (B : gB) (σ : gS) (hI : RI B σ) (qn wn : Nat) (hqn : qn < nL σ) (hwn : wn ≤ 5) : Met l yX6_scoreOfLot [.code yX6_scoreOfLot cX6_scoreOfLot 3 (some .long)] ({ frames := 1, cells := 0, slots := 0, locals := 24 } : Room) (mPc G B σ [.ref (B.1 40 0), .ref (B.1 60 qn), .int (nI wn)]) (mQl G B (fun r τ => r = slv σ wn qn ∧ τ = σ)) 0 0 (mA G) := by
  refine m_start (by decide) (Nat.le_of_ble_eq_true rfl) ?_
  intro p e s m below meth c ⟨hx, hb, hr, hml, hown, hK, hlk, hz⟩ hH hS ls hl
  have hl : lv_has ls 3 [(0, .ref (B.1 40 0)), (1, .ref (B.1 60 qn)), (2, .int (nI wn))] := hl
  have hC := hI.C
  have h60 := hI.L.2.1
  have hB_qn : qn < B.2 60 := by rw [hI.D.2.2.2.2.2]; exact hqn
  have hL_qn := hI.L.2.2 qn hqn
  have hR_qn := hI.lr hqn
  have hj2 : (jq σ qn).1 ≤ 2 := jd_now _ _ _ _
  have hcn : (jq σ qn).2.1 = lSn σ qn := hL_qn.2.2.2.2.2.2.2.2.2.2
  have hsn := hL_qn.2.2.2.2.2.2.2.2.1
  have g0 := tal_le (itm σ qn) 0 (lSn σ qn)
  rcases (show wn = 0 ∨ wn = 1 ∨ wn = 2 ∨ wn = 3 ∨ wn = 4 ∨ wn = 5 by omega) with rfl | rfl | rfl | rfl | rfl | rfl
  · refine lv_iload_n hx hb dX6_scoreOfLot_0 rfl (lv_at hl 2 rfl) ?_
    refine lv_tableIn (off := 35) (tgt := 36) hx hb dX6_scoreOfLot_1 (by decide) (by decide) (by decide) (by decide) ?_
    refine lv_aload_n hx hb dX6_scoreOfLot_36 rfl (lv_at hl 1 rfl) ?_
    refine gf_X6_219 hx hb hown hK hH hB_qn dX6_scoreOfLot_37 ?_
    refine m_toi ((jq σ qn).1) (hR_qn.2.2.2.2.1.1) ?_
    refine lv_iconst (v := nI 1) hx hb dX6_scoreOfLot_40 (by decide) ?_
    refine m_icmp_neN (tgt := 48) (by omega) (by omega) hx hb dX6_scoreOfLot_41 (by decide) (fun c_41 => ?_) (fun c_41 => ?_)
    · refine lv_lconst (v := lN 0) hx hb dX6_scoreOfLot_48 rfl ?_
      exact m_lret hx hb hr hlk hH hS dX6_scoreOfLot_49 (⟨by unfold slv; rw [if_pos (by decide)]; first | rw [if_pos (show (jq σ qn).1 = tgt _ from (by unfold tgt; first | (rw [if_pos rfl]; omega) | (rw [if_neg (by decide), if_pos rfl]; omega) | (rw [if_neg (by decide), if_neg (by decide)]; omega)))] | rw [if_neg (show ¬ (jq σ qn).1 = tgt _ from (by unfold tgt; first | (rw [if_pos rfl]; omega) | (rw [if_neg (by decide), if_pos rfl]; omega) | (rw [if_neg (by decide), if_neg (by decide)]; omega)))], rfl⟩)
    · refine lv_lconst (v := lN 1) hx hb dX6_scoreOfLot_44 rfl ?_
      refine lv_goto (tgt := 49) hx hb dX6_scoreOfLot_45 (by decide) ?_
      exact m_lret hx hb hr hlk hH hS dX6_scoreOfLot_49 (⟨by unfold slv; rw [if_pos (by decide)]; first | rw [if_pos (show (jq σ qn).1 = tgt _ from (by unfold tgt; first | (rw [if_pos rfl]; omega) | (rw [if_neg (by decide), if_pos rfl]; omega) | (rw [if_neg (by decide), if_neg (by decide)]; omega)))] | rw [if_neg (show ¬ (jq σ qn).1 = tgt _ from (by unfold tgt; first | (rw [if_pos rfl]; omega) | (rw [if_neg (by decide), if_pos rfl]; omega) | (rw [if_neg (by decide), if_neg (by decide)]; omega)))], rfl⟩)
  · refine lv_iload_n hx hb dX6_scoreOfLot_0 rfl (lv_at hl 2 rfl) ?_
    refine lv_tableIn (off := 49) (tgt := 50) hx hb dX6_scoreOfLot_1 (by decide) (by decide) (by decide) (by decide) ?_
    refine lv_aload_n hx hb dX6_scoreOfLot_50 rfl (lv_at hl 1 rfl) ?_
    refine gf_X6_219 hx hb hown hK hH hB_qn dX6_scoreOfLot_51 ?_
    refine m_toi ((jq σ qn).1) (hR_qn.2.2.2.2.1.1) ?_
    refine lv_iconst (v := nI 2) hx hb dX6_scoreOfLot_54 (by decide) ?_
    refine m_icmp_neN (tgt := 62) (by omega) (by omega) hx hb dX6_scoreOfLot_55 (by decide) (fun c_55 => ?_) (fun c_55 => ?_)
    · refine lv_lconst (v := lN 0) hx hb dX6_scoreOfLot_62 rfl ?_
      exact m_lret hx hb hr hlk hH hS dX6_scoreOfLot_63 (⟨by unfold slv; rw [if_pos (by decide)]; first | rw [if_pos (show (jq σ qn).1 = tgt _ from (by unfold tgt; first | (rw [if_pos rfl]; omega) | (rw [if_neg (by decide), if_pos rfl]; omega) | (rw [if_neg (by decide), if_neg (by decide)]; omega)))] | rw [if_neg (show ¬ (jq σ qn).1 = tgt _ from (by unfold tgt; first | (rw [if_pos rfl]; omega) | (rw [if_neg (by decide), if_pos rfl]; omega) | (rw [if_neg (by decide), if_neg (by decide)]; omega)))], rfl⟩)
    · refine lv_lconst (v := lN 1) hx hb dX6_scoreOfLot_58 rfl ?_
      refine lv_goto (tgt := 63) hx hb dX6_scoreOfLot_59 (by decide) ?_
      exact m_lret hx hb hr hlk hH hS dX6_scoreOfLot_63 (⟨by unfold slv; rw [if_pos (by decide)]; first | rw [if_pos (show (jq σ qn).1 = tgt _ from (by unfold tgt; first | (rw [if_pos rfl]; omega) | (rw [if_neg (by decide), if_pos rfl]; omega) | (rw [if_neg (by decide), if_neg (by decide)]; omega)))] | rw [if_neg (show ¬ (jq σ qn).1 = tgt _ from (by unfold tgt; first | (rw [if_pos rfl]; omega) | (rw [if_neg (by decide), if_pos rfl]; omega) | (rw [if_neg (by decide), if_neg (by decide)]; omega)))], rfl⟩)
  · refine lv_iload_n hx hb dX6_scoreOfLot_0 rfl (lv_at hl 2 rfl) ?_
    refine lv_tableIn (off := 63) (tgt := 64) hx hb dX6_scoreOfLot_1 (by decide) (by decide) (by decide) (by decide) ?_
    refine lv_aload_n hx hb dX6_scoreOfLot_64 rfl (lv_at hl 1 rfl) ?_
    refine gf_X6_219 hx hb hown hK hH hB_qn dX6_scoreOfLot_65 ?_
    refine m_toi ((jq σ qn).1) (hR_qn.2.2.2.2.1.1) ?_
    refine m_ifneN (tgt := 75) (by omega) hx hb dX6_scoreOfLot_68 (by decide) (fun c_68 => ?_) (fun c_68 => ?_)
    · refine lv_lconst (v := lN 0) hx hb dX6_scoreOfLot_75 rfl ?_
      exact m_lret hx hb hr hlk hH hS dX6_scoreOfLot_76 (⟨by unfold slv; rw [if_pos (by decide)]; first | rw [if_pos (show (jq σ qn).1 = tgt _ from (by unfold tgt; first | (rw [if_pos rfl]; omega) | (rw [if_neg (by decide), if_pos rfl]; omega) | (rw [if_neg (by decide), if_neg (by decide)]; omega)))] | rw [if_neg (show ¬ (jq σ qn).1 = tgt _ from (by unfold tgt; first | (rw [if_pos rfl]; omega) | (rw [if_neg (by decide), if_pos rfl]; omega) | (rw [if_neg (by decide), if_neg (by decide)]; omega)))], rfl⟩)
    · refine lv_lconst (v := lN 1) hx hb dX6_scoreOfLot_71 rfl ?_
      refine lv_goto (tgt := 76) hx hb dX6_scoreOfLot_72 (by decide) ?_
      exact m_lret hx hb hr hlk hH hS dX6_scoreOfLot_76 (⟨by unfold slv; rw [if_pos (by decide)]; first | rw [if_pos (show (jq σ qn).1 = tgt _ from (by unfold tgt; first | (rw [if_pos rfl]; omega) | (rw [if_neg (by decide), if_pos rfl]; omega) | (rw [if_neg (by decide), if_neg (by decide)]; omega)))] | rw [if_neg (show ¬ (jq σ qn).1 = tgt _ from (by unfold tgt; first | (rw [if_pos rfl]; omega) | (rw [if_neg (by decide), if_pos rfl]; omega) | (rw [if_neg (by decide), if_neg (by decide)]; omega)))], rfl⟩)
  · refine lv_iload_n hx hb dX6_scoreOfLot_0 rfl (lv_at hl 2 rfl) ?_
    refine lv_tableIn (off := 76) (tgt := 77) hx hb dX6_scoreOfLot_1 (by decide) (by decide) (by decide) (by decide) ?_
    refine lv_aload_n hx hb dX6_scoreOfLot_77 rfl (lv_at hl 1 rfl) ?_
    refine gf_X6_204 hx hb hown hK hH hB_qn dX6_scoreOfLot_78 ?_
    refine m_toi (lSn σ qn) (hR_qn.2.2.2.2.1.2.1.trans (by rw [hcn])) ?_
    refine m_i2lN (by omega) hx hb dX6_scoreOfLot_81 ?_
    exact m_lret hx hb hr hlk hH hS dX6_scoreOfLot_82 (⟨by unfold slv; rw [if_neg (by decide), s64_cong (g := fun _ => lN 1) (fun k _ => by unfold itv; rw [if_pos rfl]), s64_1], rfl⟩)
  · refine lv_iload_n hx hb dX6_scoreOfLot_0 rfl (lv_at hl 2 rfl) ?_
    refine lv_tableIn (off := 82) (tgt := 83) hx hb dX6_scoreOfLot_1 (by decide) (by decide) (by decide) (by decide) ?_
    refine lv_aload_n hx hb dX6_scoreOfLot_83 rfl (lv_at hl 1 rfl) ?_
    refine gf_X6_204 hx hb hown hK hH hB_qn dX6_scoreOfLot_84 ?_
    refine m_toi (lSn σ qn) (hR_qn.2.2.2.2.1.2.1.trans (by rw [hcn])) ?_
    refine lv_aload_n hx hb dX6_scoreOfLot_87 rfl (lv_at hl 1 rfl) ?_
    refine gf_X6_264 hx hb hown hK hH hB_qn dX6_scoreOfLot_88 ?_
    refine lv_iconst (v := nI 0) hx hb dX6_scoreOfLot_91 (by decide) ?_
    refine m_iald hx hb hK hH (n := 4) (bl hC 62 hB_qn) (fun _ _ => rfl) (0) (rfl) (by omega) (by decide) dX6_scoreOfLot_92 ?_
    refine m_toi (tal (itm σ qn) 0 (lSn σ qn)) ((hR_qn.2.2.2.2.1.2.2.2 0 (by omega)).trans (by rw [hcn])) ?_
    refine m_isubN (by omega) hx hb dX6_scoreOfLot_93 ?_
    refine m_i2lN (by omega) hx hb dX6_scoreOfLot_94 ?_
    exact m_lret hx hb hr hlk hH hS dX6_scoreOfLot_95 (⟨by unfold slv; rw [if_neg (by decide), s64_cong (g := fun k => if 0 < itm σ qn k then lN 1 else lN 0) (fun k _ => by unfold itv; rw [if_neg (by decide), if_pos rfl]), s64_4], rfl⟩)
  · refine lv_iload_n hx hb dX6_scoreOfLot_0 rfl (lv_at hl 2 rfl) ?_
    refine lv_tableOut (tgt := 96) hx hb dX6_scoreOfLot_1 (by decide) (by decide) ?_
    refine lv_aload_n hx hb dX6_scoreOfLot_96 rfl (lv_at hl 1 rfl) ?_
    refine lv_aload_n hx hb dX6_scoreOfLot_97 rfl (lv_at hl 0 rfl) ?_
    refine gf_X6_51 hx hb hown hK hH (bc hC 40) dX6_scoreOfLot_98 ?_
    refine m_kl (m_runV (k := 60) (i := qn) (ci := 0) ⟨hx, hb, hml, hown, hz⟩ hK hH hS hB_qn rfl rfl (c_X0_cents l G B σ hC qn hB_qn (itm σ qn) (lSn σ qn) hsn (fun z hz9 => (hR_qn.2.2.2.2.1.2.2.2 z hz9).trans (by rw [hcn]))) mw_X0_cents wl_X6_267 ⟨rfl, rfl⟩ ⟨by decide, by decide⟩ rfl hl.1 rfl (Nat.le_of_ble_eq_true rfl) dX6_scoreOfLot_101 ⟨Nat.zero_le _, Nat.zero_le _⟩) hS (fun r_101 σ_101 H locs hp hH hS => ?_)
    obtain ⟨hr1, hs1⟩ := hp
    subst hr1
    rw [hs1] at hH
    exact m_lret hx hb hr hlk hH hS dX6_scoreOfLot_104 (⟨by have e9 : slv σ 5 qn = s64 (fun k => (σ.1 25 0 (itm σ qn k)).toInt64) (lSn σ qn) := (by unfold slv; rw [if_neg (by decide)]; exact s64_cong (fun k _ => by unfold itv; rw [if_neg (by decide), if_neg (by decide)])); rw [e9, s64_5 (f := itm σ qn) (c := fun v => (σ.1 25 0 v).toInt64) (fun k hk => (hL_qn.2.2.2.2.2.2.2.2.2.1 k hk).2)]; exact s64_cong (fun z hz9 => by rw [hI.co hz9]), rfl⟩)
set_option maxHeartbeats 4000000 in
set_option maxRecDepth 100000 in
theorem c_X6_score (l : Launch) (G : gG) (B : gB) (σ : gS) (hI : RI B σ) (x v : Int32) : Met l yX6_score [.code yX6_score cX6_score 8 (some .long)] ({ frames := 2, cells := 0, slots := 0, locals := 46 } : Room) (mPc G B σ [.ref (B.1 40 0), .int (x), .int (v)]) (mQl G B (fun r τ => r = (if scOK σ x v = true then scV σ x.toNatClampNeg v.toNatClampNeg else -2) ∧ τ = σ)) 0 0 (mA G) := by
  refine m_start (by decide) (Nat.le_of_ble_eq_true rfl) ?_
  intro p e s m below meth c ⟨hx, hb, hr, hml, hown, hK, hlk, hz⟩ hH hS ls hl
  have hl : lv_has ls 8 [(0, .ref (B.1 40 0)), (1, .int (x)), (2, .int (v))] := hl
  have hC := hI.C
  have h24 := hI.P.2.1
  have h8 := hI.S.2.1
  have h60 := hI.L.2.1
  refine lv_aload_n hx hb dX6_score_0 rfl (lv_at hl 0 rfl) ?_
  refine lv_iload_n hx hb dX6_score_1 rfl (lv_at hl 1 rfl) ?_
  refine m_kq (m_runV (k := 40) (i := 0) (ci := 6) ⟨hx, hb, hml, hown, hz⟩ hK hH hS (bc hC 40) rfl rfl (c_X6_supplierAt l G B σ hI.C hI.D hI.S.2.1 (x)) mw_X6_supplierAt wl_X6_173 ⟨rfl, rfl⟩ ⟨by decide, by decide⟩ rfl hl.1 rfl (Nat.le_of_ble_eq_true rfl) dX6_score_2 ⟨Nat.zero_le _, Nat.zero_le _⟩) hS (fun r_2 σ_2 H locs hp hH hS => ?_)
  obtain ⟨hr1, hs1⟩ := hp
  rw [hs1] at hH
  by_cases b_2 : isSu σ x = true
  · rw [if_pos b_2] at hr1
    obtain ⟨sn, hsn, he⟩ := isSu_t b_2
    subst he
    rw [nI_clamp (by omega)] at hr1
    subst hr1
    have hB_sn : sn < B.2 57 := by rw [hI.D.2.2.2.1]; exact hsn
    have hS_sn := hI.sr hsn
    have hW_sn := hI.S.2.2.1 sn hsn
    obtain ⟨hS_cs, hS_n, hS_l⟩ := hS_sn.cs hW_sn
    refine lv_astore_n (lv' := [(3, .ref (B.1 57 sn)), (0, .ref (B.1 40 0)), (1, .int (nI sn)), (2, .int (v))]) hx hb dX6_score_5 rfl hl (by decide) rfl (fun ls hl => ?_)
    refine lv_aload_n hx hb dX6_score_6 rfl (lv_at hl 0 rfl) ?_
    refine lv_ifnull hx hb dX6_score_7 ?_
    refine lv_iload_n hx hb dX6_score_10 rfl (lv_at hl 3 rfl) ?_
    refine lv_if_lt (tgt := 20) hx hb dX6_score_11 (by decide) (fun c_11 => ?_) (fun c_11 => ?_)
    · refine lv_ldc2 hx hb hown (hK.2 _ wc_X6_107 rfl _) dX6_score_20 ?_
      exact m_lret hx hb hr hlk hH hS dX6_score_23 (⟨(if_neg (fun z => by have z2 := Bool.and_eq_true_iff.mp z; have z3 := of_decide_eq_true z2.2; first | exact b_2 z2.1 | (rw [i_lt, i0] at c_11; omega) | (rw [i_le, n6I] at c_17; omega))).symm, rfl⟩)
    · refine lv_iload_n hx hb dX6_score_14 rfl (lv_at hl 3 rfl) ?_
      refine lv_bipush (v := nI 6) hx hb dX6_score_15 (by decide) ?_
      refine lv_icmp_le (tgt := 24) hx hb dX6_score_17 (by decide) (fun c_17 => ?_) (fun c_17 => ?_)
      · rw [i_lt, i0] at c_11
        rw [i_le, n6I] at c_17
        have hyes : scOK σ (nI sn) v = true := by unfold scOK; rw [b_2, decide_eq_true (by omega)]; rfl
        obtain ⟨k1, k2⟩ := i_nat (x := v) (by omega)
        obtain ⟨wn, hq9⟩ : ∃ z : Nat, z = v.toInt.toNat := ⟨_, rfl⟩
        rw [← hq9] at k1 k2
        have hwn : wn ≤ 6 := by omega
        clear c_11 c_17 k2
        clear hq9
        subst k1
        refine lv_iload_n hx hb dX6_score_24 rfl (lv_at hl 3 rfl) ?_
        refine lv_bipush (v := nI 6) hx hb dX6_score_25 (by decide) ?_
        refine m_icmp_neN (tgt := 36) (by omega) (by omega) hx hb dX6_score_27 (by decide) (fun c_27 => ?_) (fun c_27 => ?_)
        · refine lv_lconst (v := lN 0) hx hb dX6_score_36 rfl ?_
          refine lv_lstore (lv' := [(4, .long (lN 0)), (3, .ref (B.1 57 sn)), (0, .ref (B.1 40 0)), (1, .int (nI sn)), (2, .int (nI wn))]) hx hb dX6_score_37 hl (by decide) rfl (fun ls hl => ?_)
          refine lv_iconst (v := nI 0) hx hb dX6_score_39 (by decide) ?_
          refine lv_istore (lv' := [(6, .int (nI 0)), (4, .long (lN 0)), (3, .ref (B.1 57 sn)), (0, .ref (B.1 40 0)), (1, .int (nI sn)), (2, .int (nI wn))]) hx hb dX6_score_40 hl (by decide) rfl (fun ls hl => ?_)
          have loop : ∀ (z : Nat) (i : Nat), i ≤ nL σ ∧ nL σ < i + z → ∀ (H : Heap) (locs : List Loc), Hp G B σ H → va_S (mA G) s.heap H locs → ∀ (ls : Array Slot), lv_has ls 8 [(0, .ref (B.1 40 0)), (1, .int (nI sn)), (2, .int (nI wn)), (3, .ref (B.1 57 sn)), (4, .long (s64 (fun q => if lSu σ q = sn then slv σ wn q else 0) i)), (6, .int (nI i))] → W p l e ({ frames := 2, cells := 0, slots := 0, locals := 46 } : Room) s m ([.ref (B.1 40 0), .int ((nI sn)), .int ((nI wn))] : List Value).toArray below meth c H locs 0 0 (MQ below (mQl G B (fun r τ => r = (if scOK σ (nI sn) (nI wn) = true then scV σ (nI sn).toNatClampNeg (nI wn).toNatClampNeg else -2) ∧ τ = σ)) ([.ref (B.1 40 0), .int ((nI sn)), .int ((nI wn))] : List Value).toArray s 0 0 (mA G)) (F0 m 42 ls []) := by
            intro z
            induction z with
            | zero => intro i hh; exfalso; omega
            | succ z ih =>
              intro i hh H locs hH hS ls hl
              refine lv_iload hx hb dX6_score_42 (lv_at hl 5 rfl) ?_
              refine lv_aload_n hx hb dX6_score_44 rfl (lv_at hl 0 rfl) ?_
              refine gf_X6_177 hx hb hown hK hH (bc hC 40) dX6_score_45 ?_
              refine m_toi (nL σ) (hI.D.2.2.2.2.1) ?_
              refine m_icmp_geN (tgt := 91) (by omega) (by omega) hx hb dX6_score_48 (by decide) (fun c_48 => ?_) (fun c_48 => ?_)
              · refine lv_lload hx hb dX6_score_91 (lv_at hl 4 rfl) ?_
                exact m_lret hx hb hr hlk hH hS dX6_score_93 (⟨by rw [if_pos hyes, nI_clamp (by omega), nI_clamp (by omega)]; unfold scV; rw [if_neg c_27]; unfold scA; rw [show nL σ = i by omega], rfl⟩)
              · have hB_i : i < B.2 60 := by rw [hI.D.2.2.2.2.2]; exact c_48
                refine lv_aload_n hx hb dX6_score_51 rfl (lv_at hl 0 rfl) ?_
                refine lv_iload hx hb dX6_score_52 (lv_at hl 5 rfl) ?_
                refine m_kq (m_runV (k := 40) (i := 0) (ci := 6) ⟨hx, hb, hml, hown, hz⟩ hK hH hS (bc hC 40) rfl rfl (c_X6_lotAt l G B σ hI.C hI.D hI.L.2.1 (nI i)) mw_X6_lotAt wl_X6_216 ⟨rfl, rfl⟩ ⟨by decide, by decide⟩ rfl hl.1 rfl (Nat.le_of_ble_eq_true rfl) dX6_score_54 ⟨Nat.zero_le _, Nat.zero_le _⟩) hS (fun r_54 σ_54 H locs hp hH hS => ?_)
                obtain ⟨hr1, hs1⟩ := hp
                rw [hs1] at hH
                rw [if_pos (isLo_nI c_48 h60), nI_clamp (by omega)] at hr1
                subst hr1
                refine lv_astore (lv' := [(7, .ref (B.1 60 i)), (0, .ref (B.1 40 0)), (1, .int (nI sn)), (2, .int (nI wn)), (3, .ref (B.1 57 sn)), (4, .long (s64 (fun q => if lSu σ q = sn then slv σ wn q else 0) i)), (6, .int (nI i))]) hx hb dX6_score_57 hl (by decide) rfl (fun ls hl => ?_)
                refine lv_aload hx hb dX6_score_59 (lv_at hl 0 rfl) ?_
                refine lv_ifnull hx hb dX6_score_61 ?_
                refine lv_aload hx hb dX6_score_64 (lv_at hl 0 rfl) ?_
                have hlu := (hI.L.2.2 i c_48).2.1
                refine gf_X6_244 hx hb hown hK hH hB_i dX6_score_66 ?_
                refine m_toi (lSu σ i) ((hI.lr c_48).1) ?_
                refine lv_iload_n hx hb dX6_score_69 rfl (lv_at hl 2 rfl) ?_
                refine m_icmp_neN (tgt := 85) (by omega) (by omega) hx hb dX6_score_70 (by decide) (fun c_70 => ?_) (fun c_70 => ?_)
                · refine lv_iinc (v := nI (i + 1)) (lv' := [(6, .int (nI (i + 1))), (7, .ref (B.1 60 i)), (0, .ref (B.1 40 0)), (1, .int (nI sn)), (2, .int (nI wn)), (3, .ref (B.1 57 sn)), (4, .long (s64 (fun q => if lSu σ q = sn then slv σ wn q else 0) i))]) hx hb dX6_score_85 hl (k := 6) rfl (nI_1 _) (by decide) rfl (fun ls hl => ?_)
                  refine lv_goto (tgt := 42) hx hb dX6_score_88 (by decide) ?_
                  exact ih (i + 1) (by omega) H locs hH hS ls (by rw [show s64 (fun q => if lSu σ q = sn then slv σ wn q else 0) (i + 1) = s64 (fun q => if lSu σ q = sn then slv σ wn q else 0) i + (if lSu σ i = sn then slv σ wn i else 0) from rfl, if_neg c_70, Int64.add_zero]; exact lv_sub hl [2, 3, 4, 5, 6, 0] rfl)
                · refine lv_lload hx hb dX6_score_73 (lv_at hl 5 rfl) ?_
                  refine lv_aload_n hx hb dX6_score_75 rfl (lv_at hl 1 rfl) ?_
                  refine lv_aload hx hb dX6_score_76 (lv_at hl 0 rfl) ?_
                  refine lv_iload_n hx hb dX6_score_78 rfl (lv_at hl 3 rfl) ?_
                  refine m_kl (m_runV (k := 40) (i := 0) (ci := 6) ⟨hx, hb, hml, hown, hz⟩ hK hH hS (bc hC 40) rfl rfl (c_X6_scoreOfLot l G B σ hI i wn c_48 (by omega)) mw_X6_scoreOfLot wl_X6_254 ⟨rfl, rfl⟩ ⟨by decide, by decide⟩ rfl hl.1 rfl (Nat.le_of_ble_eq_true rfl) dX6_score_79 ⟨Nat.zero_le _, Nat.zero_le _⟩) hS (fun r_79 σ_79 H locs hp hH hS => ?_)
                  obtain ⟨hr1, hs1⟩ := hp
                  subst hr1
                  rw [hs1] at hH
                  refine lv_ladd hx hb dX6_score_82 ?_
                  refine lv_lstore (lv' := [(4, .long ((s64 (fun q => if lSu σ q = sn then slv σ wn q else 0) i) + (slv σ wn i))), (7, .ref (B.1 60 i)), (0, .ref (B.1 40 0)), (1, .int (nI sn)), (2, .int (nI wn)), (3, .ref (B.1 57 sn)), (6, .int (nI i))]) hx hb dX6_score_83 hl (by decide) rfl (fun ls hl => ?_)
                  refine lv_iinc (v := nI (i + 1)) (lv' := [(6, .int (nI (i + 1))), (4, .long ((s64 (fun q => if lSu σ q = sn then slv σ wn q else 0) i) + (slv σ wn i))), (7, .ref (B.1 60 i)), (0, .ref (B.1 40 0)), (1, .int (nI sn)), (2, .int (nI wn)), (3, .ref (B.1 57 sn))]) hx hb dX6_score_85 hl (k := 6) rfl (nI_1 _) (by decide) rfl (fun ls hl => ?_)
                  refine lv_goto (tgt := 42) hx hb dX6_score_88 (by decide) ?_
                  exact ih (i + 1) (by omega) H locs hH hS ls (by rw [show s64 (fun q => if lSu σ q = sn then slv σ wn q else 0) (i + 1) = s64 (fun q => if lSu σ q = sn then slv σ wn q else 0) i + (if lSu σ i = sn then slv σ wn i else 0) from rfl, if_pos c_70]; exact lv_sub hl [3, 4, 5, 6, 1, 0] rfl)
          exact loop (nL σ + 1) 0 (by omega) H locs hH hS ls (lv_sub hl [3, 4, 5, 2, 1, 0] rfl)
        · refine lv_aload_n hx hb dX6_score_30 rfl (lv_at hl 0 rfl) ?_
          refine gf_X6_251 hx hb hown hK hH hB_sn dX6_score_31 ?_
          refine m_toe (σ.1 16 0 sn) (hS_sn.2.2.1) ?_
          refine lv_i2l hx hb dX6_score_34 rfl ?_
          exact m_lret hx hb hr hlk hH hS dX6_score_35 (⟨by rw [if_pos hyes, nI_clamp (by omega), nI_clamp (by omega)]; unfold scV; rw [if_pos c_27], rfl⟩)
      · refine lv_ldc2 hx hb hown (hK.2 _ wc_X6_107 rfl _) dX6_score_20 ?_
        exact m_lret hx hb hr hlk hH hS dX6_score_23 (⟨(if_neg (fun z => by have z2 := Bool.and_eq_true_iff.mp z; have z3 := of_decide_eq_true z2.2; first | exact b_2 z2.1 | (rw [i_lt, i0] at c_11; omega) | (rw [i_le, n6I] at c_17; omega))).symm, rfl⟩)
  · rw [if_neg b_2] at hr1
    subst hr1
    refine lv_astore_nN (lv' := [(3, .null), (0, .ref (B.1 40 0)), (1, .int (x)), (2, .int (v))]) hx hb dX6_score_5 rfl hl (by decide) rfl (fun ls hl => ?_)
    refine lv_aload_nN hx hb dX6_score_6 rfl (lv_at hl 0 rfl) ?_
    refine lv_ifnullN (tgt := 20) hx hb dX6_score_7 (by decide) ?_
    refine lv_ldc2 hx hb hown (hK.2 _ wc_X6_107 rfl _) dX6_score_20 ?_
    exact m_lret hx hb hr hlk hH hS dX6_score_23 (⟨(if_neg (fun z => by have z2 := Bool.and_eq_true_iff.mp z; have z3 := of_decide_eq_true z2.2; first | exact b_2 z2.1 | (rw [i_lt, i0] at c_11; omega) | (rw [i_le, n6I] at c_17; omega))).symm, rfl⟩)
set_option maxHeartbeats 4000000 in
set_option maxRecDepth 100000 in
theorem c_X6_closedPlans (l : Launch) (G : gG) (B : gB) (σ : gS) (hI : RI B σ) : Met l yX6_closedPlans [.code yX6_closedPlans cX6_closedPlans 3 (some .int)] ({ frames := 2, cells := 0, slots := 0, locals := 43 } : Room) (mPc G B σ [.ref (B.1 40 0)]) (mQi G B (fun r τ => r = nI (cnt (clo σ) (nP σ)) ∧ τ = σ)) 0 0 (mA G) := by
  refine m_start (by decide) (Nat.le_of_ble_eq_true rfl) ?_
  intro p e s m below meth c ⟨hx, hb, hr, hml, hown, hK, hlk, hz⟩ hH hS ls hl
  have hl : lv_has ls 3 [(0, .ref (B.1 40 0))] := hl
  have hC := hI.C
  have h24 := hI.P.2.1
  have h60 := hI.L.2.1
  have loop : ∀ (z : Nat) (i : Nat), i ≤ nP σ ∧ nP σ < i + z → ∀ (H : Heap) (locs : List Loc), Hp G B σ H → va_S (mA G) s.heap H locs → ∀ (ls : Array Slot), lv_has ls 3 [(0, .ref (B.1 40 0)), (1, .int (nI (cnt (clo σ) i))), (2, .int (nI i))] → W p l e ({ frames := 2, cells := 0, slots := 0, locals := 43 } : Room) s m ([.ref (B.1 40 0)] : List Value).toArray below meth c H locs 0 0 (MQ below (mQi G B (fun r τ => r = nI (cnt (clo σ) (nP σ)) ∧ τ = σ)) ([.ref (B.1 40 0)] : List Value).toArray s 0 0 (mA G)) (F0 m 4 ls []) := by
    intro z
    induction z with
    | zero => intro i hh; exfalso; omega
    | succ z ih =>
      intro i hh H locs hH hS ls hl
      have hcl := cnt_le (clo σ) i
      refine lv_iload_n hx hb dX6_closedPlans_4 rfl (lv_at hl 2 rfl) ?_
      refine lv_aload_n hx hb dX6_closedPlans_5 rfl (lv_at hl 0 rfl) ?_
      refine gf_X6_55 hx hb hown hK hH (bc hC 40) dX6_closedPlans_6 ?_
      refine m_toi (nP σ) (hI.D.1) ?_
      refine m_icmp_geN (tgt := 29) (by omega) (by omega) hx hb dX6_closedPlans_9 (by decide) (fun c_9 => ?_) (fun c_9 => ?_)
      · refine lv_iload_n hx hb dX6_closedPlans_29 rfl (lv_at hl 1 rfl) ?_
        exact m_iret hx hb hr hlk hH hS dX6_closedPlans_30 (⟨by rw [show nP σ = i by omega], rfl⟩)
      · refine lv_aload_n hx hb dX6_closedPlans_12 rfl (lv_at hl 0 rfl) ?_
        refine lv_iload_n hx hb dX6_closedPlans_13 rfl (lv_at hl 2 rfl) ?_
        refine m_kq (m_runV (k := 40) (i := 0) (ci := 6) ⟨hx, hb, hml, hown, hz⟩ hK hH hS (bc hC 40) rfl rfl (c_X6_closedPlanAt l G B σ hI (nI i)) mw_X6_closedPlanAt wl_X6_121 ⟨rfl, rfl⟩ ⟨by decide, by decide⟩ rfl hl.1 rfl (Nat.le_of_ble_eq_true rfl) dX6_closedPlans_14 ⟨Nat.zero_le _, Nat.zero_le _⟩) hS (fun r_14 σ_14 H locs hp hH hS => ?_)
        obtain ⟨hr1, hs1⟩ := hp
        rw [hs1] at hH
        rw [isCl_nI c_9 h24, nI_clamp (by omega)] at hr1
        by_cases b_14 : clo σ i = true
        · rw [if_pos b_14] at hr1
          subst hr1
          refine lv_ifnull hx hb dX6_closedPlans_17 ?_
          refine lv_iinc (v := nI (cnt (clo σ) i + 1)) (lv' := [(1, .int (nI (cnt (clo σ) i + 1))), (0, .ref (B.1 40 0)), (2, .int (nI i))]) hx hb dX6_closedPlans_20 hl (k := 1) rfl (nI_1 _) (by decide) rfl (fun ls hl => ?_)
          refine lv_iinc (v := nI (i + 1)) (lv' := [(2, .int (nI (i + 1))), (1, .int (nI (cnt (clo σ) i + 1))), (0, .ref (B.1 40 0))]) hx hb dX6_closedPlans_23 hl (k := 2) rfl (nI_1 _) (by decide) rfl (fun ls hl => ?_)
          refine lv_goto (tgt := 4) hx hb dX6_closedPlans_26 (by decide) ?_
          exact ih (i + 1) (by omega) H locs hH hS ls (by rw [show cnt (clo σ) (i + 1) = cnt (clo σ) i + 1 from (by show cnt (clo σ) i + (if clo σ i then 1 else 0) = _; rw [b_14]; rfl)]; exact lv_sub hl [2, 1, 0] rfl)
        · rw [if_neg b_14] at hr1
          subst hr1
          refine lv_ifnullN (tgt := 23) hx hb dX6_closedPlans_17 (by decide) ?_
          refine lv_iinc (v := nI (i + 1)) (lv' := [(2, .int (nI (i + 1))), (0, .ref (B.1 40 0)), (1, .int (nI (cnt (clo σ) i)))]) hx hb dX6_closedPlans_23 hl (k := 2) rfl (nI_1 _) (by decide) rfl (fun ls hl => ?_)
          refine lv_goto (tgt := 4) hx hb dX6_closedPlans_26 (by decide) ?_
          exact ih (i + 1) (by omega) H locs hH hS ls (by rw [show cnt (clo σ) (i + 1) = cnt (clo σ) i from (by show cnt (clo σ) i + (if clo σ i then 1 else 0) = _; rw [Bool.eq_false_iff.mpr b_14]; rfl)]; exact lv_sub hl [1, 2, 0] rfl)
  refine lv_iconst (v := nI 0) hx hb dX6_closedPlans_0 (by decide) ?_
  refine lv_istore_n (lv' := [(1, .int (nI 0)), (0, .ref (B.1 40 0))]) hx hb dX6_closedPlans_1 rfl hl (by decide) rfl (fun ls hl => ?_)
  refine lv_iconst (v := nI 0) hx hb dX6_closedPlans_2 (by decide) ?_
  refine lv_istore_n (lv' := [(2, .int (nI 0)), (1, .int (nI 0)), (0, .ref (B.1 40 0))]) hx hb dX6_closedPlans_3 rfl hl (by decide) rfl (fun ls hl => ?_)
  exact loop (nP σ + 1) 0 (by omega) _ _ hH hS ls (lv_sub hl [2, 1, 0] rfl)
set_option maxHeartbeats 4000000 in
set_option maxRecDepth 100000 in
theorem c_X6_decidedLots (l : Launch) (G : gG) (B : gB) (σ : gS) (hI : RI B σ) : Met l yX6_decidedLots [.code yX6_decidedLots cX6_decidedLots 3 (some .int)] ({ frames := 2, cells := 0, slots := 0, locals := 43 } : Room) (mPc G B σ [.ref (B.1 40 0)]) (mQi G B (fun r τ => r = nI (cnt (fun q => !decide ((jq σ q).1 = 0)) (nL σ)) ∧ τ = σ)) 0 0 (mA G) := by
  refine m_start (by decide) (Nat.le_of_ble_eq_true rfl) ?_
  intro p e s m below meth c ⟨hx, hb, hr, hml, hown, hK, hlk, hz⟩ hH hS ls hl
  have hl : lv_has ls 3 [(0, .ref (B.1 40 0))] := hl
  have hC := hI.C
  have h24 := hI.P.2.1
  have h60 := hI.L.2.1
  have loop : ∀ (z : Nat) (i : Nat), i ≤ nL σ ∧ nL σ < i + z → ∀ (H : Heap) (locs : List Loc), Hp G B σ H → va_S (mA G) s.heap H locs → ∀ (ls : Array Slot), lv_has ls 3 [(0, .ref (B.1 40 0)), (1, .int (nI (cnt (fun q => !decide ((jq σ q).1 = 0)) i))), (2, .int (nI i))] → W p l e ({ frames := 2, cells := 0, slots := 0, locals := 43 } : Room) s m ([.ref (B.1 40 0)] : List Value).toArray below meth c H locs 0 0 (MQ below (mQi G B (fun r τ => r = nI (cnt (fun q => !decide ((jq σ q).1 = 0)) (nL σ)) ∧ τ = σ)) ([.ref (B.1 40 0)] : List Value).toArray s 0 0 (mA G)) (F0 m 4 ls []) := by
    intro z
    induction z with
    | zero => intro i hh; exfalso; omega
    | succ z ih =>
      intro i hh H locs hH hS ls hl
      have hcl := cnt_le (fun q => !decide ((jq σ q).1 = 0)) i
      refine lv_iload_n hx hb dX6_decidedLots_4 rfl (lv_at hl 2 rfl) ?_
      refine lv_aload_n hx hb dX6_decidedLots_5 rfl (lv_at hl 0 rfl) ?_
      refine gf_X6_177 hx hb hown hK hH (bc hC 40) dX6_decidedLots_6 ?_
      refine m_toi (nL σ) (hI.D.2.2.2.2.1) ?_
      refine m_icmp_geN (tgt := 29) (by omega) (by omega) hx hb dX6_decidedLots_9 (by decide) (fun c_9 => ?_) (fun c_9 => ?_)
      · refine lv_iload_n hx hb dX6_decidedLots_29 rfl (lv_at hl 1 rfl) ?_
        exact m_iret hx hb hr hlk hH hS dX6_decidedLots_30 (⟨by rw [show nL σ = i by omega], rfl⟩)
      · refine lv_aload_n hx hb dX6_decidedLots_12 rfl (lv_at hl 0 rfl) ?_
        refine lv_iload_n hx hb dX6_decidedLots_13 rfl (lv_at hl 2 rfl) ?_
        refine m_kq (m_runV (k := 40) (i := 0) (ci := 6) ⟨hx, hb, hml, hown, hz⟩ hK hH hS (bc hC 40) rfl rfl (c_X6_openLotAt l G B σ hI (nI i)) mw_X6_openLotAt wl_X6_189 ⟨rfl, rfl⟩ ⟨by decide, by decide⟩ rfl hl.1 rfl (Nat.le_of_ble_eq_true rfl) dX6_decidedLots_14 ⟨Nat.zero_le _, Nat.zero_le _⟩) hS (fun r_14 σ_14 H locs hp hH hS => ?_)
        obtain ⟨hr1, hs1⟩ := hp
        rw [hs1] at hH
        rw [opn_nI c_9 h60, nI_clamp (by omega)] at hr1
        by_cases b_14 : decide ((jq σ i).1 = 0) = true
        · rw [if_pos b_14] at hr1
          subst hr1
          refine lv_ifnonnull (tgt := 23) hx hb dX6_decidedLots_17 (by decide) ?_
          refine lv_iinc (v := nI (i + 1)) (lv' := [(2, .int (nI (i + 1))), (0, .ref (B.1 40 0)), (1, .int (nI (cnt (fun q => !decide ((jq σ q).1 = 0)) i)))]) hx hb dX6_decidedLots_23 hl (k := 2) rfl (nI_1 _) (by decide) rfl (fun ls hl => ?_)
          refine lv_goto (tgt := 4) hx hb dX6_decidedLots_26 (by decide) ?_
          exact ih (i + 1) (by omega) H locs hH hS ls (by rw [show cnt (fun q => !decide ((jq σ q).1 = 0)) (i + 1) = cnt (fun q => !decide ((jq σ q).1 = 0)) i from (by show cnt (fun q => !decide ((jq σ q).1 = 0)) i + (if !decide ((jq σ i).1 = 0) then 1 else 0) = _; rw [b_14]; rfl)]; exact lv_sub hl [1, 2, 0] rfl)
        · rw [if_neg b_14] at hr1
          subst hr1
          refine lv_ifnonnullN hx hb dX6_decidedLots_17 ?_
          refine lv_iinc (v := nI (cnt (fun q => !decide ((jq σ q).1 = 0)) i + 1)) (lv' := [(1, .int (nI (cnt (fun q => !decide ((jq σ q).1 = 0)) i + 1))), (0, .ref (B.1 40 0)), (2, .int (nI i))]) hx hb dX6_decidedLots_20 hl (k := 1) rfl (nI_1 _) (by decide) rfl (fun ls hl => ?_)
          refine lv_iinc (v := nI (i + 1)) (lv' := [(2, .int (nI (i + 1))), (1, .int (nI (cnt (fun q => !decide ((jq σ q).1 = 0)) i + 1))), (0, .ref (B.1 40 0))]) hx hb dX6_decidedLots_23 hl (k := 2) rfl (nI_1 _) (by decide) rfl (fun ls hl => ?_)
          refine lv_goto (tgt := 4) hx hb dX6_decidedLots_26 (by decide) ?_
          exact ih (i + 1) (by omega) H locs hH hS ls (by rw [show cnt (fun q => !decide ((jq σ q).1 = 0)) (i + 1) = cnt (fun q => !decide ((jq σ q).1 = 0)) i + 1 from (by show cnt (fun q => !decide ((jq σ q).1 = 0)) i + (if !decide ((jq σ i).1 = 0) then 1 else 0) = _; rw [Bool.eq_false_iff.mpr b_14]; rfl)]; exact lv_sub hl [2, 1, 0] rfl)
  refine lv_iconst (v := nI 0) hx hb dX6_decidedLots_0 (by decide) ?_
  refine lv_istore_n (lv' := [(1, .int (nI 0)), (0, .ref (B.1 40 0))]) hx hb dX6_decidedLots_1 rfl hl (by decide) rfl (fun ls hl => ?_)
  refine lv_iconst (v := nI 0) hx hb dX6_decidedLots_2 (by decide) ?_
  refine lv_istore_n (lv' := [(2, .int (nI 0)), (1, .int (nI 0)), (0, .ref (B.1 40 0))]) hx hb dX6_decidedLots_3 rfl hl (by decide) rfl (fun ls hl => ?_)
  exact loop (nL σ + 1) 0 (by omega) _ _ hH hS ls (lv_sub hl [2, 1, 0] rfl)
set_option maxHeartbeats 4000000 in
set_option maxRecDepth 100000 in
theorem c_X6_count (l : Launch) (G : gG) (B : gB) (σ : gS) (hI : RI B σ) (v : Int32) : Met l yX6_count [.code yX6_count cX6_count 2 (some .int)] ({ frames := 3, cells := 0, slots := 0, locals := 65 } : Room) (mPc G B σ [.ref (B.1 40 0), .int (v)]) (mQi G B (fun r τ => r = cuA σ v ∧ τ = σ)) 0 0 (mA G) := by
  refine m_start (by decide) (Nat.le_of_ble_eq_true rfl) ?_
  intro p e s m below meth c ⟨hx, hb, hr, hml, hown, hK, hlk, hz⟩ hH hS ls hl
  have hl : lv_has ls 2 [(0, .ref (B.1 40 0)), (1, .int (v))] := hl
  have hC := hI.C
  refine lv_iload_n hx hb dX6_count_0 rfl (lv_at hl 1 rfl) ?_
  by_cases s_1_0 : v = nI 0
  · refine m_toe (nI 0) s_1_0 ?_
    refine lv_tableIn (off := 39) (tgt := 40) hx hb dX6_count_1 (by decide) (by decide) (by decide) (by decide) ?_
    refine lv_aload_n hx hb dX6_count_40 rfl (lv_at hl 0 rfl) ?_
    refine gf_X6_55 hx hb hown hK hH (bc hC 40) dX6_count_41 ?_
    refine m_toi (nP σ) (hI.D.1) ?_
    exact m_iret hx hb hr hlk hH hS dX6_count_44 (⟨by unfold cuA; rw [if_pos s_1_0], rfl⟩)
  by_cases s_1_1 : v = nI 1
  · refine m_toe (nI 1) s_1_1 ?_
    refine lv_tableIn (off := 44) (tgt := 45) hx hb dX6_count_1 (by decide) (by decide) (by decide) (by decide) ?_
    refine lv_aload_n hx hb dX6_count_45 rfl (lv_at hl 0 rfl) ?_
    refine m_ki (m_runV (k := 40) (i := 0) (ci := 6) ⟨hx, hb, hml, hown, hz⟩ hK hH hS (bc hC 40) rfl rfl (c_X6_closedPlans l G B σ hI) mw_X6_closedPlans wl_X6_258 ⟨rfl, rfl⟩ ⟨by decide, by decide⟩ rfl hl.1 rfl (Nat.le_of_ble_eq_true rfl) dX6_count_46 ⟨Nat.zero_le _, Nat.zero_le _⟩) hS (fun r_46 σ_46 H locs hp hH hS => ?_)
    obtain ⟨hr1, hs1⟩ := hp
    subst hr1
    rw [hs1] at hH
    exact m_iret hx hb hr hlk hH hS dX6_count_49 (⟨by unfold cuA; rw [if_neg s_1_0, if_pos s_1_1], rfl⟩)
  by_cases s_1_2 : v = nI 2
  · refine m_toe (nI 2) s_1_2 ?_
    refine lv_tableIn (off := 49) (tgt := 50) hx hb dX6_count_1 (by decide) (by decide) (by decide) (by decide) ?_
    refine lv_aload_n hx hb dX6_count_50 rfl (lv_at hl 0 rfl) ?_
    refine gf_X6_168 hx hb hown hK hH (bc hC 40) dX6_count_51 ?_
    refine m_toi (nS σ) (hI.D.2.2.1) ?_
    exact m_iret hx hb hr hlk hH hS dX6_count_54 (⟨by unfold cuA; rw [if_neg s_1_0, if_neg s_1_1, if_pos s_1_2], rfl⟩)
  by_cases s_1_3 : v = nI 3
  · refine m_toe (nI 3) s_1_3 ?_
    refine lv_tableIn (off := 54) (tgt := 55) hx hb dX6_count_1 (by decide) (by decide) (by decide) (by decide) ?_
    refine lv_aload_n hx hb dX6_count_55 rfl (lv_at hl 0 rfl) ?_
    refine gf_X6_177 hx hb hown hK hH (bc hC 40) dX6_count_56 ?_
    refine m_toi (nL σ) (hI.D.2.2.2.2.1) ?_
    exact m_iret hx hb hr hlk hH hS dX6_count_59 (⟨by unfold cuA; rw [if_neg s_1_0, if_neg s_1_1, if_neg s_1_2, if_pos s_1_3], rfl⟩)
  by_cases s_1_4 : v = nI 4
  · refine m_toe (nI 4) s_1_4 ?_
    refine lv_tableIn (off := 59) (tgt := 60) hx hb dX6_count_1 (by decide) (by decide) (by decide) (by decide) ?_
    refine lv_aload_n hx hb dX6_count_60 rfl (lv_at hl 0 rfl) ?_
    refine m_ki (m_runV (k := 40) (i := 0) (ci := 6) ⟨hx, hb, hml, hown, hz⟩ hK hH hS (bc hC 40) rfl rfl (c_X6_decidedLots l G B σ hI) mw_X6_decidedLots wl_X6_261 ⟨rfl, rfl⟩ ⟨by decide, by decide⟩ rfl hl.1 rfl (Nat.le_of_ble_eq_true rfl) dX6_count_61 ⟨Nat.zero_le _, Nat.zero_le _⟩) hS (fun r_61 σ_61 H locs hp hH hS => ?_)
    obtain ⟨hr1, hs1⟩ := hp
    subst hr1
    rw [hs1] at hH
    exact m_iret hx hb hr hlk hH hS dX6_count_64 (⟨by unfold cuA; rw [if_neg s_1_0, if_neg s_1_1, if_neg s_1_2, if_neg s_1_3, if_pos s_1_4], rfl⟩)
  by_cases s_1_5 : v = nI 5
  · refine m_toe (nI 5) s_1_5 ?_
    refine lv_tableIn (off := 64) (tgt := 65) hx hb dX6_count_1 (by decide) (by decide) (by decide) (by decide) ?_
    refine lv_aload_n hx hb dX6_count_65 rfl (lv_at hl 0 rfl) ?_
    refine m_ki (m_runV (k := 40) (i := 0) (ci := 6) ⟨hx, hb, hml, hown, hz⟩ hK hH hS (bc hC 40) rfl rfl (c_X6_risksTold l G B σ hI) mw_X6_risksTold wl_X6_135 ⟨rfl, rfl⟩ ⟨by decide, by decide⟩ rfl hl.1 rfl (Nat.le_of_ble_eq_true rfl) dX6_count_66 ⟨Nat.zero_le _, Nat.zero_le _⟩) hS (fun r_66 σ_66 H locs hp hH hS => ?_)
    obtain ⟨hr1, hs1⟩ := hp
    subst hr1
    rw [hs1] at hH
    exact m_iret hx hb hr hlk hH hS dX6_count_69 (⟨by unfold cuA; rw [if_neg s_1_0, if_neg s_1_1, if_neg s_1_2, if_neg s_1_3, if_neg s_1_4, if_pos s_1_5], rfl⟩)
  have so_1 : v.toInt < 0 ∨ 5 < v.toInt := by
    simp only [i_eq] at s_1_0 s_1_1 s_1_2 s_1_3 s_1_4 s_1_5
    simp only [show (nI 0).toInt = 0 from rfl, show (nI 1).toInt = 1 from rfl, show (nI 2).toInt = 2 from rfl, show (nI 3).toInt = 3 from rfl, show (nI 4).toInt = 4 from rfl, show (nI 5).toInt = 5 from rfl] at s_1_0 s_1_1 s_1_2 s_1_3 s_1_4 s_1_5
    omega
  refine lv_tableOut (tgt := 70) hx hb dX6_count_1 so_1 (by decide) ?_
  refine lv_bipush (v := (-2)) hx hb dX6_count_70 (by decide) ?_
  exact m_iret hx hb hr hlk hH hS dX6_count_72 (⟨by unfold cuA; rw [if_neg s_1_0, if_neg s_1_1, if_neg s_1_2, if_neg s_1_3, if_neg s_1_4, if_neg s_1_5], rfl⟩)
