set_option maxHeartbeats 4000000 in
set_option maxRecDepth 100000 in
theorem c_X6_up (l : Launch) (G : gG) (B : gB) (σ : gS) (hI : RI B σ) : Met l yX6_up [.code yX6_up cX6_up 1 (some .long)] ({ frames := 0, cells := 0, slots := 0, locals := 0 } : Room) (mPc G B σ [.ref (B.1 40 0)]) (mQl G B (fun v σ' => v = σ.2 44 0 0 ∧ σ' = σ)) 0 0 (mA G) := by
  refine m_start (by decide) (Nat.le_of_ble_eq_true rfl) ?_
  intro p e s m below meth c ⟨hx, hb, hr, hml, hown, hK, hlk, hz⟩ hH hS ls hl
  have hl : lv_has ls 1 [(0, .ref (B.1 40 0))] := hl
  have hC := hI.C
  refine lv_aload_n hx hb dX6_up_0 rfl (lv_at hl 0 rfl) ?_
  refine gf_X6_19 hx hb hown hK hH (bc hC 40) dX6_up_1 ?_
  refine gf_X6_100 hx hb hown hK hH (bc hC 44) dX6_up_4 ?_
  exact m_lret hx hb hr hlk hH hS dX6_up_7 (⟨rfl, rfl⟩)
set_option maxHeartbeats 4000000 in
set_option maxRecDepth 100000 in
theorem c_X6_down (l : Launch) (G : gG) (B : gB) (σ : gS) (hI : RI B σ) : Met l yX6_down [.code yX6_down cX6_down 1 (some .long)] ({ frames := 0, cells := 0, slots := 0, locals := 0 } : Room) (mPc G B σ [.ref (B.1 40 0)]) (mQl G B (fun v σ' => v = σ.2 44 0 1 ∧ σ' = σ)) 0 0 (mA G) := by
  refine m_start (by decide) (Nat.le_of_ble_eq_true rfl) ?_
  intro p e s m below meth c ⟨hx, hb, hr, hml, hown, hK, hlk, hz⟩ hH hS ls hl
  have hl : lv_has ls 1 [(0, .ref (B.1 40 0))] := hl
  have hC := hI.C
  refine lv_aload_n hx hb dX6_down_0 rfl (lv_at hl 0 rfl) ?_
  refine gf_X6_19 hx hb hown hK hH (bc hC 40) dX6_down_1 ?_
  refine gf_X6_104 hx hb hown hK hH (bc hC 44) dX6_down_4 ?_
  exact m_lret hx hb hr hlk hH hS dX6_down_7 (⟨rfl, rfl⟩)
set_option maxHeartbeats 4000000 in
set_option maxRecDepth 100000 in
theorem c_X6_rounded (l : Launch) (G : gG) (B : gB) (σ : gS) (hI : RI B σ) (k : Int32) (u d : Nat) (hQ : cQ σ u d) : Met l yX6_rounded [.code yX6_rounded cX6_rounded 2 (some .long)] ({ frames := 1, cells := 0, slots := 0, locals := 29 } : Room) (mPc G B σ [.ref (B.1 40 0), .int (k)]) (mQl G B (fun r σ' => r = (if 0 ≤ k.toInt ∧ k.toInt ≤ 6 then lN (rndV u d k.toNatClampNeg) else -2) ∧ σ' = σ)) 0 0 (mA G) := by
  refine m_start (by decide) (Nat.le_of_ble_eq_true rfl) ?_
  intro p e s m below meth c ⟨hx, hb, hr, hml, hown, hK, hlk, hz⟩ hH hS ls hl
  have hl : lv_has ls 2 [(0, .ref (B.1 40 0)), (1, .int (k))] := hl
  refine lv_iload_n hx hb dX6_rounded_0 rfl (lv_at hl 1 rfl) ?_
  refine lv_if_lt (tgt := 10) hx hb dX6_rounded_1 (by decide) (fun c_1 => ?_) (fun c_1 => ?_)
  · refine lv_ldc2 hx hb hown (hK.2 _ wc_X6_107 rfl _) dX6_rounded_10 ?_
    exact m_lret hx hb hr hlk hH hS dX6_rounded_13 (⟨(if_neg (by first | (rw [i_lt, i0] at c_1; omega) | (rw [i_le, n6I] at c_7; omega))).symm, rfl⟩)
  · refine lv_iload_n hx hb dX6_rounded_4 rfl (lv_at hl 1 rfl) ?_
    refine lv_bipush (v := nI 6) hx hb dX6_rounded_5 (by decide) ?_
    refine lv_icmp_le (tgt := 14) hx hb dX6_rounded_7 (by decide) (fun c_7 => ?_) (fun c_7 => ?_)
    · have hC := hI.C
      have hk6 : 0 ≤ k.toInt ∧ k.toInt ≤ 6 := by rw [i_lt, i0] at c_1; rw [i_le, n6I] at c_7; omega
      obtain ⟨k1, k2⟩ := i_nat hk6.1
      obtain ⟨kn, hkn⟩ : ∃ z : Nat, z = k.toInt.toNat := ⟨_, rfl⟩
      rw [← hkn] at k1 k2
      have hkn6 : kn ≤ 6 := by omega
      clear hkn
      subst k1
      refine lv_aload_n hx hb dX6_rounded_14 rfl (lv_at hl 0 rfl) ?_
      refine gf_X6_19 hx hb hown hK hH (bc hC 40) dX6_rounded_15 ?_
      refine lv_iload_n hx hb dX6_rounded_18 rfl (lv_at hl 1 rfl) ?_
      refine m_kl (m_runV (k := 44) (i := 0) (ci := 1) ⟨hx, hb, hml, hown, hz⟩ hK hH hS (bc hC 44) rfl rfl (c_X1_scaled l G B σ hC kn hkn6 u d hQ) mw_X1_scaled wl_X6_109 ⟨rfl, rfl⟩ ⟨by decide, by decide⟩ rfl hl.1 rfl (Nat.le_of_ble_eq_true rfl) dX6_rounded_19 ⟨Nat.zero_le _, Nat.zero_le _⟩) hS (fun r_19 σ_19 H locs hp hH hS => ?_)
      obtain ⟨hr1, hs1⟩ := hp
      subst hr1
      rw [hs1] at hH
      exact m_lret hx hb hr hlk hH hS dX6_rounded_22 (⟨by rw [if_pos hk6, nI_clamp (by omega)], rfl⟩)
    · refine lv_ldc2 hx hb hown (hK.2 _ wc_X6_107 rfl _) dX6_rounded_10 ?_
      exact m_lret hx hb hr hlk hH hS dX6_rounded_13 (⟨(if_neg (by first | (rw [i_lt, i0] at c_1; omega) | (rw [i_le, n6I] at c_7; omega))).symm, rfl⟩)
set_option maxHeartbeats 4000000 in
set_option maxRecDepth 100000 in
theorem c_X6_of (l : Launch) (G : gG) (B : gB) (σ : gS) (hI : RI B σ) (x k v : Int32) : Met l yX6_of [.code yX6_of cX6_of 5 (some .int)] ({ frames := 1, cells := 0, slots := 0, locals := 21 } : Room) (mPc G B σ [.ref (B.1 40 0), .int (x), .int (k), .int (v)]) (mQi G B (fun r σ' => r = ofA σ x k v ∧ σ' = σ)) 0 0 (mA G) := by
  refine m_start (by decide) (Nat.le_of_ble_eq_true rfl) ?_
  intro p e s m below meth c ⟨hx, hb, hr, hml, hown, hK, hlk, hz⟩ hH hS ls hl
  have hl : lv_has ls 5 [(0, .ref (B.1 40 0)), (1, .int (x)), (2, .int (k)), (3, .int (v))] := hl
  have hC := hI.C
  have h24 := hI.P.2.1
  have h8 := hI.S.2.1
  have h60 := hI.L.2.1
  refine lv_aload_n hx hb dX6_of_0 rfl (lv_at hl 0 rfl) ?_
  refine lv_iload_n hx hb dX6_of_1 rfl (lv_at hl 1 rfl) ?_
  refine m_kq (m_runV (k := 40) (i := 0) (ci := 6) ⟨hx, hb, hml, hown, hz⟩ hK hH hS (bc hC 40) rfl rfl (c_X6_planAt l G B σ hI.C hI.D hI.P.2.1 (x)) mw_X6_planAt wl_X6_60 ⟨rfl, rfl⟩ ⟨by decide, by decide⟩ rfl hl.1 rfl (Nat.le_of_ble_eq_true rfl) dX6_of_2 ⟨Nat.zero_le _, Nat.zero_le _⟩) hS (fun r_2 σ_2 H locs hp hH hS => ?_)
  obtain ⟨hr1, hs1⟩ := hp
  rw [hs1] at hH
  by_cases b_2 : isPl σ x = true
  · rw [if_pos b_2] at hr1
    obtain ⟨pn, hpn, he⟩ := isPl_t b_2
    subst he
    rw [nI_clamp (by omega)] at hr1
    subst hr1
    have hB_pn : pn < B.2 50 := by rw [hI.D.2.1]; exact hpn
    have hP_pn := hI.P.2.2 pn hpn
    have hR_pn := hI.pr hpn
    refine lv_astore (lv' := [(4, .ref (B.1 50 pn)), (0, .ref (B.1 40 0)), (1, .int (nI pn)), (2, .int (k)), (3, .int (v))]) hx hb dX6_of_5 hl (by decide) rfl (fun ls hl => ?_)
    refine lv_aload hx hb dX6_of_7 (lv_at hl 0 rfl) ?_
    refine lv_ifnull hx hb dX6_of_9 ?_
    refine lv_aload hx hb dX6_of_12 (lv_at hl 0 rfl) ?_
    refine lv_iload_n hx hb dX6_of_14 rfl (lv_at hl 3 rfl) ?_
    refine m_ki (m_runV (k := 50) (i := pn) (ci := 2) ⟨hx, hb, hml, hown, hz⟩ hK hH hS hB_pn rfl rfl (c_X2_hasStage l G B σ hC pn hB_pn hP_pn hR_pn k) mw_X2_hasStage wl_X6_71 ⟨rfl, rfl⟩ ⟨by decide, by decide⟩ rfl hl.1 rfl (Nat.le_of_ble_eq_true rfl) dX6_of_15 ⟨Nat.zero_le _, Nat.zero_le _⟩) hS (fun r_15 σ_15 H locs hp hH hS => ?_)
    obtain ⟨hr1, hs1⟩ := hp
    subst hr1
    rw [hs1] at hH
    refine m_ifneB (tgt := 24) hx hb dX6_of_18 (by decide) (fun c_18 => ?_) (fun c_18 => ?_)
    · have hk4 := of_decide_eq_true c_18
      have hs4 := hP_pn.2.1
      obtain ⟨k1, k2⟩ := i_nat hk4.1
      obtain ⟨kn, hkn⟩ : ∃ z : Nat, z = k.toInt.toNat := ⟨_, rfl⟩
      rw [← hkn] at k1 k2
      have hkn4 : kn < stN σ pn := by omega
      clear hkn c_18
      subst k1
      have hr3 := hR_pn.2.2.1 kn hkn4
      refine lv_iload_n hx hb dX6_of_24 rfl (lv_at hl 4 rfl) ?_
      by_cases s_25_0 : v = nI 0
      · refine m_toe (nI 0) s_25_0 ?_
        refine lv_tableIn (off := 27) (tgt := 52) hx hb dX6_of_25 (by decide) (by decide) (by decide) (by decide) ?_
        refine lv_aload hx hb dX6_of_52 (lv_at hl 0 rfl) ?_
        refine gf_X6_75 hx hb hown hK hH hB_pn dX6_of_54 ?_
        refine lv_iload_n hx hb dX6_of_57 rfl (lv_at hl 3 rfl) ?_
        refine m_iald hx hb hK hH (n := 4) (bq hC 51 hB_pn) (fun _ _ => rfl) (kn) (rfl) (by omega) (by decide) dX6_of_58 ?_
        exact m_iret hx hb hr hlk hH hS dX6_of_59 (⟨by rw [ofA_yes hpn h24 hs4 hkn4]; rw [if_pos (show v = 0 from s_25_0)]; exact hr3.1, rfl⟩)
      by_cases s_25_1 : v = nI 1
      · refine m_toe (nI 1) s_25_1 ?_
        refine lv_tableIn (off := 35) (tgt := 60) hx hb dX6_of_25 (by decide) (by decide) (by decide) (by decide) ?_
        refine lv_aload hx hb dX6_of_60 (lv_at hl 0 rfl) ?_
        refine gf_X6_78 hx hb hown hK hH hB_pn dX6_of_62 ?_
        refine lv_iload_n hx hb dX6_of_65 rfl (lv_at hl 3 rfl) ?_
        refine m_iald hx hb hK hH (n := 4) (bq hC 52 hB_pn) (fun _ _ => rfl) (kn) (rfl) (by omega) (by decide) dX6_of_66 ?_
        exact m_iret hx hb hr hlk hH hS dX6_of_67 (⟨by rw [ofA_yes hpn h24 hs4 hkn4]; rw [if_neg (show ¬ v = 0 from s_25_0), if_pos s_25_1]; exact hr3.2.1, rfl⟩)
      by_cases s_25_2 : v = nI 2
      · refine m_toe (nI 2) s_25_2 ?_
        refine lv_tableIn (off := 43) (tgt := 68) hx hb dX6_of_25 (by decide) (by decide) (by decide) (by decide) ?_
        refine lv_aload hx hb dX6_of_68 (lv_at hl 0 rfl) ?_
        refine gf_X6_81 hx hb hown hK hH hB_pn dX6_of_70 ?_
        refine lv_iload_n hx hb dX6_of_73 rfl (lv_at hl 3 rfl) ?_
        refine m_iald hx hb hK hH (n := 4) (bq hC 53 hB_pn) (fun _ _ => rfl) (kn) (rfl) (by omega) (by decide) dX6_of_74 ?_
        exact m_iret hx hb hr hlk hH hS dX6_of_75 (⟨by rw [ofA_yes hpn h24 hs4 hkn4]; rw [if_neg (show ¬ v = 0 from s_25_0), if_neg s_25_1, if_pos s_25_2]; exact hr3.2.2.1, rfl⟩)
      have so_25 : v.toInt < 0 ∨ 2 < v.toInt := by
        simp only [i_eq] at s_25_0 s_25_1 s_25_2
        simp only [show (nI 0).toInt = 0 from rfl, show (nI 1).toInt = 1 from rfl, show (nI 2).toInt = 2 from rfl] at s_25_0 s_25_1 s_25_2
        omega
      refine lv_tableOut (tgt := 76) hx hb dX6_of_25 so_25 (by decide) ?_
      refine lv_bipush (v := (-2)) hx hb dX6_of_76 (by decide) ?_
      exact m_iret hx hb hr hlk hH hS dX6_of_78 (⟨by rw [ofA_yes hpn h24 hs4 hkn4]; rw [if_neg (show ¬ v = 0 from s_25_0), if_neg s_25_1, if_neg s_25_2], rfl⟩)
    · refine lv_bipush (v := (-2)) hx hb dX6_of_21 (by decide) ?_
      exact m_iret hx hb hr hlk hH hS dX6_of_23 (⟨(ofA_no (by first | (intro z; exact b_2 z.1) | (intro z; rw [nI_clamp (by omega)] at z; exact of_decide_eq_false c_18 z.2))).symm, rfl⟩)
  · rw [if_neg b_2] at hr1
    subst hr1
    refine lv_astoreN (lv' := [(4, .null), (0, .ref (B.1 40 0)), (1, .int (x)), (2, .int (k)), (3, .int (v))]) hx hb dX6_of_5 hl (by decide) rfl (fun ls hl => ?_)
    refine lv_aloadN hx hb dX6_of_7 (lv_at hl 0 rfl) ?_
    refine lv_ifnullN (tgt := 21) hx hb dX6_of_9 (by decide) ?_
    refine lv_bipush (v := (-2)) hx hb dX6_of_21 (by decide) ?_
    exact m_iret hx hb hr hlk hH hS dX6_of_23 (⟨(ofA_no (by first | (intro z; exact b_2 z.1) | (intro z; rw [nI_clamp (by omega)] at z; exact of_decide_eq_false c_18 z.2))).symm, rfl⟩)
set_option maxHeartbeats 4000000 in
set_option maxRecDepth 100000 in
theorem c_X6_stage (l : Launch) (G : gG) (B : gB) (σ : gS) (hI : RI B σ) (x sz a r : Int32) : Met l yX6_stage [.code yX6_stage cX6_stage 6 (some .int)] ({ frames := 5, cells := 0, slots := 0, locals := 117 } : Room) (mPc G B σ [.ref (B.1 40 0), .int (x), .int (sz), .int (a), .int (r)]) (mQi G B (fun v τ => if stOK σ x sz a r = true then v = nI (stN σ x.toNatClampNeg + 1) ∧ ∃ sq : Nat, 1 ≤ sq ∧ tot σ x.toNatClampNeg (stN σ x.toNatClampNeg) + sq ≤ 60 ∧ sz = nI sq ∧ apP σ τ x.toNatClampNeg sq a r else v = -2 ∧ τ = σ)) 0 0 (mA G) := by
  refine m_start (by decide) (Nat.le_of_ble_eq_true rfl) ?_
  intro p e s m below meth c ⟨hx, hb, hr, hml, hown, hK, hlk, hz⟩ hH hS ls hl
  have hl : lv_has ls 6 [(0, .ref (B.1 40 0)), (1, .int (x)), (2, .int (sz)), (3, .int (a)), (4, .int (r))] := hl
  have hC := hI.C
  have h24 := hI.P.2.1
  have h8 := hI.S.2.1
  have h60 := hI.L.2.1
  refine lv_aload_n hx hb dX6_stage_0 rfl (lv_at hl 0 rfl) ?_
  refine lv_iload_n hx hb dX6_stage_1 rfl (lv_at hl 1 rfl) ?_
  refine m_kq (m_runV (k := 40) (i := 0) (ci := 6) ⟨hx, hb, hml, hown, hz⟩ hK hH hS (bc hC 40) rfl rfl (c_X6_planAt l G B σ hI.C hI.D hI.P.2.1 (x)) mw_X6_planAt wl_X6_60 ⟨rfl, rfl⟩ ⟨by decide, by decide⟩ rfl hl.1 rfl (Nat.le_of_ble_eq_true rfl) dX6_stage_2 ⟨Nat.zero_le _, Nat.zero_le _⟩) hS (fun r_2 σ_2 H locs hp hH hS => ?_)
  obtain ⟨hr1, hs1⟩ := hp
  rw [hs1] at hH
  by_cases b_2 : isPl σ x = true
  · rw [if_pos b_2] at hr1
    obtain ⟨pn, hpn, he⟩ := isPl_t b_2
    subst he
    rw [nI_clamp (by omega)] at hr1
    subst hr1
    have hB_pn : pn < B.2 50 := by rw [hI.D.2.1]; exact hpn
    have hP_pn := hI.P.2.2 pn hpn
    have hR_pn := hI.pr hpn
    refine lv_astore (lv' := [(5, .ref (B.1 50 pn)), (0, .ref (B.1 40 0)), (1, .int (nI pn)), (2, .int (sz)), (3, .int (a)), (4, .int (r))]) hx hb dX6_stage_5 hl (by decide) rfl (fun ls hl => ?_)
    refine lv_aload hx hb dX6_stage_7 (lv_at hl 0 rfl) ?_
    refine lv_ifnull hx hb dX6_stage_9 ?_
    refine lv_aload hx hb dX6_stage_12 (lv_at hl 0 rfl) ?_
    refine lv_iload_n hx hb dX6_stage_14 rfl (lv_at hl 3 rfl) ?_
    refine lv_iload_n hx hb dX6_stage_15 rfl (lv_at hl 4 rfl) ?_
    refine lv_iload hx hb dX6_stage_16 (lv_at hl 5 rfl) ?_
    refine lv_aload_n hx hb dX6_stage_18 rfl (lv_at hl 1 rfl) ?_
    refine gf_X6_10 hx hb hown hK hH (bc hC 40) dX6_stage_19 ?_
    refine m_ki (m_runV (k := 50) (i := pn) (ci := 2) ⟨hx, hb, hml, hown, hz⟩ hK hH hS hB_pn rfl rfl (c_X2_append l G B σ hC pn hB_pn hP_pn hR_pn (hI.pz hpn) hI.W sz a r) mw_X2_append wl_X6_64 ⟨rfl, rfl⟩ ⟨by decide, by decide⟩ rfl hl.1 rfl (Nat.le_of_ble_eq_true rfl) dX6_stage_22 ⟨Nat.zero_le _, Nat.zero_le _⟩) hS (fun r_22 σ_22 H locs hp hH hS => ?_)
    by_cases b_22 : adB σ pn sz a r = true
    · rw [if_pos b_22] at hp
      obtain ⟨hr1, sq, hq1, hq2, hq3, hAP⟩ := hp
      subst hr1
      refine m_ifneN (tgt := 31) (by omega) hx hb dX6_stage_25 (by decide) (fun c_25 => ?_) (fun c_25 => ?_)
      · refine lv_aload hx hb dX6_stage_31 (lv_at hl 0 rfl) ?_
        refine gf_X6_68 hx hb hown hK hH hB_pn dX6_stage_33 ?_
        refine m_toi (stN σ pn + 1) (apP_5 hAP) ?_
        exact m_iret hx hb hr hlk hH hS dX6_stage_36 (by rw [if_pos (show stOK σ (nI pn) sz a r = true by rw [stOK_nI hpn h24]; exact b_22), nI_clamp (by omega)]; exact ⟨rfl, sq, hq1, hq2, hq3, hAP⟩)
      · exact absurd c_25 (by decide)
    · rw [if_neg b_22] at hp
      obtain ⟨hr1, hs1⟩ := hp
      subst hr1
      rw [hs1] at hH
      refine m_ifneN (tgt := 31) (by omega) hx hb dX6_stage_25 (by decide) (fun c_25 => ?_) (fun c_25 => ?_)
      · exact absurd c_25 (by decide)
      · refine lv_bipush (v := (-2)) hx hb dX6_stage_28 (by decide) ?_
        exact m_iret hx hb hr hlk hH hS dX6_stage_30 (by rw [if_neg (by first | (intro z; exact b_2 (Bool.and_eq_true_iff.mp z).1) | (rw [stOK_nI hpn h24]; exact b_22))]; exact ⟨rfl, rfl⟩)
  · rw [if_neg b_2] at hr1
    subst hr1
    refine lv_astoreN (lv' := [(5, .null), (0, .ref (B.1 40 0)), (1, .int (x)), (2, .int (sz)), (3, .int (a)), (4, .int (r))]) hx hb dX6_stage_5 hl (by decide) rfl (fun ls hl => ?_)
    refine lv_aloadN hx hb dX6_stage_7 (lv_at hl 0 rfl) ?_
    refine lv_ifnullN (tgt := 28) hx hb dX6_stage_9 (by decide) ?_
    refine lv_bipush (v := (-2)) hx hb dX6_stage_28 (by decide) ?_
    exact m_iret hx hb hr hlk hH hS dX6_stage_30 (by rw [if_neg (by first | (intro z; exact b_2 (Bool.and_eq_true_iff.mp z).1) | (rw [stOK_nI hpn h24]; exact b_22))]; exact ⟨rfl, rfl⟩)
set_option maxHeartbeats 4000000 in
set_option maxRecDepth 100000 in
theorem c_X6_part (l : Launch) (G : gG) (B : gB) (σ : gS) (hI : RI B σ) (hso : SO σ) (x n d v : Int32) : Met l yX6_part [.code yX6_part cX6_part 10 (some .int)] ({ frames := 5, cells := 0, slots := 0, locals := 117 } : Room) (mPc G B σ [.ref (B.1 40 0), .int (x), .int (n), .int (d), .int (v)]) (mQi G B (fun r τ => if paOK σ x n d v = true then r = nI 1 ∧ τ = pcU σ x.toNatClampNeg n.toNatClampNeg d.toNatClampNeg v.toNatClampNeg else r = -2 ∧ τ = σ)) 0 0 (mA G) := by
  refine m_start (by decide) (Nat.le_of_ble_eq_true rfl) ?_
  intro p e s m below meth c ⟨hx, hb, hr, hml, hown, hK, hlk, hz⟩ hH hS ls hl
  have hl : lv_has ls 10 [(0, .ref (B.1 40 0)), (1, .int (x)), (2, .int (n)), (3, .int (d)), (4, .int (v))] := hl
  have hC := hI.C
  have h24 := hI.P.2.1
  have h8 := hI.S.2.1
  have h60 := hI.L.2.1
  refine lv_aload_n hx hb dX6_part_0 rfl (lv_at hl 0 rfl) ?_
  refine lv_iload_n hx hb dX6_part_1 rfl (lv_at hl 1 rfl) ?_
  refine lv_iload_n hx hb dX6_part_2 rfl (lv_at hl 2 rfl) ?_
  refine m_kq (m_runV (k := 40) (i := 0) (ci := 6) ⟨hx, hb, hml, hown, hz⟩ hK hH hS (bc hC 40) rfl rfl (c_X6_planForLot l G B σ hI (x) (n)) mw_X6_planForLot wl_X6_84 ⟨rfl, rfl⟩ ⟨by decide, by decide⟩ rfl hl.1 rfl (Nat.le_of_ble_eq_true rfl) dX6_part_3 ⟨Nat.zero_le _, Nat.zero_le _⟩) hS (fun r_3 σ_3 H locs hp hH hS => ?_)
  obtain ⟨hr1, hs1⟩ := hp
  rw [hs1] at hH
  by_cases b_3 : fitb σ (x) (n) = true
  · rw [if_pos b_3] at hr1
    obtain ⟨pn, nn, hpn, he, he2, hcl_pn, hn1, hn60, htn_pn⟩ := fitb_t h24 b_3
    subst he
    subst he2
    rw [nI_clamp (by omega)] at hr1
    subst hr1
    have hB_pn : pn < B.2 50 := by rw [hI.D.2.1]; exact hpn
    have hP_pn := hI.P.2.2 pn hpn
    have hR_pn := hI.pr hpn
    refine lv_astore (lv' := [(5, .ref (B.1 50 pn)), (0, .ref (B.1 40 0)), (1, .int (nI pn)), (2, .int (nI nn)), (3, .int (d)), (4, .int (v))]) hx hb dX6_part_6 hl (by decide) rfl (fun ls hl => ?_)
    refine lv_aload hx hb dX6_part_8 (lv_at hl 0 rfl) ?_
    refine lv_ifnull hx hb dX6_part_10 ?_
    refine lv_iload_n hx hb dX6_part_13 rfl (lv_at hl 4 rfl) ?_
    refine lv_if_lt (tgt := 33) hx hb dX6_part_14 (by decide) (fun c_14 => ?_) (fun c_14 => ?_)
    · refine lv_bipush (v := (-2)) hx hb dX6_part_33 (by decide) ?_
      exact m_iret hx hb hr hlk hH hS dX6_part_35 (by rw [if_neg (fun z => by unfold paOK at z; have z1 := (Bool.and_eq_true_iff.mp z).1; have z2 := of_decide_eq_true (Bool.and_eq_true_iff.mp z).2; first | exact b_3 z1 | (rw [i_lt, i0] at c_14; omega) | (rw [i_lt] at c_19; omega) | (rw [i_lt, i0] at c_24; omega) | (rw [i_le, n2I] at c_30; omega))]; exact ⟨rfl, rfl⟩)
    · refine lv_iload_n hx hb dX6_part_17 rfl (lv_at hl 4 rfl) ?_
      refine lv_iload_n hx hb dX6_part_18 rfl (lv_at hl 3 rfl) ?_
      refine lv_icmp_gt (tgt := 33) hx hb dX6_part_19 (by decide) (fun c_19 => ?_) (fun c_19 => ?_)
      · refine lv_bipush (v := (-2)) hx hb dX6_part_33 (by decide) ?_
        exact m_iret hx hb hr hlk hH hS dX6_part_35 (by rw [if_neg (fun z => by unfold paOK at z; have z1 := (Bool.and_eq_true_iff.mp z).1; have z2 := of_decide_eq_true (Bool.and_eq_true_iff.mp z).2; first | exact b_3 z1 | (rw [i_lt, i0] at c_14; omega) | (rw [i_lt] at c_19; omega) | (rw [i_lt, i0] at c_24; omega) | (rw [i_le, n2I] at c_30; omega))]; exact ⟨rfl, rfl⟩)
      · refine lv_iload hx hb dX6_part_22 (lv_at hl 5 rfl) ?_
        refine lv_if_lt (tgt := 33) hx hb dX6_part_24 (by decide) (fun c_24 => ?_) (fun c_24 => ?_)
        · refine lv_bipush (v := (-2)) hx hb dX6_part_33 (by decide) ?_
          exact m_iret hx hb hr hlk hH hS dX6_part_35 (by rw [if_neg (fun z => by unfold paOK at z; have z1 := (Bool.and_eq_true_iff.mp z).1; have z2 := of_decide_eq_true (Bool.and_eq_true_iff.mp z).2; first | exact b_3 z1 | (rw [i_lt, i0] at c_14; omega) | (rw [i_lt] at c_19; omega) | (rw [i_lt, i0] at c_24; omega) | (rw [i_le, n2I] at c_30; omega))]; exact ⟨rfl, rfl⟩)
        · refine lv_iload hx hb dX6_part_27 (lv_at hl 5 rfl) ?_
          refine lv_iconst (v := nI 2) hx hb dX6_part_29 (by decide) ?_
          refine lv_icmp_le (tgt := 36) hx hb dX6_part_30 (by decide) (fun c_30 => ?_) (fun c_30 => ?_)
          · rw [i_lt, i0] at c_14 c_24
            rw [i_le, n2I] at c_30
            rw [i_lt] at c_19
            have en := nI_I (n := nn) (by omega)
            have hyes : paOK σ (nI pn) (nI nn) d v = true := by unfold paOK; rw [b_3, decide_eq_true (by omega)]; rfl
            obtain ⟨k1, k2⟩ := i_nat (x := d) (by omega)
            obtain ⟨dn, hq9⟩ : ∃ z : Nat, z = d.toInt.toNat := ⟨_, rfl⟩
            rw [← hq9] at k1 k2
            have hdn : dn ≤ nn := by omega
            clear c_14 c_19 k2
            clear hq9
            subst k1
            obtain ⟨k1, k2⟩ := i_nat (x := v) (by omega)
            obtain ⟨wn, hq9⟩ : ∃ z : Nat, z = v.toInt.toNat := ⟨_, rfl⟩
            rw [← hq9] at k1 k2
            have hwn : wn ≤ 2 := by omega
            clear c_24 c_30 k2
            clear hq9
            subst k1
            clear b_3
            obtain ⟨hs1, hs2⟩ := hso pn nn dn wn hpn hcl_pn hn60 htn_pn hdn hwn
            have hcp := ch_pos hn60 hdn
            have hcl2 := ch_lt (k := dn) hn60
            have hpp : 0 < pbN nn dn wn ∧ pbN nn dn wn < 9223372036854775808 := pbN_pos hn60 hn1 hdn
            refine lv_aload_n hx hb dX6_part_36 rfl (lv_at hl 1 rfl) ?_
            refine gf_X6_10 hx hb hown hK hH (bc hC 40) dX6_part_37 ?_
            refine lv_iload_n hx hb dX6_part_40 rfl (lv_at hl 3 rfl) ?_
            refine lv_iload_n hx hb dX6_part_41 rfl (lv_at hl 4 rfl) ?_
            refine m_kl (m_runV (k := 41) (i := 0) (ci := 5) ⟨hx, hb, hml, hown, hz⟩ hK hH hS (bc hC 41) rfl rfl (c_X5_choose l G B σ hC nn (nI dn) hn60 hI.W) mw_X5_choose wl_X6_88 ⟨rfl, rfl⟩ ⟨by decide, by decide⟩ rfl hl.1 rfl (Nat.le_of_ble_eq_true rfl) dX6_part_42 ⟨Nat.zero_le _, Nat.zero_le _⟩) hS (fun r_42 σ_42 H locs hp hH hS => ?_)
            obtain ⟨hr1, hs9⟩ := hp
            rw [hs9] at hH
            rw [nI_I (by omega), chZ_nat] at hr1
            subst hr1
            refine lv_lstore (lv' := [(6, .long (lN (ch nn dn))), (5, .ref (B.1 50 pn)), (0, .ref (B.1 40 0)), (1, .int (nI pn)), (2, .int (nI nn)), (3, .int (nI dn)), (4, .int (nI wn))]) hx hb dX6_part_45 hl (by decide) rfl (fun ls hl => ?_)
            refine lv_iload hx hb dX6_part_47 (lv_at hl 6 rfl) ?_
            refine lv_iconst (v := nI 2) hx hb dX6_part_49 (by decide) ?_
            have J_50 : ∀ (ls : Array Slot), lv_has ls 10 [(6, .long (lN (ch nn dn))), (5, .ref (B.1 50 pn)), (0, .ref (B.1 40 0)), (1, .int (nI pn)), (2, .int (nI nn)), (3, .int (nI dn)), (4, .int (nI wn))] → W p l e ({ frames := 5, cells := 0, slots := 0, locals := 117 } : Room) s m ([.ref (B.1 40 0), .int ((nI pn)), .int ((nI nn)), .int ((nI dn)), .int ((nI wn))] : List Value).toArray below meth c H locs 0 0 (MQ below (mQi G B (fun r τ => if paOK σ (nI pn) (nI nn) (nI dn) (nI wn) = true then r = nI 1 ∧ τ = pcU σ (nI pn).toNatClampNeg (nI nn).toNatClampNeg (nI dn).toNatClampNeg (nI wn).toNatClampNeg else r = -2 ∧ τ = σ)) ([.ref (B.1 40 0), .int ((nI pn)), .int ((nI nn)), .int ((nI dn)), .int ((nI wn))] : List Value).toArray s 0 0 (mA G)) (F0 m 63 ls [.long (lN (pbN nn dn wn))]) := by
              intro ls hl
              refine lv_lstore (lv' := [(8, .long (lN (pbN nn dn wn))), (6, .long (lN (ch nn dn))), (5, .ref (B.1 50 pn)), (0, .ref (B.1 40 0)), (1, .int (nI pn)), (2, .int (nI nn)), (3, .int (nI dn)), (4, .int (nI wn))]) hx hb dX6_part_63 hl (by decide) rfl (fun ls hl => ?_)
              refine lv_aload_n hx hb dX6_part_65 rfl (lv_at hl 3 rfl) ?_
              refine gf_X6_19 hx hb hown hK hH (bc hC 40) dX6_part_66 ?_
              refine lv_aload hx hb dX6_part_69 (lv_at hl 2 rfl) ?_
              refine lv_aload_n hx hb dX6_part_71 rfl (lv_at hl 3 rfl) ?_
              refine gf_X6_10 hx hb hown hK hH (bc hC 40) dX6_part_72 ?_
              refine lv_iload_n hx hb dX6_part_75 rfl (lv_at hl 5 rfl) ?_
              refine lv_iload_n hx hb dX6_part_76 rfl (lv_at hl 6 rfl) ?_
              refine lv_iload hx hb dX6_part_77 (lv_at hl 7 rfl) ?_
              refine m_kl (m_runV (k := 50) (i := pn) (ci := 2) ⟨hx, hb, hml, hown, hz⟩ hK hH hS hB_pn rfl rfl (c_X2_sumOverOrders l G B σ hC pn hB_pn hP_pn hR_pn hI.W nn dn wn hn60 htn_pn (by omega) hwn) mw_X2_sumOverOrders wl_X6_92 ⟨rfl, rfl⟩ ⟨by decide, by decide⟩ rfl hl.1 rfl (Nat.le_of_ble_eq_true rfl) dX6_part_79 ⟨Nat.zero_le _, Nat.zero_le _⟩) hS (fun r_79 σ_79 H locs hp hH hS => ?_)
              obtain ⟨hr1, hs9⟩ := hp
              rw [hs9] at hH
              rw [hs1] at hr1
              subst hr1
              refine lv_lload hx hb dX6_part_82 (lv_at hl 0 rfl) ?_
              refine m_kv (m_runV (k := 44) (i := 0) (ci := 1) ⟨hx, hb, hml, hown, hz⟩ hK hH hS (bc hC 44) rfl rfl (c_X1_become l G B σ hC (paN σ pn nn dn wn) (pbN nn dn wn) hs2 hpp.2 hpp.1) mw_X1_become wl_X6_96 ⟨rfl, rfl⟩ ⟨by decide, by decide⟩ rfl hl.1 rfl (Nat.le_of_ble_eq_true rfl) dX6_part_84 ⟨Nat.zero_le _, Nat.zero_le _⟩) hS (fun σ_84 H locs hp hH hS => ?_)
              refine lv_iconst (v := nI 1) hx hb dX6_part_87 (by decide) ?_
              exact m_iret hx hb hr hlk hH hS dX6_part_88 (by rw [if_pos hyes, nI_clamp (by omega), nI_clamp (by omega), nI_clamp (by omega), nI_clamp (by omega)]; exact ⟨rfl, hp⟩)
            refine m_icmp_neN (tgt := 61) (by omega) (by omega) hx hb dX6_part_50 (by decide) (fun c_50 => ?_) (fun c_50 => ?_)
            · refine lv_lload hx hb dX6_part_61 (lv_at hl 0 rfl) ?_
              refine m_toj (lN (pbN nn dn wn)) (by congr 1; unfold pbN; first | rw [if_pos (by omega), Nat.mul_comm] | rw [if_neg (by omega)]) ?_
              exact J_50 ls (lv_sub hl [0, 1, 2, 3, 4, 5, 6] rfl)
            · refine lv_lload hx hb dX6_part_53 (lv_at hl 0 rfl) ?_
              refine lv_iload_n hx hb dX6_part_55 rfl (lv_at hl 4 rfl) ?_
              refine m_i2lN (by omega) hx hb dX6_part_56 ?_
              refine m_lmulN hx hb dX6_part_57 ?_
              refine lv_goto (tgt := 63) hx hb dX6_part_58 (by decide) ?_
              refine m_toj (lN (pbN nn dn wn)) (by congr 1; unfold pbN; first | rw [if_pos (by omega), Nat.mul_comm] | rw [if_neg (by omega)]) ?_
              exact J_50 ls (lv_sub hl [0, 1, 2, 3, 4, 5, 6] rfl)
          · refine lv_bipush (v := (-2)) hx hb dX6_part_33 (by decide) ?_
            exact m_iret hx hb hr hlk hH hS dX6_part_35 (by rw [if_neg (fun z => by unfold paOK at z; have z1 := (Bool.and_eq_true_iff.mp z).1; have z2 := of_decide_eq_true (Bool.and_eq_true_iff.mp z).2; first | exact b_3 z1 | (rw [i_lt, i0] at c_14; omega) | (rw [i_lt] at c_19; omega) | (rw [i_lt, i0] at c_24; omega) | (rw [i_le, n2I] at c_30; omega))]; exact ⟨rfl, rfl⟩)
  · rw [if_neg b_3] at hr1
    subst hr1
    refine lv_astoreN (lv' := [(5, .null), (0, .ref (B.1 40 0)), (1, .int (x)), (2, .int (n)), (3, .int (d)), (4, .int (v))]) hx hb dX6_part_6 hl (by decide) rfl (fun ls hl => ?_)
    refine lv_aloadN hx hb dX6_part_8 (lv_at hl 0 rfl) ?_
    refine lv_ifnullN (tgt := 33) hx hb dX6_part_10 (by decide) ?_
    refine lv_bipush (v := (-2)) hx hb dX6_part_33 (by decide) ?_
    exact m_iret hx hb hr hlk hH hS dX6_part_35 (by rw [if_neg (fun z => by unfold paOK at z; have z1 := (Bool.and_eq_true_iff.mp z).1; have z2 := of_decide_eq_true (Bool.and_eq_true_iff.mp z).2; first | exact b_3 z1 | (rw [i_lt, i0] at c_14; omega) | (rw [i_lt] at c_19; omega) | (rw [i_lt, i0] at c_24; omega) | (rw [i_le, n2I] at c_30; omega))]; exact ⟨rfl, rfl⟩)
set_option maxHeartbeats 4000000 in
set_option maxRecDepth 100000 in
theorem c_X6_signOfTaken (l : Launch) (G : gG) (B : gB) (σ : gS) (hI : RI B σ) (hso : SO σ) (an bn nn dn : Nat) (han : an < nP σ) (hbn : bn < nP σ) (hca : clo σ an = true) (hcb : clo σ bn = true) (hn60 : nn ≤ 60) (hta : tot σ an (stN σ an) ≤ nn) (htb : tot σ bn (stN σ bn) ≤ nn) (hdn : dn ≤ nn) : Met l yX6_signOfTaken [.code yX6_signOfTaken cX6_signOfTaken 9 (some .int)] ({ frames := 5, cells := 0, slots := 0, locals := 117 } : Room) (mPc G B σ [.ref (B.1 40 0), .ref (B.1 50 an), .ref (B.1 50 bn), .int (nI nn), .int (nI dn)]) (mQi G B (fun r σ' => r = ccN σ an bn nn dn ∧ σ' = σ)) 0 0 (mA G) := by
  refine m_start (by decide) (Nat.le_of_ble_eq_true rfl) ?_
  intro p e s m below meth c ⟨hx, hb, hr, hml, hown, hK, hlk, hz⟩ hH hS ls hl
  have hl : lv_has ls 9 [(0, .ref (B.1 40 0)), (1, .ref (B.1 50 an)), (2, .ref (B.1 50 bn)), (3, .int (nI nn)), (4, .int (nI dn))] := hl
  have hC := hI.C
  obtain ⟨ha1, ha2⟩ := hso an nn dn 0 han hca hn60 hta hdn (by omega)
  obtain ⟨hb1, hb2⟩ := hso bn nn dn 0 hbn hcb hn60 htb hdn (by omega)
  have hcc := cc_of (σ := σ) (a := an) (b := bn) (n := nn) (d := dn) (x := paN σ an nn dn 0) (y := paN σ bn nn dn 0) rfl rfl ha2 hb2
  have hB_an : an < B.2 50 := by rw [hI.D.2.1]; exact han
  have hB_bn : bn < B.2 50 := by rw [hI.D.2.1]; exact hbn
  refine lv_aload_n hx hb dX6_signOfTaken_0 rfl (lv_at hl 1 rfl) ?_
  refine lv_aload_n hx hb dX6_signOfTaken_1 rfl (lv_at hl 0 rfl) ?_
  refine gf_X6_10 hx hb hown hK hH (bc hC 40) dX6_signOfTaken_2 ?_
  refine lv_iload_n hx hb dX6_signOfTaken_5 rfl (lv_at hl 3 rfl) ?_
  refine lv_iload hx hb dX6_signOfTaken_6 (lv_at hl 4 rfl) ?_
  refine lv_iconst (v := nI 0) hx hb dX6_signOfTaken_8 (by decide) ?_
  refine m_kl (m_runV (k := 50) (i := an) (ci := 2) ⟨hx, hb, hml, hown, hz⟩ hK hH hS hB_an rfl rfl (c_X2_sumOverOrders l G B σ hC an hB_an (hI.P.2.2 an han) (hI.pr han) hI.W nn dn 0 hn60 hta (by omega) (by omega)) mw_X2_sumOverOrders wl_X6_92 ⟨rfl, rfl⟩ ⟨by decide, by decide⟩ rfl hl.1 rfl (Nat.le_of_ble_eq_true rfl) dX6_signOfTaken_9 ⟨Nat.zero_le _, Nat.zero_le _⟩) hS (fun r_9 σ_9 H locs hp hH hS => ?_)
  obtain ⟨hr1, hs9⟩ := hp
  rw [hs9] at hH
  rw [ha1] at hr1
  subst hr1
  refine lv_lstore (lv' := [(5, .long (lN (paN σ an nn dn 0))), (0, .ref (B.1 40 0)), (1, .ref (B.1 50 an)), (2, .ref (B.1 50 bn)), (3, .int (nI nn)), (4, .int (nI dn))]) hx hb dX6_signOfTaken_12 hl (by decide) rfl (fun ls hl => ?_)
  refine lv_aload_n hx hb dX6_signOfTaken_14 rfl (lv_at hl 3 rfl) ?_
  refine lv_aload_n hx hb dX6_signOfTaken_15 rfl (lv_at hl 1 rfl) ?_
  refine gf_X6_10 hx hb hown hK hH (bc hC 40) dX6_signOfTaken_16 ?_
  refine lv_iload_n hx hb dX6_signOfTaken_19 rfl (lv_at hl 4 rfl) ?_
  refine lv_iload hx hb dX6_signOfTaken_20 (lv_at hl 5 rfl) ?_
  refine lv_iconst (v := nI 0) hx hb dX6_signOfTaken_22 (by decide) ?_
  refine m_kl (m_runV (k := 50) (i := bn) (ci := 2) ⟨hx, hb, hml, hown, hz⟩ hK hH hS hB_bn rfl rfl (c_X2_sumOverOrders l G B σ hC bn hB_bn (hI.P.2.2 bn hbn) (hI.pr hbn) hI.W nn dn 0 hn60 htb (by omega) (by omega)) mw_X2_sumOverOrders wl_X6_92 ⟨rfl, rfl⟩ ⟨by decide, by decide⟩ rfl hl.1 rfl (Nat.le_of_ble_eq_true rfl) dX6_signOfTaken_23 ⟨Nat.zero_le _, Nat.zero_le _⟩) hS (fun r_23 σ_23 H locs hp hH hS => ?_)
  obtain ⟨hr1, hs9⟩ := hp
  rw [hs9] at hH
  rw [hb1] at hr1
  subst hr1
  refine lv_lstore (lv' := [(7, .long (lN (paN σ bn nn dn 0))), (5, .long (lN (paN σ an nn dn 0))), (0, .ref (B.1 40 0)), (1, .ref (B.1 50 an)), (2, .ref (B.1 50 bn)), (3, .int (nI nn)), (4, .int (nI dn))]) hx hb dX6_signOfTaken_26 hl (by decide) rfl (fun ls hl => ?_)
  refine lv_lload hx hb dX6_signOfTaken_28 (lv_at hl 1 rfl) ?_
  refine lv_lload hx hb dX6_signOfTaken_30 (lv_at hl 0 rfl) ?_
  refine m_lc_neN (tgt := 38) (by omega) (by omega) hx hb dX6_signOfTaken_32 dX6_signOfTaken_33 (by decide) (fun c_32 => ?_) (fun c_32 => ?_)
  · refine lv_lload hx hb dX6_signOfTaken_38 (lv_at hl 1 rfl) ?_
    refine lv_lload hx hb dX6_signOfTaken_40 (lv_at hl 0 rfl) ?_
    refine m_lc_leN (tgt := 50) (by omega) (by omega) hx hb dX6_signOfTaken_42 dX6_signOfTaken_43 (by decide) (fun c_42 => ?_) (fun c_42 => ?_)
    · refine lv_iconst (v := (-1)) hx hb dX6_signOfTaken_50 (by decide) ?_
      exact m_iret hx hb hr hlk hH hS dX6_signOfTaken_51 (⟨by rw [hcc, if_neg (by omega), if_pos (by omega)], rfl⟩)
    · refine lv_iconst (v := nI 1) hx hb dX6_signOfTaken_46 (by decide) ?_
      refine lv_goto (tgt := 51) hx hb dX6_signOfTaken_47 (by decide) ?_
      exact m_iret hx hb hr hlk hH hS dX6_signOfTaken_51 (⟨by rw [hcc, if_pos (by omega)]; rfl, rfl⟩)
  · refine lv_iconst (v := nI 0) hx hb dX6_signOfTaken_36 (by decide) ?_
    exact m_iret hx hb hr hlk hH hS dX6_signOfTaken_37 (⟨by rw [hcc, if_neg (by omega), if_neg (by omega)]; rfl, rfl⟩)
set_option maxHeartbeats 4000000 in
set_option maxRecDepth 100000 in
theorem c_X6_compare (l : Launch) (G : gG) (B : gB) (σ : gS) (hI : RI B σ) (hso : SO σ) (x y n d : Int32) : Met l yX6_compare [.code yX6_compare cX6_compare 7 (some .int)] ({ frames := 6, cells := 0, slots := 0, locals := 145 } : Room) (mPc G B σ [.ref (B.1 40 0), .int (x), .int (y), .int (n), .int (d)]) (mQi G B (fun r τ => if coOK4 σ x y n d = true then r = ccN σ x.toNatClampNeg y.toNatClampNeg n.toNatClampNeg d.toNatClampNeg ∧ τ = σ else r = -2 ∧ τ = σ)) 0 0 (mA G) := by
  refine m_start (by decide) (Nat.le_of_ble_eq_true rfl) ?_
  intro p e s m below meth c ⟨hx, hb, hr, hml, hown, hK, hlk, hz⟩ hH hS ls hl
  have hl : lv_has ls 7 [(0, .ref (B.1 40 0)), (1, .int (x)), (2, .int (y)), (3, .int (n)), (4, .int (d))] := hl
  have hC := hI.C
  have h24 := hI.P.2.1
  have h8 := hI.S.2.1
  have h60 := hI.L.2.1
  refine lv_aload_n hx hb dX6_compare_0 rfl (lv_at hl 0 rfl) ?_
  refine lv_iload_n hx hb dX6_compare_1 rfl (lv_at hl 1 rfl) ?_
  refine lv_iload_n hx hb dX6_compare_2 rfl (lv_at hl 3 rfl) ?_
  refine m_kq (m_runV (k := 40) (i := 0) (ci := 6) ⟨hx, hb, hml, hown, hz⟩ hK hH hS (bc hC 40) rfl rfl (c_X6_planForLot l G B σ hI (x) (n)) mw_X6_planForLot wl_X6_84 ⟨rfl, rfl⟩ ⟨by decide, by decide⟩ rfl hl.1 rfl (Nat.le_of_ble_eq_true rfl) dX6_compare_3 ⟨Nat.zero_le _, Nat.zero_le _⟩) hS (fun r_3 σ_3 H locs hp hH hS => ?_)
  obtain ⟨hr1, hs1⟩ := hp
  rw [hs1] at hH
  by_cases b_3 : fitb σ (x) (n) = true
  · rw [if_pos b_3] at hr1
    obtain ⟨an, nn, han, he, he2, hcl_an, hn1, hn60, htn_an⟩ := fitb_t h24 b_3
    subst he
    subst he2
    rw [nI_clamp (by omega)] at hr1
    subst hr1
    have hB_an : an < B.2 50 := by rw [hI.D.2.1]; exact han
    have hP_an := hI.P.2.2 an han
    have hR_an := hI.pr han
    refine lv_astore (lv' := [(5, .ref (B.1 50 an)), (0, .ref (B.1 40 0)), (1, .int (nI an)), (2, .int (y)), (3, .int (nI nn)), (4, .int (d))]) hx hb dX6_compare_6 hl (by decide) rfl (fun ls hl => ?_)
    refine lv_aload_n hx hb dX6_compare_8 rfl (lv_at hl 1 rfl) ?_
    refine lv_iload_n hx hb dX6_compare_9 rfl (lv_at hl 3 rfl) ?_
    refine lv_iload_n hx hb dX6_compare_10 rfl (lv_at hl 4 rfl) ?_
    refine m_kq (m_runV (k := 40) (i := 0) (ci := 6) ⟨hx, hb, hml, hown, hz⟩ hK hH hS (bc hC 40) rfl rfl (c_X6_planForLot l G B σ hI (y) (nI nn)) mw_X6_planForLot wl_X6_84 ⟨rfl, rfl⟩ ⟨by decide, by decide⟩ rfl hl.1 rfl (Nat.le_of_ble_eq_true rfl) dX6_compare_11 ⟨Nat.zero_le _, Nat.zero_le _⟩) hS (fun r_11 σ_11 H locs hp hH hS => ?_)
    obtain ⟨hr1, hs1⟩ := hp
    rw [hs1] at hH
    by_cases b_11 : fitb σ (y) (nI nn) = true
    · rw [if_pos b_11] at hr1
      obtain ⟨bn, hbn, he, hcl_bn, htn_bn⟩ := fitb_p h24 (by omega) b_11
      subst he
      rw [nI_clamp (by omega)] at hr1
      subst hr1
      have hB_bn : bn < B.2 50 := by rw [hI.D.2.1]; exact hbn
      have hP_bn := hI.P.2.2 bn hbn
      have hR_bn := hI.pr hbn
      refine lv_astore (lv' := [(6, .ref (B.1 50 bn)), (5, .ref (B.1 50 an)), (0, .ref (B.1 40 0)), (1, .int (nI an)), (2, .int (nI bn)), (3, .int (nI nn)), (4, .int (d))]) hx hb dX6_compare_14 hl (by decide) rfl (fun ls hl => ?_)
      refine lv_aload hx hb dX6_compare_16 (lv_at hl 1 rfl) ?_
      refine lv_ifnull hx hb dX6_compare_18 ?_
      refine lv_aload hx hb dX6_compare_21 (lv_at hl 0 rfl) ?_
      refine lv_ifnull hx hb dX6_compare_23 ?_
      refine lv_iload hx hb dX6_compare_26 (lv_at hl 6 rfl) ?_
      refine lv_if_lt (tgt := 37) hx hb dX6_compare_28 (by decide) (fun c_28 => ?_) (fun c_28 => ?_)
      · refine lv_bipush (v := (-2)) hx hb dX6_compare_37 (by decide) ?_
        exact m_iret hx hb hr hlk hH hS dX6_compare_39 (by rw [if_neg (fun z => by unfold coOK4 at z; have z1 := Bool.and_eq_true_iff.mp z; have z2 := of_decide_eq_true z1.2; have z3 := Bool.and_eq_true_iff.mp z1.1; first | exact b_3 z3.1 | exact b_11 z3.2 | (rw [i_lt, i0] at c_28; omega) | (rw [i_le] at c_34; omega))]; exact ⟨rfl, rfl⟩)
      · refine lv_iload hx hb dX6_compare_31 (lv_at hl 6 rfl) ?_
        refine lv_iload_n hx hb dX6_compare_33 rfl (lv_at hl 5 rfl) ?_
        refine lv_icmp_le (tgt := 40) hx hb dX6_compare_34 (by decide) (fun c_34 => ?_) (fun c_34 => ?_)
        · rw [i_lt, i0] at c_28
          rw [i_le] at c_34
          have en := nI_I (n := nn) (by omega)
          have hyes : coOK4 σ (nI an) (nI bn) (nI nn) d = true := by unfold coOK4; rw [b_3, b_11, decide_eq_true (by omega)]; rfl
          obtain ⟨k1, k2⟩ := i_nat (x := d) (by omega)
          obtain ⟨dn, hq9⟩ : ∃ z : Nat, z = d.toInt.toNat := ⟨_, rfl⟩
          rw [← hq9] at k1 k2
          have hdn : dn ≤ nn := by omega
          clear c_28 c_34 k2
          clear hq9
          subst k1
          refine lv_aload_n hx hb dX6_compare_40 rfl (lv_at hl 2 rfl) ?_
          refine lv_aload hx hb dX6_compare_41 (lv_at hl 1 rfl) ?_
          refine lv_aload hx hb dX6_compare_43 (lv_at hl 0 rfl) ?_
          refine lv_iload_n hx hb dX6_compare_45 rfl (lv_at hl 5 rfl) ?_
          refine lv_iload hx hb dX6_compare_46 (lv_at hl 6 rfl) ?_
          refine m_ki (m_runV (k := 40) (i := 0) (ci := 6) ⟨hx, hb, hml, hown, hz⟩ hK hH hS (bc hC 40) rfl rfl (c_X6_signOfTaken l G B σ hI hso an bn nn dn han hbn hcl_an hcl_bn hn60 htn_an htn_bn hdn) mw_X6_signOfTaken wl_X6_113 ⟨rfl, rfl⟩ ⟨by decide, by decide⟩ rfl hl.1 rfl (Nat.le_of_ble_eq_true rfl) dX6_compare_48 ⟨Nat.zero_le _, Nat.zero_le _⟩) hS (fun r_48 σ_48 H locs hp hH hS => ?_)
          obtain ⟨hr1, hs1⟩ := hp
          subst hr1
          rw [hs1] at hH
          exact m_iret hx hb hr hlk hH hS dX6_compare_51 (by rw [if_pos hyes, nI_clamp (by omega), nI_clamp (by omega), nI_clamp (by omega), nI_clamp (by omega)]; exact ⟨rfl, rfl⟩)
        · refine lv_bipush (v := (-2)) hx hb dX6_compare_37 (by decide) ?_
          exact m_iret hx hb hr hlk hH hS dX6_compare_39 (by rw [if_neg (fun z => by unfold coOK4 at z; have z1 := Bool.and_eq_true_iff.mp z; have z2 := of_decide_eq_true z1.2; have z3 := Bool.and_eq_true_iff.mp z1.1; first | exact b_3 z3.1 | exact b_11 z3.2 | (rw [i_lt, i0] at c_28; omega) | (rw [i_le] at c_34; omega))]; exact ⟨rfl, rfl⟩)
    · rw [if_neg b_11] at hr1
      subst hr1
      refine lv_astoreN (lv' := [(6, .null), (5, .ref (B.1 50 an)), (0, .ref (B.1 40 0)), (1, .int (nI an)), (2, .int (y)), (3, .int (nI nn)), (4, .int (d))]) hx hb dX6_compare_14 hl (by decide) rfl (fun ls hl => ?_)
      refine lv_aload hx hb dX6_compare_16 (lv_at hl 1 rfl) ?_
      refine lv_ifnull hx hb dX6_compare_18 ?_
      refine lv_aloadN hx hb dX6_compare_21 (lv_at hl 0 rfl) ?_
      refine lv_ifnullN (tgt := 37) hx hb dX6_compare_23 (by decide) ?_
      refine lv_bipush (v := (-2)) hx hb dX6_compare_37 (by decide) ?_
      exact m_iret hx hb hr hlk hH hS dX6_compare_39 (by rw [if_neg (fun z => by unfold coOK4 at z; have z1 := Bool.and_eq_true_iff.mp z; have z2 := of_decide_eq_true z1.2; have z3 := Bool.and_eq_true_iff.mp z1.1; first | exact b_3 z3.1 | exact b_11 z3.2 | (rw [i_lt, i0] at c_28; omega) | (rw [i_le] at c_34; omega))]; exact ⟨rfl, rfl⟩)
  · rw [if_neg b_3] at hr1
    subst hr1
    refine lv_astoreN (lv' := [(5, .null), (0, .ref (B.1 40 0)), (1, .int (x)), (2, .int (y)), (3, .int (n)), (4, .int (d))]) hx hb dX6_compare_6 hl (by decide) rfl (fun ls hl => ?_)
    refine lv_aload_n hx hb dX6_compare_8 rfl (lv_at hl 1 rfl) ?_
    refine lv_iload_n hx hb dX6_compare_9 rfl (lv_at hl 3 rfl) ?_
    refine lv_iload_n hx hb dX6_compare_10 rfl (lv_at hl 4 rfl) ?_
    refine m_kq (m_runV (k := 40) (i := 0) (ci := 6) ⟨hx, hb, hml, hown, hz⟩ hK hH hS (bc hC 40) rfl rfl (c_X6_planForLot l G B σ hI (y) (n)) mw_X6_planForLot wl_X6_84 ⟨rfl, rfl⟩ ⟨by decide, by decide⟩ rfl hl.1 rfl (Nat.le_of_ble_eq_true rfl) dX6_compare_11 ⟨Nat.zero_le _, Nat.zero_le _⟩) hS (fun r_11 σ_11 H locs hp hH hS => ?_)
    obtain ⟨hr1, hs1⟩ := hp
    rw [hs1] at hH
    by_cases b_11 : fitb σ (y) (n) = true
    · rw [if_pos b_11] at hr1
      obtain ⟨bn, nn, hbn, he, he2, hcl_bn, hn1, hn60, htn_bn⟩ := fitb_t h24 b_11
      subst he
      subst he2
      rw [nI_clamp (by omega)] at hr1
      subst hr1
      have hB_bn : bn < B.2 50 := by rw [hI.D.2.1]; exact hbn
      have hP_bn := hI.P.2.2 bn hbn
      have hR_bn := hI.pr hbn
      refine lv_astore (lv' := [(6, .ref (B.1 50 bn)), (5, .null), (0, .ref (B.1 40 0)), (1, .int (x)), (2, .int (nI bn)), (3, .int (nI nn)), (4, .int (d))]) hx hb dX6_compare_14 hl (by decide) rfl (fun ls hl => ?_)
      refine lv_aloadN hx hb dX6_compare_16 (lv_at hl 1 rfl) ?_
      refine lv_ifnullN (tgt := 37) hx hb dX6_compare_18 (by decide) ?_
      refine lv_bipush (v := (-2)) hx hb dX6_compare_37 (by decide) ?_
      exact m_iret hx hb hr hlk hH hS dX6_compare_39 (by rw [if_neg (fun z => by unfold coOK4 at z; have z1 := Bool.and_eq_true_iff.mp z; have z2 := of_decide_eq_true z1.2; have z3 := Bool.and_eq_true_iff.mp z1.1; first | exact b_3 z3.1 | exact b_11 z3.2 | (rw [i_lt, i0] at c_28; omega) | (rw [i_le] at c_34; omega))]; exact ⟨rfl, rfl⟩)
    · rw [if_neg b_11] at hr1
      subst hr1
      refine lv_astoreN (lv' := [(6, .null), (5, .null), (0, .ref (B.1 40 0)), (1, .int (x)), (2, .int (y)), (3, .int (n)), (4, .int (d))]) hx hb dX6_compare_14 hl (by decide) rfl (fun ls hl => ?_)
      refine lv_aloadN hx hb dX6_compare_16 (lv_at hl 1 rfl) ?_
      refine lv_ifnullN (tgt := 37) hx hb dX6_compare_18 (by decide) ?_
      refine lv_bipush (v := (-2)) hx hb dX6_compare_37 (by decide) ?_
      exact m_iret hx hb hr hlk hH hS dX6_compare_39 (by rw [if_neg (fun z => by unfold coOK4 at z; have z1 := Bool.and_eq_true_iff.mp z; have z2 := of_decide_eq_true z1.2; have z3 := Bool.and_eq_true_iff.mp z1.1; first | exact b_3 z3.1 | exact b_11 z3.2 | (rw [i_lt, i0] at c_28; omega) | (rw [i_le] at c_34; omega))]; exact ⟨rfl, rfl⟩)
set_option maxHeartbeats 4000000 in
set_option maxRecDepth 100000 in
theorem c_X6_crossing (l : Launch) (G : gG) (B : gB) (σ : gS) (hI : RI B σ) (hso : SO σ) (x y n k : Int32) : Met l yX6_crossing [.code yX6_crossing cX6_crossing 11 (some .int)] ({ frames := 6, cells := 0, slots := 0, locals := 145 } : Room) (mPc G B σ [.ref (B.1 40 0), .int (x), .int (y), .int (n), .int (k)]) (mQi G B (fun r τ => if crOK σ x y n k = true then r = crA σ x.toNatClampNeg y.toNatClampNeg n.toNatClampNeg k.toNatClampNeg ∧ τ = σ else r = -2 ∧ τ = σ)) 0 0 (mA G) := by
  refine m_start (by decide) (Nat.le_of_ble_eq_true rfl) ?_
  intro p e s m below meth c ⟨hx, hb, hr, hml, hown, hK, hlk, hz⟩ hH hS ls hl
  have hl : lv_has ls 11 [(0, .ref (B.1 40 0)), (1, .int (x)), (2, .int (y)), (3, .int (n)), (4, .int (k))] := hl
  have hC := hI.C
  have h24 := hI.P.2.1
  have h8 := hI.S.2.1
  have h60 := hI.L.2.1
  refine lv_aload_n hx hb dX6_crossing_0 rfl (lv_at hl 0 rfl) ?_
  refine lv_iload_n hx hb dX6_crossing_1 rfl (lv_at hl 1 rfl) ?_
  refine lv_iload_n hx hb dX6_crossing_2 rfl (lv_at hl 3 rfl) ?_
  refine m_kq (m_runV (k := 40) (i := 0) (ci := 6) ⟨hx, hb, hml, hown, hz⟩ hK hH hS (bc hC 40) rfl rfl (c_X6_planForLot l G B σ hI (x) (n)) mw_X6_planForLot wl_X6_84 ⟨rfl, rfl⟩ ⟨by decide, by decide⟩ rfl hl.1 rfl (Nat.le_of_ble_eq_true rfl) dX6_crossing_3 ⟨Nat.zero_le _, Nat.zero_le _⟩) hS (fun r_3 σ_3 H locs hp hH hS => ?_)
  obtain ⟨hr1, hs1⟩ := hp
  rw [hs1] at hH
  by_cases b_3 : fitb σ (x) (n) = true
  · rw [if_pos b_3] at hr1
    obtain ⟨an, nn, han, he, he2, hcl_an, hn1, hn60, htn_an⟩ := fitb_t h24 b_3
    subst he
    subst he2
    rw [nI_clamp (by omega)] at hr1
    subst hr1
    have hB_an : an < B.2 50 := by rw [hI.D.2.1]; exact han
    have hP_an := hI.P.2.2 an han
    have hR_an := hI.pr han
    refine lv_astore (lv' := [(5, .ref (B.1 50 an)), (0, .ref (B.1 40 0)), (1, .int (nI an)), (2, .int (y)), (3, .int (nI nn)), (4, .int (k))]) hx hb dX6_crossing_6 hl (by decide) rfl (fun ls hl => ?_)
    refine lv_aload_n hx hb dX6_crossing_8 rfl (lv_at hl 1 rfl) ?_
    refine lv_iload_n hx hb dX6_crossing_9 rfl (lv_at hl 3 rfl) ?_
    refine lv_iload_n hx hb dX6_crossing_10 rfl (lv_at hl 4 rfl) ?_
    refine m_kq (m_runV (k := 40) (i := 0) (ci := 6) ⟨hx, hb, hml, hown, hz⟩ hK hH hS (bc hC 40) rfl rfl (c_X6_planForLot l G B σ hI (y) (nI nn)) mw_X6_planForLot wl_X6_84 ⟨rfl, rfl⟩ ⟨by decide, by decide⟩ rfl hl.1 rfl (Nat.le_of_ble_eq_true rfl) dX6_crossing_11 ⟨Nat.zero_le _, Nat.zero_le _⟩) hS (fun r_11 σ_11 H locs hp hH hS => ?_)
    obtain ⟨hr1, hs1⟩ := hp
    rw [hs1] at hH
    by_cases b_11 : fitb σ (y) (nI nn) = true
    · rw [if_pos b_11] at hr1
      obtain ⟨bn, hbn, he, hcl_bn, htn_bn⟩ := fitb_p h24 (by omega) b_11
      subst he
      rw [nI_clamp (by omega)] at hr1
      subst hr1
      have hB_bn : bn < B.2 50 := by rw [hI.D.2.1]; exact hbn
      have hP_bn := hI.P.2.2 bn hbn
      have hR_bn := hI.pr hbn
      refine lv_astore (lv' := [(6, .ref (B.1 50 bn)), (5, .ref (B.1 50 an)), (0, .ref (B.1 40 0)), (1, .int (nI an)), (2, .int (nI bn)), (3, .int (nI nn)), (4, .int (k))]) hx hb dX6_crossing_14 hl (by decide) rfl (fun ls hl => ?_)
      refine lv_aload hx hb dX6_crossing_16 (lv_at hl 1 rfl) ?_
      refine lv_ifnull hx hb dX6_crossing_18 ?_
      refine lv_aload hx hb dX6_crossing_21 (lv_at hl 0 rfl) ?_
      refine lv_ifnull hx hb dX6_crossing_23 ?_
      refine lv_iload hx hb dX6_crossing_26 (lv_at hl 6 rfl) ?_
      refine lv_if_ge (tgt := 34) hx hb dX6_crossing_28 (by decide) (fun c_28 => ?_) (fun c_28 => ?_)
      · rw [i_le, i0] at c_28
        have hyes : crOK σ (nI an) (nI bn) (nI nn) k = true := by unfold crOK; rw [b_3, b_11, decide_eq_true c_28]; rfl
        have k3 := i_rng k
        obtain ⟨k1, k2⟩ := i_nat (x := k) (c_28)
        obtain ⟨kn, hq9⟩ : ∃ z : Nat, z = k.toInt.toNat := ⟨_, rfl⟩
        rw [← hq9] at k1 k2
        have hkn : kn < 2147483648 := by omega
        clear c_28 k2 k3
        clear hq9
        subst k1
        refine lv_iconst (v := nI 0) hx hb dX6_crossing_34 (by decide) ?_
        refine lv_istore (lv' := [(7, .int (nI 0)), (6, .ref (B.1 50 bn)), (5, .ref (B.1 50 an)), (0, .ref (B.1 40 0)), (1, .int (nI an)), (2, .int (nI bn)), (3, .int (nI nn)), (4, .int (nI kn))]) hx hb dX6_crossing_35 hl (by decide) rfl (fun ls hl => ?_)
        refine lv_aload_n hx hb dX6_crossing_37 rfl (lv_at hl 3 rfl) ?_
        refine lv_aload hx hb dX6_crossing_38 (lv_at hl 2 rfl) ?_
        refine lv_aload hx hb dX6_crossing_40 (lv_at hl 1 rfl) ?_
        refine lv_iload_n hx hb dX6_crossing_42 rfl (lv_at hl 6 rfl) ?_
        refine lv_iconst (v := nI 0) hx hb dX6_crossing_43 (by decide) ?_
        refine m_ki (m_runV (k := 40) (i := 0) (ci := 6) ⟨hx, hb, hml, hown, hz⟩ hK hH hS (bc hC 40) rfl rfl (c_X6_signOfTaken l G B σ hI hso an bn nn (0) han hbn hcl_an hcl_bn hn60 htn_an htn_bn (by omega)) mw_X6_signOfTaken wl_X6_113 ⟨rfl, rfl⟩ ⟨by decide, by decide⟩ rfl hl.1 rfl (Nat.le_of_ble_eq_true rfl) dX6_crossing_44 ⟨Nat.zero_le _, Nat.zero_le _⟩) hS (fun r_44 σ_44 H locs hp hH hS => ?_)
        obtain ⟨hr1, hs1⟩ := hp
        subst hr1
        rw [hs1] at hH
        refine lv_istore (lv' := [(8, .int (ccN σ an bn nn (0))), (7, .int (nI 0)), (6, .ref (B.1 50 bn)), (5, .ref (B.1 50 an)), (0, .ref (B.1 40 0)), (1, .int (nI an)), (2, .int (nI bn)), (3, .int (nI nn)), (4, .int (nI kn))]) hx hb dX6_crossing_47 hl (by decide) rfl (fun ls hl => ?_)
        refine lv_iconst (v := nI 0) hx hb dX6_crossing_49 (by decide) ?_
        refine lv_istore (lv' := [(9, .int (nI 0)), (8, .int (ccN σ an bn nn (0))), (7, .int (nI 0)), (6, .ref (B.1 50 bn)), (5, .ref (B.1 50 an)), (0, .ref (B.1 40 0)), (1, .int (nI an)), (2, .int (nI bn)), (3, .int (nI nn)), (4, .int (nI kn))]) hx hb dX6_crossing_50 hl (by decide) rfl (fun ls hl => ?_)
        have loop : ∀ (z : Nat) (q : Nat), q ≤ nn ∧ nn < q + z ∧ fnd (fun q => crH σ an bn nn q && decide (cnt (crH σ an bn nn) q = kn)) q = none → ∀ (H : Heap) (locs : List Loc), Hp G B σ H → va_S (mA G) s.heap H locs → ∀ (ls : Array Slot), lv_has ls 11 [(0, .ref (B.1 40 0)), (1, .int (nI an)), (2, .int (nI bn)), (3, .int (nI nn)), (4, .int (nI kn)), (5, .ref (B.1 50 an)), (6, .ref (B.1 50 bn)), (7, .int (nI (cnt (crH σ an bn nn) q))), (8, .int (ccN σ an bn nn q)), (9, .int (nI q))] → W p l e ({ frames := 6, cells := 0, slots := 0, locals := 145 } : Room) s m ([.ref (B.1 40 0), .int ((nI an)), .int ((nI bn)), .int ((nI nn)), .int ((nI kn))] : List Value).toArray below meth c H locs 0 0 (MQ below (mQi G B (fun r τ => if crOK σ (nI an) (nI bn) (nI nn) (nI kn) = true then r = crA σ (nI an).toNatClampNeg (nI bn).toNatClampNeg (nI nn).toNatClampNeg (nI kn).toNatClampNeg ∧ τ = σ else r = -2 ∧ τ = σ)) ([.ref (B.1 40 0), .int ((nI an)), .int ((nI bn)), .int ((nI nn)), .int ((nI kn))] : List Value).toArray s 0 0 (mA G)) (F0 m 52 ls []) := by
          intro z
          induction z with
          | zero => intro q hh; exfalso; omega
          | succ z ih =>
            intro q hh H locs hH hS ls hl
            have hcq := cnt_le (crH σ an bn nn) q
            refine lv_iload hx hb dX6_crossing_52 (lv_at hl 9 rfl) ?_
            refine lv_iload_n hx hb dX6_crossing_54 rfl (lv_at hl 3 rfl) ?_
            refine m_icmp_geN (tgt := 109) (by omega) (by omega) hx hb dX6_crossing_55 (by decide) (fun c_55 => ?_) (fun c_55 => ?_)
            · refine lv_iconst (v := (-1)) hx hb dX6_crossing_109 (by decide) ?_
              exact m_iret hx hb hr hlk hH hS dX6_crossing_110 (by rw [if_pos hyes, nI_clamp (by omega), nI_clamp (by omega), nI_clamp (by omega), nI_clamp (by omega)]; exact ⟨(crA_none (by have h9 := hh.2.2; rwa [show q = nn by omega] at h9)).symm, rfl⟩)
            · refine lv_aload_n hx hb dX6_crossing_58 rfl (lv_at hl 0 rfl) ?_
              refine lv_aload hx hb dX6_crossing_59 (lv_at hl 5 rfl) ?_
              refine lv_aload hx hb dX6_crossing_61 (lv_at hl 6 rfl) ?_
              refine lv_iload_n hx hb dX6_crossing_63 rfl (lv_at hl 3 rfl) ?_
              refine lv_iload hx hb dX6_crossing_64 (lv_at hl 9 rfl) ?_
              refine lv_iconst (v := nI 1) hx hb dX6_crossing_66 (by decide) ?_
              refine m_iaddN hx hb dX6_crossing_67 ?_
              refine m_ki (m_runV (k := 40) (i := 0) (ci := 6) ⟨hx, hb, hml, hown, hz⟩ hK hH hS (bc hC 40) rfl rfl (c_X6_signOfTaken l G B σ hI hso an bn nn (q + 1) han hbn hcl_an hcl_bn hn60 htn_an htn_bn (by omega)) mw_X6_signOfTaken wl_X6_113 ⟨rfl, rfl⟩ ⟨by decide, by decide⟩ rfl hl.1 rfl (Nat.le_of_ble_eq_true rfl) dX6_crossing_68 ⟨Nat.zero_le _, Nat.zero_le _⟩) hS (fun r_68 σ_68 H locs hp hH hS => ?_)
              obtain ⟨hr1, hs1⟩ := hp
              subst hr1
              rw [hs1] at hH
              refine lv_istore (lv' := [(10, .int (ccN σ an bn nn (q + 1))), (0, .ref (B.1 40 0)), (1, .int (nI an)), (2, .int (nI bn)), (3, .int (nI nn)), (4, .int (nI kn)), (5, .ref (B.1 50 an)), (6, .ref (B.1 50 bn)), (7, .int (nI (cnt (crH σ an bn nn) q))), (8, .int (ccN σ an bn nn q)), (9, .int (nI q))]) hx hb dX6_crossing_71 hl (by decide) rfl (fun ls hl => ?_)
              refine lv_iload hx hb dX6_crossing_73 (lv_at hl 9 rfl) ?_
              refine lv_if_eq (tgt := 99) hx hb dX6_crossing_75 (by decide) (fun c_75 => ?_) (fun c_75 => ?_)
              · refine lv_iload hx hb dX6_crossing_99 (lv_at hl 0 rfl) ?_
                refine lv_istore (lv' := [(8, .int (ccN σ an bn nn (q + 1))), (10, .int (ccN σ an bn nn (q + 1))), (0, .ref (B.1 40 0)), (1, .int (nI an)), (2, .int (nI bn)), (3, .int (nI nn)), (4, .int (nI kn)), (5, .ref (B.1 50 an)), (6, .ref (B.1 50 bn)), (7, .int (nI (cnt (crH σ an bn nn) q))), (9, .int (nI q))]) hx hb dX6_crossing_101 hl (by decide) rfl (fun ls hl => ?_)
                refine lv_iinc (v := nI (q + 1)) (lv' := [(9, .int (nI (q + 1))), (8, .int (ccN σ an bn nn (q + 1))), (10, .int (ccN σ an bn nn (q + 1))), (0, .ref (B.1 40 0)), (1, .int (nI an)), (2, .int (nI bn)), (3, .int (nI nn)), (4, .int (nI kn)), (5, .ref (B.1 50 an)), (6, .ref (B.1 50 bn)), (7, .int (nI (cnt (crH σ an bn nn) q)))]) hx hb dX6_crossing_103 hl (k := 10) rfl (nI_1 _) (by decide) rfl (fun ls hl => ?_)
                refine lv_goto (tgt := 52) hx hb dX6_crossing_106 (by decide) ?_
                have hcr : crH σ an bn nn q = false := Bool.eq_false_iff.mpr (fun z => by have z2 := (cr_i σ an bn nn q).mp z; first | exact z2.1 c_75 | exact c_83 z2.2)
                exact ih (q + 1) ⟨by omega, by omega, fnd_miss hh.2.2 (by show (crH σ an bn nn q && _) = false; rw [hcr]; rfl)⟩ H locs hH hS ls (by rw [show cnt (crH σ an bn nn) (q + 1) = cnt (crH σ an bn nn) q from (by show _ + (if crH σ an bn nn q then 1 else 0) = _; rw [hcr]; rfl)]; exact lv_sub hl [3, 4, 5, 6, 7, 8, 9, 10, 1, 0] rfl)
              · refine lv_iload hx hb dX6_crossing_78 (lv_at hl 0 rfl) ?_
                refine lv_iload hx hb dX6_crossing_80 (lv_at hl 9 rfl) ?_
                refine lv_ineg hx hb dX6_crossing_82 ?_
                refine lv_icmp_ne (tgt := 99) hx hb dX6_crossing_83 (by decide) (fun c_83 => ?_) (fun c_83 => ?_)
                · refine lv_iload hx hb dX6_crossing_99 (lv_at hl 0 rfl) ?_
                  refine lv_istore (lv' := [(8, .int (ccN σ an bn nn (q + 1))), (10, .int (ccN σ an bn nn (q + 1))), (0, .ref (B.1 40 0)), (1, .int (nI an)), (2, .int (nI bn)), (3, .int (nI nn)), (4, .int (nI kn)), (5, .ref (B.1 50 an)), (6, .ref (B.1 50 bn)), (7, .int (nI (cnt (crH σ an bn nn) q))), (9, .int (nI q))]) hx hb dX6_crossing_101 hl (by decide) rfl (fun ls hl => ?_)
                  refine lv_iinc (v := nI (q + 1)) (lv' := [(9, .int (nI (q + 1))), (8, .int (ccN σ an bn nn (q + 1))), (10, .int (ccN σ an bn nn (q + 1))), (0, .ref (B.1 40 0)), (1, .int (nI an)), (2, .int (nI bn)), (3, .int (nI nn)), (4, .int (nI kn)), (5, .ref (B.1 50 an)), (6, .ref (B.1 50 bn)), (7, .int (nI (cnt (crH σ an bn nn) q)))]) hx hb dX6_crossing_103 hl (k := 10) rfl (nI_1 _) (by decide) rfl (fun ls hl => ?_)
                  refine lv_goto (tgt := 52) hx hb dX6_crossing_106 (by decide) ?_
                  have hcr : crH σ an bn nn q = false := Bool.eq_false_iff.mpr (fun z => by have z2 := (cr_i σ an bn nn q).mp z; first | exact z2.1 c_75 | exact c_83 z2.2)
                  exact ih (q + 1) ⟨by omega, by omega, fnd_miss hh.2.2 (by show (crH σ an bn nn q && _) = false; rw [hcr]; rfl)⟩ H locs hH hS ls (by rw [show cnt (crH σ an bn nn) (q + 1) = cnt (crH σ an bn nn) q from (by show _ + (if crH σ an bn nn q then 1 else 0) = _; rw [hcr]; rfl)]; exact lv_sub hl [3, 4, 5, 6, 7, 8, 9, 10, 1, 0] rfl)
                · refine lv_iload hx hb dX6_crossing_86 (lv_at hl 8 rfl) ?_
                  refine lv_iload hx hb dX6_crossing_88 (lv_at hl 5 rfl) ?_
                  refine m_icmp_neN (tgt := 96) (by omega) (by omega) hx hb dX6_crossing_90 (by decide) (fun c_90 => ?_) (fun c_90 => ?_)
                  · refine lv_iinc (v := nI (cnt (crH σ an bn nn) q + 1)) (lv' := [(7, .int (nI (cnt (crH σ an bn nn) q + 1))), (10, .int (ccN σ an bn nn (q + 1))), (0, .ref (B.1 40 0)), (1, .int (nI an)), (2, .int (nI bn)), (3, .int (nI nn)), (4, .int (nI kn)), (5, .ref (B.1 50 an)), (6, .ref (B.1 50 bn)), (8, .int (ccN σ an bn nn q)), (9, .int (nI q))]) hx hb dX6_crossing_96 hl (k := 8) rfl (nI_1 _) (by decide) rfl (fun ls hl => ?_)
                    refine lv_iload hx hb dX6_crossing_99 (lv_at hl 1 rfl) ?_
                    refine lv_istore (lv' := [(8, .int (ccN σ an bn nn (q + 1))), (7, .int (nI (cnt (crH σ an bn nn) q + 1))), (10, .int (ccN σ an bn nn (q + 1))), (0, .ref (B.1 40 0)), (1, .int (nI an)), (2, .int (nI bn)), (3, .int (nI nn)), (4, .int (nI kn)), (5, .ref (B.1 50 an)), (6, .ref (B.1 50 bn)), (9, .int (nI q))]) hx hb dX6_crossing_101 hl (by decide) rfl (fun ls hl => ?_)
                    refine lv_iinc (v := nI (q + 1)) (lv' := [(9, .int (nI (q + 1))), (8, .int (ccN σ an bn nn (q + 1))), (7, .int (nI (cnt (crH σ an bn nn) q + 1))), (10, .int (ccN σ an bn nn (q + 1))), (0, .ref (B.1 40 0)), (1, .int (nI an)), (2, .int (nI bn)), (3, .int (nI nn)), (4, .int (nI kn)), (5, .ref (B.1 50 an)), (6, .ref (B.1 50 bn))]) hx hb dX6_crossing_103 hl (k := 10) rfl (nI_1 _) (by decide) rfl (fun ls hl => ?_)
                    refine lv_goto (tgt := 52) hx hb dX6_crossing_106 (by decide) ?_
                    have hcr : crH σ an bn nn q = true := (cr_i σ an bn nn q).mpr ⟨c_75, c_83⟩
                    exact ih (q + 1) ⟨by omega, by omega, fnd_miss hh.2.2 (by show (crH σ an bn nn q && _) = false; rw [decide_eq_false c_90, Bool.and_false])⟩ H locs hH hS ls (by rw [show cnt (crH σ an bn nn) (q + 1) = cnt (crH σ an bn nn) q + 1 from (by show _ + (if crH σ an bn nn q then 1 else 0) = _; rw [hcr]; rfl)]; exact lv_sub hl [4, 5, 6, 7, 8, 9, 10, 2, 1, 0] rfl)
                  · refine lv_iload hx hb dX6_crossing_93 (lv_at hl 10 rfl) ?_
                    exact m_iret hx hb hr hlk hH hS dX6_crossing_95 (by rw [if_pos hyes, nI_clamp (by omega), nI_clamp (by omega), nI_clamp (by omega), nI_clamp (by omega)]; exact ⟨(crA_some hh.2.2 c_55 ((cr_i σ an bn nn q).mpr ⟨c_75, c_83⟩) c_90).symm, rfl⟩)
        exact loop (nn + 1) 0 ⟨by omega, by omega, rfl⟩ H locs hH hS ls (lv_sub hl [5, 6, 7, 8, 9, 4, 3, 2, 1, 0] rfl)
      · refine lv_bipush (v := (-2)) hx hb dX6_crossing_31 (by decide) ?_
        exact m_iret hx hb hr hlk hH hS dX6_crossing_33 (by rw [if_neg (fun z => by unfold crOK at z; have z1 := Bool.and_eq_true_iff.mp z; have z2 := of_decide_eq_true z1.2; have z3 := Bool.and_eq_true_iff.mp z1.1; first | exact b_3 z3.1 | exact b_11 z3.2 | (rw [i_le, i0] at c_28; omega))]; exact ⟨rfl, rfl⟩)
    · rw [if_neg b_11] at hr1
      subst hr1
      refine lv_astoreN (lv' := [(6, .null), (5, .ref (B.1 50 an)), (0, .ref (B.1 40 0)), (1, .int (nI an)), (2, .int (y)), (3, .int (nI nn)), (4, .int (k))]) hx hb dX6_crossing_14 hl (by decide) rfl (fun ls hl => ?_)
      refine lv_aload hx hb dX6_crossing_16 (lv_at hl 1 rfl) ?_
      refine lv_ifnull hx hb dX6_crossing_18 ?_
      refine lv_aloadN hx hb dX6_crossing_21 (lv_at hl 0 rfl) ?_
      refine lv_ifnullN (tgt := 31) hx hb dX6_crossing_23 (by decide) ?_
      refine lv_bipush (v := (-2)) hx hb dX6_crossing_31 (by decide) ?_
      exact m_iret hx hb hr hlk hH hS dX6_crossing_33 (by rw [if_neg (fun z => by unfold crOK at z; have z1 := Bool.and_eq_true_iff.mp z; have z2 := of_decide_eq_true z1.2; have z3 := Bool.and_eq_true_iff.mp z1.1; first | exact b_3 z3.1 | exact b_11 z3.2 | (rw [i_le, i0] at c_28; omega))]; exact ⟨rfl, rfl⟩)
  · rw [if_neg b_3] at hr1
    subst hr1
    refine lv_astoreN (lv' := [(5, .null), (0, .ref (B.1 40 0)), (1, .int (x)), (2, .int (y)), (3, .int (n)), (4, .int (k))]) hx hb dX6_crossing_6 hl (by decide) rfl (fun ls hl => ?_)
    refine lv_aload_n hx hb dX6_crossing_8 rfl (lv_at hl 1 rfl) ?_
    refine lv_iload_n hx hb dX6_crossing_9 rfl (lv_at hl 3 rfl) ?_
    refine lv_iload_n hx hb dX6_crossing_10 rfl (lv_at hl 4 rfl) ?_
    refine m_kq (m_runV (k := 40) (i := 0) (ci := 6) ⟨hx, hb, hml, hown, hz⟩ hK hH hS (bc hC 40) rfl rfl (c_X6_planForLot l G B σ hI (y) (n)) mw_X6_planForLot wl_X6_84 ⟨rfl, rfl⟩ ⟨by decide, by decide⟩ rfl hl.1 rfl (Nat.le_of_ble_eq_true rfl) dX6_crossing_11 ⟨Nat.zero_le _, Nat.zero_le _⟩) hS (fun r_11 σ_11 H locs hp hH hS => ?_)
    obtain ⟨hr1, hs1⟩ := hp
    rw [hs1] at hH
    by_cases b_11 : fitb σ (y) (n) = true
    · rw [if_pos b_11] at hr1
      obtain ⟨bn, nn, hbn, he, he2, hcl_bn, hn1, hn60, htn_bn⟩ := fitb_t h24 b_11
      subst he
      subst he2
      rw [nI_clamp (by omega)] at hr1
      subst hr1
      have hB_bn : bn < B.2 50 := by rw [hI.D.2.1]; exact hbn
      have hP_bn := hI.P.2.2 bn hbn
      have hR_bn := hI.pr hbn
      refine lv_astore (lv' := [(6, .ref (B.1 50 bn)), (5, .null), (0, .ref (B.1 40 0)), (1, .int (x)), (2, .int (nI bn)), (3, .int (nI nn)), (4, .int (k))]) hx hb dX6_crossing_14 hl (by decide) rfl (fun ls hl => ?_)
      refine lv_aloadN hx hb dX6_crossing_16 (lv_at hl 1 rfl) ?_
      refine lv_ifnullN (tgt := 31) hx hb dX6_crossing_18 (by decide) ?_
      refine lv_bipush (v := (-2)) hx hb dX6_crossing_31 (by decide) ?_
      exact m_iret hx hb hr hlk hH hS dX6_crossing_33 (by rw [if_neg (fun z => by unfold crOK at z; have z1 := Bool.and_eq_true_iff.mp z; have z2 := of_decide_eq_true z1.2; have z3 := Bool.and_eq_true_iff.mp z1.1; first | exact b_3 z3.1 | exact b_11 z3.2 | (rw [i_le, i0] at c_28; omega))]; exact ⟨rfl, rfl⟩)
    · rw [if_neg b_11] at hr1
      subst hr1
      refine lv_astoreN (lv' := [(6, .null), (5, .null), (0, .ref (B.1 40 0)), (1, .int (x)), (2, .int (y)), (3, .int (n)), (4, .int (k))]) hx hb dX6_crossing_14 hl (by decide) rfl (fun ls hl => ?_)
      refine lv_aloadN hx hb dX6_crossing_16 (lv_at hl 1 rfl) ?_
      refine lv_ifnullN (tgt := 31) hx hb dX6_crossing_18 (by decide) ?_
      refine lv_bipush (v := (-2)) hx hb dX6_crossing_31 (by decide) ?_
      exact m_iret hx hb hr hlk hH hS dX6_crossing_33 (by rw [if_neg (fun z => by unfold crOK at z; have z1 := Bool.and_eq_true_iff.mp z; have z2 := of_decide_eq_true z1.2; have z3 := Bool.and_eq_true_iff.mp z1.1; first | exact b_3 z3.1 | exact b_11 z3.2 | (rw [i_le, i0] at c_28; omega))]; exact ⟨rfl, rfl⟩)
