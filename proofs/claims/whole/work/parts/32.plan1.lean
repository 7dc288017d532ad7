set_option maxHeartbeats 4000000 in
set_option maxRecDepth 100000 in
theorem c_X5_choose (l : Launch) (G : gG) (B : gB) (σ : gS) (hC : BkC B) (n : Nat) (k : Int32) (hn : n ≤ 60) (hW : WfW σ) : Met l yX5_choose [.code yX5_choose cX5_choose 3 (some .long)] ({ frames := 0, cells := 0, slots := 0, locals := 0 } : Room) (mPc G B σ [.ref (B.1 41 0), .int (nI n), .int (k)]) (mQl G B (fun r σ' => r = lN (chZ n k.toInt) ∧ σ' = σ)) 0 0 (mA G) := by
  refine m_start (by decide) (Nat.le_of_ble_eq_true rfl) ?_
  intro p e s m below meth c ⟨hx, hb, hr, hml, hown, hK, hlk, hz⟩ hH hS ls hl
  have hl : lv_has ls 3 [(0, .ref (B.1 41 0)), (1, .int (nI n)), (2, .int (k))] := hl
  refine lv_iload_n hx hb dX5_choose_0 rfl (lv_at hl 1 rfl) ?_
  refine lv_if_lt (tgt := 19) hx hb dX5_choose_1 (by decide) (fun c_1 => ?_) (fun c_1 => ?_)
  · exact absurd c_1 (nI_pos (by omega))
  · refine lv_iload_n hx hb dX5_choose_4 rfl (lv_at hl 1 rfl) ?_
    refine lv_bipush (v := nI 60) hx hb dX5_choose_5 (by decide) ?_
    refine m_icmp_gtN (tgt := 19) (by omega) (by omega) hx hb dX5_choose_7 (by decide) (fun c_7 => ?_) (fun c_7 => ?_)
    · exact absurd c_7 (by omega)
    · refine lv_iload_n hx hb dX5_choose_10 rfl (lv_at hl 2 rfl) ?_
      refine lv_if_lt (tgt := 19) hx hb dX5_choose_11 (by decide) (fun c_11 => ?_) (fun c_11 => ?_)
      · have hzz : k.toInt < 0 ∨ (n : Int) < k.toInt := by
          have e := nI_I (n := n) (by omega)
          simp only [i_lt, i_le, e, i0] at *
          omega
        refine lv_lconst (v := lN 0) hx hb dX5_choose_19 rfl ?_
        exact m_lret hx hb hr hlk hH hS dX5_choose_20 (⟨chs_z hn hzz, rfl⟩)
      · refine lv_iload_n hx hb dX5_choose_14 rfl (lv_at hl 2 rfl) ?_
        refine lv_iload_n hx hb dX5_choose_15 rfl (lv_at hl 1 rfl) ?_
        refine lv_icmp_le (tgt := 21) hx hb dX5_choose_16 (by decide) (fun c_16 => ?_) (fun c_16 => ?_)
        · have hk1 : 0 ≤ k.toInt ∧ k.toInt ≤ (n : Int) := by
            have e := nI_I (n := n) (by omega)
            simp only [i_lt, i_le, e, i0] at c_11 c_16
            omega
          obtain ⟨k1, k2⟩ := i_nat hk1.1
          obtain ⟨q, hq⟩ : ∃ q : Nat, q = k.toInt.toNat := ⟨_, rfl⟩
          rw [← hq] at k1 k2
          have hqn : q ≤ n := by omega
          have hl : lv_has ls 3 [(2, .int (nI q)), (0, .ref (B.1 41 0)), (1, .int (nI n))] := by rw [← k1]; exact lv_sub hl [2, 0, 1] rfl
          refine lv_aload_n hx hb dX5_choose_21 rfl (lv_at hl 1 rfl) ?_
          refine gf_X5_11 hx hb hown hK hH (bc hC 41) dX5_choose_22 ?_
          refine lv_iload_n hx hb dX5_choose_25 rfl (lv_at hl 2 rfl) ?_
          refine m_aald hx hb hK hH (n := 61) 6 (bc hC 42) (fun _ _ => rfl) rfl rfl (n) (rfl) (by omega) (by decide) (rfl) dX5_choose_26 ?_
          refine lv_iload_n hx hb dX5_choose_27 rfl (lv_at hl 0 rfl) ?_
          refine m_lald hx hb hK hH (n := 61) (br hC (by omega)) (fun _ _ => rfl) (q) (rfl) (by omega) (by decide) dX5_choose_28 ?_
          exact m_lret hx hb hr hlk hH hS dX5_choose_29 (⟨chs_v hW hn hqn k2, rfl⟩)
        · have hzz : k.toInt < 0 ∨ (n : Int) < k.toInt := by
            have e := nI_I (n := n) (by omega)
            simp only [i_lt, i_le, e, i0] at *
            omega
          refine lv_lconst (v := lN 0) hx hb dX5_choose_19 rfl ?_
          exact m_lret hx hb hr hlk hH hS dX5_choose_20 (⟨chs_z hn hzz, rfl⟩)
set_option maxHeartbeats 4000000 in
set_option maxRecDepth 100000 in
theorem c_X2_hasStage (l : Launch) (G : gG) (B : gB) (σ : gS) (hC : BkC B) (pn : Nat) (hpB : pn < B.2 50) (hP1 : WfP1 σ pn) (hR : PR σ pn) (k : Int32) : Met l yX2_hasStage [.code yX2_hasStage cX2_hasStage 2 (some .boolean)] ({ frames := 0, cells := 0, slots := 0, locals := 0 } : Room) (mPc G B σ [.ref (B.1 50 pn), .int (k)]) (mQi G B (fun r σ' => r = bI (decide (0 ≤ k.toInt ∧ k.toInt < (stN σ pn : Int))) ∧ σ' = σ)) 0 0 (mA G) := by
  refine m_start (by decide) (Nat.le_of_ble_eq_true rfl) ?_
  intro p e s m below meth c ⟨hx, hb, hr, hml, hown, hK, hlk, hz⟩ hH hS ls hl
  have hl : lv_has ls 2 [(0, .ref (B.1 50 pn)), (1, .int (k))] := hl
  have hs4 := hP1.2.1
  have es := nI_I (n := stN σ pn) (by omega)
  refine lv_iload_n hx hb dX2_hasStage_0 rfl (lv_at hl 1 rfl) ?_
  refine lv_if_lt (tgt := 16) hx hb dX2_hasStage_1 (by decide) (fun c_1 => ?_) (fun c_1 => ?_)
  · refine lv_iconst (v := nI 0) hx hb dX2_hasStage_16 (by decide) ?_
    exact m_zret hx hb hr hlk hH hS dX2_hasStage_17 (by first | exact Or.inl rfl | exact Or.inr rfl | exact bI_01 _) (⟨bI_f (by simp only [i_lt, i_le, i0, es] at *; simp; omega), rfl⟩)
  · refine lv_iload_n hx hb dX2_hasStage_4 rfl (lv_at hl 1 rfl) ?_
    refine lv_aload_n hx hb dX2_hasStage_5 rfl (lv_at hl 0 rfl) ?_
    refine gf_X2_29 hx hb hown hK hH hpB dX2_hasStage_6 ?_
    refine m_toi (stN σ pn) (hR.1) ?_
    refine lv_icmp_ge (tgt := 16) hx hb dX2_hasStage_9 (by decide) (fun c_9 => ?_) (fun c_9 => ?_)
    · refine lv_iconst (v := nI 0) hx hb dX2_hasStage_16 (by decide) ?_
      exact m_zret hx hb hr hlk hH hS dX2_hasStage_17 (by first | exact Or.inl rfl | exact Or.inr rfl | exact bI_01 _) (⟨bI_f (by simp only [i_lt, i_le, i0, es] at *; simp; omega), rfl⟩)
    · refine lv_iconst (v := nI 1) hx hb dX2_hasStage_12 (by decide) ?_
      refine lv_goto (tgt := 17) hx hb dX2_hasStage_13 (by decide) ?_
      exact m_zret hx hb hr hlk hH hS dX2_hasStage_17 (by first | exact Or.inl rfl | exact Or.inr rfl | exact bI_01 _) (⟨bI_t (by simp only [i_lt, i_le, i0, es] at *; simp; omega), rfl⟩)
set_option maxHeartbeats 4000000 in
set_option maxRecDepth 100000 in
theorem c_X2_total (l : Launch) (G : gG) (B : gB) (σ : gS) (hC : BkC B) (pn : Nat) (hpB : pn < B.2 50) (hP1 : WfP1 σ pn) (hR : PR σ pn) : Met l yX2_total [.code yX2_total cX2_total 1 (some .int)] ({ frames := 1, cells := 0, slots := 0, locals := 21 } : Room) (mPc G B σ [.ref (B.1 50 pn)]) (mQi G B (fun r σ' => r = nI (tot σ pn (stN σ pn)) ∧ σ' = σ)) 0 0 (mA G) := by
  refine m_start (by decide) (Nat.le_of_ble_eq_true rfl) ?_
  intro p e s m below meth c ⟨hx, hb, hr, hml, hown, hK, hlk, hz⟩ hH hS ls hl
  have hl : lv_has ls 1 [(0, .ref (B.1 50 pn))] := hl
  have hs4 := hP1.2.1
  have es := nI_I (n := stN σ pn) (by omega)
  refine lv_aload_n hx hb dX2_total_0 rfl (lv_at hl 0 rfl) ?_
  refine lv_aload_n hx hb dX2_total_1 rfl (lv_at hl 0 rfl) ?_
  refine gf_X2_29 hx hb hown hK hH hpB dX2_total_2 ?_
  refine m_toi (stN σ pn) (hR.1) ?_
  refine lv_iconst (v := nI 1) hx hb dX2_total_5 (by decide) ?_
  refine lv_isub hx hb dX2_total_6 ?_
  refine m_ki (m_runV (k := 50) (i := pn) (ci := 2) ⟨hx, hb, hml, hown, hz⟩ hK hH hS hpB rfl rfl (c_X2_hasStage l G B σ hC pn hpB hP1 hR (nI (stN σ pn) - nI 1)) mw_X2_hasStage wl_X2_33 ⟨rfl, rfl⟩ ⟨by decide, by decide⟩ rfl hl.1 rfl (Nat.le_of_ble_eq_true rfl) dX2_total_7 ⟨Nat.zero_le _, Nat.zero_le _⟩) hS (fun r_7 σ_7 H locs hp hH hS => ?_)
  obtain ⟨hr1, hs1⟩ := hp
  rw [hs1] at hH
  rw [i_subN (by omega) (by omega), show (decide (0 ≤ (stN σ pn : Int) - ((1 : Nat) : Int) ∧ (stN σ pn : Int) - ((1 : Nat) : Int) < (stN σ pn : Int))) = decide (0 < stN σ pn) from (by by_cases z : 0 < stN σ pn; rw [decide_eq_true z, decide_eq_true (by omega)]; rw [decide_eq_false z, decide_eq_false (by omega)])] at hr1
  subst hr1
  refine m_ifeqB (tgt := 27) hx hb dX2_total_10 (by decide) (fun c_10 => ?_) (fun c_10 => ?_)
  · refine lv_iconst (v := nI 0) hx hb dX2_total_27 (by decide) ?_
    exact m_iret hx hb hr hlk hH hS dX2_total_28 (⟨by rw [show stN σ pn = 0 by have := of_decide_eq_false c_10; omega]; rfl, rfl⟩)
  · have h0 := of_decide_eq_true c_10
    refine lv_aload_n hx hb dX2_total_13 rfl (lv_at hl 0 rfl) ?_
    refine gf_X2_21 hx hb hown hK hH hpB dX2_total_14 ?_
    refine lv_aload_n hx hb dX2_total_17 rfl (lv_at hl 0 rfl) ?_
    refine gf_X2_29 hx hb hown hK hH hpB dX2_total_18 ?_
    refine m_toi (stN σ pn) (hR.1) ?_
    refine lv_iconst (v := nI 1) hx hb dX2_total_21 (by decide) ?_
    refine m_isubN (by omega) hx hb dX2_total_22 ?_
    refine m_iald hx hb hK hH (n := 4) (bq hC 54 hpB) (fun _ _ => rfl) ((stN σ pn) - 1) (rfl) (by omega) (by decide) dX2_total_23 ?_
    refine m_toi (tot σ pn (stN σ pn)) ((hR.2.2.1 (stN σ pn - 1) (by omega)).2.2.2.trans (by rw [show stN σ pn - 1 + 1 = stN σ pn by omega])) ?_
    refine lv_goto (tgt := 28) hx hb dX2_total_24 (by decide) ?_
    exact m_iret hx hb hr hlk hH hS dX2_total_28 (⟨rfl, rfl⟩)
set_option maxHeartbeats 4000000 in
set_option maxRecDepth 100000 in
theorem c_X2_isTakenAt (l : Launch) (G : gG) (B : gB) (σ : gS) (hC : BkC B) (pn : Nat) (hpB : pn < B.2 50) (hP1 : WfP1 σ pn) (hR : PR σ pn) (k mm : Nat) (hk : k < 1000) (hm : mm < 1000) : Met l yX2_isTakenAt [.code yX2_isTakenAt cX2_isTakenAt 3 (some .boolean)] ({ frames := 1, cells := 0, slots := 0, locals := 21 } : Room) (mPc G B σ [.ref (B.1 50 pn), .int (nI k), .int (nI mm)]) (mQi G B (fun r σ' => r = bI (tkB σ pn k mm) ∧ σ' = σ)) 0 0 (mA G) := by
  refine m_start (by decide) (Nat.le_of_ble_eq_true rfl) ?_
  intro p e s m below meth c ⟨hx, hb, hr, hml, hown, hK, hlk, hz⟩ hH hS ls hl
  have hl : lv_has ls 3 [(0, .ref (B.1 50 pn)), (1, .int (nI k)), (2, .int (nI mm))] := hl
  have hs4 := hP1.2.1
  refine lv_aload_n hx hb dX2_isTakenAt_0 rfl (lv_at hl 0 rfl) ?_
  refine lv_iload_n hx hb dX2_isTakenAt_1 rfl (lv_at hl 1 rfl) ?_
  refine m_ki (m_runV (k := 50) (i := pn) (ci := 2) ⟨hx, hb, hml, hown, hz⟩ hK hH hS hpB rfl rfl (c_X2_hasStage l G B σ hC pn hpB hP1 hR (nI k)) mw_X2_hasStage wl_X2_33 ⟨rfl, rfl⟩ ⟨by decide, by decide⟩ rfl hl.1 rfl (Nat.le_of_ble_eq_true rfl) dX2_isTakenAt_2 ⟨Nat.zero_le _, Nat.zero_le _⟩) hS (fun r_2 σ_2 H locs hp hH hS => ?_)
  obtain ⟨hr1, hs1⟩ := hp
  rw [hs1] at hH
  rw [nI_I (by omega), show (decide (0 ≤ (k : Int) ∧ (k : Int) < (stN σ pn : Int))) = decide (k < stN σ pn) from (by by_cases z : k < stN σ pn; rw [decide_eq_true z, decide_eq_true (by omega)]; rw [decide_eq_false z, decide_eq_false (by omega)])] at hr1
  subst hr1
  refine m_ifeqB (tgt := 22) hx hb dX2_isTakenAt_5 (by decide) (fun c_5 => ?_) (fun c_5 => ?_)
  · refine lv_iconst (v := nI 0) hx hb dX2_isTakenAt_22 (by decide) ?_
    exact m_zret hx hb hr hlk hH hS dX2_isTakenAt_23 (by first | exact Or.inl rfl | exact Or.inr rfl | exact bI_01 _) (⟨bI_f (decide_eq_false (fun hh => by first | exact of_decide_eq_false c_5 hh.1 | (have h9 := hh.2; revert h9; show ¬ _; rw [i_lt, nI_I (by omega)] at c_15; unfold acI; omega))), rfl⟩)
  · have h0 := of_decide_eq_true c_5
    have hr3 := hR.2.2.1 k h0
    refine lv_iload_n hx hb dX2_isTakenAt_8 rfl (lv_at hl 2 rfl) ?_
    refine lv_aload_n hx hb dX2_isTakenAt_9 rfl (lv_at hl 0 rfl) ?_
    refine gf_X2_15 hx hb hown hK hH hpB dX2_isTakenAt_10 ?_
    refine lv_iload_n hx hb dX2_isTakenAt_13 rfl (lv_at hl 1 rfl) ?_
    refine m_iald hx hb hK hH (n := 4) (bq hC 52 hpB) (fun _ _ => rfl) (k) (rfl) (by omega) (by decide) dX2_isTakenAt_14 ?_
    refine m_toe (σ.1 5 0 (4 * pn + k)) (hr3.2.1) ?_
    refine lv_icmp_gt (tgt := 22) hx hb dX2_isTakenAt_15 (by decide) (fun c_15 => ?_) (fun c_15 => ?_)
    · refine lv_iconst (v := nI 0) hx hb dX2_isTakenAt_22 (by decide) ?_
      exact m_zret hx hb hr hlk hH hS dX2_isTakenAt_23 (by first | exact Or.inl rfl | exact Or.inr rfl | exact bI_01 _) (⟨bI_f (decide_eq_false (fun hh => by first | exact of_decide_eq_false c_5 hh.1 | (have h9 := hh.2; revert h9; show ¬ _; rw [i_lt, nI_I (by omega)] at c_15; unfold acI; omega))), rfl⟩)
    · refine lv_iconst (v := nI 1) hx hb dX2_isTakenAt_18 (by decide) ?_
      refine lv_goto (tgt := 23) hx hb dX2_isTakenAt_19 (by decide) ?_
      exact m_zret hx hb hr hlk hH hS dX2_isTakenAt_23 (by first | exact Or.inl rfl | exact Or.inr rfl | exact bI_01 _) (⟨bI_t (decide_eq_true ⟨h0, by rw [i_lt, nI_I (by omega)] at c_15; unfold acI; omega⟩), rfl⟩)
set_option maxHeartbeats 4000000 in
set_option maxRecDepth 100000 in
theorem c_X2_isRefusedAt (l : Launch) (G : gG) (B : gB) (σ : gS) (hC : BkC B) (pn : Nat) (hpB : pn < B.2 50) (hP1 : WfP1 σ pn) (hR : PR σ pn) (k mm : Nat) (hk : k < 1000) (hm : mm < 1000) : Met l yX2_isRefusedAt [.code yX2_isRefusedAt cX2_isRefusedAt 3 (some .boolean)] ({ frames := 1, cells := 0, slots := 0, locals := 21 } : Room) (mPc G B σ [.ref (B.1 50 pn), .int (nI k), .int (nI mm)]) (mQi G B (fun r σ' => r = bI (rfB σ pn k mm) ∧ σ' = σ)) 0 0 (mA G) := by
  refine m_start (by decide) (Nat.le_of_ble_eq_true rfl) ?_
  intro p e s m below meth c ⟨hx, hb, hr, hml, hown, hK, hlk, hz⟩ hH hS ls hl
  have hl : lv_has ls 3 [(0, .ref (B.1 50 pn)), (1, .int (nI k)), (2, .int (nI mm))] := hl
  have hs4 := hP1.2.1
  refine lv_aload_n hx hb dX2_isRefusedAt_0 rfl (lv_at hl 0 rfl) ?_
  refine lv_iload_n hx hb dX2_isRefusedAt_1 rfl (lv_at hl 1 rfl) ?_
  refine m_ki (m_runV (k := 50) (i := pn) (ci := 2) ⟨hx, hb, hml, hown, hz⟩ hK hH hS hpB rfl rfl (c_X2_hasStage l G B σ hC pn hpB hP1 hR (nI k)) mw_X2_hasStage wl_X2_33 ⟨rfl, rfl⟩ ⟨by decide, by decide⟩ rfl hl.1 rfl (Nat.le_of_ble_eq_true rfl) dX2_isRefusedAt_2 ⟨Nat.zero_le _, Nat.zero_le _⟩) hS (fun r_2 σ_2 H locs hp hH hS => ?_)
  obtain ⟨hr1, hs1⟩ := hp
  rw [hs1] at hH
  rw [nI_I (by omega), show (decide (0 ≤ (k : Int) ∧ (k : Int) < (stN σ pn : Int))) = decide (k < stN σ pn) from (by by_cases z : k < stN σ pn; rw [decide_eq_true z, decide_eq_true (by omega)]; rw [decide_eq_false z, decide_eq_false (by omega)])] at hr1
  subst hr1
  refine m_ifeqB (tgt := 22) hx hb dX2_isRefusedAt_5 (by decide) (fun c_5 => ?_) (fun c_5 => ?_)
  · refine lv_iconst (v := nI 0) hx hb dX2_isRefusedAt_22 (by decide) ?_
    exact m_zret hx hb hr hlk hH hS dX2_isRefusedAt_23 (by first | exact Or.inl rfl | exact Or.inr rfl | exact bI_01 _) (⟨bI_f (decide_eq_false (fun hh => by first | exact of_decide_eq_false c_5 hh.1 | (have h9 := hh.2; revert h9; show ¬ _; rw [i_lt, nI_I (by omega)] at c_15; unfold rfI; omega))), rfl⟩)
  · have h0 := of_decide_eq_true c_5
    have hr3 := hR.2.2.1 k h0
    refine lv_iload_n hx hb dX2_isRefusedAt_8 rfl (lv_at hl 2 rfl) ?_
    refine lv_aload_n hx hb dX2_isRefusedAt_9 rfl (lv_at hl 0 rfl) ?_
    refine gf_X2_18 hx hb hown hK hH hpB dX2_isRefusedAt_10 ?_
    refine lv_iload_n hx hb dX2_isRefusedAt_13 rfl (lv_at hl 1 rfl) ?_
    refine m_iald hx hb hK hH (n := 4) (bq hC 53 hpB) (fun _ _ => rfl) (k) (rfl) (by omega) (by decide) dX2_isRefusedAt_14 ?_
    refine m_toe (σ.1 6 0 (4 * pn + k)) (hr3.2.2.1) ?_
    refine lv_icmp_lt (tgt := 22) hx hb dX2_isRefusedAt_15 (by decide) (fun c_15 => ?_) (fun c_15 => ?_)
    · refine lv_iconst (v := nI 0) hx hb dX2_isRefusedAt_22 (by decide) ?_
      exact m_zret hx hb hr hlk hH hS dX2_isRefusedAt_23 (by first | exact Or.inl rfl | exact Or.inr rfl | exact bI_01 _) (⟨bI_f (decide_eq_false (fun hh => by first | exact of_decide_eq_false c_5 hh.1 | (have h9 := hh.2; revert h9; show ¬ _; rw [i_lt, nI_I (by omega)] at c_15; unfold rfI; omega))), rfl⟩)
    · refine lv_iconst (v := nI 1) hx hb dX2_isRefusedAt_18 (by decide) ?_
      refine lv_goto (tgt := 23) hx hb dX2_isRefusedAt_19 (by decide) ?_
      exact m_zret hx hb hr hlk hH hS dX2_isRefusedAt_23 (by first | exact Or.inl rfl | exact Or.inr rfl | exact bI_01 _) (⟨bI_t (decide_eq_true ⟨h0, by rw [i_lt, nI_I (by omega)] at c_15; unfold rfI; omega⟩), rfl⟩)
set_option maxHeartbeats 4000000 in
set_option maxRecDepth 100000 in
theorem c_X2_isEndOf (l : Launch) (G : gG) (B : gB) (σ : gS) (hC : BkC B) (pn : Nat) (hpB : pn < B.2 50) (hP1 : WfP1 σ pn) (hR : PR σ pn) (k mm : Nat) (hk : k < 1000) (hm : mm < 1000) : Met l yX2_isEndOf [.code yX2_isEndOf cX2_isEndOf 3 (some .boolean)] ({ frames := 1, cells := 0, slots := 0, locals := 21 } : Room) (mPc G B σ [.ref (B.1 50 pn), .int (nI k), .int (nI mm)]) (mQi G B (fun r σ' => r = bI (enB σ pn k mm) ∧ σ' = σ)) 0 0 (mA G) := by
  refine m_start (by decide) (Nat.le_of_ble_eq_true rfl) ?_
  intro p e s m below meth c ⟨hx, hb, hr, hml, hown, hK, hlk, hz⟩ hH hS ls hl
  have hl : lv_has ls 3 [(0, .ref (B.1 50 pn)), (1, .int (nI k)), (2, .int (nI mm))] := hl
  have hs4 := hP1.2.1
  refine lv_aload_n hx hb dX2_isEndOf_0 rfl (lv_at hl 0 rfl) ?_
  refine lv_iload_n hx hb dX2_isEndOf_1 rfl (lv_at hl 1 rfl) ?_
  refine m_ki (m_runV (k := 50) (i := pn) (ci := 2) ⟨hx, hb, hml, hown, hz⟩ hK hH hS hpB rfl rfl (c_X2_hasStage l G B σ hC pn hpB hP1 hR (nI k)) mw_X2_hasStage wl_X2_33 ⟨rfl, rfl⟩ ⟨by decide, by decide⟩ rfl hl.1 rfl (Nat.le_of_ble_eq_true rfl) dX2_isEndOf_2 ⟨Nat.zero_le _, Nat.zero_le _⟩) hS (fun r_2 σ_2 H locs hp hH hS => ?_)
  obtain ⟨hr1, hs1⟩ := hp
  rw [hs1] at hH
  rw [nI_I (by omega), show (decide (0 ≤ (k : Int) ∧ (k : Int) < (stN σ pn : Int))) = decide (k < stN σ pn) from (by by_cases z : k < stN σ pn; rw [decide_eq_true z, decide_eq_true (by omega)]; rw [decide_eq_false z, decide_eq_false (by omega)])] at hr1
  subst hr1
  refine m_ifeqB (tgt := 22) hx hb dX2_isEndOf_5 (by decide) (fun c_5 => ?_) (fun c_5 => ?_)
  · refine lv_iconst (v := nI 0) hx hb dX2_isEndOf_22 (by decide) ?_
    exact m_zret hx hb hr hlk hH hS dX2_isEndOf_23 (by first | exact Or.inl rfl | exact Or.inr rfl | exact bI_01 _) (⟨bI_f (decide_eq_false (fun hh => by first | exact of_decide_eq_false c_5 hh.1 | (have h9 := hh.2; revert h9; show ¬ _; omega))), rfl⟩)
  · have h0 := of_decide_eq_true c_5
    have hr3 := hR.2.2.1 k h0
    refine lv_iload_n hx hb dX2_isEndOf_8 rfl (lv_at hl 2 rfl) ?_
    refine lv_aload_n hx hb dX2_isEndOf_9 rfl (lv_at hl 0 rfl) ?_
    refine gf_X2_21 hx hb hown hK hH hpB dX2_isEndOf_10 ?_
    refine lv_iload_n hx hb dX2_isEndOf_13 rfl (lv_at hl 1 rfl) ?_
    refine m_iald hx hb hK hH (n := 4) (bq hC 54 hpB) (fun _ _ => rfl) (k) (rfl) (by omega) (by decide) dX2_isEndOf_14 ?_
    refine m_toi (tot σ pn (k + 1)) (hr3.2.2.2) ?_
    have ht := tot_le hP1 (show k + 1 ≤ stN σ pn by omega)
    refine m_icmp_neN (tgt := 22) (by omega) (by omega) hx hb dX2_isEndOf_15 (by decide) (fun c_15 => ?_) (fun c_15 => ?_)
    · refine lv_iconst (v := nI 0) hx hb dX2_isEndOf_22 (by decide) ?_
      exact m_zret hx hb hr hlk hH hS dX2_isEndOf_23 (by first | exact Or.inl rfl | exact Or.inr rfl | exact bI_01 _) (⟨bI_f (decide_eq_false (fun hh => by first | exact of_decide_eq_false c_5 hh.1 | (have h9 := hh.2; revert h9; show ¬ _; omega))), rfl⟩)
    · refine lv_iconst (v := nI 1) hx hb dX2_isEndOf_18 (by decide) ?_
      refine lv_goto (tgt := 23) hx hb dX2_isEndOf_19 (by decide) ?_
      exact m_zret hx hb hr hlk hH hS dX2_isEndOf_23 (by first | exact Or.inl rfl | exact Or.inr rfl | exact bI_01 _) (⟨bI_t (decide_eq_true ⟨h0, by omega⟩), rfl⟩)
set_option maxHeartbeats 4000000 in
set_option maxRecDepth 100000 in
theorem c_X2_isDecidedAt (l : Launch) (G : gG) (B : gB) (σ : gS) (hC : BkC B) (pn : Nat) (hpB : pn < B.2 50) (hP1 : WfP1 σ pn) (hR : PR σ pn) (k mm : Nat) (hk : k < 1000) (hm : mm < 1000) : Met l yX2_isDecidedAt [.code yX2_isDecidedAt cX2_isDecidedAt 3 (some .boolean)] ({ frames := 2, cells := 0, slots := 0, locals := 43 } : Room) (mPc G B σ [.ref (B.1 50 pn), .int (nI k), .int (nI mm)]) (mQi G B (fun r σ' => r = bI (dcB σ pn k mm) ∧ σ' = σ)) 0 0 (mA G) := by
  refine m_start (by decide) (Nat.le_of_ble_eq_true rfl) ?_
  intro p e s m below meth c ⟨hx, hb, hr, hml, hown, hK, hlk, hz⟩ hH hS ls hl
  have hl : lv_has ls 3 [(0, .ref (B.1 50 pn)), (1, .int (nI k)), (2, .int (nI mm))] := hl
  refine lv_aload_n hx hb dX2_isDecidedAt_0 rfl (lv_at hl 0 rfl) ?_
  refine lv_iload_n hx hb dX2_isDecidedAt_1 rfl (lv_at hl 1 rfl) ?_
  refine lv_iload_n hx hb dX2_isDecidedAt_2 rfl (lv_at hl 2 rfl) ?_
  refine m_ki (m_runV (k := 50) (i := pn) (ci := 2) ⟨hx, hb, hml, hown, hz⟩ hK hH hS hpB rfl rfl (c_X2_isTakenAt l G B σ hC pn hpB hP1 hR k mm hk hm) mw_X2_isTakenAt wl_X2_62 ⟨rfl, rfl⟩ ⟨by decide, by decide⟩ rfl hl.1 rfl (Nat.le_of_ble_eq_true rfl) dX2_isDecidedAt_3 ⟨Nat.zero_le _, Nat.zero_le _⟩) hS (fun r_3 σ_3 H locs hp hH hS => ?_)
  obtain ⟨hr1, hs1⟩ := hp
  subst hr1
  rw [hs1] at hH
  refine m_ifneB (tgt := 18) hx hb dX2_isDecidedAt_6 (by decide) (fun c_6 => ?_) (fun c_6 => ?_)
  · refine lv_iconst (v := nI 1) hx hb dX2_isDecidedAt_18 (by decide) ?_
    refine lv_goto (tgt := 23) hx hb dX2_isDecidedAt_19 (by decide) ?_
    exact m_zret hx hb hr hlk hH hS dX2_isDecidedAt_23 (by first | exact Or.inl rfl | exact Or.inr rfl | exact bI_01 _) (⟨bI_t (by unfold dcB; first | (rw [c_6]; rfl) | (rw [c_15, Bool.or_true])), rfl⟩)
  · refine lv_aload_n hx hb dX2_isDecidedAt_9 rfl (lv_at hl 0 rfl) ?_
    refine lv_iload_n hx hb dX2_isDecidedAt_10 rfl (lv_at hl 1 rfl) ?_
    refine lv_iload_n hx hb dX2_isDecidedAt_11 rfl (lv_at hl 2 rfl) ?_
    refine m_ki (m_runV (k := 50) (i := pn) (ci := 2) ⟨hx, hb, hml, hown, hz⟩ hK hH hS hpB rfl rfl (c_X2_isRefusedAt l G B σ hC pn hpB hP1 hR k mm hk hm) mw_X2_isRefusedAt wl_X2_65 ⟨rfl, rfl⟩ ⟨by decide, by decide⟩ rfl hl.1 rfl (Nat.le_of_ble_eq_true rfl) dX2_isDecidedAt_12 ⟨Nat.zero_le _, Nat.zero_le _⟩) hS (fun r_12 σ_12 H locs hp hH hS => ?_)
    obtain ⟨hr1, hs1⟩ := hp
    subst hr1
    rw [hs1] at hH
    refine m_ifeqB (tgt := 22) hx hb dX2_isDecidedAt_15 (by decide) (fun c_15 => ?_) (fun c_15 => ?_)
    · refine lv_iconst (v := nI 0) hx hb dX2_isDecidedAt_22 (by decide) ?_
      exact m_zret hx hb hr hlk hH hS dX2_isDecidedAt_23 (by first | exact Or.inl rfl | exact Or.inr rfl | exact bI_01 _) (⟨bI_f (by unfold dcB; rw [c_6, c_15]; rfl), rfl⟩)
    · refine lv_iconst (v := nI 1) hx hb dX2_isDecidedAt_18 (by decide) ?_
      refine lv_goto (tgt := 23) hx hb dX2_isDecidedAt_19 (by decide) ?_
      exact m_zret hx hb hr hlk hH hS dX2_isDecidedAt_23 (by first | exact Or.inl rfl | exact Or.inr rfl | exact bI_01 _) (⟨bI_t (by unfold dcB; first | (rw [c_6]; rfl) | (rw [c_15, Bool.or_true])), rfl⟩)
set_option maxHeartbeats 4000000 in
set_option maxRecDepth 100000 in
theorem c_X2_openWays (l : Launch) (G : gG) (B : gB) (σ : gS) (hC : BkC B) (pn : Nat) (hpB : pn < B.2 50) (hP1 : WfP1 σ pn) (hR : PR σ pn) (k x : Nat) (hk : k ≤ stN σ pn) (hx60 : x ≤ 60) : Met l yX2_openWays [.code yX2_openWays cX2_openWays 3 (some .long)] ({ frames := 3, cells := 0, slots := 0, locals := 65 } : Room) (mPc G B σ [.ref (B.1 50 pn), .int (nI k), .int (nI x)]) (mQl G B (fun r σ' => r = lN (opw σ pn k x) ∧ σ' = σ)) 0 0 (mA G) := by
  refine m_start (by decide) (Nat.le_of_ble_eq_true rfl) ?_
  intro p e s m below meth c ⟨hx, hb, hr, hml, hown, hK, hlk, hz⟩ hH hS ls hl
  have hl : lv_has ls 3 [(0, .ref (B.1 50 pn)), (1, .int (nI k)), (2, .int (nI x))] := hl
  have hs4 := hP1.2.1
  refine lv_iload_n hx hb dX2_openWays_0 rfl (lv_at hl 1 rfl) ?_
  refine m_ifneN (tgt := 14) (by omega) hx hb dX2_openWays_1 (by decide) (fun c_1 => ?_) (fun c_1 => ?_)
  · have hkk : k = (k - 1) + 1 := by omega
    refine lv_aload_n hx hb dX2_openWays_14 rfl (lv_at hl 0 rfl) ?_
    refine lv_iload_n hx hb dX2_openWays_15 rfl (lv_at hl 1 rfl) ?_
    refine lv_iconst (v := nI 1) hx hb dX2_openWays_16 (by decide) ?_
    refine m_isubN (by omega) hx hb dX2_openWays_17 ?_
    refine lv_iload_n hx hb dX2_openWays_18 rfl (lv_at hl 2 rfl) ?_
    refine m_ki (m_runV (k := 50) (i := pn) (ci := 2) ⟨hx, hb, hml, hown, hz⟩ hK hH hS hpB rfl rfl (c_X2_isDecidedAt l G B σ hC pn hpB hP1 hR (k - 1) x (by omega) (by omega)) mw_X2_isDecidedAt wl_X2_58 ⟨rfl, rfl⟩ ⟨by decide, by decide⟩ rfl hl.1 rfl (Nat.le_of_ble_eq_true rfl) dX2_openWays_19 ⟨Nat.zero_le _, Nat.zero_le _⟩) hS (fun r_19 σ_19 H locs hp hH hS => ?_)
    obtain ⟨hr1, hs1⟩ := hp
    subst hr1
    rw [hs1] at hH
    refine m_ifeqB (tgt := 29) hx hb dX2_openWays_22 (by decide) (fun c_22 => ?_) (fun c_22 => ?_)
    · refine lv_aload_n hx hb dX2_openWays_29 rfl (lv_at hl 0 rfl) ?_
      refine gf_X2_26 hx hb hown hK hH hpB dX2_openWays_30 ?_
      refine lv_iload_n hx hb dX2_openWays_33 rfl (lv_at hl 1 rfl) ?_
      refine lv_iconst (v := nI 1) hx hb dX2_openWays_34 (by decide) ?_
      refine m_isubN (by omega) hx hb dX2_openWays_35 ?_
      refine m_aald hx hb hK hH (n := 4) 6 (bq hC 55 hpB) (fun _ _ => rfl) rfl rfl (k - 1) (rfl) (by omega) (by decide) (rfl) dX2_openWays_36 ?_
      refine lv_iload_n hx hb dX2_openWays_37 rfl (lv_at hl 2 rfl) ?_
      refine m_lald hx hb hK hH (n := 61) (bt hC hpB (by omega)) (fun _ _ => rfl) (x) (rfl) (by omega) (by decide) dX2_openWays_38 ?_
      refine m_toj (lN (rch σ pn (k - 1) x)) (hR.2.2.2 (k - 1) x (by omega) hx60) ?_
      exact m_lret hx hb hr hlk hH hS dX2_openWays_39 (⟨by rw [hkk]; show _ = lN (if dcB σ pn (k - 1) x then 0 else rch σ pn (k - 1) x); rw [c_22]; rfl, rfl⟩)
    · refine lv_lconst (v := lN 0) hx hb dX2_openWays_25 rfl ?_
      refine lv_goto (tgt := 39) hx hb dX2_openWays_26 (by decide) ?_
      exact m_lret hx hb hr hlk hH hS dX2_openWays_39 (⟨by rw [hkk]; show _ = lN (if dcB σ pn (k - 1) x then 0 else rch σ pn (k - 1) x); rw [c_22]; rfl, rfl⟩)
  · refine lv_iload_n hx hb dX2_openWays_4 rfl (lv_at hl 2 rfl) ?_
    refine m_ifneN (tgt := 12) (by omega) hx hb dX2_openWays_5 (by decide) (fun c_5 => ?_) (fun c_5 => ?_)
    · refine lv_lconst (v := lN 0) hx hb dX2_openWays_12 rfl ?_
      exact m_lret hx hb hr hlk hH hS dX2_openWays_13 (⟨by rw [c_1]; show _ = lN (if x = 0 then 1 else 0); first | rw [if_pos c_5] | rw [if_neg (by omega)], rfl⟩)
    · refine lv_lconst (v := lN 1) hx hb dX2_openWays_8 rfl ?_
      refine lv_goto (tgt := 13) hx hb dX2_openWays_9 (by decide) ?_
      exact m_lret hx hb hr hlk hH hS dX2_openWays_13 (⟨by rw [c_1]; show _ = lN (if x = 0 then 1 else 0); first | rw [if_pos c_5] | rw [if_neg (by omega)], rfl⟩)
