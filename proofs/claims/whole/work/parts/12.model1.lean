set_option maxHeartbeats 4000000 in
set_option maxRecDepth 100000 in
theorem c_X7_in (l : Launch) (G : gG) (B : gB) (σ : gS) (v lo hi : Int32) : Met l yX7_in [.code yX7_in cX7_in 3 (some .boolean)] ({ frames := 0, cells := 0, slots := 0, locals := 0 } : Room) (mPc G B σ [.int (v), .int (lo), .int (hi)]) (mQi G B (fun r σ' => r = bI (inR v lo hi) ∧ σ' = σ)) 0 0 (mA G) := by
  refine m_start (by decide) (Nat.le_of_ble_eq_true rfl) ?_
  intro p e s m below meth c ⟨hx, hb, hr, hml, hown, hK, hlk, hz⟩ hH hS ls hl
  have hl : lv_has ls 3 [(0, .int (v)), (1, .int (lo)), (2, .int (hi))] := hl
  refine lv_iload_n hx hb dX7_in_0 rfl (lv_at hl 0 rfl) ?_
  refine lv_iload_n hx hb dX7_in_1 rfl (lv_at hl 1 rfl) ?_
  refine lv_icmp_lt (tgt := 14) hx hb dX7_in_2 (by decide) (fun c_2 => ?_) (fun c_2 => ?_)
  · refine lv_iconst (v := nI 0) hx hb dX7_in_14 (by decide) ?_
    exact m_zret hx hb hr hlk hH hS dX7_in_15 (by first | exact Or.inl rfl | exact Or.inr rfl | exact bI_01 _) (⟨bI_f (by simp only [i_lt, i_le] at *; simp [inR]; omega), rfl⟩)
  · refine lv_iload_n hx hb dX7_in_5 rfl (lv_at hl 0 rfl) ?_
    refine lv_iload_n hx hb dX7_in_6 rfl (lv_at hl 2 rfl) ?_
    refine lv_icmp_gt (tgt := 14) hx hb dX7_in_7 (by decide) (fun c_7 => ?_) (fun c_7 => ?_)
    · refine lv_iconst (v := nI 0) hx hb dX7_in_14 (by decide) ?_
      exact m_zret hx hb hr hlk hH hS dX7_in_15 (by first | exact Or.inl rfl | exact Or.inr rfl | exact bI_01 _) (⟨bI_f (by simp only [i_lt, i_le] at *; simp [inR]; omega), rfl⟩)
    · refine lv_iconst (v := nI 1) hx hb dX7_in_10 (by decide) ?_
      refine lv_goto (tgt := 15) hx hb dX7_in_11 (by decide) ?_
      exact m_zret hx hb hr hlk hH hS dX7_in_15 (by first | exact Or.inl rfl | exact Or.inr rfl | exact bI_01 _) (⟨bI_t (by simp only [i_lt, i_le] at *; simp [inR]; omega), rfl⟩)
theorem ways_z {n : Nat} {k : Int32} (hn : n ≤ 60) (h : k.toInt < 0 ∨ (n : Int) < k.toInt) : (0 : Int64) = lN (chZ n k.toInt) := by
  unfold chZ
  rcases h with h | h
  · rw [if_pos h]; rfl
  · rw [if_neg (by omega), ch_big (by omega)]; rfl
theorem ways_v {σ : gS} {n q : Nat} {k : Int32} (hW : WfCh σ) (hn : n ≤ 60) (hq : q ≤ n) (h : (q : Int) = k.toInt) : σ.2 9 0 (61 * n + q) = lN (chZ n k.toInt) := by
  rw [hW n q hn hq]
  unfold chZ
  rw [if_neg (by omega), ← h]
  rfl
set_option maxHeartbeats 4000000 in
set_option maxRecDepth 100000 in
theorem c_X7_ways (l : Launch) (G : gG) (B : gB) (σ : gS) (hM : BkM B) (n : Nat) (k : Int32) (hn : n ≤ 60) (hW : WfCh σ) : Met l yX7_ways [.code yX7_ways cX7_ways 3 (some .long)] ({ frames := 0, cells := 0, slots := 0, locals := 0 } : Room) (mPc G B σ [.ref (B.1 0 0), .int (nI n), .int (k)]) (mQl G B (fun r σ' => r = lN (chZ n k.toInt) ∧ σ' = σ)) 0 0 (mA G) := by
  refine m_start (by decide) (Nat.le_of_ble_eq_true rfl) ?_
  intro p e s m below meth c ⟨hx, hb, hr, hml, hown, hK, hlk, hz⟩ hH hS ls hl
  have hl : lv_has ls 3 [(0, .ref (B.1 0 0)), (1, .int (nI n)), (2, .int (k))] := hl
  refine lv_iload_n hx hb dX7_ways_0 rfl (lv_at hl 2 rfl) ?_
  refine lv_if_lt (tgt := 9) hx hb dX7_ways_1 (by decide) (fun c_1 => ?_) (fun c_1 => ?_)
  · have hzz : k.toInt < 0 ∨ (n : Int) < k.toInt := by
      have e := nI_I (n := n) (by omega)
      simp only [i_lt, i_le, e, i0] at *
      omega
    refine lv_lconst (v := lN 0) hx hb dX7_ways_9 rfl ?_
    refine lv_goto (tgt := 24) hx hb dX7_ways_10 (by decide) ?_
    exact m_lret hx hb hr hlk hH hS dX7_ways_24 (⟨ways_z hn hzz, rfl⟩)
  · refine lv_iload_n hx hb dX7_ways_4 rfl (lv_at hl 2 rfl) ?_
    refine lv_iload_n hx hb dX7_ways_5 rfl (lv_at hl 1 rfl) ?_
    refine lv_icmp_le (tgt := 13) hx hb dX7_ways_6 (by decide) (fun c_6 => ?_) (fun c_6 => ?_)
    · have hk1 : 0 ≤ k.toInt ∧ k.toInt ≤ (n : Int) := by
        have e := nI_I (n := n) (by omega)
        simp only [i_lt, i_le, e, i0] at c_1 c_6
        omega
      obtain ⟨k1, k2⟩ := i_nat hk1.1
      obtain ⟨q, hq⟩ : ∃ q : Nat, q = k.toInt.toNat := ⟨_, rfl⟩
      rw [← hq] at k1 k2
      have hqn : q ≤ n := by omega
      have hl : lv_has ls 3 [(2, .int (nI q)), (0, .ref (B.1 0 0)), (1, .int (nI n))] := by rw [← k1]; exact lv_sub hl [2, 0, 1] rfl
      refine lv_aload_n hx hb dX7_ways_13 rfl (lv_at hl 1 rfl) ?_
      refine gf_X7_26 hx hb hown hK hH (bm hM 0) dX7_ways_14 ?_
      refine lv_bipush (v := nI 61) hx hb dX7_ways_17 (by decide) ?_
      refine lv_iload_n hx hb dX7_ways_19 rfl (lv_at hl 2 rfl) ?_
      refine m_imulN hx hb dX7_ways_20 ?_
      refine lv_iload_n hx hb dX7_ways_21 rfl (lv_at hl 0 rfl) ?_
      refine m_iaddN hx hb dX7_ways_22 ?_
      refine m_lald hx hb hK hH (n := 3721) (bm hM 9) (fun _ _ => rfl) (61 * n + q) (rfl) (by omega) (by decide) dX7_ways_23 ?_
      exact m_lret hx hb hr hlk hH hS dX7_ways_24 (⟨ways_v hW hn hqn k2, rfl⟩)
    · have hzz : k.toInt < 0 ∨ (n : Int) < k.toInt := by
        have e := nI_I (n := n) (by omega)
        simp only [i_lt, i_le, e, i0] at *
        omega
      refine lv_lconst (v := lN 0) hx hb dX7_ways_9 rfl ?_
      refine lv_goto (tgt := 24) hx hb dX7_ways_10 (by decide) ?_
      exact m_lret hx hb hr hlk hH hS dX7_ways_24 (⟨ways_z hn hzz, rfl⟩)
theorem inR_P {σ : gS} {x : Int32} (h : WfP σ) : inR x (nI 0) (σ.1 0 0 0 - nI 1) = isPl σ x := by
  unfold inR isPl
  have e := nI_I (n := nP σ) (by have := h.2.1; omega)
  have h2 := h.2.1
  rw [h.1, i_sub (by rw [e, n1I]; omega) (by rw [e, n1I]; omega), e, n1I, n0I]
  by_cases q : 0 ≤ x.toInt ∧ x.toInt < (nP σ : Int)
  · rw [decide_eq_true q, decide_eq_true (by omega)]
  · rw [decide_eq_false q, decide_eq_false (by omega)]
set_option maxHeartbeats 4000000 in
set_option maxRecDepth 100000 in
theorem c_X7_isPlan (l : Launch) (G : gG) (B : gB) (σ : gS) (hM : BkM B) (hW : WfP σ) (x : Int32) : Met l yX7_isPlan [.code yX7_isPlan cX7_isPlan 2 (some .boolean)] ({ frames := 1, cells := 0, slots := 0, locals := 22 } : Room) (mPc G B σ [.ref (B.1 0 0), .int (x)]) (mQi G B (fun r σ' => r = bI (isPl σ x) ∧ σ' = σ)) 0 0 (mA G) := by
  refine m_start (by decide) (Nat.le_of_ble_eq_true rfl) ?_
  intro p e s m below meth c ⟨hx, hb, hr, hml, hown, hK, hlk, hz⟩ hH hS ls hl
  have hl : lv_has ls 2 [(0, .ref (B.1 0 0)), (1, .int (x))] := hl
  refine lv_iload_n hx hb dX7_isPlan_0 rfl (lv_at hl 1 rfl) ?_
  refine lv_iconst (v := nI 0) hx hb dX7_isPlan_1 (by decide) ?_
  refine lv_aload_n hx hb dX7_isPlan_2 rfl (lv_at hl 0 rfl) ?_
  refine gf_X7_91 hx hb hown hK hH (bm hM 0) dX7_isPlan_3 ?_
  refine lv_iconst (v := nI 1) hx hb dX7_isPlan_6 (by decide) ?_
  refine lv_isub hx hb dX7_isPlan_7 ?_
  refine m_ki (m_runS ⟨hx, hb, hml, hown, hz⟩ hK hH hS (c_X7_in l G B σ x (nI 0) (σ.1 0 0 0 - nI 1)) mw_X7_in wl_X7_95 ⟨rfl, rfl⟩ ⟨by decide, by decide⟩ rfl hl.1 rfl (Nat.le_of_ble_eq_true rfl) dX7_isPlan_8 ⟨Nat.zero_le _, Nat.zero_le _⟩) hS (fun r_8 σ_8 H locs hp hH hS => ?_)
  obtain ⟨hr1, hs1⟩ := hp
  subst hr1
  rw [hs1] at hH
  exact m_zret hx hb hr hlk hH hS dX7_isPlan_11 (by first | exact Or.inl rfl | exact Or.inr rfl | exact bI_01 _) (⟨by rw [inR_P hW], rfl⟩)
theorem clo_ne {σ : gS} {p : Nat} (h : WfP1 σ p) (h0 : 0 < stN σ p) : (σ.1 6 0 (4 * p + stN σ p - 1) = σ.1 5 0 (4 * p + stN σ p - 1) + nI 1) ↔ clo σ p = true := by
  obtain ⟨-, -, h3, -⟩ := h
  have h4 := h3 (stN σ p - 1) (by omega)
  have e : 4 * p + stN σ p - 1 = 4 * p + (stN σ p - 1) := by omega
  unfold clo
  rw [e, i_eq, i_add (by rw [n1I]; have := h4.2.2.1; unfold acI at this; omega) (by rw [n1I]; have := h4.2.2.2.1; unfold acI at this; omega), n1I]
  constructor
  · intro q; exact decide_eq_true ⟨h0, q⟩
  · intro q; exact (of_decide_eq_true q).2
theorem clo_0 {σ : gS} {p : Nat} (h : nI (stN σ p) ≤ 0) (h4 : stN σ p ≤ 4) : clo σ p = false := by
  rw [i_le, nI_I (by omega), i0] at h
  exact decide_eq_false (by omega)
set_option maxHeartbeats 4000000 in
set_option maxRecDepth 100000 in
theorem c_X7_isClosed (l : Launch) (G : gG) (B : gB) (σ : gS) (hM : BkM B) (hW : WfP σ) (x : Int32) : Met l yX7_isClosed [.code yX7_isClosed cX7_isClosed 2 (some .boolean)] ({ frames := 2, cells := 0, slots := 0, locals := 43 } : Room) (mPc G B σ [.ref (B.1 0 0), .int (x)]) (mQi G B (fun r σ' => r = bI (isCl σ x) ∧ σ' = σ)) 0 0 (mA G) := by
  refine m_start (by decide) (Nat.le_of_ble_eq_true rfl) ?_
  intro p e s m below meth c ⟨hx, hb, hr, hml, hown, hK, hlk, hz⟩ hH hS ls hl
  have hl : lv_has ls 2 [(0, .ref (B.1 0 0)), (1, .int (x))] := hl
  refine lv_aload_n hx hb dX7_isClosed_0 rfl (lv_at hl 0 rfl) ?_
  refine lv_iload_n hx hb dX7_isClosed_1 rfl (lv_at hl 1 rfl) ?_
  refine m_ki (m_runV (k := 0) (i := 0) (ci := 7) ⟨hx, hb, hml, hown, hz⟩ hK hH hS (bm hM 0) rfl rfl (c_X7_isPlan l G B σ hM hW x) mw_X7_isPlan wl_X7_99 ⟨rfl, rfl⟩ ⟨by decide, by decide⟩ rfl hl.1 rfl (Nat.le_of_ble_eq_true rfl) dX7_isClosed_2 ⟨Nat.zero_le _, Nat.zero_le _⟩) hS (fun r_2 σ_2 H locs hp hH hS => ?_)
  obtain ⟨hr1, hs1⟩ := hp
  subst hr1
  rw [hs1] at hH
  refine m_ifeqB (tgt := 60) hx hb dX7_isClosed_5 (by decide) (fun c_5 => ?_) (fun c_5 => ?_)
  · refine lv_iconst (v := nI 0) hx hb dX7_isClosed_60 (by decide) ?_
    exact m_zret hx hb hr hlk hH hS dX7_isClosed_61 (by first | exact Or.inl rfl | exact Or.inr rfl | exact bI_01 _) (⟨bI_f (by first | (unfold isCl; rw [c_5]; rfl) | (rw [isCl_nI hpn h24]; exact clo_0 c_14 hs4) | (rw [isCl_nI hpn h24]; exact Bool.eq_false_iff.mpr (fun q => c_53 ((clo_ne hP h0).mpr q)))), rfl⟩)
  · obtain ⟨pn, hpn, rfl⟩ := isPl_t c_5
    have hP := hW.2.2 pn hpn
    have h24 := hW.2.1
    have hs4 := hP.2.1
    refine lv_aload_n hx hb dX7_isClosed_8 rfl (lv_at hl 0 rfl) ?_
    refine gf_X7_7 hx hb hown hK hH (bm hM 0) dX7_isClosed_9 ?_
    refine lv_iload_n hx hb dX7_isClosed_12 rfl (lv_at hl 1 rfl) ?_
    refine m_iald hx hb hK hH (n := 24) (bm hM 3) (fun _ _ => rfl) (pn) (rfl) (by omega) (by decide) dX7_isClosed_13 ?_
    refine m_toi (stN σ pn) (hP.1) ?_
    refine lv_if_le (tgt := 60) hx hb dX7_isClosed_14 (by decide) (fun c_14 => ?_) (fun c_14 => ?_)
    · refine lv_iconst (v := nI 0) hx hb dX7_isClosed_60 (by decide) ?_
      exact m_zret hx hb hr hlk hH hS dX7_isClosed_61 (by first | exact Or.inl rfl | exact Or.inr rfl | exact bI_01 _) (⟨bI_f (by first | (unfold isCl; rw [c_5]; rfl) | (rw [isCl_nI hpn h24]; exact clo_0 c_14 hs4) | (rw [isCl_nI hpn h24]; exact Bool.eq_false_iff.mpr (fun q => c_53 ((clo_ne hP h0).mpr q)))), rfl⟩)
    · have h0 : 0 < stN σ pn := by
        have e := nI_I (n := stN σ pn) (by omega)
        simp only [i_le, e, i0] at c_14
        omega
      refine lv_aload_n hx hb dX7_isClosed_17 rfl (lv_at hl 0 rfl) ?_
      refine gf_X7_19 hx hb hown hK hH (bm hM 0) dX7_isClosed_18 ?_
      refine lv_iconst (v := nI 4) hx hb dX7_isClosed_21 (by decide) ?_
      refine lv_iload_n hx hb dX7_isClosed_22 rfl (lv_at hl 1 rfl) ?_
      refine m_imulN hx hb dX7_isClosed_23 ?_
      refine lv_aload_n hx hb dX7_isClosed_24 rfl (lv_at hl 0 rfl) ?_
      refine gf_X7_7 hx hb hown hK hH (bm hM 0) dX7_isClosed_25 ?_
      refine lv_iload_n hx hb dX7_isClosed_28 rfl (lv_at hl 1 rfl) ?_
      refine m_iald hx hb hK hH (n := 24) (bm hM 3) (fun _ _ => rfl) (pn) (rfl) (by omega) (by decide) dX7_isClosed_29 ?_
      refine m_toi (stN σ pn) (hP.1) ?_
      refine m_iaddN hx hb dX7_isClosed_30 ?_
      refine lv_iconst (v := nI 1) hx hb dX7_isClosed_31 (by decide) ?_
      refine m_isubN (by omega) hx hb dX7_isClosed_32 ?_
      refine m_iald hx hb hK hH (n := 96) (bm hM 6) (fun _ _ => rfl) ((4 * pn + (stN σ pn)) - 1) (rfl) (by omega) (by decide) dX7_isClosed_33 ?_
      refine lv_aload_n hx hb dX7_isClosed_34 rfl (lv_at hl 0 rfl) ?_
      refine gf_X7_16 hx hb hown hK hH (bm hM 0) dX7_isClosed_35 ?_
      refine lv_iconst (v := nI 4) hx hb dX7_isClosed_38 (by decide) ?_
      refine lv_iload_n hx hb dX7_isClosed_39 rfl (lv_at hl 1 rfl) ?_
      refine m_imulN hx hb dX7_isClosed_40 ?_
      refine lv_aload_n hx hb dX7_isClosed_41 rfl (lv_at hl 0 rfl) ?_
      refine gf_X7_7 hx hb hown hK hH (bm hM 0) dX7_isClosed_42 ?_
      refine lv_iload_n hx hb dX7_isClosed_45 rfl (lv_at hl 1 rfl) ?_
      refine m_iald hx hb hK hH (n := 24) (bm hM 3) (fun _ _ => rfl) (pn) (rfl) (by omega) (by decide) dX7_isClosed_46 ?_
      refine m_toi (stN σ pn) (hP.1) ?_
      refine m_iaddN hx hb dX7_isClosed_47 ?_
      refine lv_iconst (v := nI 1) hx hb dX7_isClosed_48 (by decide) ?_
      refine m_isubN (by omega) hx hb dX7_isClosed_49 ?_
      refine m_iald hx hb hK hH (n := 96) (bm hM 5) (fun _ _ => rfl) ((4 * pn + (stN σ pn)) - 1) (rfl) (by omega) (by decide) dX7_isClosed_50 ?_
      refine lv_iconst (v := nI 1) hx hb dX7_isClosed_51 (by decide) ?_
      refine lv_iadd hx hb dX7_isClosed_52 ?_
      refine lv_icmp_ne (tgt := 60) hx hb dX7_isClosed_53 (by decide) (fun c_53 => ?_) (fun c_53 => ?_)
      · refine lv_iconst (v := nI 0) hx hb dX7_isClosed_60 (by decide) ?_
        exact m_zret hx hb hr hlk hH hS dX7_isClosed_61 (by first | exact Or.inl rfl | exact Or.inr rfl | exact bI_01 _) (⟨bI_f (by first | (unfold isCl; rw [c_5]; rfl) | (rw [isCl_nI hpn h24]; exact clo_0 c_14 hs4) | (rw [isCl_nI hpn h24]; exact Bool.eq_false_iff.mpr (fun q => c_53 ((clo_ne hP h0).mpr q)))), rfl⟩)
      · refine lv_iconst (v := nI 1) hx hb dX7_isClosed_56 (by decide) ?_
        refine lv_goto (tgt := 61) hx hb dX7_isClosed_57 (by decide) ?_
        exact m_zret hx hb hr hlk hH hS dX7_isClosed_61 (by first | exact Or.inl rfl | exact Or.inr rfl | exact bI_01 _) (⟨bI_t (by rw [isCl_nI hpn h24]; exact (clo_ne hP h0).mp c_53), rfl⟩)
set_option maxHeartbeats 4000000 in
set_option maxRecDepth 100000 in
theorem c_X7_upTo (l : Launch) (G : gG) (B : gB) (σ : gS) (hM : BkM B) (pn k : Nat) (hp : pn < 24) (hP : WfP1 σ pn) (hk : k ≤ stN σ pn) : Met l yX7_upTo [.code yX7_upTo cX7_upTo 5 (some .int)] ({ frames := 0, cells := 0, slots := 0, locals := 0 } : Room) (mPc G B σ [.ref (B.1 0 0), .int (nI pn), .int (nI k - 1)]) (mQi G B (fun r σ' => r = nI (tot σ pn k) ∧ σ' = σ)) 0 0 (mA G) := by
  refine m_start (by decide) (Nat.le_of_ble_eq_true rfl) ?_
  intro p e s m below meth c ⟨hx, hb, hr, hml, hown, hK, hlk, hz⟩ hH hS ls hl
  have hl : lv_has ls 5 [(0, .ref (B.1 0 0)), (1, .int (nI pn)), (2, .int (nI k - 1))] := hl
  have hk4 := hP.2.1
  have loop : ∀ (n : Nat) (j : Nat), j ≤ k ∧ k < j + n → ∀ (ls : Array Slot), lv_has ls 5 [(0, .ref (B.1 0 0)), (1, .int (nI pn)), (2, .int (nI k - 1)), (3, .int (nI (tot σ pn j))), (4, .int (nI j))] → W p l e ({ frames := 0, cells := 0, slots := 0, locals := 0 } : Room) s m ([.ref (B.1 0 0), .int (nI pn), .int (nI k - 1)] : List Value).toArray below meth c s.heap [] 0 0 (MQ below (mQi G B (fun r σ' => r = nI (tot σ pn k) ∧ σ' = σ)) ([.ref (B.1 0 0), .int (nI pn), .int (nI k - 1)] : List Value).toArray s 0 0 (mA G)) (F0 m 5 ls []) := by
    intro n
    induction n with
    | zero => intro j hh; exfalso; omega
    | succ n ih =>
      intro j hh ls hl
      refine lv_iload hx hb dX7_upTo_5 (lv_at hl 4 rfl) ?_
      refine lv_iload_n hx hb dX7_upTo_7 rfl (lv_at hl 2 rfl) ?_
      refine lv_icmp_gt (tgt := 31) hx hb dX7_upTo_8 (by decide) (fun c_8 => ?_) (fun c_8 => ?_)
      · have hj : j = k := by
          have e1 := nI_I (n := j) (by omega)
          have e2 := nI_I (n := k) (by omega)
          have e3 : (nI k - 1).toInt = (k : Int) - 1 := by rw [i_sub (by rw [e2, show (1 : Int32).toInt = 1 from rfl]; omega) (by rw [e2, show (1 : Int32).toInt = 1 from rfl]; omega), e2]; rfl
          simp only [i_lt, e1, e3] at c_8
          omega
        refine lv_iload_n hx hb dX7_upTo_31 rfl (lv_at hl 3 rfl) ?_
        exact m_iret hx hb hr hlk hH hS dX7_upTo_32 (⟨by rw [hj], rfl⟩)
      · have hj : j < k := by
          have e1 := nI_I (n := j) (by omega)
          have e2 := nI_I (n := k) (by omega)
          have e3 : (nI k - 1).toInt = (k : Int) - 1 := by rw [i_sub (by rw [e2, show (1 : Int32).toInt = 1 from rfl]; omega) (by rw [e2, show (1 : Int32).toInt = 1 from rfl]; omega), e2]; rfl
          simp only [i_lt, e1, e3] at c_8
          omega
        refine lv_iload_n hx hb dX7_upTo_11 rfl (lv_at hl 3 rfl) ?_
        refine lv_aload_n hx hb dX7_upTo_12 rfl (lv_at hl 0 rfl) ?_
        refine gf_X7_13 hx hb hown hK hH (bm hM 0) dX7_upTo_13 ?_
        refine lv_iconst (v := nI 4) hx hb dX7_upTo_16 (by decide) ?_
        refine lv_iload_n hx hb dX7_upTo_17 rfl (lv_at hl 1 rfl) ?_
        refine m_imulN hx hb dX7_upTo_18 ?_
        refine lv_iload hx hb dX7_upTo_19 (lv_at hl 4 rfl) ?_
        refine m_iaddN hx hb dX7_upTo_21 ?_
        refine m_iald hx hb hK hH (n := 96) (bm hM 4) (fun _ _ => rfl) (4 * pn + j) (rfl) (by omega) (by decide) dX7_upTo_22 ?_
        refine m_toi (szN σ pn j) ((hP.2.2.1 j (by omega)).1) ?_
        refine m_iaddN hx hb dX7_upTo_23 ?_
        refine lv_istore_n (lv' := [(3, .int (nI (tot σ pn j + (szN σ pn j)))), (0, .ref (B.1 0 0)), (1, .int (nI pn)), (2, .int (nI k - 1)), (4, .int (nI j))]) hx hb dX7_upTo_24 rfl hl (by decide) rfl (fun ls hl => ?_)
        refine lv_iinc (v := nI (j + 1)) (lv' := [(4, .int (nI (j + 1))), (3, .int (nI (tot σ pn j + (szN σ pn j)))), (0, .ref (B.1 0 0)), (1, .int (nI pn)), (2, .int (nI k - 1))]) hx hb dX7_upTo_25 hl (k := 4) rfl (nI_1 _) (by decide) rfl (fun ls hl => ?_)
        refine lv_goto (tgt := 5) hx hb dX7_upTo_28 (by decide) ?_
        exact ih (j + 1) (by omega) ls (lv_sub hl [2, 3, 4, 1, 0] rfl)
  refine lv_iconst (v := nI 0) hx hb dX7_upTo_0 (by decide) ?_
  refine lv_istore_n (lv' := [(3, .int (nI 0)), (0, .ref (B.1 0 0)), (1, .int (nI pn)), (2, .int (nI k - 1))]) hx hb dX7_upTo_1 rfl hl (by decide) rfl (fun ls hl => ?_)
  refine lv_iconst (v := nI 0) hx hb dX7_upTo_2 (by decide) ?_
  refine lv_istore (lv' := [(4, .int (nI 0)), (3, .int (nI 0)), (0, .ref (B.1 0 0)), (1, .int (nI pn)), (2, .int (nI k - 1))]) hx hb dX7_upTo_3 hl (by decide) rfl (fun ls hl => ?_)
  exact loop (k + 1) 0 (by omega) ls (lv_sub hl [2, 3, 4, 1, 0] rfl)
set_option maxHeartbeats 4000000 in
set_option maxRecDepth 100000 in
theorem c_X7_all (l : Launch) (G : gG) (B : gB) (σ : gS) (hM : BkM B) (pn : Nat) (hp : pn < 24) (hP : WfP1 σ pn) : Met l yX7_all [.code yX7_all cX7_all 2 (some .int)] ({ frames := 1, cells := 0, slots := 0, locals := 24 } : Room) (mPc G B σ [.ref (B.1 0 0), .int (nI pn)]) (mQi G B (fun r σ' => r = nI (tot σ pn (stN σ pn)) ∧ σ' = σ)) 0 0 (mA G) := by
  refine m_start (by decide) (Nat.le_of_ble_eq_true rfl) ?_
  intro p e s m below meth c ⟨hx, hb, hr, hml, hown, hK, hlk, hz⟩ hH hS ls hl
  have hl : lv_has ls 2 [(0, .ref (B.1 0 0)), (1, .int (nI pn))] := hl
  refine lv_aload_n hx hb dX7_all_0 rfl (lv_at hl 0 rfl) ?_
  refine lv_iload_n hx hb dX7_all_1 rfl (lv_at hl 1 rfl) ?_
  refine lv_aload_n hx hb dX7_all_2 rfl (lv_at hl 0 rfl) ?_
  refine gf_X7_7 hx hb hown hK hH (bm hM 0) dX7_all_3 ?_
  refine lv_iload_n hx hb dX7_all_6 rfl (lv_at hl 1 rfl) ?_
  refine m_iald hx hb hK hH (n := 24) (bm hM 3) (fun _ _ => rfl) (pn) (rfl) (by omega) (by decide) dX7_all_7 ?_
  refine m_toi (stN σ pn) (hP.1) ?_
  refine lv_iconst (v := nI 1) hx hb dX7_all_8 (by decide) ?_
  refine lv_isub hx hb dX7_all_9 ?_
  refine m_ki (m_runV (k := 0) (i := 0) (ci := 7) ⟨hx, hb, hml, hown, hz⟩ hK hH hS (bm hM 0) rfl rfl (c_X7_upTo l G B σ hM pn (stN σ pn) hp hP (Nat.le_refl _)) mw_X7_upTo wl_X7_103 ⟨rfl, rfl⟩ ⟨by decide, by decide⟩ rfl hl.1 rfl (Nat.le_of_ble_eq_true rfl) dX7_all_10 ⟨Nat.zero_le _, Nat.zero_le _⟩) hS (fun r_10 σ_10 H locs hp hH hS => ?_)
  obtain ⟨hr1, hs1⟩ := hp
  subst hr1
  rw [hs1] at hH
  exact m_iret hx hb hr hlk hH hS dX7_all_13 (⟨rfl, rfl⟩)
def fitb (σ : gS) (x n : Int32) : Bool := isCl σ x && decide (1 ≤ n.toInt ∧ n.toInt ≤ 60 ∧ (tot σ x.toNatClampNeg (stN σ x.toNatClampNeg) : Int) ≤ n.toInt)
