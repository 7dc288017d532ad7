set_option maxHeartbeats 4000000 in
set_option maxRecDepth 100000 in
theorem c_X7_item (l : Launch) (G : gG) (B : gB) (σ : gS) (hM : BkM B) (hP : WfP σ) (hWS : WfS σ) (hL : WfL σ) (hRun : RunOK σ) (x v : Int32) : Met l yX7_item [.code yX7_item cX7_item 3 (some .int)] ({ frames := 4, cells := 0, slots := 0, locals := 91 } : Room) (mPc G B σ [.ref (B.1 0 0), .int (x), .int (v)]) (mQi G B (fun r τ => r = (if itOK σ x v = true then nI (jq (itUp σ x.toNatClampNeg v) x.toNatClampNeg).1 else -2) ∧ Sm (if itOK σ x v = true then hrs (itUp σ x.toNatClampNeg v) x.toNatClampNeg else σ) τ)) 0 0 (mA G) := by
  refine m_start (by decide) (Nat.le_of_ble_eq_true rfl) ?_
  intro p e s m below meth c ⟨hx, hb, hr, hml, hown, hK, hlk, hz⟩ hH hS ls hl
  have hl : lv_has ls 3 [(0, .ref (B.1 0 0)), (1, .int (x)), (2, .int (v))] := hl
  refine lv_aload_n hx hb dX7_item_0 rfl (lv_at hl 0 rfl) ?_
  refine lv_iload_n hx hb dX7_item_1 rfl (lv_at hl 1 rfl) ?_
  refine m_ki (m_runV (k := 0) (i := 0) (ci := 7) ⟨hx, hb, hml, hown, hz⟩ hK hH hS (bm hM 0) rfl rfl (c_X7_isOpen l G B σ hM hP hL x) mw_X7_isOpen wl_X7_198 ⟨rfl, rfl⟩ ⟨by decide, by decide⟩ rfl hl.1 rfl (Nat.le_of_ble_eq_true rfl) dX7_item_2 ⟨Nat.zero_le _, Nat.zero_le _⟩) hS (fun r_2 σ_2 H locs hp hH hS => ?_)
  obtain ⟨hr1, hsm⟩ := hp
  subst hr1
  refine m_ifeqB (tgt := 17) hx hb dX7_item_5 (by decide) (fun c_5 => ?_) (fun c_5 => ?_)
  · have hno : itOK σ (x) v = false := by
      unfold itOK
      first
        | (rw [c_5]; rfl)
        | (have h9 := inR_f c_14; rw [n0I, n3I] at h9; rw [decide_eq_false h9, Bool.and_false])
    refine lv_bipush (v := (-2)) hx hb dX7_item_17 (by decide) ?_
    exact m_iret hx hb hr hlk hH hS dX7_item_19 (⟨by rw [hno]; rfl, by rw [hno]; exact hsm⟩)
  · skip
    refine lv_iload_n hx hb dX7_item_8 rfl (lv_at hl 2 rfl) ?_
    refine lv_iconst (v := nI 0) hx hb dX7_item_9 (by decide) ?_
    refine lv_iconst (v := nI 3) hx hb dX7_item_10 (by decide) ?_
    refine m_ki (m_runS ⟨hx, hb, hml, hown, hz⟩ hK hH hS (c_X7_in l G B σ_2 v (nI 0) (nI 3)) mw_X7_in wl_X7_95 ⟨rfl, rfl⟩ ⟨by decide, by decide⟩ rfl hl.1 rfl (Nat.le_of_ble_eq_true rfl) dX7_item_11 ⟨Nat.zero_le _, Nat.zero_le _⟩) hS (fun r_11 σ_11 H locs hp hH hS => ?_)
    obtain ⟨hr1, hs1⟩ := hp
    subst hr1
    rw [hs1] at hH
    refine m_ifneB (tgt := 20) hx hb dX7_item_14 (by decide) (fun c_14 => ?_) (fun c_14 => ?_)
    · obtain ⟨qn, hqn, he, hop⟩ := opn_t hL.2.1 c_5
      subst he
      have hl60 := hL.2.1
      have hL1 := hL.2.2 qn hqn
      have hsn := lSn_lt hP hL1 hop
      have h9 := inR_t c_14; rw [n0I, n3I] at h9
      have hyes : itOK σ (nI qn) v = true := by
        unfold itOK
        rw [c_5, decide_eq_true h9]
        rfl
      obtain ⟨v1, v2⟩ := i_nat h9.1
      obtain ⟨vn, hvn⟩ : ∃ z : Nat, z = v.toInt.toNat := ⟨_, rfl⟩
      rw [← hvn] at v1 v2
      have hv3 : vn ≤ 3 := by omega
      clear c_14 h9 hvn v2
      subst v1
      refine lv_aload_n hx hb dX7_item_20 rfl (lv_at hl 0 rfl) ?_
      refine gf_X7_73 hx hb hown hK hH (bm hM 0) dX7_item_21 ?_
      refine lv_bipush (v := nI 60) hx hb dX7_item_24 (by decide) ?_
      refine lv_iload_n hx hb dX7_item_26 rfl (lv_at hl 1 rfl) ?_
      refine m_imulN hx hb dX7_item_27 ?_
      refine lv_aload_n hx hb dX7_item_28 rfl (lv_at hl 0 rfl) ?_
      refine gf_X7_70 hx hb hown hK hH (bm hM 0) dX7_item_29 ?_
      refine lv_iload_n hx hb dX7_item_32 rfl (lv_at hl 1 rfl) ?_
      refine m_iald hx hb hK hH (n := 60) (bm hM 23) (fun _ _ => rfl) (qn) (rfl) (by omega) (by decide) dX7_item_33 ?_
      refine m_toi (lSn σ qn) ((hsm.rd 23 0 qn rfl).trans hL1.2.2.2.2.2.2.2.1) ?_
      refine m_iaddN hx hb dX7_item_34 ?_
      refine lv_iload_n hx hb dX7_item_35 rfl (lv_at hl 2 rfl) ?_
      refine m_iast hx hb hK hH hS (n := 3600) (bm hM 24) (fun _ _ => rfl) (60 * qn + (lSn σ qn)) (rfl) (by omega) (by decide) dX7_item_36 (fun H locs hH hS => ?_)
      refine lv_aload_n hx hb dX7_item_37 rfl (lv_at hl 0 rfl) ?_
      refine gf_X7_70 hx hb hown hK hH (bm hM 0) dX7_item_38 ?_
      refine lv_iload_n hx hb dX7_item_41 rfl (lv_at hl 1 rfl) ?_
      refine lv_dup2_11 hx hb dX7_item_42 rfl rfl ?_
      refine m_iald hx hb hK hH (n := 60) (bm hM 23) (fun _ _ => rfl) (qn) (rfl) (by omega) (by decide) dX7_item_43 ?_
      refine m_toi (lSn σ qn) (by rw [sI_at, if_neg (by omega)]; exact (hsm.rd 23 0 qn rfl).trans hL1.2.2.2.2.2.2.2.1) ?_
      refine lv_iconst (v := nI 1) hx hb dX7_item_44 (by decide) ?_
      refine m_iaddN hx hb dX7_item_45 ?_
      refine m_iast hx hb hK hH hS (n := 60) (bm hM 23) (fun _ _ => rfl) (qn) (rfl) (by omega) (by decide) dX7_item_46 (fun H locs hH hS => ?_)
      have hsm1 : Sm (itUp σ qn (nI vn)) (sI (sI σ_2 24 0 (60 * qn + lSn σ qn) (nI vn)) 23 0 qn (nI (lSn σ qn + 1))) := (hsm.put 24 0 _ _).put 23 0 _ _
      have hJ1 := hsm1.jh (it_JH hP (by omega) hL1 hop hv3)
      refine lv_aload_n hx hb dX7_item_47 rfl (lv_at hl 0 rfl) ?_
      refine lv_iload_n hx hb dX7_item_48 rfl (lv_at hl 1 rfl) ?_
      refine m_ki (m_runV (k := 0) (i := 0) (ci := 7) ⟨hx, hb, hml, hown, hz⟩ hK hH hS (bm hM 0) rfl rfl (c_X7_hears l G B (sI (sI σ_2 24 0 (60 * qn + lSn σ qn) (nI vn)) 23 0 qn (nI (lSn σ qn + 1))) hM (hsm1.wfS (itUp_S hWS)) qn (by rw [hsm1.lPlE, hsm1.lSnE]; exact hJ1) (by rw [hsm1.lSuE]; exact (hsm1.rd 19 0 qn rfl).trans hL1.1) (by rw [hsm1.lSuE, hsm1.nSE]; exact hL1.2.1) (by rw [hsm1.lSuE, hsm1.rnE]; exact hRun qn hqn hop)) mw_X7_hears wl_X7_201 ⟨rfl, rfl⟩ ⟨by decide, by decide⟩ rfl hl.1 rfl (Nat.le_of_ble_eq_true rfl) dX7_item_49 ⟨Nat.zero_le _, Nat.zero_le _⟩) hS (fun r_49 σ_49 H locs hp hH hS => ?_)
      obtain ⟨hr1, hs9⟩ := hp
      rw [hsm1.jqE] at hr1
      have hfin := (hsm1.hrsm qn).tr hs9
      subst hr1
      exact m_iret hx hb hr hlk hH hS dX7_item_52 (⟨by rw [if_pos hyes, nI_clamp (by omega)], by rw [if_pos hyes, nI_clamp (by omega)]; exact hfin⟩)
    · have hno : itOK σ (x) v = false := by
        unfold itOK
        first
          | (rw [c_5]; rfl)
          | (have h9 := inR_f c_14; rw [n0I, n3I] at h9; rw [decide_eq_false h9, Bool.and_false])
      refine lv_bipush (v := (-2)) hx hb dX7_item_17 (by decide) ?_
      exact m_iret hx hb hr hlk hH hS dX7_item_19 (⟨by rw [hno]; rfl, by rw [hno]; exact hsm⟩)
set_option maxHeartbeats 4000000 in
set_option maxRecDepth 100000 in
theorem c_X7_correct (l : Launch) (G : gG) (B : gB) (σ : gS) (hM : BkM B) (hP : WfP σ) (hWS : WfS σ) (hL : WfL σ) (hRun : RunOK σ) (x k v : Int32) : Met l yX7_correct [.code yX7_correct cX7_correct 4 (some .int)] ({ frames := 4, cells := 0, slots := 0, locals := 91 } : Room) (mPc G B σ [.ref (B.1 0 0), .int (x), .int (k), .int (v)]) (mQi G B (fun r τ => r = (if ctOK σ x k v = true then nI (jq (coUp σ x.toNatClampNeg k.toNatClampNeg v) x.toNatClampNeg).1 else -2) ∧ Sm (if ctOK σ x k v = true then hrs (coUp σ x.toNatClampNeg k.toNatClampNeg v) x.toNatClampNeg else σ) τ)) 0 0 (mA G) := by
  refine m_start (by decide) (Nat.le_of_ble_eq_true rfl) ?_
  intro p e s m below meth c ⟨hx, hb, hr, hml, hown, hK, hlk, hz⟩ hH hS ls hl
  have hl : lv_has ls 4 [(0, .ref (B.1 0 0)), (1, .int (x)), (2, .int (k)), (3, .int (v))] := hl
  refine lv_aload_n hx hb dX7_correct_0 rfl (lv_at hl 0 rfl) ?_
  refine lv_iload_n hx hb dX7_correct_1 rfl (lv_at hl 1 rfl) ?_
  refine m_ki (m_runV (k := 0) (i := 0) (ci := 7) ⟨hx, hb, hml, hown, hz⟩ hK hH hS (bm hM 0) rfl rfl (c_X7_isOpen l G B σ hM hP hL x) mw_X7_isOpen wl_X7_198 ⟨rfl, rfl⟩ ⟨by decide, by decide⟩ rfl hl.1 rfl (Nat.le_of_ble_eq_true rfl) dX7_correct_2 ⟨Nat.zero_le _, Nat.zero_le _⟩) hS (fun r_2 σ_2 H locs hp hH hS => ?_)
  obtain ⟨hr1, hsm⟩ := hp
  subst hr1
  refine m_ifeqB (tgt := 33) hx hb dX7_correct_5 (by decide) (fun c_5 => ?_) (fun c_5 => ?_)
  · have hno : ctOK σ (x) k v = false := by
      unfold ctOK
      first
        | (rw [c_5]; rfl)
        | (have h9 := of_decide_eq_false c_21; rw [nI_clamp (by omega), decide_eq_false (fun z => h9 z.1), Bool.and_false])
        | (have h9 := inR_f c_30; rw [n0I, n3I] at h9; rw [decide_eq_false (fun z => h9 z.2), Bool.and_false])
    refine lv_bipush (v := (-2)) hx hb dX7_correct_33 (by decide) ?_
    exact m_iret hx hb hr hlk hH hS dX7_correct_35 (⟨by rw [hno]; rfl, by rw [hno]; exact hsm⟩)
  · obtain ⟨qn, hqn, he, hop⟩ := opn_t hL.2.1 c_5
    subst he
    have hl60 := hL.2.1
    have hL1 := hL.2.2 qn hqn
    have hsn := lSn_lt hP hL1 hop
    refine lv_iload_n hx hb dX7_correct_8 rfl (lv_at hl 2 rfl) ?_
    refine lv_iconst (v := nI 0) hx hb dX7_correct_9 (by decide) ?_
    refine lv_aload_n hx hb dX7_correct_10 rfl (lv_at hl 0 rfl) ?_
    refine gf_X7_70 hx hb hown hK hH (bm hM 0) dX7_correct_11 ?_
    refine lv_iload_n hx hb dX7_correct_14 rfl (lv_at hl 1 rfl) ?_
    refine m_iald hx hb hK hH (n := 60) (bm hM 23) (fun _ _ => rfl) (qn) (rfl) (by omega) (by decide) dX7_correct_15 ?_
    refine m_toi (lSn σ qn) ((hsm.rd 23 0 qn rfl).trans hL1.2.2.2.2.2.2.2.1) ?_
    refine lv_iconst (v := nI 1) hx hb dX7_correct_16 (by decide) ?_
    refine lv_isub hx hb dX7_correct_17 ?_
    refine m_ki (m_runS ⟨hx, hb, hml, hown, hz⟩ hK hH hS (c_X7_in l G B σ_2 k (nI 0) (nI (lSn σ qn) - nI 1)) mw_X7_in wl_X7_95 ⟨rfl, rfl⟩ ⟨by decide, by decide⟩ rfl hl.1 rfl (Nat.le_of_ble_eq_true rfl) dX7_correct_18 ⟨Nat.zero_le _, Nat.zero_le _⟩) hS (fun r_18 σ_18 H locs hp hH hS => ?_)
    obtain ⟨hr1, hs1⟩ := hp
    rw [hs1] at hH
    rw [inR_n (by omega)] at hr1
    subst hr1
    refine m_ifeqB (tgt := 33) hx hb dX7_correct_21 (by decide) (fun c_21 => ?_) (fun c_21 => ?_)
    · have hno : ctOK σ (nI qn) k v = false := by
        unfold ctOK
        first
          | (rw [c_5]; rfl)
          | (have h9 := of_decide_eq_false c_21; rw [nI_clamp (by omega), decide_eq_false (fun z => h9 z.1), Bool.and_false])
          | (have h9 := inR_f c_30; rw [n0I, n3I] at h9; rw [decide_eq_false (fun z => h9 z.2), Bool.and_false])
      refine lv_bipush (v := (-2)) hx hb dX7_correct_33 (by decide) ?_
      exact m_iret hx hb hr hlk hH hS dX7_correct_35 (⟨by rw [hno]; rfl, by rw [hno]; exact hsm⟩)
    · refine lv_iload_n hx hb dX7_correct_24 rfl (lv_at hl 3 rfl) ?_
      refine lv_iconst (v := nI 0) hx hb dX7_correct_25 (by decide) ?_
      refine lv_iconst (v := nI 3) hx hb dX7_correct_26 (by decide) ?_
      refine m_ki (m_runS ⟨hx, hb, hml, hown, hz⟩ hK hH hS (c_X7_in l G B σ_2 v (nI 0) (nI 3)) mw_X7_in wl_X7_95 ⟨rfl, rfl⟩ ⟨by decide, by decide⟩ rfl hl.1 rfl (Nat.le_of_ble_eq_true rfl) dX7_correct_27 ⟨Nat.zero_le _, Nat.zero_le _⟩) hS (fun r_27 σ_27 H locs hp hH hS => ?_)
      obtain ⟨hr1, hs1⟩ := hp
      subst hr1
      rw [hs1] at hH
      refine m_ifneB (tgt := 36) hx hb dX7_correct_30 (by decide) (fun c_30 => ?_) (fun c_30 => ?_)
      · have h9 := inR_t c_30; rw [n0I, n3I] at h9
        have h8 := of_decide_eq_true c_21
        have hyes : ctOK σ (nI qn) k v = true := by
          unfold ctOK
          rw [c_5, nI_clamp (by omega), decide_eq_true ⟨h8, h9⟩]
          rfl
        obtain ⟨v1, v2⟩ := i_nat h9.1
        obtain ⟨vn, hvn⟩ : ∃ z : Nat, z = v.toInt.toNat := ⟨_, rfl⟩
        rw [← hvn] at v1 v2
        have hv3 : vn ≤ 3 := by omega
        obtain ⟨k1, k2⟩ := i_nat h8.1
        obtain ⟨kn, hkn⟩ : ∃ z : Nat, z = k.toInt.toNat := ⟨_, rfl⟩
        rw [← hkn] at k1 k2
        have hk3 : kn < lSn σ qn := by omega
        clear c_30 c_21 h8 h9 hvn v2 hkn k2
        subst v1
        subst k1
        refine lv_aload_n hx hb dX7_correct_36 rfl (lv_at hl 0 rfl) ?_
        refine gf_X7_73 hx hb hown hK hH (bm hM 0) dX7_correct_37 ?_
        refine lv_bipush (v := nI 60) hx hb dX7_correct_40 (by decide) ?_
        refine lv_iload_n hx hb dX7_correct_42 rfl (lv_at hl 1 rfl) ?_
        refine m_imulN hx hb dX7_correct_43 ?_
        refine lv_iload_n hx hb dX7_correct_44 rfl (lv_at hl 2 rfl) ?_
        refine m_iaddN hx hb dX7_correct_45 ?_
        refine lv_iload_n hx hb dX7_correct_46 rfl (lv_at hl 3 rfl) ?_
        refine m_iast hx hb hK hH hS (n := 3600) (bm hM 24) (fun _ _ => rfl) (60 * qn + kn) (rfl) (by omega) (by decide) dX7_correct_47 (fun H locs hH hS => ?_)
        have hsm1 : Sm (coUp σ qn kn (nI vn)) (sI σ_2 24 0 (60 * qn + kn) (nI vn)) := hsm.put 24 0 _ _
        have hJ1 := hsm1.jh (co_JH (k := kn) hP (by omega) hL1 hv3)
        refine lv_aload_n hx hb dX7_correct_48 rfl (lv_at hl 0 rfl) ?_
        refine lv_iload_n hx hb dX7_correct_49 rfl (lv_at hl 1 rfl) ?_
        refine m_ki (m_runV (k := 0) (i := 0) (ci := 7) ⟨hx, hb, hml, hown, hz⟩ hK hH hS (bm hM 0) rfl rfl (c_X7_hears l G B (sI σ_2 24 0 (60 * qn + kn) (nI vn)) hM (hsm1.wfS (coUp_S hWS)) qn (by rw [hsm1.lPlE, hsm1.lSnE]; exact hJ1) (by rw [hsm1.lSuE]; exact (hsm1.rd 19 0 qn rfl).trans hL1.1) (by rw [hsm1.lSuE, hsm1.nSE]; exact hL1.2.1) (by rw [hsm1.lSuE, hsm1.rnE]; exact hRun qn hqn hop)) mw_X7_hears wl_X7_201 ⟨rfl, rfl⟩ ⟨by decide, by decide⟩ rfl hl.1 rfl (Nat.le_of_ble_eq_true rfl) dX7_correct_50 ⟨Nat.zero_le _, Nat.zero_le _⟩) hS (fun r_50 σ_50 H locs hp hH hS => ?_)
        obtain ⟨hr1, hs9⟩ := hp
        rw [hsm1.jqE] at hr1
        have hfin := (hsm1.hrsm qn).tr hs9
        subst hr1
        exact m_iret hx hb hr hlk hH hS dX7_correct_53 (⟨by rw [if_pos hyes, nI_clamp (by omega), nI_clamp (by omega)], by rw [if_pos hyes, nI_clamp (by omega), nI_clamp (by omega)]; exact hfin⟩)
      · have hno : ctOK σ (nI qn) k v = false := by
          unfold ctOK
          first
            | (rw [c_5]; rfl)
            | (have h9 := of_decide_eq_false c_21; rw [nI_clamp (by omega), decide_eq_false (fun z => h9 z.1), Bool.and_false])
            | (have h9 := inR_f c_30; rw [n0I, n3I] at h9; rw [decide_eq_false (fun z => h9 z.2), Bool.and_false])
        refine lv_bipush (v := (-2)) hx hb dX7_correct_33 (by decide) ?_
        exact m_iret hx hb hr hlk hH hS dX7_correct_35 (⟨by rw [hno]; rfl, by rw [hno]; exact hsm⟩)
set_option maxHeartbeats 4000000 in
set_option maxRecDepth 100000 in
theorem c_X7_count (l : Launch) (G : gG) (B : gB) (σ : gS) (hM : BkM B) (hP : WfP σ) (hWS : WfS σ) (hL : WfL σ) (hR : WfR σ) (w : Int32) : Met l yX7_count [.code yX7_count cX7_count 4 (some .int)] ({ frames := 3, cells := 0, slots := 0, locals := 70 } : Room) (mPc G B σ [.ref (B.1 0 0), .int (w)]) (mQi G B (fun r τ => r = cuA σ w ∧ Sm σ τ)) 0 0 (mA G) := by
  refine m_start (by decide) (Nat.le_of_ble_eq_true rfl) ?_
  intro p e s m below meth c ⟨hx, hb, hr, hml, hown, hK, hlk, hz⟩ hH hS ls hl
  have hl : lv_has ls 4 [(0, .ref (B.1 0 0)), (1, .int (w))] := hl
  refine lv_iconst (v := nI 0) hx hb dX7_count_0 (by decide) ?_
  refine lv_istore_n (lv' := [(2, .int (nI 0)), (0, .ref (B.1 0 0)), (1, .int (w))]) hx hb dX7_count_1 rfl hl (by decide) rfl (fun ls hl => ?_)
  refine lv_iload_n hx hb dX7_count_2 rfl (lv_at hl 2 rfl) ?_
  by_cases s_3_0 : w = nI 0
  · refine m_toe (nI 0) s_3_0 ?_
    refine lv_tableIn (off := 37) (tgt := 40) hx hb dX7_count_3 (by decide) (by decide) (by decide) (by decide) ?_
    refine lv_aload_n hx hb dX7_count_40 rfl (lv_at hl 1 rfl) ?_
    refine gf_X7_91 hx hb hown hK hH (bm hM 0) dX7_count_41 ?_
    refine m_toi (nP σ) (hP.1) ?_
    exact m_iret hx hb hr hlk hH hS dX7_count_44 (⟨by unfold cuA; rw [if_pos s_3_0], Sm.rf σ⟩)
  by_cases s_3_1 : w = nI 1
  · refine m_toe (nI 1) s_3_1 ?_
    refine lv_tableIn (off := 42) (tgt := 45) hx hb dX7_count_3 (by decide) (by decide) (by decide) (by decide) ?_
    refine lv_iconst (v := nI 0) hx hb dX7_count_45 (by decide) ?_
    refine lv_istore_n (lv' := [(3, .int (nI 0)), (2, .int (nI 0)), (0, .ref (B.1 0 0)), (1, .int (w))]) hx hb dX7_count_46 rfl hl (by decide) rfl (fun ls hl => ?_)
    have h24 := hP.2.1
    have loop : ∀ (n : Nat) (i : Nat), i ≤ nP σ ∧ nP σ < i + n → ∀ (H : Heap) (locs : List Loc), Hp G B σ H → va_S (mA G) s.heap H locs → ∀ (ls : Array Slot), lv_has ls 4 [(0, .ref (B.1 0 0)), (1, .int (w)), (2, .int (nI (cnt (clo σ) i))), (3, .int (nI i))] → W p l e ({ frames := 3, cells := 0, slots := 0, locals := 70 } : Room) s m ([.ref (B.1 0 0), .int (w)] : List Value).toArray below meth c H locs 0 0 (MQ below (mQi G B (fun r τ => r = cuA σ w ∧ Sm σ τ)) ([.ref (B.1 0 0), .int (w)] : List Value).toArray s 0 0 (mA G)) (F0 m 47 ls []) := by
      intro n
      induction n with
      | zero => intro i hh; exfalso; omega
      | succ n ih =>
        intro i hh H locs hH hS ls hl
        refine lv_iload_n hx hb dX7_count_47 rfl (lv_at hl 3 rfl) ?_
        refine lv_aload_n hx hb dX7_count_48 rfl (lv_at hl 0 rfl) ?_
        refine gf_X7_91 hx hb hown hK hH (bm hM 0) dX7_count_49 ?_
        refine m_toi (nP σ) (hP.1) ?_
        refine m_icmp_geN (tgt := 77) (by omega) (by omega) hx hb dX7_count_52 (by decide) (fun c_52 => ?_) (fun c_52 => ?_)
        · refine lv_iload_n hx hb dX7_count_77 rfl (lv_at hl 2 rfl) ?_
          exact m_iret hx hb hr hlk hH hS dX7_count_78 (⟨by unfold cuA; rw [if_neg s_3_0, if_pos s_3_1, show nP σ = i by omega], Sm.rf σ⟩)
        · refine lv_iload_n hx hb dX7_count_55 rfl (lv_at hl 2 rfl) ?_
          refine lv_aload_n hx hb dX7_count_56 rfl (lv_at hl 0 rfl) ?_
          refine lv_iload_n hx hb dX7_count_57 rfl (lv_at hl 3 rfl) ?_
          refine m_ki (m_runV (k := 0) (i := 0) (ci := 7) ⟨hx, hb, hml, hown, hz⟩ hK hH hS (bm hM 0) rfl rfl (c_X7_isClosed l G B σ hM hP (nI i)) mw_X7_isClosed wl_X7_107 ⟨rfl, rfl⟩ ⟨by decide, by decide⟩ rfl hl.1 rfl (Nat.le_of_ble_eq_true rfl) dX7_count_58 ⟨Nat.zero_le _, Nat.zero_le _⟩) hS (fun r_58 σ_58 H locs hp hH hS => ?_)
          obtain ⟨hr1, hs1⟩ := hp
          rw [hs1] at hH
          rw [isCl_nI c_52 h24] at hr1
          subst hr1
          have J_61 : ∀ (ls : Array Slot), lv_has ls 4 [(0, .ref (B.1 0 0)), (1, .int (w)), (2, .int (nI (cnt (clo σ) i))), (3, .int (nI i))] → W p l e ({ frames := 3, cells := 0, slots := 0, locals := 70 } : Room) s m ([.ref (B.1 0 0), .int (w)] : List Value).toArray below meth c H locs 0 0 (MQ below (mQi G B (fun r τ => r = cuA σ w ∧ Sm σ τ)) ([.ref (B.1 0 0), .int (w)] : List Value).toArray s 0 0 (mA G)) (F0 m 69 ls [.int (nI (if clo σ i then 1 else 0)), .int (nI (cnt (clo σ) i))]) := by
            intro ls hl
            refine m_iaddN hx hb dX7_count_69 ?_
            refine lv_istore_n (lv' := [(2, .int (nI (cnt (clo σ) i + (if clo σ i then 1 else 0)))), (0, .ref (B.1 0 0)), (1, .int (w)), (3, .int (nI i))]) hx hb dX7_count_70 rfl hl (by decide) rfl (fun ls hl => ?_)
            refine lv_iinc (v := nI (i + 1)) (lv' := [(3, .int (nI (i + 1))), (2, .int (nI (cnt (clo σ) i + (if clo σ i then 1 else 0)))), (0, .ref (B.1 0 0)), (1, .int (w))]) hx hb dX7_count_71 hl (k := 3) rfl (nI_1 _) (by decide) rfl (fun ls hl => ?_)
            refine lv_goto (tgt := 47) hx hb dX7_count_74 (by decide) ?_
            exact ih (i + 1) (by omega) H locs hH hS ls (lv_sub hl [2, 3, 1, 0] rfl)
          refine m_ifeqB (tgt := 68) hx hb dX7_count_61 (by decide) (fun c_61 => ?_) (fun c_61 => ?_)
          · refine lv_iconst (v := nI 0) hx hb dX7_count_68 (by decide) ?_
            refine m_toe (nI (if clo σ i then 1 else 0)) (by rw [c_61]; rfl) ?_
            exact J_61 ls (lv_sub hl [0, 1, 2, 3] rfl)
          · refine lv_iconst (v := nI 1) hx hb dX7_count_64 (by decide) ?_
            refine lv_goto (tgt := 69) hx hb dX7_count_65 (by decide) ?_
            refine m_toe (nI (if clo σ i then 1 else 0)) (by rw [c_61]; rfl) ?_
            exact J_61 ls (lv_sub hl [0, 1, 2, 3] rfl)
    exact loop (nP σ + 1) 0 (by omega) _ _ hH hS ls (lv_sub hl [2, 3, 1, 0] rfl)
  by_cases s_3_2 : w = nI 2
  · refine m_toe (nI 2) s_3_2 ?_
    refine lv_tableIn (off := 76) (tgt := 79) hx hb dX7_count_3 (by decide) (by decide) (by decide) (by decide) ?_
    refine lv_aload_n hx hb dX7_count_79 rfl (lv_at hl 1 rfl) ?_
    refine gf_X7_168 hx hb hown hK hH (bm hM 0) dX7_count_80 ?_
    refine m_toi (nS σ) (hWS.1) ?_
    exact m_iret hx hb hr hlk hH hS dX7_count_83 (⟨by unfold cuA; rw [if_neg s_3_0, if_neg s_3_1, if_pos s_3_2], Sm.rf σ⟩)
  by_cases s_3_3 : w = nI 3
  · refine m_toe (nI 3) s_3_3 ?_
    refine lv_tableIn (off := 81) (tgt := 84) hx hb dX7_count_3 (by decide) (by decide) (by decide) (by decide) ?_
    refine lv_aload_n hx hb dX7_count_84 rfl (lv_at hl 1 rfl) ?_
    refine gf_X7_171 hx hb hown hK hH (bm hM 0) dX7_count_85 ?_
    refine m_toi (nL σ) (hL.1) ?_
    exact m_iret hx hb hr hlk hH hS dX7_count_88 (⟨by unfold cuA; rw [if_neg s_3_0, if_neg s_3_1, if_neg s_3_2, if_pos s_3_3], Sm.rf σ⟩)
  by_cases s_3_4 : w = nI 4
  · refine m_toe (nI 4) s_3_4 ?_
    refine lv_tableIn (off := 86) (tgt := 89) hx hb dX7_count_3 (by decide) (by decide) (by decide) (by decide) ?_
    refine lv_iconst (v := nI 0) hx hb dX7_count_89 (by decide) ?_
    refine lv_istore_n (lv' := [(3, .int (nI 0)), (2, .int (nI 0)), (0, .ref (B.1 0 0)), (1, .int (w))]) hx hb dX7_count_90 rfl hl (by decide) rfl (fun ls hl => ?_)
    have hl60 := hL.2.1
    have loop : ∀ (n : Nat) (i : Nat), i ≤ nL σ ∧ nL σ < i + n → ∀ (τ : gS) (H : Heap) (locs : List Loc), Sm σ τ → Hp G B τ H → va_S (mA G) s.heap H locs → ∀ (ls : Array Slot), lv_has ls 4 [(0, .ref (B.1 0 0)), (1, .int (w)), (2, .int (nI (cnt (fun q => !decide ((jq σ q).1 = 0)) i))), (3, .int (nI i))] → W p l e ({ frames := 3, cells := 0, slots := 0, locals := 70 } : Room) s m ([.ref (B.1 0 0), .int (w)] : List Value).toArray below meth c H locs 0 0 (MQ below (mQi G B (fun r τ => r = cuA σ w ∧ Sm σ τ)) ([.ref (B.1 0 0), .int (w)] : List Value).toArray s 0 0 (mA G)) (F0 m 91 ls []) := by
      intro n
      induction n with
      | zero => intro i hh; exfalso; omega
      | succ n ih =>
        intro i hh τ H locs hJ hH hS ls hl
        refine lv_iload_n hx hb dX7_count_91 rfl (lv_at hl 3 rfl) ?_
        refine lv_aload_n hx hb dX7_count_92 rfl (lv_at hl 0 rfl) ?_
        refine gf_X7_171 hx hb hown hK hH (bm hM 0) dX7_count_93 ?_
        refine m_toi (nL σ) ((hJ.rd 0 0 2 rfl).trans hL.1) ?_
        refine m_icmp_geN (tgt := 121) (by omega) (by omega) hx hb dX7_count_96 (by decide) (fun c_96 => ?_) (fun c_96 => ?_)
        · refine lv_iload_n hx hb dX7_count_121 rfl (lv_at hl 2 rfl) ?_
          exact m_iret hx hb hr hlk hH hS dX7_count_122 (⟨by unfold cuA; rw [if_neg s_3_0, if_neg s_3_1, if_neg s_3_2, if_neg s_3_3, if_pos s_3_4, show nL σ = i by omega], hJ⟩)
        · refine lv_iload_n hx hb dX7_count_99 rfl (lv_at hl 2 rfl) ?_
          refine lv_aload_n hx hb dX7_count_100 rfl (lv_at hl 0 rfl) ?_
          refine lv_iload_n hx hb dX7_count_101 rfl (lv_at hl 3 rfl) ?_
          refine m_ki (m_runV (k := 0) (i := 0) (ci := 7) ⟨hx, hb, hml, hown, hz⟩ hK hH hS (bm hM 0) rfl rfl (c_X7_isOpen l G B τ hM (hJ.wfP hP) (hJ.wfL hL) (nI i)) mw_X7_isOpen wl_X7_198 ⟨rfl, rfl⟩ ⟨by decide, by decide⟩ rfl hl.1 rfl (Nat.le_of_ble_eq_true rfl) dX7_count_102 ⟨Nat.zero_le _, Nat.zero_le _⟩) hS (fun r_102 σ_102 H locs hp hH hS => ?_)
          obtain ⟨hr1, hs9⟩ := hp
          rw [hJ.opnE, opn_nI c_96 hl60] at hr1
          subst hr1
          have J_105 : ∀ (ls : Array Slot), lv_has ls 4 [(0, .ref (B.1 0 0)), (1, .int (w)), (2, .int (nI (cnt (fun q => !decide ((jq σ q).1 = 0)) i))), (3, .int (nI i))] → W p l e ({ frames := 3, cells := 0, slots := 0, locals := 70 } : Room) s m ([.ref (B.1 0 0), .int (w)] : List Value).toArray below meth c H locs 0 0 (MQ below (mQi G B (fun r τ => r = cuA σ w ∧ Sm σ τ)) ([.ref (B.1 0 0), .int (w)] : List Value).toArray s 0 0 (mA G)) (F0 m 113 ls [.int (nI (if !decide ((jq σ i).1 = 0) then 1 else 0)), .int (nI (cnt (fun q => !decide ((jq σ q).1 = 0)) i))]) := by
            intro ls hl
            refine m_iaddN hx hb dX7_count_113 ?_
            refine lv_istore_n (lv' := [(2, .int (nI ((cnt (fun q => !decide ((jq σ q).1 = 0)) i) + (if !decide ((jq σ i).1 = 0) then 1 else 0)))), (0, .ref (B.1 0 0)), (1, .int (w)), (3, .int (nI i))]) hx hb dX7_count_114 rfl hl (by decide) rfl (fun ls hl => ?_)
            refine lv_iinc (v := nI (i + 1)) (lv' := [(3, .int (nI (i + 1))), (2, .int (nI ((cnt (fun q => !decide ((jq σ q).1 = 0)) i) + (if !decide ((jq σ i).1 = 0) then 1 else 0)))), (0, .ref (B.1 0 0)), (1, .int (w))]) hx hb dX7_count_115 hl (k := 3) rfl (nI_1 _) (by decide) rfl (fun ls hl => ?_)
            refine lv_goto (tgt := 91) hx hb dX7_count_118 (by decide) ?_
            exact ih (i + 1) (by omega) _ H locs (hJ.tr hs9) hH hS ls (lv_sub hl [2, 3, 1, 0] rfl)
          refine m_ifeqB (tgt := 112) hx hb dX7_count_105 (by decide) (fun c_105 => ?_) (fun c_105 => ?_)
          · refine lv_iconst (v := nI 1) hx hb dX7_count_112 (by decide) ?_
            refine m_toe (nI (if !decide ((jq σ i).1 = 0) then 1 else 0)) (by rw [c_105]; rfl) ?_
            exact J_105 ls (lv_sub hl [0, 1, 2, 3] rfl)
          · refine lv_iconst (v := nI 0) hx hb dX7_count_108 (by decide) ?_
            refine lv_goto (tgt := 113) hx hb dX7_count_109 (by decide) ?_
            refine m_toe (nI (if !decide ((jq σ i).1 = 0) then 1 else 0)) (by rw [c_105]; rfl) ?_
            exact J_105 ls (lv_sub hl [0, 1, 2, 3] rfl)
    exact loop (nL σ + 1) 0 (by omega) σ _ _ (Sm.rf σ) hH hS ls (lv_sub hl [2, 3, 1, 0] rfl)
  by_cases s_3_5 : w = nI 5
  · refine m_toe (nI 5) s_3_5 ?_
    refine lv_tableIn (off := 120) (tgt := 123) hx hb dX7_count_3 (by decide) (by decide) (by decide) (by decide) ?_
    refine lv_aload_n hx hb dX7_count_123 rfl (lv_at hl 1 rfl) ?_
    refine m_ki (m_runV (k := 0) (i := 0) (ci := 7) ⟨hx, hb, hml, hown, hz⟩ hK hH hS (bm hM 0) rfl rfl (c_X7_risks l G B σ hM hR) mw_X7_risks wl_X7_152 ⟨rfl, rfl⟩ ⟨by decide, by decide⟩ rfl hl.1 rfl (Nat.le_of_ble_eq_true rfl) dX7_count_124 ⟨Nat.zero_le _, Nat.zero_le _⟩) hS (fun r_124 σ_124 H locs hp hH hS => ?_)
    obtain ⟨hr1, hs1⟩ := hp
    subst hr1
    rw [hs1] at hH
    exact m_iret hx hb hr hlk hH hS dX7_count_127 (⟨by unfold cuA; rw [if_neg s_3_0, if_neg s_3_1, if_neg s_3_2, if_neg s_3_3, if_neg s_3_4, if_pos s_3_5], Sm.rf σ⟩)
  have so_3 : w.toInt < 0 ∨ 5 < w.toInt := by
    simp only [i_eq] at s_3_0 s_3_1 s_3_2 s_3_3 s_3_4 s_3_5
    simp only [show (nI 0).toInt = 0 from rfl, show (nI 1).toInt = 1 from rfl, show (nI 2).toInt = 2 from rfl, show (nI 3).toInt = 3 from rfl, show (nI 4).toInt = 4 from rfl, show (nI 5).toInt = 5 from rfl] at s_3_0 s_3_1 s_3_2 s_3_3 s_3_4 s_3_5
    omega
  refine lv_tableOut (tgt := 128) hx hb dX7_count_3 so_3 (by decide) ?_
  refine lv_bipush (v := (-2)) hx hb dX7_count_128 (by decide) ?_
  exact m_iret hx hb hr hlk hH hS dX7_count_130 (⟨by unfold cuA; rw [if_neg s_3_0, if_neg s_3_1, if_neg s_3_2, if_neg s_3_3, if_neg s_3_4, if_neg s_3_5], Sm.rf σ⟩)
