def isRk (σ : gS) (r : Nat) : Bool := decide (σ.1 13 0 r = 1)
def rAt (σ : gS) (r : Nat) : Nat := (σ.1 10 0 r).toNatClampNeg
def rUp (σ : gS) (r : Nat) : Nat := (σ.1 11 0 r).toNatClampNeg
def rDn (σ : gS) (r : Nat) : Nat := (σ.1 12 0 r).toNatClampNeg
def WfR (σ : gS) : Prop := ∀ r, r < 2 → σ.1 13 0 r = bI (isRk σ r) ∧ (isRk σ r = true → σ.1 10 0 r = nI (rAt σ r) ∧ rAt σ r ≤ 60 ∧ σ.1 11 0 r = nI (rUp σ r) ∧ σ.1 12 0 r = nI (rDn σ r) ∧ 1 ≤ rDn σ r ∧ rDn σ r ≤ 1000 ∧ rUp σ r ≤ rDn σ r)
def rkN (σ : gS) : Nat := (if isRk σ 0 then 1 else 0) + (if isRk σ 1 then 1 else 0)
theorem n1000I : (nI 1000).toInt = 1000 := rfl
def ofA (σ : gS) (x k w : Int32) : Int32 := if isPl σ x = true ∧ 0 ≤ k.toInt ∧ k.toInt < (stN σ x.toNatClampNeg : Int) then (if w = 0 then σ.1 4 0 (4 * x.toNatClampNeg + k.toNatClampNeg) else if w = nI 1 then σ.1 5 0 (4 * x.toNatClampNeg + k.toNatClampNeg) else if w = nI 2 then σ.1 6 0 (4 * x.toNatClampNeg + k.toNatClampNeg) else -2) else -2
theorem ofA_no {σ : gS} {x k w : Int32} (h : ¬ (isPl σ x = true ∧ 0 ≤ k.toInt ∧ k.toInt < (stN σ x.toNatClampNeg : Int))) : ofA σ x k w = -2 := if_neg h
theorem ofA_yes {σ : gS} {p q : Nat} {w : Int32} (hp : p < nP σ) (h24 : nP σ ≤ 24) (h4 : stN σ p ≤ 4) (hq : q < stN σ p) : ofA σ (nI p) (nI q) w = if w = 0 then σ.1 4 0 (4 * p + q) else if w = nI 1 then σ.1 5 0 (4 * p + q) else if w = nI 2 then σ.1 6 0 (4 * p + q) else -2 := by
  unfold ofA
  rw [nI_clamp (by omega), nI_clamp (by omega), isPl_nI hp h24, nI_I (by omega), if_pos ⟨rfl, by omega, by omega⟩]
theorem st_in {σ : gS} {p : Nat} {k : Int32} (h4 : stN σ p ≤ 4) : inR k (nI 0) (nI (stN σ p) - nI 1) = decide (0 ≤ k.toInt ∧ k.toInt < (stN σ p : Int)) := by
  unfold inR
  have e := nI_I (n := stN σ p) (by omega)
  rw [i_sub (by rw [e, n1I]; omega) (by rw [e, n1I]; omega), e, n1I, n0I]
  by_cases q : 0 ≤ k.toInt ∧ k.toInt < (stN σ p : Int)
  · rw [decide_eq_true q, decide_eq_true (by omega)]
  · rw [decide_eq_false q, decide_eq_false (by omega)]
set_option maxHeartbeats 4000000 in
set_option maxRecDepth 100000 in
theorem c_X7_of (l : Launch) (G : gG) (B : gB) (σ : gS) (hM : BkM B) (hW : WfP σ) (x k w : Int32) : Met l yX7_of [.code yX7_of cX7_of 4 (some .int)] ({ frames := 2, cells := 0, slots := 0, locals := 43 } : Room) (mPc G B σ [.ref (B.1 0 0), .int (x), .int (k), .int (w)]) (mQi G B (fun v σ' => v = ofA σ x k w ∧ σ' = σ)) 0 0 (mA G) := by
  refine m_start (by decide) (Nat.le_of_ble_eq_true rfl) ?_
  intro p e s m below meth c ⟨hx, hb, hr, hml, hown, hK, hlk, hz⟩ hH hS ls hl
  have hl : lv_has ls 4 [(0, .ref (B.1 0 0)), (1, .int (x)), (2, .int (k)), (3, .int (w))] := hl
  refine lv_aload_n hx hb dX7_of_0 rfl (lv_at hl 0 rfl) ?_
  refine lv_iload_n hx hb dX7_of_1 rfl (lv_at hl 1 rfl) ?_
  refine m_ki (m_runV (k := 0) (i := 0) (ci := 7) ⟨hx, hb, hml, hown, hz⟩ hK hH hS (bm hM 0) rfl rfl (c_X7_isPlan l G B σ hM hW x) mw_X7_isPlan wl_X7_99 ⟨rfl, rfl⟩ ⟨by decide, by decide⟩ rfl hl.1 rfl (Nat.le_of_ble_eq_true rfl) dX7_of_2 ⟨Nat.zero_le _, Nat.zero_le _⟩) hS (fun r_2 σ_2 H locs hp hH hS => ?_)
  obtain ⟨hr1, hs1⟩ := hp
  subst hr1
  rw [hs1] at hH
  refine m_ifeqB (tgt := 24) hx hb dX7_of_5 (by decide) (fun c_5 => ?_) (fun c_5 => ?_)
  · refine lv_bipush (v := (-2)) hx hb dX7_of_24 (by decide) ?_
    exact m_iret hx hb hr hlk hH hS dX7_of_26 (by first | exact ⟨(ofA_no (fun h => by rw [c_5] at h; exact absurd h.1 (by decide))).symm, rfl⟩ | exact ⟨(ofA_no (fun h => of_decide_eq_false c_21 (by rw [nI_clamp (by omega)] at h; exact h.2))).symm, rfl⟩)
  · obtain ⟨pn, hpn, rfl⟩ := isPl_t c_5
    have h24 := hW.2.1
    have hP := hW.2.2 pn hpn
    have hs4 := hP.2.1
    refine lv_iload_n hx hb dX7_of_8 rfl (lv_at hl 2 rfl) ?_
    refine lv_iconst (v := nI 0) hx hb dX7_of_9 (by decide) ?_
    refine lv_aload_n hx hb dX7_of_10 rfl (lv_at hl 0 rfl) ?_
    refine gf_X7_7 hx hb hown hK hH (bm hM 0) dX7_of_11 ?_
    refine lv_iload_n hx hb dX7_of_14 rfl (lv_at hl 1 rfl) ?_
    refine m_iald hx hb hK hH (n := 24) (bm hM 3) (fun _ _ => rfl) (pn) (rfl) (by omega) (by decide) dX7_of_15 ?_
    refine m_toi (stN σ pn) (hP.1) ?_
    refine lv_iconst (v := nI 1) hx hb dX7_of_16 (by decide) ?_
    refine lv_isub hx hb dX7_of_17 ?_
    refine m_ki (m_runS ⟨hx, hb, hml, hown, hz⟩ hK hH hS (c_X7_in l G B σ k (nI 0) (nI (stN σ pn) - nI 1)) mw_X7_in wl_X7_95 ⟨rfl, rfl⟩ ⟨by decide, by decide⟩ rfl hl.1 rfl (Nat.le_of_ble_eq_true rfl) dX7_of_18 ⟨Nat.zero_le _, Nat.zero_le _⟩) hS (fun r_18 σ_18 H locs hp hH hS => ?_)
    obtain ⟨hr1, hs1⟩ := hp
    rw [hs1] at hH
    rw [st_in hs4] at hr1
    subst hr1
    refine m_ifneB (tgt := 27) hx hb dX7_of_21 (by decide) (fun c_21 => ?_) (fun c_21 => ?_)
    · have c9 := of_decide_eq_true c_21
      obtain ⟨k1, k2⟩ := i_nat c9.1
      obtain ⟨q, hq⟩ : ∃ q : Nat, q = k.toInt.toNat := ⟨_, rfl⟩
      rw [← hq] at k1 k2
      have hqn : q < stN σ pn := by omega
      clear c_21 c9 hq k2
      subst k1
      refine lv_iload_n hx hb dX7_of_27 rfl (lv_at hl 3 rfl) ?_
      refine lv_if_ne (tgt := 44) hx hb dX7_of_28 (by decide) (fun c_28 => ?_) (fun c_28 => ?_)
      · refine lv_iload_n hx hb dX7_of_44 rfl (lv_at hl 3 rfl) ?_
        refine lv_iconst (v := nI 1) hx hb dX7_of_45 (by decide) ?_
        refine lv_icmp_ne (tgt := 62) hx hb dX7_of_46 (by decide) (fun c_46 => ?_) (fun c_46 => ?_)
        · refine lv_iload_n hx hb dX7_of_62 rfl (lv_at hl 3 rfl) ?_
          refine lv_iconst (v := nI 2) hx hb dX7_of_63 (by decide) ?_
          refine lv_icmp_ne (tgt := 80) hx hb dX7_of_64 (by decide) (fun c_64 => ?_) (fun c_64 => ?_)
          · refine lv_bipush (v := (-2)) hx hb dX7_of_80 (by decide) ?_
            exact m_iret hx hb hr hlk hH hS dX7_of_82 (⟨by rw [ofA_yes hpn h24 hs4 hqn]; first | rw [if_pos c_28] | rw [if_neg c_28, if_pos c_46] | rw [if_neg c_28, if_neg c_46, if_pos c_64] | rw [if_neg c_28, if_neg c_46, if_neg c_64], rfl⟩)
          · refine lv_aload_n hx hb dX7_of_67 rfl (lv_at hl 0 rfl) ?_
            refine gf_X7_19 hx hb hown hK hH (bm hM 0) dX7_of_68 ?_
            refine lv_iconst (v := nI 4) hx hb dX7_of_71 (by decide) ?_
            refine lv_iload_n hx hb dX7_of_72 rfl (lv_at hl 1 rfl) ?_
            refine m_imulN hx hb dX7_of_73 ?_
            refine lv_iload_n hx hb dX7_of_74 rfl (lv_at hl 2 rfl) ?_
            refine m_iaddN hx hb dX7_of_75 ?_
            refine m_iald hx hb hK hH (n := 96) (bm hM 6) (fun _ _ => rfl) (4 * pn + q) (rfl) (by omega) (by decide) dX7_of_76 ?_
            refine lv_goto (tgt := 82) hx hb dX7_of_77 (by decide) ?_
            exact m_iret hx hb hr hlk hH hS dX7_of_82 (⟨by rw [ofA_yes hpn h24 hs4 hqn]; first | rw [if_pos c_28] | rw [if_neg c_28, if_pos c_46] | rw [if_neg c_28, if_neg c_46, if_pos c_64] | rw [if_neg c_28, if_neg c_46, if_neg c_64], rfl⟩)
        · refine lv_aload_n hx hb dX7_of_49 rfl (lv_at hl 0 rfl) ?_
          refine gf_X7_16 hx hb hown hK hH (bm hM 0) dX7_of_50 ?_
          refine lv_iconst (v := nI 4) hx hb dX7_of_53 (by decide) ?_
          refine lv_iload_n hx hb dX7_of_54 rfl (lv_at hl 1 rfl) ?_
          refine m_imulN hx hb dX7_of_55 ?_
          refine lv_iload_n hx hb dX7_of_56 rfl (lv_at hl 2 rfl) ?_
          refine m_iaddN hx hb dX7_of_57 ?_
          refine m_iald hx hb hK hH (n := 96) (bm hM 5) (fun _ _ => rfl) (4 * pn + q) (rfl) (by omega) (by decide) dX7_of_58 ?_
          refine lv_goto (tgt := 82) hx hb dX7_of_59 (by decide) ?_
          exact m_iret hx hb hr hlk hH hS dX7_of_82 (⟨by rw [ofA_yes hpn h24 hs4 hqn]; first | rw [if_pos c_28] | rw [if_neg c_28, if_pos c_46] | rw [if_neg c_28, if_neg c_46, if_pos c_64] | rw [if_neg c_28, if_neg c_46, if_neg c_64], rfl⟩)
      · refine lv_aload_n hx hb dX7_of_31 rfl (lv_at hl 0 rfl) ?_
        refine gf_X7_13 hx hb hown hK hH (bm hM 0) dX7_of_32 ?_
        refine lv_iconst (v := nI 4) hx hb dX7_of_35 (by decide) ?_
        refine lv_iload_n hx hb dX7_of_36 rfl (lv_at hl 1 rfl) ?_
        refine m_imulN hx hb dX7_of_37 ?_
        refine lv_iload_n hx hb dX7_of_38 rfl (lv_at hl 2 rfl) ?_
        refine m_iaddN hx hb dX7_of_39 ?_
        refine m_iald hx hb hK hH (n := 96) (bm hM 4) (fun _ _ => rfl) (4 * pn + q) (rfl) (by omega) (by decide) dX7_of_40 ?_
        refine lv_goto (tgt := 82) hx hb dX7_of_41 (by decide) ?_
        exact m_iret hx hb hr hlk hH hS dX7_of_82 (⟨by rw [ofA_yes hpn h24 hs4 hqn]; first | rw [if_pos c_28] | rw [if_neg c_28, if_pos c_46] | rw [if_neg c_28, if_neg c_46, if_pos c_64] | rw [if_neg c_28, if_neg c_46, if_neg c_64], rfl⟩)
    · refine lv_bipush (v := (-2)) hx hb dX7_of_24 (by decide) ?_
      exact m_iret hx hb hr hlk hH hS dX7_of_26 (by first | exact ⟨(ofA_no (fun h => by rw [c_5] at h; exact absurd h.1 (by decide))).symm, rfl⟩ | exact ⟨(ofA_no (fun h => of_decide_eq_false c_21 (by rw [nI_clamp (by omega)] at h; exact h.2))).symm, rfl⟩)
def rkOK (t d u n : Int32) : Bool := decide ((0 ≤ t.toInt ∧ t.toInt ≤ 1) ∧ (0 ≤ d.toInt ∧ d.toInt ≤ 60) ∧ (1 ≤ n.toInt ∧ n.toInt ≤ 1000) ∧ (0 ≤ u.toInt ∧ u.toInt ≤ n.toInt))
def rkUp (σ : gS) (t : Nat) (d u n : Int32) : gS := sI (sI (sI (sI σ 13 0 t (nI 1)) 10 0 t d) 11 0 t u) 12 0 t n
set_option maxHeartbeats 4000000 in
set_option maxRecDepth 100000 in
theorem c_X7_risk (l : Launch) (G : gG) (B : gB) (σ : gS) (hM : BkM B) (t d u dn : Int32) : Met l yX7_risk [.code yX7_risk cX7_risk 5 (some .int)] ({ frames := 1, cells := 0, slots := 0, locals := 22 } : Room) (mPc G B σ [.ref (B.1 0 0), .int (t), .int (d), .int (u), .int (dn)]) (mQi G B (fun v σ' => if rkOK t d u dn = true then ∃ q : Nat, q < 2 ∧ t = nI q ∧ v = 1 ∧ σ' = rkUp σ q d u dn else v = -2 ∧ σ' = σ)) 0 0 (mA G) := by
  refine m_start (by decide) (Nat.le_of_ble_eq_true rfl) ?_
  intro p e s m below meth c ⟨hx, hb, hr, hml, hown, hK, hlk, hz⟩ hH hS ls hl
  have hl : lv_has ls 5 [(0, .ref (B.1 0 0)), (1, .int (t)), (2, .int (d)), (3, .int (u)), (4, .int (dn))] := hl
  refine lv_iload_n hx hb dX7_risk_0 rfl (lv_at hl 1 rfl) ?_
  refine lv_iconst (v := nI 0) hx hb dX7_risk_1 (by decide) ?_
  refine lv_iconst (v := nI 1) hx hb dX7_risk_2 (by decide) ?_
  refine m_ki (m_runS ⟨hx, hb, hml, hown, hz⟩ hK hH hS (c_X7_in l G B σ t (nI 0) (nI 1)) mw_X7_in wl_X7_95 ⟨rfl, rfl⟩ ⟨by decide, by decide⟩ rfl hl.1 rfl (Nat.le_of_ble_eq_true rfl) dX7_risk_3 ⟨Nat.zero_le _, Nat.zero_le _⟩) hS (fun r_3 σ_3 H locs hp hH hS => ?_)
  obtain ⟨hr1, hs1⟩ := hp
  subst hr1
  rw [hs1] at hH
  refine m_ifeqB (tgt := 41) hx hb dX7_risk_6 (by decide) (fun c_6 => ?_) (fun c_6 => ?_)
  · have hno : rkOK t d u dn = false := by
      refine decide_eq_false (fun hh => ?_)
      obtain ⟨h1, h2, h3, h4⟩ := hh
      first
        | (have := inR_f c_6; rw [n0I, n1I] at this; omega)
        | (have := inR_f c_16; rw [n0I, n60I] at this; omega)
        | (have := inR_f c_28; rw [n1I, n1000I] at this; omega)
        | (have := inR_f c_38; rw [n0I] at this; omega)
    refine lv_bipush (v := (-2)) hx hb dX7_risk_41 (by decide) ?_
    exact m_iret hx hb hr hlk hH hS dX7_risk_43 (by rw [hno]; exact ⟨rfl, rfl⟩)
  · refine lv_iload_n hx hb dX7_risk_9 rfl (lv_at hl 2 rfl) ?_
    refine lv_iconst (v := nI 0) hx hb dX7_risk_10 (by decide) ?_
    refine lv_bipush (v := nI 60) hx hb dX7_risk_11 (by decide) ?_
    refine m_ki (m_runS ⟨hx, hb, hml, hown, hz⟩ hK hH hS (c_X7_in l G B σ d (nI 0) (nI 60)) mw_X7_in wl_X7_95 ⟨rfl, rfl⟩ ⟨by decide, by decide⟩ rfl hl.1 rfl (Nat.le_of_ble_eq_true rfl) dX7_risk_13 ⟨Nat.zero_le _, Nat.zero_le _⟩) hS (fun r_13 σ_13 H locs hp hH hS => ?_)
    obtain ⟨hr1, hs1⟩ := hp
    subst hr1
    rw [hs1] at hH
    refine m_ifeqB (tgt := 41) hx hb dX7_risk_16 (by decide) (fun c_16 => ?_) (fun c_16 => ?_)
    · have hno : rkOK t d u dn = false := by
        refine decide_eq_false (fun hh => ?_)
        obtain ⟨h1, h2, h3, h4⟩ := hh
        first
          | (have := inR_f c_6; rw [n0I, n1I] at this; omega)
          | (have := inR_f c_16; rw [n0I, n60I] at this; omega)
          | (have := inR_f c_28; rw [n1I, n1000I] at this; omega)
          | (have := inR_f c_38; rw [n0I] at this; omega)
      refine lv_bipush (v := (-2)) hx hb dX7_risk_41 (by decide) ?_
      exact m_iret hx hb hr hlk hH hS dX7_risk_43 (by rw [hno]; exact ⟨rfl, rfl⟩)
    · refine lv_iload hx hb dX7_risk_19 (lv_at hl 4 rfl) ?_
      refine lv_iconst (v := nI 1) hx hb dX7_risk_21 (by decide) ?_
      refine lv_sipush (v := nI 1000) hx hb dX7_risk_22 (by decide) ?_
      refine m_ki (m_runS ⟨hx, hb, hml, hown, hz⟩ hK hH hS (c_X7_in l G B σ dn (nI 1) (nI 1000)) mw_X7_in wl_X7_95 ⟨rfl, rfl⟩ ⟨by decide, by decide⟩ rfl hl.1 rfl (Nat.le_of_ble_eq_true rfl) dX7_risk_25 ⟨Nat.zero_le _, Nat.zero_le _⟩) hS (fun r_25 σ_25 H locs hp hH hS => ?_)
      obtain ⟨hr1, hs1⟩ := hp
      subst hr1
      rw [hs1] at hH
      refine m_ifeqB (tgt := 41) hx hb dX7_risk_28 (by decide) (fun c_28 => ?_) (fun c_28 => ?_)
      · have hno : rkOK t d u dn = false := by
          refine decide_eq_false (fun hh => ?_)
          obtain ⟨h1, h2, h3, h4⟩ := hh
          first
            | (have := inR_f c_6; rw [n0I, n1I] at this; omega)
            | (have := inR_f c_16; rw [n0I, n60I] at this; omega)
            | (have := inR_f c_28; rw [n1I, n1000I] at this; omega)
            | (have := inR_f c_38; rw [n0I] at this; omega)
        refine lv_bipush (v := (-2)) hx hb dX7_risk_41 (by decide) ?_
        exact m_iret hx hb hr hlk hH hS dX7_risk_43 (by rw [hno]; exact ⟨rfl, rfl⟩)
      · refine lv_iload_n hx hb dX7_risk_31 rfl (lv_at hl 3 rfl) ?_
        refine lv_iconst (v := nI 0) hx hb dX7_risk_32 (by decide) ?_
        refine lv_iload hx hb dX7_risk_33 (lv_at hl 4 rfl) ?_
        refine m_ki (m_runS ⟨hx, hb, hml, hown, hz⟩ hK hH hS (c_X7_in l G B σ u (nI 0) dn) mw_X7_in wl_X7_95 ⟨rfl, rfl⟩ ⟨by decide, by decide⟩ rfl hl.1 rfl (Nat.le_of_ble_eq_true rfl) dX7_risk_35 ⟨Nat.zero_le _, Nat.zero_le _⟩) hS (fun r_35 σ_35 H locs hp hH hS => ?_)
        obtain ⟨hr1, hs1⟩ := hp
        subst hr1
        rw [hs1] at hH
        refine m_ifneB (tgt := 44) hx hb dX7_risk_38 (by decide) (fun c_38 => ?_) (fun c_38 => ?_)
        · have h1 := inR_t c_6; rw [n0I, n1I] at h1
          have h2 := inR_t c_16; rw [n0I, n60I] at h2
          have h3 := inR_t c_28; rw [n1I, n1000I] at h3
          have h4 := inR_t c_38; rw [n0I] at h4
          have hyes : rkOK t d u dn = true := decide_eq_true ⟨h1, h2, h3, h4⟩
          obtain ⟨k1, k2⟩ := i_nat h1.1
          obtain ⟨q, hq⟩ : ∃ q : Nat, q = t.toInt.toNat := ⟨_, rfl⟩
          rw [← hq] at k1 k2
          have hqn : q < 2 := by omega
          clear c_6 hq k2 h1
          subst k1
          refine lv_aload_n hx hb dX7_risk_44 rfl (lv_at hl 0 rfl) ?_
          refine gf_X7_39 hx hb hown hK hH (bm hM 0) dX7_risk_45 ?_
          refine lv_iload_n hx hb dX7_risk_48 rfl (lv_at hl 1 rfl) ?_
          refine lv_iconst (v := nI 1) hx hb dX7_risk_49 (by decide) ?_
          refine m_zast hx hb hK hH hS (n := 2) (bm hM 13) (fun _ _ => rfl) (q) (rfl) (by omega) (by decide) (rfl) dX7_risk_50 (fun H locs hH hS => ?_)
          refine lv_aload_n hx hb dX7_risk_51 rfl (lv_at hl 0 rfl) ?_
          refine gf_X7_30 hx hb hown hK hH (bm hM 0) dX7_risk_52 ?_
          refine lv_iload_n hx hb dX7_risk_55 rfl (lv_at hl 1 rfl) ?_
          refine lv_iload_n hx hb dX7_risk_56 rfl (lv_at hl 2 rfl) ?_
          refine m_iast hx hb hK hH hS (n := 2) (bm hM 10) (fun _ _ => rfl) (q) (rfl) (by omega) (by decide) dX7_risk_57 (fun H locs hH hS => ?_)
          refine lv_aload_n hx hb dX7_risk_58 rfl (lv_at hl 0 rfl) ?_
          refine gf_X7_33 hx hb hown hK hH (bm hM 0) dX7_risk_59 ?_
          refine lv_iload_n hx hb dX7_risk_62 rfl (lv_at hl 1 rfl) ?_
          refine lv_iload_n hx hb dX7_risk_63 rfl (lv_at hl 3 rfl) ?_
          refine m_iast hx hb hK hH hS (n := 2) (bm hM 11) (fun _ _ => rfl) (q) (rfl) (by omega) (by decide) dX7_risk_64 (fun H locs hH hS => ?_)
          refine lv_aload_n hx hb dX7_risk_65 rfl (lv_at hl 0 rfl) ?_
          refine gf_X7_36 hx hb hown hK hH (bm hM 0) dX7_risk_66 ?_
          refine lv_iload_n hx hb dX7_risk_69 rfl (lv_at hl 1 rfl) ?_
          refine lv_iload hx hb dX7_risk_70 (lv_at hl 4 rfl) ?_
          refine m_iast hx hb hK hH hS (n := 2) (bm hM 12) (fun _ _ => rfl) (q) (rfl) (by omega) (by decide) dX7_risk_72 (fun H locs hH hS => ?_)
          refine lv_iconst (v := nI 1) hx hb dX7_risk_73 (by decide) ?_
          exact m_iret hx hb hr hlk hH hS dX7_risk_74 (by rw [hyes]; exact ⟨q, hqn, rfl, rfl, rfl⟩)
        · have hno : rkOK t d u dn = false := by
            refine decide_eq_false (fun hh => ?_)
            obtain ⟨h1, h2, h3, h4⟩ := hh
            first
              | (have := inR_f c_6; rw [n0I, n1I] at this; omega)
              | (have := inR_f c_16; rw [n0I, n60I] at this; omega)
              | (have := inR_f c_28; rw [n1I, n1000I] at this; omega)
              | (have := inR_f c_38; rw [n0I] at this; omega)
          refine lv_bipush (v := (-2)) hx hb dX7_risk_41 (by decide) ?_
          exact m_iret hx hb hr hlk hH hS dX7_risk_43 (by rw [hno]; exact ⟨rfl, rfl⟩)
set_option maxHeartbeats 4000000 in
set_option maxRecDepth 100000 in
theorem c_X7_risks (l : Launch) (G : gG) (B : gB) (σ : gS) (hM : BkM B) (hR : WfR σ) : Met l yX7_risks [.code yX7_risks cX7_risks 1 (some .int)] ({ frames := 0, cells := 0, slots := 0, locals := 0 } : Room) (mPc G B σ [.ref (B.1 0 0)]) (mQi G B (fun v σ' => v = nI (rkN σ) ∧ σ' = σ)) 0 0 (mA G) := by
  refine m_start (by decide) (Nat.le_of_ble_eq_true rfl) ?_
  intro p e s m below meth c ⟨hx, hb, hr, hml, hown, hK, hlk, hz⟩ hH hS ls hl
  have hl : lv_has ls 1 [(0, .ref (B.1 0 0))] := hl
  refine lv_aload_n hx hb dX7_risks_0 rfl (lv_at hl 0 rfl) ?_
  refine gf_X7_39 hx hb hown hK hH (bm hM 0) dX7_risks_1 ?_
  refine lv_iconst (v := nI 0) hx hb dX7_risks_4 (by decide) ?_
  refine m_zald hx hb hK hH (n := 2) (bm hM 13) (fun _ _ => rfl) (0) (rfl) (by omega) (by decide) dX7_risks_5 ?_
  refine m_toe (bI (isRk σ 0)) ((hR 0 (by decide)).1) ?_
  refine m_ifeqB (tgt := 13) hx hb dX7_risks_6 (by decide) (fun c_6 => ?_) (fun c_6 => ?_)
  · refine lv_iconst (v := nI 0) hx hb dX7_risks_13 (by decide) ?_
    refine lv_aload_n hx hb dX7_risks_14 rfl (lv_at hl 0 rfl) ?_
    refine gf_X7_39 hx hb hown hK hH (bm hM 0) dX7_risks_15 ?_
    refine lv_iconst (v := nI 1) hx hb dX7_risks_18 (by decide) ?_
    refine m_zald hx hb hK hH (n := 2) (bm hM 13) (fun _ _ => rfl) (1) (rfl) (by omega) (by decide) dX7_risks_19 ?_
    refine m_toe (bI (isRk σ 1)) ((hR 1 (by decide)).1) ?_
    refine m_ifeqB (tgt := 27) hx hb dX7_risks_20 (by decide) (fun c_20 => ?_) (fun c_20 => ?_)
    · refine lv_iconst (v := nI 0) hx hb dX7_risks_27 (by decide) ?_
      refine m_iaddN hx hb dX7_risks_28 ?_
      exact m_iret hx hb hr hlk hH hS dX7_risks_29 (⟨by unfold rkN; rw [c_6, c_20]; rfl, rfl⟩)
    · refine lv_iconst (v := nI 1) hx hb dX7_risks_23 (by decide) ?_
      refine lv_goto (tgt := 28) hx hb dX7_risks_24 (by decide) ?_
      refine m_iaddN hx hb dX7_risks_28 ?_
      exact m_iret hx hb hr hlk hH hS dX7_risks_29 (⟨by unfold rkN; rw [c_6, c_20]; rfl, rfl⟩)
  · refine lv_iconst (v := nI 1) hx hb dX7_risks_9 (by decide) ?_
    refine lv_goto (tgt := 14) hx hb dX7_risks_10 (by decide) ?_
    refine lv_aload_n hx hb dX7_risks_14 rfl (lv_at hl 0 rfl) ?_
    refine gf_X7_39 hx hb hown hK hH (bm hM 0) dX7_risks_15 ?_
    refine lv_iconst (v := nI 1) hx hb dX7_risks_18 (by decide) ?_
    refine m_zald hx hb hK hH (n := 2) (bm hM 13) (fun _ _ => rfl) (1) (rfl) (by omega) (by decide) dX7_risks_19 ?_
    refine m_toe (bI (isRk σ 1)) ((hR 1 (by decide)).1) ?_
    refine m_ifeqB (tgt := 27) hx hb dX7_risks_20 (by decide) (fun c_20 => ?_) (fun c_20 => ?_)
    · refine lv_iconst (v := nI 0) hx hb dX7_risks_27 (by decide) ?_
      refine m_iaddN hx hb dX7_risks_28 ?_
      exact m_iret hx hb hr hlk hH hS dX7_risks_29 (⟨by unfold rkN; rw [c_6, c_20]; rfl, rfl⟩)
    · refine lv_iconst (v := nI 1) hx hb dX7_risks_23 (by decide) ?_
      refine lv_goto (tgt := 28) hx hb dX7_risks_24 (by decide) ?_
      refine m_iaddN hx hb dX7_risks_28 ?_
      exact m_iret hx hb hr hlk hH hS dX7_risks_29 (⟨by unfold rkN; rw [c_6, c_20]; rfl, rfl⟩)
set_option maxHeartbeats 4000000 in
set_option maxRecDepth 100000 in
theorem c_X7_forget (l : Launch) (G : gG) (B : gB) (σ : gS) (hM : BkM B) (hR : WfR σ) : Met l yX7_forget [.code yX7_forget cX7_forget 2 (some .int)] ({ frames := 1, cells := 0, slots := 0, locals := 20 } : Room) (mPc G B σ [.ref (B.1 0 0)]) (mQi G B (fun v σ' => v = nI (rkN σ) ∧ σ' = sI (sI σ 13 0 0 (nI 0)) 13 0 1 (nI 0))) 0 0 (mA G) := by
  refine m_start (by decide) (Nat.le_of_ble_eq_true rfl) ?_
  intro p e s m below meth c ⟨hx, hb, hr, hml, hown, hK, hlk, hz⟩ hH hS ls hl
  have hl : lv_has ls 2 [(0, .ref (B.1 0 0))] := hl
  refine lv_aload_n hx hb dX7_forget_0 rfl (lv_at hl 0 rfl) ?_
  refine m_ki (m_runV (k := 0) (i := 0) (ci := 7) ⟨hx, hb, hml, hown, hz⟩ hK hH hS (bm hM 0) rfl rfl (c_X7_risks l G B σ hM hR) mw_X7_risks wl_X7_152 ⟨rfl, rfl⟩ ⟨by decide, by decide⟩ rfl hl.1 rfl (Nat.le_of_ble_eq_true rfl) dX7_forget_1 ⟨Nat.zero_le _, Nat.zero_le _⟩) hS (fun r_1 σ_1 H locs hp hH hS => ?_)
  obtain ⟨hr1, hs1⟩ := hp
  subst hr1
  rw [hs1] at hH
  refine lv_istore_n (lv' := [(1, .int (nI (rkN σ))), (0, .ref (B.1 0 0))]) hx hb dX7_forget_4 rfl hl (by decide) rfl (fun ls hl => ?_)
  refine lv_aload_n hx hb dX7_forget_5 rfl (lv_at hl 1 rfl) ?_
  refine gf_X7_39 hx hb hown hK hH (bm hM 0) dX7_forget_6 ?_
  refine lv_iconst (v := nI 0) hx hb dX7_forget_9 (by decide) ?_
  refine lv_iconst (v := nI 0) hx hb dX7_forget_10 (by decide) ?_
  refine m_zast hx hb hK hH hS (n := 2) (bm hM 13) (fun _ _ => rfl) (0) (rfl) (by omega) (by decide) (rfl) dX7_forget_11 (fun H locs hH hS => ?_)
  refine lv_aload_n hx hb dX7_forget_12 rfl (lv_at hl 1 rfl) ?_
  refine gf_X7_39 hx hb hown hK hH (bm hM 0) dX7_forget_13 ?_
  refine lv_iconst (v := nI 1) hx hb dX7_forget_16 (by decide) ?_
  refine lv_iconst (v := nI 0) hx hb dX7_forget_17 (by decide) ?_
  refine m_zast hx hb hK hH hS (n := 2) (bm hM 13) (fun _ _ => rfl) (1) (rfl) (by omega) (by decide) (rfl) dX7_forget_18 (fun H locs hH hS => ?_)
  refine lv_iload_n hx hb dX7_forget_19 rfl (lv_at hl 0 rfl) ?_
  exact m_iret hx hb hr hlk hH hS dX7_forget_20 (⟨rfl, rfl⟩)
def nS (σ : gS) : Nat := (σ.1 0 0 1).toNatClampNeg
def nL (σ : gS) : Nat := (σ.1 0 0 2).toNatClampNeg
def isSu (σ : gS) (x : Int32) : Bool := decide (0 ≤ x.toInt ∧ x.toInt < (nS σ : Int))
def isLo (σ : gS) (x : Int32) : Bool := decide (0 ≤ x.toInt ∧ x.toInt < (nL σ : Int))
theorem inR_n {n : Nat} {x : Int32} (h : n ≤ 60) : inR x (nI 0) (nI n - nI 1) = decide (0 ≤ x.toInt ∧ x.toInt < (n : Int)) := by
  unfold inR
  have e := nI_I (n := n) (by omega)
  rw [i_sub (by rw [e, n1I]; omega) (by rw [e, n1I]; omega), e, n1I, n0I]
  by_cases q : 0 ≤ x.toInt ∧ x.toInt < (n : Int)
  · rw [decide_eq_true q, decide_eq_true (by omega)]
  · rw [decide_eq_false q, decide_eq_false (by omega)]
theorem isSu_t {σ : gS} {x : Int32} (h : isSu σ x = true) : ∃ p : Nat, p < nS σ ∧ x = nI p := by
  have h2 := of_decide_eq_true h
  obtain ⟨a, b⟩ := i_nat h2.1
  exact ⟨x.toInt.toNat, by omega, a⟩
theorem isLo_t {σ : gS} {x : Int32} (h : isLo σ x = true) : ∃ p : Nat, p < nL σ ∧ x = nI p := by
  have h2 := of_decide_eq_true h
  obtain ⟨a, b⟩ := i_nat h2.1
  exact ⟨x.toInt.toNat, by omega, a⟩
def rl (σ : gS) (s : Nat) : Nat := (σ.1 15 0 s).toNatClampNeg
def rn (σ : gS) (s : Nat) : Nat := (σ.1 17 0 s).toNatClampNeg
def pO (σ : gS) (s j : Nat) : Nat := (σ.1 14 0 (3 * s + j)).toNatClampNeg
def WfS1 (σ : gS) (s : Nat) : Prop := σ.1 15 0 s = nI (rl σ s) ∧ rl σ s ≤ 2 ∧ (∀ j, j < 3 → σ.1 14 0 (3 * s + j) = nI (pO σ s j) ∧ pO σ s j < nP σ ∧ clo σ (pO σ s j) = true) ∧ σ.1 17 0 s = nI (rn σ s) ∧ rn σ s ≤ 60
def WfS (σ : gS) : Prop := σ.1 0 0 1 = nI (nS σ) ∧ nS σ ≤ 8 ∧ (∀ s, s < nS σ → WfS1 σ s) ∧ ∀ s, nS σ ≤ s → s < 8 → σ.1 16 0 s = 0 ∧ σ.1 17 0 s = 0
set_option maxHeartbeats 4000000 in
set_option maxRecDepth 100000 in
theorem c_X7_isSupplier (l : Launch) (G : gG) (B : gB) (σ : gS) (hM : BkM B) (hW : WfS σ) (x : Int32) : Met l yX7_isSupplier [.code yX7_isSupplier cX7_isSupplier 2 (some .boolean)] ({ frames := 1, cells := 0, slots := 0, locals := 22 } : Room) (mPc G B σ [.ref (B.1 0 0), .int (x)]) (mQi G B (fun v σ' => v = bI (isSu σ x) ∧ σ' = σ)) 0 0 (mA G) := by
  refine m_start (by decide) (Nat.le_of_ble_eq_true rfl) ?_
  intro p e s m below meth c ⟨hx, hb, hr, hml, hown, hK, hlk, hz⟩ hH hS ls hl
  have hl : lv_has ls 2 [(0, .ref (B.1 0 0)), (1, .int (x))] := hl
  refine lv_iload_n hx hb dX7_isSupplier_0 rfl (lv_at hl 1 rfl) ?_
  refine lv_iconst (v := nI 0) hx hb dX7_isSupplier_1 (by decide) ?_
  refine lv_aload_n hx hb dX7_isSupplier_2 rfl (lv_at hl 0 rfl) ?_
  refine gf_X7_168 hx hb hown hK hH (bm hM 0) dX7_isSupplier_3 ?_
  refine m_toi (nS σ) (hW.1) ?_
  refine lv_iconst (v := nI 1) hx hb dX7_isSupplier_6 (by decide) ?_
  refine lv_isub hx hb dX7_isSupplier_7 ?_
  refine m_ki (m_runS ⟨hx, hb, hml, hown, hz⟩ hK hH hS (c_X7_in l G B σ x (nI 0) (nI (nS σ) - nI 1)) mw_X7_in wl_X7_95 ⟨rfl, rfl⟩ ⟨by decide, by decide⟩ rfl hl.1 rfl (Nat.le_of_ble_eq_true rfl) dX7_isSupplier_8 ⟨Nat.zero_le _, Nat.zero_le _⟩) hS (fun r_8 σ_8 H locs hp hH hS => ?_)
  obtain ⟨hr1, hs1⟩ := hp
  subst hr1
  rw [hs1] at hH
  exact m_zret hx hb hr hlk hH hS dX7_isSupplier_11 (by first | exact Or.inl rfl | exact Or.inr rfl | exact bI_01 _) (⟨by rw [inR_n (by have := hW.2.1; omega)]; rfl, rfl⟩)
set_option maxHeartbeats 4000000 in
set_option maxRecDepth 100000 in
theorem c_X7_isLot (l : Launch) (G : gG) (B : gB) (σ : gS) (hM : BkM B) (h60 : σ.1 0 0 2 = nI (nL σ) ∧ nL σ ≤ 60) (x : Int32) : Met l yX7_isLot [.code yX7_isLot cX7_isLot 2 (some .boolean)] ({ frames := 1, cells := 0, slots := 0, locals := 22 } : Room) (mPc G B σ [.ref (B.1 0 0), .int (x)]) (mQi G B (fun v σ' => v = bI (isLo σ x) ∧ σ' = σ)) 0 0 (mA G) := by
  refine m_start (by decide) (Nat.le_of_ble_eq_true rfl) ?_
  intro p e s m below meth c ⟨hx, hb, hr, hml, hown, hK, hlk, hz⟩ hH hS ls hl
  have hl : lv_has ls 2 [(0, .ref (B.1 0 0)), (1, .int (x))] := hl
  refine lv_iload_n hx hb dX7_isLot_0 rfl (lv_at hl 1 rfl) ?_
  refine lv_iconst (v := nI 0) hx hb dX7_isLot_1 (by decide) ?_
  refine lv_aload_n hx hb dX7_isLot_2 rfl (lv_at hl 0 rfl) ?_
  refine gf_X7_171 hx hb hown hK hH (bm hM 0) dX7_isLot_3 ?_
  refine m_toi (nL σ) (h60.1) ?_
  refine lv_iconst (v := nI 1) hx hb dX7_isLot_6 (by decide) ?_
  refine lv_isub hx hb dX7_isLot_7 ?_
  refine m_ki (m_runS ⟨hx, hb, hml, hown, hz⟩ hK hH hS (c_X7_in l G B σ x (nI 0) (nI (nL σ) - nI 1)) mw_X7_in wl_X7_95 ⟨rfl, rfl⟩ ⟨by decide, by decide⟩ rfl hl.1 rfl (Nat.le_of_ble_eq_true rfl) dX7_isLot_8 ⟨Nat.zero_le _, Nat.zero_le _⟩) hS (fun r_8 σ_8 H locs hp hH hS => ?_)
  obtain ⟨hr1, hs1⟩ := hp
  subst hr1
  rw [hs1] at hH
  exact m_zret hx hb hr hlk hH hS dX7_isLot_11 (by first | exact Or.inl rfl | exact Or.inr rfl | exact bI_01 _) (⟨by rw [inR_n h60.2]; rfl, rfl⟩)
theorem isSu_nI {σ : gS} {p : Nat} (hp : p < nS σ) (h8 : nS σ ≤ 8) : isSu σ (nI p) = true := by
  unfold isSu
  rw [nI_I (by omega)]
  exact decide_eq_true (by omega)
theorem isLo_nI {σ : gS} {p : Nat} (hp : p < nL σ) (h8 : nL σ ≤ 60) : isLo σ (nI p) = true := by
  unfold isLo
  rw [nI_I (by omega)]
  exact decide_eq_true (by omega)
set_option maxHeartbeats 4000000 in
set_option maxRecDepth 100000 in
theorem c_X7_rule (l : Launch) (G : gG) (B : gB) (σ : gS) (hM : BkM B) (hW : WfS σ) (x : Int32) : Met l yX7_rule [.code yX7_rule cX7_rule 2 (some .int)] ({ frames := 2, cells := 0, slots := 0, locals := 43 } : Room) (mPc G B σ [.ref (B.1 0 0), .int (x)]) (mQi G B (fun v σ' => v = (if isSu σ x = true then σ.1 15 0 x.toNatClampNeg else -2) ∧ σ' = σ)) 0 0 (mA G) := by
  refine m_start (by decide) (Nat.le_of_ble_eq_true rfl) ?_
  intro p e s m below meth c ⟨hx, hb, hr, hml, hown, hK, hlk, hz⟩ hH hS ls hl
  have hl : lv_has ls 2 [(0, .ref (B.1 0 0)), (1, .int (x))] := hl
  refine lv_aload_n hx hb dX7_rule_0 rfl (lv_at hl 0 rfl) ?_
  refine lv_iload_n hx hb dX7_rule_1 rfl (lv_at hl 1 rfl) ?_
  refine m_ki (m_runV (k := 0) (i := 0) (ci := 7) ⟨hx, hb, hml, hown, hz⟩ hK hH hS (bm hM 0) rfl rfl (c_X7_isSupplier l G B σ hM hW x) mw_X7_isSupplier wl_X7_174 ⟨rfl, rfl⟩ ⟨by decide, by decide⟩ rfl hl.1 rfl (Nat.le_of_ble_eq_true rfl) dX7_rule_2 ⟨Nat.zero_le _, Nat.zero_le _⟩) hS (fun r_2 σ_2 H locs hp hH hS => ?_)
  obtain ⟨hr1, hs1⟩ := hp
  subst hr1
  rw [hs1] at hH
  refine m_ifeqB (tgt := 17) hx hb dX7_rule_5 (by decide) (fun c_5 => ?_) (fun c_5 => ?_)
  · refine lv_bipush (v := (-2)) hx hb dX7_rule_17 (by decide) ?_
    exact m_iret hx hb hr hlk hH hS dX7_rule_19 (by rw [c_5]; exact ⟨rfl, rfl⟩)
  · obtain ⟨sn, hsn, rfl⟩ := isSu_t c_5
    have h8 := hW.2.1
    refine lv_aload_n hx hb dX7_rule_8 rfl (lv_at hl 0 rfl) ?_
    refine gf_X7_46 hx hb hown hK hH (bm hM 0) dX7_rule_9 ?_
    refine lv_iload_n hx hb dX7_rule_12 rfl (lv_at hl 1 rfl) ?_
    refine m_iald hx hb hK hH (n := 8) (bm hM 15) (fun _ _ => rfl) (sn) (rfl) (by omega) (by decide) dX7_rule_13 ?_
    refine lv_goto (tgt := 19) hx hb dX7_rule_14 (by decide) ?_
    exact m_iret hx hb hr hlk hH hS dX7_rule_19 (by rw [isSu_nI hsn h8]; exact ⟨by rw [nI_clamp (by omega)]; rfl, rfl⟩)
def coOK (w n : Int32) : Bool := decide ((0 ≤ w.toInt ∧ w.toInt ≤ 3) ∧ (0 ≤ n.toInt ∧ n.toInt ≤ 100000))
set_option maxHeartbeats 4000000 in
set_option maxRecDepth 100000 in
theorem c_X7_cost (l : Launch) (G : gG) (B : gB) (σ : gS) (hM : BkM B) (t u : Int32) : Met l yX7_cost [.code yX7_cost cX7_cost 4 (some .int)] ({ frames := 1, cells := 0, slots := 0, locals := 22 } : Room) (mPc G B σ [.ref (B.1 0 0), .int (t), .int (u)]) (mQi G B (fun v σ' => if coOK t u = true then ∃ q : Nat, q < 4 ∧ t = nI q ∧ v = σ.1 25 0 q ∧ σ' = sI σ 25 0 q u else v = -2 ∧ σ' = σ)) 0 0 (mA G) := by
  refine m_start (by decide) (Nat.le_of_ble_eq_true rfl) ?_
  intro p e s m below meth c ⟨hx, hb, hr, hml, hown, hK, hlk, hz⟩ hH hS ls hl
  have hl : lv_has ls 4 [(0, .ref (B.1 0 0)), (1, .int (t)), (2, .int (u))] := hl
  refine lv_iload_n hx hb dX7_cost_0 rfl (lv_at hl 1 rfl) ?_
  refine lv_iconst (v := nI 0) hx hb dX7_cost_1 (by decide) ?_
  refine lv_iconst (v := nI 3) hx hb dX7_cost_2 (by decide) ?_
  refine m_ki (m_runS ⟨hx, hb, hml, hown, hz⟩ hK hH hS (c_X7_in l G B σ t (nI 0) (nI 3)) mw_X7_in wl_X7_95 ⟨rfl, rfl⟩ ⟨by decide, by decide⟩ rfl hl.1 rfl (Nat.le_of_ble_eq_true rfl) dX7_cost_3 ⟨Nat.zero_le _, Nat.zero_le _⟩) hS (fun r_3 σ_3 H locs hp hH hS => ?_)
  obtain ⟨hr1, hs1⟩ := hp
  subst hr1
  rw [hs1] at hH
  refine m_ifeqB (tgt := 19) hx hb dX7_cost_6 (by decide) (fun c_6 => ?_) (fun c_6 => ?_)
  · have hno : coOK t u = false := by
      refine decide_eq_false (fun hh => ?_)
      obtain ⟨h1, h2⟩ := hh
      first
        | (have := inR_f c_6; rw [n0I, n3I] at this; omega)
        | (have := inR_f c_16; rw [n0I, show (100000 : Int32).toInt = 100000 from rfl] at this; omega)
    refine lv_bipush (v := (-2)) hx hb dX7_cost_19 (by decide) ?_
    exact m_iret hx hb hr hlk hH hS dX7_cost_21 (by rw [hno]; exact ⟨rfl, rfl⟩)
  · refine lv_iload_n hx hb dX7_cost_9 rfl (lv_at hl 2 rfl) ?_
    refine lv_iconst (v := nI 0) hx hb dX7_cost_10 (by decide) ?_
    refine lv_ldc hx hb hown (hK.2 _ wc_X7_204 rfl _) dX7_cost_11 ?_
    refine m_ki (m_runS ⟨hx, hb, hml, hown, hz⟩ hK hH hS (c_X7_in l G B σ u (nI 0) 100000) mw_X7_in wl_X7_95 ⟨rfl, rfl⟩ ⟨by decide, by decide⟩ rfl hl.1 rfl (Nat.le_of_ble_eq_true rfl) dX7_cost_13 ⟨Nat.zero_le _, Nat.zero_le _⟩) hS (fun r_13 σ_13 H locs hp hH hS => ?_)
    obtain ⟨hr1, hs1⟩ := hp
    subst hr1
    rw [hs1] at hH
    refine m_ifneB (tgt := 22) hx hb dX7_cost_16 (by decide) (fun c_16 => ?_) (fun c_16 => ?_)
    · have h1 := inR_t c_6; rw [n0I, n3I] at h1
      have h2 := inR_t c_16; rw [n0I, show (100000 : Int32).toInt = 100000 from rfl] at h2
      have hyes : coOK t u = true := decide_eq_true ⟨h1, h2⟩
      obtain ⟨k1, k2⟩ := i_nat h1.1
      obtain ⟨q, hq⟩ : ∃ q : Nat, q = t.toInt.toNat := ⟨_, rfl⟩
      rw [← hq] at k1 k2
      have hqn : q < 4 := by omega
      clear c_6 hq k2 h1
      subst k1
      refine lv_aload_n hx hb dX7_cost_22 rfl (lv_at hl 0 rfl) ?_
      refine gf_X7_76 hx hb hown hK hH (bm hM 0) dX7_cost_23 ?_
      refine lv_iload_n hx hb dX7_cost_26 rfl (lv_at hl 1 rfl) ?_
      refine m_iald hx hb hK hH (n := 4) (bm hM 25) (fun _ _ => rfl) (q) (rfl) (by omega) (by decide) dX7_cost_27 ?_
      refine lv_istore_n (lv' := [(3, .int (σ.1 25 0 q)), (0, .ref (B.1 0 0)), (1, .int (nI q)), (2, .int (u))]) hx hb dX7_cost_28 rfl hl (by decide) rfl (fun ls hl => ?_)
      refine lv_aload_n hx hb dX7_cost_29 rfl (lv_at hl 1 rfl) ?_
      refine gf_X7_76 hx hb hown hK hH (bm hM 0) dX7_cost_30 ?_
      refine lv_iload_n hx hb dX7_cost_33 rfl (lv_at hl 2 rfl) ?_
      refine lv_iload_n hx hb dX7_cost_34 rfl (lv_at hl 3 rfl) ?_
      refine m_iast hx hb hK hH hS (n := 4) (bm hM 25) (fun _ _ => rfl) (q) (rfl) (by omega) (by decide) dX7_cost_35 (fun H locs hH hS => ?_)
      refine lv_iload_n hx hb dX7_cost_36 rfl (lv_at hl 0 rfl) ?_
      exact m_iret hx hb hr hlk hH hS dX7_cost_37 (by rw [hyes]; exact ⟨q, hqn, rfl, rfl, rfl⟩)
    · have hno : coOK t u = false := by
        refine decide_eq_false (fun hh => ?_)
        obtain ⟨h1, h2⟩ := hh
        first
          | (have := inR_f c_6; rw [n0I, n3I] at this; omega)
          | (have := inR_f c_16; rw [n0I, show (100000 : Int32).toInt = 100000 from rfl] at this; omega)
      refine lv_bipush (v := (-2)) hx hb dX7_cost_19 (by decide) ?_
      exact m_iret hx hb hr hlk hH hS dX7_cost_21 (by rw [hno]; exact ⟨rfl, rfl⟩)
def maS (σ : gS) (n : Int32) : Bool := decide ((1 ≤ n.toInt ∧ n.toInt ≤ 60) ∧ (isRk σ 0 = true → (rAt σ 0 : Int) ≤ n.toInt) ∧ (isRk σ 1 = true → (rAt σ 1 : Int) ≤ n.toInt))
theorem maS_t {σ : gS} {n : Int32} (h : (nI 1).toInt ≤ n.toInt ∧ n.toInt ≤ (nI 60).toInt) (h0 : isRk σ 0 = true → (rAt σ 0 : Int) ≤ n.toInt) (h1 : isRk σ 1 = true → (rAt σ 1 : Int) ≤ n.toInt) : maS σ n = true := by
  rw [n1I, n60I] at h
  exact decide_eq_true ⟨h, h0, h1⟩
set_option maxHeartbeats 4000000 in
set_option maxRecDepth 100000 in
theorem c_X7_maySearch (l : Launch) (G : gG) (B : gB) (σ : gS) (hM : BkM B) (hR : WfR σ) (n : Int32) : Met l yX7_maySearch [.code yX7_maySearch cX7_maySearch 2 (some .boolean)] ({ frames := 1, cells := 0, slots := 0, locals := 22 } : Room) (mPc G B σ [.ref (B.1 0 0), .int (n)]) (mQi G B (fun v σ' => v = bI (maS σ n) ∧ σ' = σ)) 0 0 (mA G) := by
  refine m_start (by decide) (Nat.le_of_ble_eq_true rfl) ?_
  intro p e s m below meth c ⟨hx, hb, hr, hml, hown, hK, hlk, hz⟩ hH hS ls hl
  have hl : lv_has ls 2 [(0, .ref (B.1 0 0)), (1, .int (n))] := hl
  refine lv_iload_n hx hb dX7_maySearch_0 rfl (lv_at hl 1 rfl) ?_
  refine lv_iconst (v := nI 1) hx hb dX7_maySearch_1 (by decide) ?_
  refine lv_bipush (v := nI 60) hx hb dX7_maySearch_2 (by decide) ?_
  refine m_ki (m_runS ⟨hx, hb, hml, hown, hz⟩ hK hH hS (c_X7_in l G B σ n (nI 1) (nI 60)) mw_X7_in wl_X7_95 ⟨rfl, rfl⟩ ⟨by decide, by decide⟩ rfl hl.1 rfl (Nat.le_of_ble_eq_true rfl) dX7_maySearch_4 ⟨Nat.zero_le _, Nat.zero_le _⟩) hS (fun r_4 σ_4 H locs hp hH hS => ?_)
  obtain ⟨hr1, hs1⟩ := hp
  subst hr1
  rw [hs1] at hH
  refine m_ifeqB (tgt := 52) hx hb dX7_maySearch_7 (by decide) (fun c_7 => ?_) (fun c_7 => ?_)
  · refine lv_iconst (v := nI 0) hx hb dX7_maySearch_52 (by decide) ?_
    exact m_zret hx hb hr hlk hH hS dX7_maySearch_53 (by first | exact Or.inl rfl | exact Or.inr rfl | exact bI_01 _) (⟨bI_f (by refine decide_eq_false (fun hh => ?_); obtain ⟨h1, h2, h3⟩ := hh; first | (have := inR_f c_7; rw [n1I, n60I] at this; omega) | (rw [i_lt, e0] at c_26; have := h2 c_16; omega) | (rw [i_lt, e1] at c_45; have := h3 c_35; omega)), rfl⟩)
  · refine lv_aload_n hx hb dX7_maySearch_10 rfl (lv_at hl 0 rfl) ?_
    refine gf_X7_39 hx hb hown hK hH (bm hM 0) dX7_maySearch_11 ?_
    refine lv_iconst (v := nI 0) hx hb dX7_maySearch_14 (by decide) ?_
    refine m_zald hx hb hK hH (n := 2) (bm hM 13) (fun _ _ => rfl) (0) (rfl) (by omega) (by decide) dX7_maySearch_15 ?_
    refine m_toe (bI (isRk σ 0)) ((hR 0 (by decide)).1) ?_
    refine m_ifeqB (tgt := 29) hx hb dX7_maySearch_16 (by decide) (fun c_16 => ?_) (fun c_16 => ?_)
    · refine lv_aload_n hx hb dX7_maySearch_29 rfl (lv_at hl 0 rfl) ?_
      refine gf_X7_39 hx hb hown hK hH (bm hM 0) dX7_maySearch_30 ?_
      refine lv_iconst (v := nI 1) hx hb dX7_maySearch_33 (by decide) ?_
      refine m_zald hx hb hK hH (n := 2) (bm hM 13) (fun _ _ => rfl) (1) (rfl) (by omega) (by decide) dX7_maySearch_34 ?_
      refine m_toe (bI (isRk σ 1)) ((hR 1 (by decide)).1) ?_
      refine m_ifeqB (tgt := 48) hx hb dX7_maySearch_35 (by decide) (fun c_35 => ?_) (fun c_35 => ?_)
      · refine lv_iconst (v := nI 1) hx hb dX7_maySearch_48 (by decide) ?_
        refine lv_goto (tgt := 53) hx hb dX7_maySearch_49 (by decide) ?_
        exact m_zret hx hb hr hlk hH hS dX7_maySearch_53 (by first | exact Or.inl rfl | exact Or.inr rfl | exact bI_01 _) (⟨bI_t (maS_t (inR_t c_7) (by first | (rw [i_lt, e0] at c_26; exact fun _ => by omega) | (intro q; rw [c_16] at q; exact absurd q (by decide))) (by first | (rw [i_lt, e1] at c_45; exact fun _ => by omega) | (intro q; rw [c_35] at q; exact absurd q (by decide)))), rfl⟩)
      · refine lv_aload_n hx hb dX7_maySearch_38 rfl (lv_at hl 0 rfl) ?_
        refine gf_X7_30 hx hb hown hK hH (bm hM 0) dX7_maySearch_39 ?_
        refine lv_iconst (v := nI 1) hx hb dX7_maySearch_42 (by decide) ?_
        refine m_iald hx hb hK hH (n := 2) (bm hM 10) (fun _ _ => rfl) (1) (rfl) (by omega) (by decide) dX7_maySearch_43 ?_
        refine m_toi (rAt σ 1) (((hR 1 (by decide)).2 c_35).1) ?_
        have e1 := nI_I (n := rAt σ 1) (by have := ((hR 1 (by decide)).2 c_35).2.1; omega)
        refine lv_iload_n hx hb dX7_maySearch_44 rfl (lv_at hl 1 rfl) ?_
        refine lv_icmp_gt (tgt := 52) hx hb dX7_maySearch_45 (by decide) (fun c_45 => ?_) (fun c_45 => ?_)
        · refine lv_iconst (v := nI 0) hx hb dX7_maySearch_52 (by decide) ?_
          exact m_zret hx hb hr hlk hH hS dX7_maySearch_53 (by first | exact Or.inl rfl | exact Or.inr rfl | exact bI_01 _) (⟨bI_f (by refine decide_eq_false (fun hh => ?_); obtain ⟨h1, h2, h3⟩ := hh; first | (have := inR_f c_7; rw [n1I, n60I] at this; omega) | (rw [i_lt, e0] at c_26; have := h2 c_16; omega) | (rw [i_lt, e1] at c_45; have := h3 c_35; omega)), rfl⟩)
        · refine lv_iconst (v := nI 1) hx hb dX7_maySearch_48 (by decide) ?_
          refine lv_goto (tgt := 53) hx hb dX7_maySearch_49 (by decide) ?_
          exact m_zret hx hb hr hlk hH hS dX7_maySearch_53 (by first | exact Or.inl rfl | exact Or.inr rfl | exact bI_01 _) (⟨bI_t (maS_t (inR_t c_7) (by first | (rw [i_lt, e0] at c_26; exact fun _ => by omega) | (intro q; rw [c_16] at q; exact absurd q (by decide))) (by first | (rw [i_lt, e1] at c_45; exact fun _ => by omega) | (intro q; rw [c_35] at q; exact absurd q (by decide)))), rfl⟩)
    · refine lv_aload_n hx hb dX7_maySearch_19 rfl (lv_at hl 0 rfl) ?_
      refine gf_X7_30 hx hb hown hK hH (bm hM 0) dX7_maySearch_20 ?_
      refine lv_iconst (v := nI 0) hx hb dX7_maySearch_23 (by decide) ?_
      refine m_iald hx hb hK hH (n := 2) (bm hM 10) (fun _ _ => rfl) (0) (rfl) (by omega) (by decide) dX7_maySearch_24 ?_
      refine m_toi (rAt σ 0) (((hR 0 (by decide)).2 c_16).1) ?_
      have e0 := nI_I (n := rAt σ 0) (by have := ((hR 0 (by decide)).2 c_16).2.1; omega)
      refine lv_iload_n hx hb dX7_maySearch_25 rfl (lv_at hl 1 rfl) ?_
      refine lv_icmp_gt (tgt := 52) hx hb dX7_maySearch_26 (by decide) (fun c_26 => ?_) (fun c_26 => ?_)
      · refine lv_iconst (v := nI 0) hx hb dX7_maySearch_52 (by decide) ?_
        exact m_zret hx hb hr hlk hH hS dX7_maySearch_53 (by first | exact Or.inl rfl | exact Or.inr rfl | exact bI_01 _) (⟨bI_f (by refine decide_eq_false (fun hh => ?_); obtain ⟨h1, h2, h3⟩ := hh; first | (have := inR_f c_7; rw [n1I, n60I] at this; omega) | (rw [i_lt, e0] at c_26; have := h2 c_16; omega) | (rw [i_lt, e1] at c_45; have := h3 c_35; omega)), rfl⟩)
      · refine lv_aload_n hx hb dX7_maySearch_29 rfl (lv_at hl 0 rfl) ?_
        refine gf_X7_39 hx hb hown hK hH (bm hM 0) dX7_maySearch_30 ?_
        refine lv_iconst (v := nI 1) hx hb dX7_maySearch_33 (by decide) ?_
        refine m_zald hx hb hK hH (n := 2) (bm hM 13) (fun _ _ => rfl) (1) (rfl) (by omega) (by decide) dX7_maySearch_34 ?_
        refine m_toe (bI (isRk σ 1)) ((hR 1 (by decide)).1) ?_
        refine m_ifeqB (tgt := 48) hx hb dX7_maySearch_35 (by decide) (fun c_35 => ?_) (fun c_35 => ?_)
        · refine lv_iconst (v := nI 1) hx hb dX7_maySearch_48 (by decide) ?_
          refine lv_goto (tgt := 53) hx hb dX7_maySearch_49 (by decide) ?_
          exact m_zret hx hb hr hlk hH hS dX7_maySearch_53 (by first | exact Or.inl rfl | exact Or.inr rfl | exact bI_01 _) (⟨bI_t (maS_t (inR_t c_7) (by first | (rw [i_lt, e0] at c_26; exact fun _ => by omega) | (intro q; rw [c_16] at q; exact absurd q (by decide))) (by first | (rw [i_lt, e1] at c_45; exact fun _ => by omega) | (intro q; rw [c_35] at q; exact absurd q (by decide)))), rfl⟩)
        · refine lv_aload_n hx hb dX7_maySearch_38 rfl (lv_at hl 0 rfl) ?_
          refine gf_X7_30 hx hb hown hK hH (bm hM 0) dX7_maySearch_39 ?_
          refine lv_iconst (v := nI 1) hx hb dX7_maySearch_42 (by decide) ?_
          refine m_iald hx hb hK hH (n := 2) (bm hM 10) (fun _ _ => rfl) (1) (rfl) (by omega) (by decide) dX7_maySearch_43 ?_
          refine m_toi (rAt σ 1) (((hR 1 (by decide)).2 c_35).1) ?_
          have e1 := nI_I (n := rAt σ 1) (by have := ((hR 1 (by decide)).2 c_35).2.1; omega)
          refine lv_iload_n hx hb dX7_maySearch_44 rfl (lv_at hl 1 rfl) ?_
          refine lv_icmp_gt (tgt := 52) hx hb dX7_maySearch_45 (by decide) (fun c_45 => ?_) (fun c_45 => ?_)
          · refine lv_iconst (v := nI 0) hx hb dX7_maySearch_52 (by decide) ?_
            exact m_zret hx hb hr hlk hH hS dX7_maySearch_53 (by first | exact Or.inl rfl | exact Or.inr rfl | exact bI_01 _) (⟨bI_f (by refine decide_eq_false (fun hh => ?_); obtain ⟨h1, h2, h3⟩ := hh; first | (have := inR_f c_7; rw [n1I, n60I] at this; omega) | (rw [i_lt, e0] at c_26; have := h2 c_16; omega) | (rw [i_lt, e1] at c_45; have := h3 c_35; omega)), rfl⟩)
          · refine lv_iconst (v := nI 1) hx hb dX7_maySearch_48 (by decide) ?_
            refine lv_goto (tgt := 53) hx hb dX7_maySearch_49 (by decide) ?_
            exact m_zret hx hb hr hlk hH hS dX7_maySearch_53 (by first | exact Or.inl rfl | exact Or.inr rfl | exact bI_01 _) (⟨bI_t (maS_t (inR_t c_7) (by first | (rw [i_lt, e0] at c_26; exact fun _ => by omega) | (intro q; rw [c_16] at q; exact absurd q (by decide))) (by first | (rw [i_lt, e1] at c_45; exact fun _ => by omega) | (intro q; rw [c_35] at q; exact absurd q (by decide)))), rfl⟩)
