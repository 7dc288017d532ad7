theorem inR_t {v lo hi : Int32} (h : inR v lo hi = true) : lo.toInt ≤ v.toInt ∧ v.toInt ≤ hi.toInt := of_decide_eq_true h
theorem inR_f {v lo hi : Int32} (h : inR v lo hi = false) : ¬ (lo.toInt ≤ v.toInt ∧ v.toInt ≤ hi.toInt) := of_decide_eq_false h
theorem isPl_nI {σ : gS} {p : Nat} (hp : p < nP σ) (h24 : nP σ ≤ 24) : isPl σ (nI p) = true := by
  unfold isPl
  rw [nI_I (by omega)]
  exact decide_eq_true (by omega)
theorem isCl_P {σ : gS} {x : Int32} (h : isPl σ x = false) : isCl σ x = false := by unfold isCl; rw [h]; rfl
theorem fitb_nI {σ : gS} {p : Nat} {n : Int32} (hp : p < nP σ) (h24 : nP σ ≤ 24) : fitb σ (nI p) n = (clo σ p && decide (1 ≤ n.toInt ∧ n.toInt ≤ 60 ∧ (tot σ p (stN σ p) : Int) ≤ n.toInt)) := by
  unfold fitb
  rw [isCl_nI hp h24, nI_clamp (by omega)]
theorem fitb_t {σ : gS} {x n : Int32} (h24 : nP σ ≤ 24) (h : fitb σ x n = true) : ∃ p q : Nat, p < nP σ ∧ x = nI p ∧ n = nI q ∧ clo σ p = true ∧ 1 ≤ q ∧ q ≤ 60 ∧ tot σ p (stN σ p) ≤ q := by
  unfold fitb at h
  obtain ⟨h1, h2⟩ := Bool.and_eq_true_iff.mp h
  obtain ⟨p, hp, rfl, hc⟩ := isCl_t h24 h1
  rw [nI_clamp (by omega)] at h2
  have h3 := of_decide_eq_true h2
  obtain ⟨a, b⟩ := i_nat (x := n) (by omega)
  exact ⟨p, n.toInt.toNat, hp, rfl, a, hc, by omega, by omega, by omega⟩
theorem n60I : (nI 60).toInt = 60 := rfl
theorem n61I : (nI 61).toInt = 61 := rfl
theorem n2I : (nI 2).toInt = 2 := rfl
theorem n6I : (nI 6).toInt = 6 := rfl
theorem n3I : (nI 3).toInt = 3 := rfl
set_option maxHeartbeats 4000000 in
set_option maxRecDepth 100000 in
theorem c_X7_fits (l : Launch) (G : gG) (B : gB) (σ : gS) (hM : BkM B) (hW : WfP σ) (x n : Int32) : Met l yX7_fits [.code yX7_fits cX7_fits 3 (some .boolean)] ({ frames := 3, cells := 0, slots := 0, locals := 64 } : Room) (mPc G B σ [.ref (B.1 0 0), .int (x), .int (n)]) (mQi G B (fun r σ' => r = bI (fitb σ x n) ∧ σ' = σ)) 0 0 (mA G) := by
  refine m_start (by decide) (Nat.le_of_ble_eq_true rfl) ?_
  intro p e s m below meth c ⟨hx, hb, hr, hml, hown, hK, hlk, hz⟩ hH hS ls hl
  have hl : lv_has ls 3 [(0, .ref (B.1 0 0)), (1, .int (x)), (2, .int (n))] := hl
  refine lv_aload_n hx hb dX7_fits_0 rfl (lv_at hl 0 rfl) ?_
  refine lv_iload_n hx hb dX7_fits_1 rfl (lv_at hl 1 rfl) ?_
  refine m_ki (m_runV (k := 0) (i := 0) (ci := 7) ⟨hx, hb, hml, hown, hz⟩ hK hH hS (bm hM 0) rfl rfl (c_X7_isClosed l G B σ hM hW x) mw_X7_isClosed wl_X7_107 ⟨rfl, rfl⟩ ⟨by decide, by decide⟩ rfl hl.1 rfl (Nat.le_of_ble_eq_true rfl) dX7_fits_2 ⟨Nat.zero_le _, Nat.zero_le _⟩) hS (fun r_2 σ_2 H locs hp hH hS => ?_)
  obtain ⟨hr1, hs1⟩ := hp
  subst hr1
  rw [hs1] at hH
  refine m_ifeqB (tgt := 31) hx hb dX7_fits_5 (by decide) (fun c_5 => ?_) (fun c_5 => ?_)
  · refine lv_iconst (v := nI 0) hx hb dX7_fits_31 (by decide) ?_
    exact m_zret hx hb hr hlk hH hS dX7_fits_32 (by first | exact Or.inl rfl | exact Or.inr rfl | exact bI_01 _) (⟨bI_f (by first | (unfold fitb; rw [c_5]; rfl) | (rw [fitb_nI hpn h24, hcl]; have := inR_f c_15; rw [n1I, n60I] at this; exact decide_eq_false (by omega)) | (rw [fitb_nI hpn h24, hcl]; rw [i_lt, et] at c_24; exact decide_eq_false (by omega))), rfl⟩)
  · obtain ⟨pn, hpn, rfl, hcl⟩ := isCl_t hW.2.1 c_5
    have h24 := hW.2.1
    have hP := hW.2.2 pn hpn
    have ht := tot_le hP (Nat.le_refl _)
    have et := nI_I (n := tot σ pn (stN σ pn)) (by omega)
    refine lv_iload_n hx hb dX7_fits_8 rfl (lv_at hl 2 rfl) ?_
    refine lv_iconst (v := nI 1) hx hb dX7_fits_9 (by decide) ?_
    refine lv_bipush (v := nI 60) hx hb dX7_fits_10 (by decide) ?_
    refine m_ki (m_runS ⟨hx, hb, hml, hown, hz⟩ hK hH hS (c_X7_in l G B σ n (nI 1) (nI 60)) mw_X7_in wl_X7_95 ⟨rfl, rfl⟩ ⟨by decide, by decide⟩ rfl hl.1 rfl (Nat.le_of_ble_eq_true rfl) dX7_fits_12 ⟨Nat.zero_le _, Nat.zero_le _⟩) hS (fun r_12 σ_12 H locs hp hH hS => ?_)
    obtain ⟨hr1, hs1⟩ := hp
    subst hr1
    rw [hs1] at hH
    refine m_ifeqB (tgt := 31) hx hb dX7_fits_15 (by decide) (fun c_15 => ?_) (fun c_15 => ?_)
    · refine lv_iconst (v := nI 0) hx hb dX7_fits_31 (by decide) ?_
      exact m_zret hx hb hr hlk hH hS dX7_fits_32 (by first | exact Or.inl rfl | exact Or.inr rfl | exact bI_01 _) (⟨bI_f (by first | (unfold fitb; rw [c_5]; rfl) | (rw [fitb_nI hpn h24, hcl]; have := inR_f c_15; rw [n1I, n60I] at this; exact decide_eq_false (by omega)) | (rw [fitb_nI hpn h24, hcl]; rw [i_lt, et] at c_24; exact decide_eq_false (by omega))), rfl⟩)
    · refine lv_aload_n hx hb dX7_fits_18 rfl (lv_at hl 0 rfl) ?_
      refine lv_iload_n hx hb dX7_fits_19 rfl (lv_at hl 1 rfl) ?_
      refine m_ki (m_runV (k := 0) (i := 0) (ci := 7) ⟨hx, hb, hml, hown, hz⟩ hK hH hS (bm hM 0) rfl rfl (c_X7_all l G B σ hM pn (by omega) hP) mw_X7_all wl_X7_110 ⟨rfl, rfl⟩ ⟨by decide, by decide⟩ rfl hl.1 rfl (Nat.le_of_ble_eq_true rfl) dX7_fits_20 ⟨Nat.zero_le _, Nat.zero_le _⟩) hS (fun r_20 σ_20 H locs hp hH hS => ?_)
      obtain ⟨hr1, hs1⟩ := hp
      subst hr1
      rw [hs1] at hH
      refine lv_iload_n hx hb dX7_fits_23 rfl (lv_at hl 2 rfl) ?_
      refine lv_icmp_gt (tgt := 31) hx hb dX7_fits_24 (by decide) (fun c_24 => ?_) (fun c_24 => ?_)
      · refine lv_iconst (v := nI 0) hx hb dX7_fits_31 (by decide) ?_
        exact m_zret hx hb hr hlk hH hS dX7_fits_32 (by first | exact Or.inl rfl | exact Or.inr rfl | exact bI_01 _) (⟨bI_f (by first | (unfold fitb; rw [c_5]; rfl) | (rw [fitb_nI hpn h24, hcl]; have := inR_f c_15; rw [n1I, n60I] at this; exact decide_eq_false (by omega)) | (rw [fitb_nI hpn h24, hcl]; rw [i_lt, et] at c_24; exact decide_eq_false (by omega))), rfl⟩)
      · refine lv_iconst (v := nI 1) hx hb dX7_fits_27 (by decide) ?_
        refine lv_goto (tgt := 32) hx hb dX7_fits_28 (by decide) ?_
        exact m_zret hx hb hr hlk hH hS dX7_fits_32 (by first | exact Or.inl rfl | exact Or.inr rfl | exact bI_01 _) (⟨bI_t (by rw [fitb_nI hpn h24, hcl]; have := inR_t c_15; rw [n1I, n60I] at this; rw [i_lt, et] at c_24; exact decide_eq_true (by omega)), rfl⟩)
set_option maxHeartbeats 4000000 in
set_option maxRecDepth 100000 in
theorem c_X7_plan (l : Launch) (G : gG) (B : gB) (σ : gS) (hM : BkM B) (hW : WfP σ) : Met l yX7_plan [.code yX7_plan cX7_plan 1 (some .int)] ({ frames := 0, cells := 0, slots := 0, locals := 0 } : Room) (mPc G B σ [.ref (B.1 0 0)]) (mQi G B (fun r σ' => if nP σ = 24 then r = -2 ∧ σ' = σ else r = nI (nP σ) ∧ σ' = sI (sI σ 3 0 (nP σ) (nI 0)) 0 0 0 (nI (nP σ + 1)))) 0 0 (mA G) := by
  refine m_start (by decide) (Nat.le_of_ble_eq_true rfl) ?_
  intro p e s m below meth c ⟨hx, hb, hr, hml, hown, hK, hlk, hz⟩ hH hS ls hl
  have hl : lv_has ls 1 [(0, .ref (B.1 0 0))] := hl
  have h24 := hW.2.1
  refine lv_aload_n hx hb dX7_plan_0 rfl (lv_at hl 0 rfl) ?_
  refine gf_X7_91 hx hb hown hK hH (bm hM 0) dX7_plan_1 ?_
  refine m_toi (nP σ) (hW.1) ?_
  refine lv_bipush (v := nI 24) hx hb dX7_plan_4 (by decide) ?_
  refine m_icmp_neN (tgt := 12) (by omega) (by omega) hx hb dX7_plan_6 (by decide) (fun c_6 => ?_) (fun c_6 => ?_)
  · refine lv_aload_n hx hb dX7_plan_12 rfl (lv_at hl 0 rfl) ?_
    refine gf_X7_7 hx hb hown hK hH (bm hM 0) dX7_plan_13 ?_
    refine lv_aload_n hx hb dX7_plan_16 rfl (lv_at hl 0 rfl) ?_
    refine gf_X7_91 hx hb hown hK hH (bm hM 0) dX7_plan_17 ?_
    refine m_toi (nP σ) (hW.1) ?_
    refine lv_iconst (v := nI 0) hx hb dX7_plan_20 (by decide) ?_
    refine m_iast hx hb hK hH hS (n := 24) (bm hM 3) (fun _ _ => rfl) (nP σ) (rfl) (by omega) (by decide) dX7_plan_21 (fun H locs hH hS => ?_)
    refine lv_aload_n hx hb dX7_plan_22 rfl (lv_at hl 0 rfl) ?_
    refine lv_dup hx hb dX7_plan_23 rfl ?_
    refine gf_X7_91 hx hb hown hK hH (bm hM 0) dX7_plan_24 ?_
    refine m_toi (nP σ) (by simp only [sI_at]; simp; exact hW.1) ?_
    refine lv_iconst (v := nI 1) hx hb dX7_plan_27 (by decide) ?_
    refine m_iaddN hx hb dX7_plan_28 ?_
    refine pf_X7_91 hx hb hown hK hH hS (bm hM 0) dX7_plan_29 (fun H locs hH hS => ?_)
    refine lv_aload_n hx hb dX7_plan_32 rfl (lv_at hl 0 rfl) ?_
    refine gf_X7_91 hx hb hown hK hH (bm hM 0) dX7_plan_33 ?_
    refine m_toi (nP σ + 1) (by rw [sI_at, if_pos ⟨rfl, rfl, rfl⟩]) ?_
    refine lv_iconst (v := nI 1) hx hb dX7_plan_36 (by decide) ?_
    refine m_isubN (by omega) hx hb dX7_plan_37 ?_
    exact m_iret hx hb hr hlk hH hS dX7_plan_38 (by rw [if_neg c_6]; exact ⟨by congr 1, rfl⟩)
  · refine lv_bipush (v := (-2)) hx hb dX7_plan_9 (by decide) ?_
    exact m_iret hx hb hr hlk hH hS dX7_plan_11 (by rw [if_pos c_6]; exact ⟨rfl, rfl⟩)
def stOK (σ : gS) (x s a r : Int32) : Bool := isPl σ x && decide (clo σ x.toNatClampNeg = false ∧ stN σ x.toNatClampNeg ≠ 4 ∧ (stN σ x.toNatClampNeg = 3 → r.toInt = a.toInt + 1) ∧ (1 ≤ s.toInt ∧ s.toInt ≤ 60) ∧ (-1 ≤ a.toInt ∧ a.toInt ≤ 60) ∧ a.toInt < r.toInt ∧ r.toInt ≤ 61 ∧ (tot σ x.toNatClampNeg (stN σ x.toNatClampNeg) : Int) + s.toInt ≤ 60)
theorem stOK_nI {σ : gS} {p : Nat} {s a r : Int32} (hp : p < nP σ) (h24 : nP σ ≤ 24) : stOK σ (nI p) s a r = decide (clo σ p = false ∧ stN σ p ≠ 4 ∧ (stN σ p = 3 → r.toInt = a.toInt + 1) ∧ (1 ≤ s.toInt ∧ s.toInt ≤ 60) ∧ (-1 ≤ a.toInt ∧ a.toInt ≤ 60) ∧ a.toInt < r.toInt ∧ r.toInt ≤ 61 ∧ (tot σ p (stN σ p) : Int) + s.toInt ≤ 60) := by
  unfold stOK
  rw [isPl_nI hp h24, nI_clamp (by omega)]
  rfl
theorem l_eq64 {r a : Int32} : r.toInt64 = a.toInt64 + 1 ↔ r.toInt = a.toInt + 1 := by
  have h1 := i_rng r
  have h2 := i_rng a
  rw [← Int64.toInt_inj, Int64.toInt_add, Int32.toInt_toInt64, Int32.toInt_toInt64]
  rw [show (1 : Int64).toInt = 1 from rfl, Int.bmod_eq_of_le (by omega) (by omega)]
def stUp (σ : gS) (p : Nat) (s a r : Int32) : gS := sI (sI (sI (sI σ 4 0 (4 * p + stN σ p) s) 5 0 (4 * p + stN σ p) a) 6 0 (4 * p + stN σ p) r) 3 0 p (nI (stN σ p + 1))
set_option maxHeartbeats 4000000 in
set_option maxRecDepth 100000 in
theorem c_X7_stage (l : Launch) (G : gG) (B : gB) (σ : gS) (hM : BkM B) (hW : WfP σ) (x sz a r : Int32) : Met l yX7_stage [.code yX7_stage cX7_stage 6 (some .int)] ({ frames := 3, cells := 0, slots := 0, locals := 64 } : Room) (mPc G B σ [.ref (B.1 0 0), .int (x), .int (sz), .int (a), .int (r)]) (mQi G B (fun v σ' => if stOK σ x sz a r = true then ∃ pn : Nat, x = nI pn ∧ v = nI (stN σ pn + 1) ∧ σ' = stUp σ pn sz a r else v = -2 ∧ σ' = σ)) 0 0 (mA G) := by
  refine m_start (by decide) (Nat.le_of_ble_eq_true rfl) ?_
  intro p e s m below meth c ⟨hx, hb, hr, hml, hown, hK, hlk, hz⟩ hH hS ls hl
  have hl : lv_has ls 6 [(0, .ref (B.1 0 0)), (1, .int (x)), (2, .int (sz)), (3, .int (a)), (4, .int (r))] := hl
  refine lv_aload_n hx hb dX7_stage_0 rfl (lv_at hl 0 rfl) ?_
  refine lv_iload_n hx hb dX7_stage_1 rfl (lv_at hl 1 rfl) ?_
  refine m_ki (m_runV (k := 0) (i := 0) (ci := 7) ⟨hx, hb, hml, hown, hz⟩ hK hH hS (bm hM 0) rfl rfl (c_X7_isPlan l G B σ hM hW x) mw_X7_isPlan wl_X7_99 ⟨rfl, rfl⟩ ⟨by decide, by decide⟩ rfl hl.1 rfl (Nat.le_of_ble_eq_true rfl) dX7_stage_2 ⟨Nat.zero_le _, Nat.zero_le _⟩) hS (fun r_2 σ_2 H locs hp hH hS => ?_)
  obtain ⟨hr1, hs1⟩ := hp
  subst hr1
  rw [hs1] at hH
  refine m_ifeqB (tgt := 47) hx hb dX7_stage_5 (by decide) (fun c_5 => ?_) (fun c_5 => ?_)
  · have hno : stOK σ (x) sz a r = false := by
      first
        | (unfold stOK; rw [c_5]; rfl)
        | (rw [stOK_nI hpn h24]; exact decide_eq_false (fun hh => by rw [c_13] at hh; exact absurd hh.1 (by decide)))
        | (rw [stOK_nI hpn h24]; exact decide_eq_false (fun hh => hh.2.1 c_23))
        | (rw [stOK_nI hpn h24]; exact decide_eq_false (fun hh => c_43 (l_eq64.mpr (hh.2.2.1 c_33))))
    refine lv_bipush (v := (-2)) hx hb dX7_stage_47 (by decide) ?_
    exact m_iret hx hb hr hlk hH hS dX7_stage_49 (by rw [hno]; exact ⟨rfl, rfl⟩)
  · obtain ⟨pn, hpn, rfl⟩ := isPl_t c_5
    have h24 := hW.2.1
    have hP := hW.2.2 pn hpn
    have ht := tot_le hP (Nat.le_refl _)
    have hs4 := hP.2.1
    have et := nI_I (n := tot σ pn (stN σ pn)) (by omega)
    refine lv_aload_n hx hb dX7_stage_8 rfl (lv_at hl 0 rfl) ?_
    refine lv_iload_n hx hb dX7_stage_9 rfl (lv_at hl 1 rfl) ?_
    refine m_ki (m_runV (k := 0) (i := 0) (ci := 7) ⟨hx, hb, hml, hown, hz⟩ hK hH hS (bm hM 0) rfl rfl (c_X7_isClosed l G B σ hM hW (nI pn)) mw_X7_isClosed wl_X7_107 ⟨rfl, rfl⟩ ⟨by decide, by decide⟩ rfl hl.1 rfl (Nat.le_of_ble_eq_true rfl) dX7_stage_10 ⟨Nat.zero_le _, Nat.zero_le _⟩) hS (fun r_10 σ_10 H locs hp hH hS => ?_)
    obtain ⟨hr1, hs1⟩ := hp
    rw [hs1] at hH
    rw [isCl_nI hpn h24] at hr1
    subst hr1
    refine m_ifneB (tgt := 47) hx hb dX7_stage_13 (by decide) (fun c_13 => ?_) (fun c_13 => ?_)
    · have hno : stOK σ (nI pn) sz a r = false := by
        first
          | (unfold stOK; rw [c_5]; rfl)
          | (rw [stOK_nI hpn h24]; exact decide_eq_false (fun hh => by rw [c_13] at hh; exact absurd hh.1 (by decide)))
          | (rw [stOK_nI hpn h24]; exact decide_eq_false (fun hh => hh.2.1 c_23))
          | (rw [stOK_nI hpn h24]; exact decide_eq_false (fun hh => c_43 (l_eq64.mpr (hh.2.2.1 c_33))))
      refine lv_bipush (v := (-2)) hx hb dX7_stage_47 (by decide) ?_
      exact m_iret hx hb hr hlk hH hS dX7_stage_49 (by rw [hno]; exact ⟨rfl, rfl⟩)
    · refine lv_aload_n hx hb dX7_stage_16 rfl (lv_at hl 0 rfl) ?_
      refine gf_X7_7 hx hb hown hK hH (bm hM 0) dX7_stage_17 ?_
      refine lv_iload_n hx hb dX7_stage_20 rfl (lv_at hl 1 rfl) ?_
      refine m_iald hx hb hK hH (n := 24) (bm hM 3) (fun _ _ => rfl) (pn) (rfl) (by omega) (by decide) dX7_stage_21 ?_
      refine m_toi (stN σ pn) (hP.1) ?_
      refine lv_iconst (v := nI 4) hx hb dX7_stage_22 (by decide) ?_
      refine m_icmp_eqN (tgt := 47) (by omega) (by omega) hx hb dX7_stage_23 (by decide) (fun c_23 => ?_) (fun c_23 => ?_)
      · have hno : stOK σ (nI pn) sz a r = false := by
          first
            | (unfold stOK; rw [c_5]; rfl)
            | (rw [stOK_nI hpn h24]; exact decide_eq_false (fun hh => by rw [c_13] at hh; exact absurd hh.1 (by decide)))
            | (rw [stOK_nI hpn h24]; exact decide_eq_false (fun hh => hh.2.1 c_23))
            | (rw [stOK_nI hpn h24]; exact decide_eq_false (fun hh => c_43 (l_eq64.mpr (hh.2.2.1 c_33))))
        refine lv_bipush (v := (-2)) hx hb dX7_stage_47 (by decide) ?_
        exact m_iret hx hb hr hlk hH hS dX7_stage_49 (by rw [hno]; exact ⟨rfl, rfl⟩)
      · refine lv_aload_n hx hb dX7_stage_26 rfl (lv_at hl 0 rfl) ?_
        refine gf_X7_7 hx hb hown hK hH (bm hM 0) dX7_stage_27 ?_
        refine lv_iload_n hx hb dX7_stage_30 rfl (lv_at hl 1 rfl) ?_
        refine m_iald hx hb hK hH (n := 24) (bm hM 3) (fun _ _ => rfl) (pn) (rfl) (by omega) (by decide) dX7_stage_31 ?_
        refine m_toi (stN σ pn) (hP.1) ?_
        refine lv_iconst (v := nI 3) hx hb dX7_stage_32 (by decide) ?_
        refine m_icmp_neN (tgt := 50) (by omega) (by omega) hx hb dX7_stage_33 (by decide) (fun c_33 => ?_) (fun c_33 => ?_)
        · have h33 : stN σ pn = 3 → r.toInt = a.toInt + 1 := by
            first
              | exact fun _ => l_eq64.mp c_43
              | exact fun q => absurd q c_33
          refine lv_iload_n hx hb dX7_stage_50 rfl (lv_at hl 2 rfl) ?_
          refine lv_iconst (v := nI 1) hx hb dX7_stage_51 (by decide) ?_
          refine lv_bipush (v := nI 60) hx hb dX7_stage_52 (by decide) ?_
          refine m_ki (m_runS ⟨hx, hb, hml, hown, hz⟩ hK hH hS (c_X7_in l G B σ sz (nI 1) (nI 60)) mw_X7_in wl_X7_95 ⟨rfl, rfl⟩ ⟨by decide, by decide⟩ rfl hl.1 rfl (Nat.le_of_ble_eq_true rfl) dX7_stage_54 ⟨Nat.zero_le _, Nat.zero_le _⟩) hS (fun r_54 σ_54 H locs hp hH hS => ?_)
          obtain ⟨hr1, hs1⟩ := hp
          subst hr1
          rw [hs1] at hH
          refine m_ifeqB (tgt := 95) hx hb dX7_stage_57 (by decide) (fun c_57 => ?_) (fun c_57 => ?_)
          · have hno : stOK σ (nI pn) sz a r = false := by
              rw [stOK_nI hpn h24]; refine decide_eq_false (fun hh => ?_); obtain ⟨-, -, -, h5, h6, h7, h8, h9⟩ := hh
              first
                | (have := inR_f c_57; rw [n1I, n60I] at this; omega)
                | (have := inR_f c_67; rw [im1, n60I] at this; omega)
                | (rw [i_le] at c_73; omega)
                | (rw [i_lt, n61I] at c_80; omega)
                | (have h10 := inR_t c_57; rw [n1I, n60I] at h10; have e9 : (nI (tot σ pn (stN σ pn)) + sz).toInt = (tot σ pn (stN σ pn) : Int) + sz.toInt := (by rw [i_add (by rw [et]; omega) (by rw [et]; omega), et]); rw [i_le, e9, n60I] at c_92; omega)
            refine lv_bipush (v := (-2)) hx hb dX7_stage_95 (by decide) ?_
            exact m_iret hx hb hr hlk hH hS dX7_stage_97 (by rw [hno]; exact ⟨rfl, rfl⟩)
          · refine lv_iload_n hx hb dX7_stage_60 rfl (lv_at hl 3 rfl) ?_
            refine lv_iconst (v := (-1)) hx hb dX7_stage_61 (by decide) ?_
            refine lv_bipush (v := nI 60) hx hb dX7_stage_62 (by decide) ?_
            refine m_ki (m_runS ⟨hx, hb, hml, hown, hz⟩ hK hH hS (c_X7_in l G B σ a (-1) (nI 60)) mw_X7_in wl_X7_95 ⟨rfl, rfl⟩ ⟨by decide, by decide⟩ rfl hl.1 rfl (Nat.le_of_ble_eq_true rfl) dX7_stage_64 ⟨Nat.zero_le _, Nat.zero_le _⟩) hS (fun r_64 σ_64 H locs hp hH hS => ?_)
            obtain ⟨hr1, hs1⟩ := hp
            subst hr1
            rw [hs1] at hH
            refine m_ifeqB (tgt := 95) hx hb dX7_stage_67 (by decide) (fun c_67 => ?_) (fun c_67 => ?_)
            · have hno : stOK σ (nI pn) sz a r = false := by
                rw [stOK_nI hpn h24]; refine decide_eq_false (fun hh => ?_); obtain ⟨-, -, -, h5, h6, h7, h8, h9⟩ := hh
                first
                  | (have := inR_f c_57; rw [n1I, n60I] at this; omega)
                  | (have := inR_f c_67; rw [im1, n60I] at this; omega)
                  | (rw [i_le] at c_73; omega)
                  | (rw [i_lt, n61I] at c_80; omega)
                  | (have h10 := inR_t c_57; rw [n1I, n60I] at h10; have e9 : (nI (tot σ pn (stN σ pn)) + sz).toInt = (tot σ pn (stN σ pn) : Int) + sz.toInt := (by rw [i_add (by rw [et]; omega) (by rw [et]; omega), et]); rw [i_le, e9, n60I] at c_92; omega)
              refine lv_bipush (v := (-2)) hx hb dX7_stage_95 (by decide) ?_
              exact m_iret hx hb hr hlk hH hS dX7_stage_97 (by rw [hno]; exact ⟨rfl, rfl⟩)
            · refine lv_iload hx hb dX7_stage_70 (lv_at hl 4 rfl) ?_
              refine lv_iload_n hx hb dX7_stage_72 rfl (lv_at hl 3 rfl) ?_
              refine lv_icmp_le (tgt := 95) hx hb dX7_stage_73 (by decide) (fun c_73 => ?_) (fun c_73 => ?_)
              · have hno : stOK σ (nI pn) sz a r = false := by
                  rw [stOK_nI hpn h24]; refine decide_eq_false (fun hh => ?_); obtain ⟨-, -, -, h5, h6, h7, h8, h9⟩ := hh
                  first
                    | (have := inR_f c_57; rw [n1I, n60I] at this; omega)
                    | (have := inR_f c_67; rw [im1, n60I] at this; omega)
                    | (rw [i_le] at c_73; omega)
                    | (rw [i_lt, n61I] at c_80; omega)
                    | (have h10 := inR_t c_57; rw [n1I, n60I] at h10; have e9 : (nI (tot σ pn (stN σ pn)) + sz).toInt = (tot σ pn (stN σ pn) : Int) + sz.toInt := (by rw [i_add (by rw [et]; omega) (by rw [et]; omega), et]); rw [i_le, e9, n60I] at c_92; omega)
                refine lv_bipush (v := (-2)) hx hb dX7_stage_95 (by decide) ?_
                exact m_iret hx hb hr hlk hH hS dX7_stage_97 (by rw [hno]; exact ⟨rfl, rfl⟩)
              · refine lv_iload hx hb dX7_stage_76 (lv_at hl 4 rfl) ?_
                refine lv_bipush (v := nI 61) hx hb dX7_stage_78 (by decide) ?_
                refine lv_icmp_gt (tgt := 95) hx hb dX7_stage_80 (by decide) (fun c_80 => ?_) (fun c_80 => ?_)
                · have hno : stOK σ (nI pn) sz a r = false := by
                    rw [stOK_nI hpn h24]; refine decide_eq_false (fun hh => ?_); obtain ⟨-, -, -, h5, h6, h7, h8, h9⟩ := hh
                    first
                      | (have := inR_f c_57; rw [n1I, n60I] at this; omega)
                      | (have := inR_f c_67; rw [im1, n60I] at this; omega)
                      | (rw [i_le] at c_73; omega)
                      | (rw [i_lt, n61I] at c_80; omega)
                      | (have h10 := inR_t c_57; rw [n1I, n60I] at h10; have e9 : (nI (tot σ pn (stN σ pn)) + sz).toInt = (tot σ pn (stN σ pn) : Int) + sz.toInt := (by rw [i_add (by rw [et]; omega) (by rw [et]; omega), et]); rw [i_le, e9, n60I] at c_92; omega)
                  refine lv_bipush (v := (-2)) hx hb dX7_stage_95 (by decide) ?_
                  exact m_iret hx hb hr hlk hH hS dX7_stage_97 (by rw [hno]; exact ⟨rfl, rfl⟩)
                · refine lv_aload_n hx hb dX7_stage_83 rfl (lv_at hl 0 rfl) ?_
                  refine lv_iload_n hx hb dX7_stage_84 rfl (lv_at hl 1 rfl) ?_
                  refine m_ki (m_runV (k := 0) (i := 0) (ci := 7) ⟨hx, hb, hml, hown, hz⟩ hK hH hS (bm hM 0) rfl rfl (c_X7_all l G B σ hM pn (by omega) hP) mw_X7_all wl_X7_110 ⟨rfl, rfl⟩ ⟨by decide, by decide⟩ rfl hl.1 rfl (Nat.le_of_ble_eq_true rfl) dX7_stage_85 ⟨Nat.zero_le _, Nat.zero_le _⟩) hS (fun r_85 σ_85 H locs hp hH hS => ?_)
                  obtain ⟨hr1, hs1⟩ := hp
                  subst hr1
                  rw [hs1] at hH
                  refine lv_iload_n hx hb dX7_stage_88 rfl (lv_at hl 2 rfl) ?_
                  refine lv_iadd hx hb dX7_stage_89 ?_
                  refine lv_bipush (v := nI 60) hx hb dX7_stage_90 (by decide) ?_
                  refine lv_icmp_le (tgt := 98) hx hb dX7_stage_92 (by decide) (fun c_92 => ?_) (fun c_92 => ?_)
                  · have hyes : stOK σ (nI pn) sz a r = true := by
                      rw [stOK_nI hpn h24]
                      have h10 := inR_t c_57; rw [n1I, n60I] at h10
                      have h11 := inR_t c_67; rw [im1, n60I] at h11
                      rw [i_le] at c_73
                      rw [i_lt, n61I] at c_80
                      have e9 : (nI (tot σ pn (stN σ pn)) + sz).toInt = (tot σ pn (stN σ pn) : Int) + sz.toInt := (by rw [i_add (by rw [et]; omega) (by rw [et]; omega), et])
                      rw [i_le, e9, n60I] at c_92
                      exact decide_eq_true ⟨c_13, c_23, h33, h10, h11, by omega, by omega, by omega⟩
                    have hs3 : stN σ pn < 4 := by omega
                    refine lv_iconst (v := nI 4) hx hb dX7_stage_98 (by decide) ?_
                    refine lv_iload_n hx hb dX7_stage_99 rfl (lv_at hl 1 rfl) ?_
                    refine m_imulN hx hb dX7_stage_100 ?_
                    refine lv_aload_n hx hb dX7_stage_101 rfl (lv_at hl 0 rfl) ?_
                    refine gf_X7_7 hx hb hown hK hH (bm hM 0) dX7_stage_102 ?_
                    refine lv_iload_n hx hb dX7_stage_105 rfl (lv_at hl 1 rfl) ?_
                    refine m_iald hx hb hK hH (n := 24) (bm hM 3) (fun _ _ => rfl) (pn) (rfl) (by omega) (by decide) dX7_stage_106 ?_
                    refine m_toi (stN σ pn) (hP.1) ?_
                    refine m_iaddN hx hb dX7_stage_107 ?_
                    refine lv_istore (lv' := [(5, .int (nI (4 * pn + (stN σ pn)))), (0, .ref (B.1 0 0)), (1, .int (nI pn)), (2, .int (sz)), (3, .int (a)), (4, .int (r))]) hx hb dX7_stage_108 hl (by decide) rfl (fun ls hl => ?_)
                    refine lv_aload_n hx hb dX7_stage_110 rfl (lv_at hl 1 rfl) ?_
                    refine gf_X7_13 hx hb hown hK hH (bm hM 0) dX7_stage_111 ?_
                    refine lv_iload hx hb dX7_stage_114 (lv_at hl 0 rfl) ?_
                    refine lv_iload_n hx hb dX7_stage_116 rfl (lv_at hl 3 rfl) ?_
                    refine m_iast hx hb hK hH hS (n := 96) (bm hM 4) (fun _ _ => rfl) (4 * pn + (stN σ pn)) (rfl) (by omega) (by decide) dX7_stage_117 (fun H locs hH hS => ?_)
                    refine lv_aload_n hx hb dX7_stage_118 rfl (lv_at hl 1 rfl) ?_
                    refine gf_X7_16 hx hb hown hK hH (bm hM 0) dX7_stage_119 ?_
                    refine lv_iload hx hb dX7_stage_122 (lv_at hl 0 rfl) ?_
                    refine lv_iload_n hx hb dX7_stage_124 rfl (lv_at hl 4 rfl) ?_
                    refine m_iast hx hb hK hH hS (n := 96) (bm hM 5) (fun _ _ => rfl) (4 * pn + (stN σ pn)) (rfl) (by omega) (by decide) dX7_stage_125 (fun H locs hH hS => ?_)
                    refine lv_aload_n hx hb dX7_stage_126 rfl (lv_at hl 1 rfl) ?_
                    refine gf_X7_19 hx hb hown hK hH (bm hM 0) dX7_stage_127 ?_
                    refine lv_iload hx hb dX7_stage_130 (lv_at hl 0 rfl) ?_
                    refine lv_iload hx hb dX7_stage_132 (lv_at hl 5 rfl) ?_
                    refine m_iast hx hb hK hH hS (n := 96) (bm hM 6) (fun _ _ => rfl) (4 * pn + (stN σ pn)) (rfl) (by omega) (by decide) dX7_stage_134 (fun H locs hH hS => ?_)
                    refine lv_aload_n hx hb dX7_stage_135 rfl (lv_at hl 1 rfl) ?_
                    refine gf_X7_7 hx hb hown hK hH (bm hM 0) dX7_stage_136 ?_
                    refine lv_iload_n hx hb dX7_stage_139 rfl (lv_at hl 2 rfl) ?_
                    refine lv_dup2_11 hx hb dX7_stage_140 rfl rfl ?_
                    refine m_iald hx hb hK hH (n := 24) (bm hM 3) (fun _ _ => rfl) (pn) (rfl) (by omega) (by decide) dX7_stage_141 ?_
                    refine m_toi (stN σ pn) (by simp only [sI_at]; simp; exact hP.1) ?_
                    refine lv_iconst (v := nI 1) hx hb dX7_stage_142 (by decide) ?_
                    refine m_iaddN hx hb dX7_stage_143 ?_
                    refine m_iast hx hb hK hH hS (n := 24) (bm hM 3) (fun _ _ => rfl) (pn) (rfl) (by omega) (by decide) dX7_stage_144 (fun H locs hH hS => ?_)
                    refine lv_aload_n hx hb dX7_stage_145 rfl (lv_at hl 1 rfl) ?_
                    refine gf_X7_7 hx hb hown hK hH (bm hM 0) dX7_stage_146 ?_
                    refine lv_iload_n hx hb dX7_stage_149 rfl (lv_at hl 2 rfl) ?_
                    refine m_iald hx hb hK hH (n := 24) (bm hM 3) (fun _ _ => rfl) (pn) (rfl) (by omega) (by decide) dX7_stage_150 ?_
                    refine m_toi (stN σ pn + 1) (by rw [sI_at, if_pos ⟨rfl, rfl, rfl⟩]) ?_
                    exact m_iret hx hb hr hlk hH hS dX7_stage_151 (by rw [hyes]; exact ⟨pn, rfl, rfl, rfl⟩)
                  · have hno : stOK σ (nI pn) sz a r = false := by
                      rw [stOK_nI hpn h24]; refine decide_eq_false (fun hh => ?_); obtain ⟨-, -, -, h5, h6, h7, h8, h9⟩ := hh
                      first
                        | (have := inR_f c_57; rw [n1I, n60I] at this; omega)
                        | (have := inR_f c_67; rw [im1, n60I] at this; omega)
                        | (rw [i_le] at c_73; omega)
                        | (rw [i_lt, n61I] at c_80; omega)
                        | (have h10 := inR_t c_57; rw [n1I, n60I] at h10; have e9 : (nI (tot σ pn (stN σ pn)) + sz).toInt = (tot σ pn (stN σ pn) : Int) + sz.toInt := (by rw [i_add (by rw [et]; omega) (by rw [et]; omega), et]); rw [i_le, e9, n60I] at c_92; omega)
                    refine lv_bipush (v := (-2)) hx hb dX7_stage_95 (by decide) ?_
                    exact m_iret hx hb hr hlk hH hS dX7_stage_97 (by rw [hno]; exact ⟨rfl, rfl⟩)
        · refine lv_iload hx hb dX7_stage_36 (lv_at hl 4 rfl) ?_
          refine lv_i2l hx hb dX7_stage_38 rfl ?_
          refine lv_iload_n hx hb dX7_stage_39 rfl (lv_at hl 3 rfl) ?_
          refine lv_i2l hx hb dX7_stage_40 rfl ?_
          refine lv_lconst (v := lN 1) hx hb dX7_stage_41 rfl ?_
          refine lv_ladd hx hb dX7_stage_42 ?_
          refine m_lc_eq (tgt := 50) hx hb dX7_stage_43 dX7_stage_44 (by decide) (fun c_43 => ?_) (fun c_43 => ?_)
          · have h33 : stN σ pn = 3 → r.toInt = a.toInt + 1 := by
              first
                | exact fun _ => l_eq64.mp c_43
                | exact fun q => absurd q c_33
            refine lv_iload_n hx hb dX7_stage_50 rfl (lv_at hl 2 rfl) ?_
            refine lv_iconst (v := nI 1) hx hb dX7_stage_51 (by decide) ?_
            refine lv_bipush (v := nI 60) hx hb dX7_stage_52 (by decide) ?_
            refine m_ki (m_runS ⟨hx, hb, hml, hown, hz⟩ hK hH hS (c_X7_in l G B σ sz (nI 1) (nI 60)) mw_X7_in wl_X7_95 ⟨rfl, rfl⟩ ⟨by decide, by decide⟩ rfl hl.1 rfl (Nat.le_of_ble_eq_true rfl) dX7_stage_54 ⟨Nat.zero_le _, Nat.zero_le _⟩) hS (fun r_54 σ_54 H locs hp hH hS => ?_)
            obtain ⟨hr1, hs1⟩ := hp
            subst hr1
            rw [hs1] at hH
            refine m_ifeqB (tgt := 95) hx hb dX7_stage_57 (by decide) (fun c_57 => ?_) (fun c_57 => ?_)
            · have hno : stOK σ (nI pn) sz a r = false := by
                rw [stOK_nI hpn h24]; refine decide_eq_false (fun hh => ?_); obtain ⟨-, -, -, h5, h6, h7, h8, h9⟩ := hh
                first
                  | (have := inR_f c_57; rw [n1I, n60I] at this; omega)
                  | (have := inR_f c_67; rw [im1, n60I] at this; omega)
                  | (rw [i_le] at c_73; omega)
                  | (rw [i_lt, n61I] at c_80; omega)
                  | (have h10 := inR_t c_57; rw [n1I, n60I] at h10; have e9 : (nI (tot σ pn (stN σ pn)) + sz).toInt = (tot σ pn (stN σ pn) : Int) + sz.toInt := (by rw [i_add (by rw [et]; omega) (by rw [et]; omega), et]); rw [i_le, e9, n60I] at c_92; omega)
              refine lv_bipush (v := (-2)) hx hb dX7_stage_95 (by decide) ?_
              exact m_iret hx hb hr hlk hH hS dX7_stage_97 (by rw [hno]; exact ⟨rfl, rfl⟩)
            · refine lv_iload_n hx hb dX7_stage_60 rfl (lv_at hl 3 rfl) ?_
              refine lv_iconst (v := (-1)) hx hb dX7_stage_61 (by decide) ?_
              refine lv_bipush (v := nI 60) hx hb dX7_stage_62 (by decide) ?_
              refine m_ki (m_runS ⟨hx, hb, hml, hown, hz⟩ hK hH hS (c_X7_in l G B σ a (-1) (nI 60)) mw_X7_in wl_X7_95 ⟨rfl, rfl⟩ ⟨by decide, by decide⟩ rfl hl.1 rfl (Nat.le_of_ble_eq_true rfl) dX7_stage_64 ⟨Nat.zero_le _, Nat.zero_le _⟩) hS (fun r_64 σ_64 H locs hp hH hS => ?_)
              obtain ⟨hr1, hs1⟩ := hp
              subst hr1
              rw [hs1] at hH
              refine m_ifeqB (tgt := 95) hx hb dX7_stage_67 (by decide) (fun c_67 => ?_) (fun c_67 => ?_)
              · have hno : stOK σ (nI pn) sz a r = false := by
                  rw [stOK_nI hpn h24]; refine decide_eq_false (fun hh => ?_); obtain ⟨-, -, -, h5, h6, h7, h8, h9⟩ := hh
                  first
                    | (have := inR_f c_57; rw [n1I, n60I] at this; omega)
                    | (have := inR_f c_67; rw [im1, n60I] at this; omega)
                    | (rw [i_le] at c_73; omega)
                    | (rw [i_lt, n61I] at c_80; omega)
                    | (have h10 := inR_t c_57; rw [n1I, n60I] at h10; have e9 : (nI (tot σ pn (stN σ pn)) + sz).toInt = (tot σ pn (stN σ pn) : Int) + sz.toInt := (by rw [i_add (by rw [et]; omega) (by rw [et]; omega), et]); rw [i_le, e9, n60I] at c_92; omega)
                refine lv_bipush (v := (-2)) hx hb dX7_stage_95 (by decide) ?_
                exact m_iret hx hb hr hlk hH hS dX7_stage_97 (by rw [hno]; exact ⟨rfl, rfl⟩)
              · refine lv_iload hx hb dX7_stage_70 (lv_at hl 4 rfl) ?_
                refine lv_iload_n hx hb dX7_stage_72 rfl (lv_at hl 3 rfl) ?_
                refine lv_icmp_le (tgt := 95) hx hb dX7_stage_73 (by decide) (fun c_73 => ?_) (fun c_73 => ?_)
                · have hno : stOK σ (nI pn) sz a r = false := by
                    rw [stOK_nI hpn h24]; refine decide_eq_false (fun hh => ?_); obtain ⟨-, -, -, h5, h6, h7, h8, h9⟩ := hh
                    first
                      | (have := inR_f c_57; rw [n1I, n60I] at this; omega)
                      | (have := inR_f c_67; rw [im1, n60I] at this; omega)
                      | (rw [i_le] at c_73; omega)
                      | (rw [i_lt, n61I] at c_80; omega)
                      | (have h10 := inR_t c_57; rw [n1I, n60I] at h10; have e9 : (nI (tot σ pn (stN σ pn)) + sz).toInt = (tot σ pn (stN σ pn) : Int) + sz.toInt := (by rw [i_add (by rw [et]; omega) (by rw [et]; omega), et]); rw [i_le, e9, n60I] at c_92; omega)
                  refine lv_bipush (v := (-2)) hx hb dX7_stage_95 (by decide) ?_
                  exact m_iret hx hb hr hlk hH hS dX7_stage_97 (by rw [hno]; exact ⟨rfl, rfl⟩)
                · refine lv_iload hx hb dX7_stage_76 (lv_at hl 4 rfl) ?_
                  refine lv_bipush (v := nI 61) hx hb dX7_stage_78 (by decide) ?_
                  refine lv_icmp_gt (tgt := 95) hx hb dX7_stage_80 (by decide) (fun c_80 => ?_) (fun c_80 => ?_)
                  · have hno : stOK σ (nI pn) sz a r = false := by
                      rw [stOK_nI hpn h24]; refine decide_eq_false (fun hh => ?_); obtain ⟨-, -, -, h5, h6, h7, h8, h9⟩ := hh
                      first
                        | (have := inR_f c_57; rw [n1I, n60I] at this; omega)
                        | (have := inR_f c_67; rw [im1, n60I] at this; omega)
                        | (rw [i_le] at c_73; omega)
                        | (rw [i_lt, n61I] at c_80; omega)
                        | (have h10 := inR_t c_57; rw [n1I, n60I] at h10; have e9 : (nI (tot σ pn (stN σ pn)) + sz).toInt = (tot σ pn (stN σ pn) : Int) + sz.toInt := (by rw [i_add (by rw [et]; omega) (by rw [et]; omega), et]); rw [i_le, e9, n60I] at c_92; omega)
                    refine lv_bipush (v := (-2)) hx hb dX7_stage_95 (by decide) ?_
                    exact m_iret hx hb hr hlk hH hS dX7_stage_97 (by rw [hno]; exact ⟨rfl, rfl⟩)
                  · refine lv_aload_n hx hb dX7_stage_83 rfl (lv_at hl 0 rfl) ?_
                    refine lv_iload_n hx hb dX7_stage_84 rfl (lv_at hl 1 rfl) ?_
                    refine m_ki (m_runV (k := 0) (i := 0) (ci := 7) ⟨hx, hb, hml, hown, hz⟩ hK hH hS (bm hM 0) rfl rfl (c_X7_all l G B σ hM pn (by omega) hP) mw_X7_all wl_X7_110 ⟨rfl, rfl⟩ ⟨by decide, by decide⟩ rfl hl.1 rfl (Nat.le_of_ble_eq_true rfl) dX7_stage_85 ⟨Nat.zero_le _, Nat.zero_le _⟩) hS (fun r_85 σ_85 H locs hp hH hS => ?_)
                    obtain ⟨hr1, hs1⟩ := hp
                    subst hr1
                    rw [hs1] at hH
                    refine lv_iload_n hx hb dX7_stage_88 rfl (lv_at hl 2 rfl) ?_
                    refine lv_iadd hx hb dX7_stage_89 ?_
                    refine lv_bipush (v := nI 60) hx hb dX7_stage_90 (by decide) ?_
                    refine lv_icmp_le (tgt := 98) hx hb dX7_stage_92 (by decide) (fun c_92 => ?_) (fun c_92 => ?_)
                    · have hyes : stOK σ (nI pn) sz a r = true := by
                        rw [stOK_nI hpn h24]
                        have h10 := inR_t c_57; rw [n1I, n60I] at h10
                        have h11 := inR_t c_67; rw [im1, n60I] at h11
                        rw [i_le] at c_73
                        rw [i_lt, n61I] at c_80
                        have e9 : (nI (tot σ pn (stN σ pn)) + sz).toInt = (tot σ pn (stN σ pn) : Int) + sz.toInt := (by rw [i_add (by rw [et]; omega) (by rw [et]; omega), et])
                        rw [i_le, e9, n60I] at c_92
                        exact decide_eq_true ⟨c_13, c_23, h33, h10, h11, by omega, by omega, by omega⟩
                      have hs3 : stN σ pn < 4 := by omega
                      refine lv_iconst (v := nI 4) hx hb dX7_stage_98 (by decide) ?_
                      refine lv_iload_n hx hb dX7_stage_99 rfl (lv_at hl 1 rfl) ?_
                      refine m_imulN hx hb dX7_stage_100 ?_
                      refine lv_aload_n hx hb dX7_stage_101 rfl (lv_at hl 0 rfl) ?_
                      refine gf_X7_7 hx hb hown hK hH (bm hM 0) dX7_stage_102 ?_
                      refine lv_iload_n hx hb dX7_stage_105 rfl (lv_at hl 1 rfl) ?_
                      refine m_iald hx hb hK hH (n := 24) (bm hM 3) (fun _ _ => rfl) (pn) (rfl) (by omega) (by decide) dX7_stage_106 ?_
                      refine m_toi (stN σ pn) (hP.1) ?_
                      refine m_iaddN hx hb dX7_stage_107 ?_
                      refine lv_istore (lv' := [(5, .int (nI (4 * pn + (stN σ pn)))), (0, .ref (B.1 0 0)), (1, .int (nI pn)), (2, .int (sz)), (3, .int (a)), (4, .int (r))]) hx hb dX7_stage_108 hl (by decide) rfl (fun ls hl => ?_)
                      refine lv_aload_n hx hb dX7_stage_110 rfl (lv_at hl 1 rfl) ?_
                      refine gf_X7_13 hx hb hown hK hH (bm hM 0) dX7_stage_111 ?_
                      refine lv_iload hx hb dX7_stage_114 (lv_at hl 0 rfl) ?_
                      refine lv_iload_n hx hb dX7_stage_116 rfl (lv_at hl 3 rfl) ?_
                      refine m_iast hx hb hK hH hS (n := 96) (bm hM 4) (fun _ _ => rfl) (4 * pn + (stN σ pn)) (rfl) (by omega) (by decide) dX7_stage_117 (fun H locs hH hS => ?_)
                      refine lv_aload_n hx hb dX7_stage_118 rfl (lv_at hl 1 rfl) ?_
                      refine gf_X7_16 hx hb hown hK hH (bm hM 0) dX7_stage_119 ?_
                      refine lv_iload hx hb dX7_stage_122 (lv_at hl 0 rfl) ?_
                      refine lv_iload_n hx hb dX7_stage_124 rfl (lv_at hl 4 rfl) ?_
                      refine m_iast hx hb hK hH hS (n := 96) (bm hM 5) (fun _ _ => rfl) (4 * pn + (stN σ pn)) (rfl) (by omega) (by decide) dX7_stage_125 (fun H locs hH hS => ?_)
                      refine lv_aload_n hx hb dX7_stage_126 rfl (lv_at hl 1 rfl) ?_
                      refine gf_X7_19 hx hb hown hK hH (bm hM 0) dX7_stage_127 ?_
                      refine lv_iload hx hb dX7_stage_130 (lv_at hl 0 rfl) ?_
                      refine lv_iload hx hb dX7_stage_132 (lv_at hl 5 rfl) ?_
                      refine m_iast hx hb hK hH hS (n := 96) (bm hM 6) (fun _ _ => rfl) (4 * pn + (stN σ pn)) (rfl) (by omega) (by decide) dX7_stage_134 (fun H locs hH hS => ?_)
                      refine lv_aload_n hx hb dX7_stage_135 rfl (lv_at hl 1 rfl) ?_
                      refine gf_X7_7 hx hb hown hK hH (bm hM 0) dX7_stage_136 ?_
                      refine lv_iload_n hx hb dX7_stage_139 rfl (lv_at hl 2 rfl) ?_
                      refine lv_dup2_11 hx hb dX7_stage_140 rfl rfl ?_
                      refine m_iald hx hb hK hH (n := 24) (bm hM 3) (fun _ _ => rfl) (pn) (rfl) (by omega) (by decide) dX7_stage_141 ?_
                      refine m_toi (stN σ pn) (by simp only [sI_at]; simp; exact hP.1) ?_
                      refine lv_iconst (v := nI 1) hx hb dX7_stage_142 (by decide) ?_
                      refine m_iaddN hx hb dX7_stage_143 ?_
                      refine m_iast hx hb hK hH hS (n := 24) (bm hM 3) (fun _ _ => rfl) (pn) (rfl) (by omega) (by decide) dX7_stage_144 (fun H locs hH hS => ?_)
                      refine lv_aload_n hx hb dX7_stage_145 rfl (lv_at hl 1 rfl) ?_
                      refine gf_X7_7 hx hb hown hK hH (bm hM 0) dX7_stage_146 ?_
                      refine lv_iload_n hx hb dX7_stage_149 rfl (lv_at hl 2 rfl) ?_
                      refine m_iald hx hb hK hH (n := 24) (bm hM 3) (fun _ _ => rfl) (pn) (rfl) (by omega) (by decide) dX7_stage_150 ?_
                      refine m_toi (stN σ pn + 1) (by rw [sI_at, if_pos ⟨rfl, rfl, rfl⟩]) ?_
                      exact m_iret hx hb hr hlk hH hS dX7_stage_151 (by rw [hyes]; exact ⟨pn, rfl, rfl, rfl⟩)
                    · have hno : stOK σ (nI pn) sz a r = false := by
                        rw [stOK_nI hpn h24]; refine decide_eq_false (fun hh => ?_); obtain ⟨-, -, -, h5, h6, h7, h8, h9⟩ := hh
                        first
                          | (have := inR_f c_57; rw [n1I, n60I] at this; omega)
                          | (have := inR_f c_67; rw [im1, n60I] at this; omega)
                          | (rw [i_le] at c_73; omega)
                          | (rw [i_lt, n61I] at c_80; omega)
                          | (have h10 := inR_t c_57; rw [n1I, n60I] at h10; have e9 : (nI (tot σ pn (stN σ pn)) + sz).toInt = (tot σ pn (stN σ pn) : Int) + sz.toInt := (by rw [i_add (by rw [et]; omega) (by rw [et]; omega), et]); rw [i_le, e9, n60I] at c_92; omega)
                      refine lv_bipush (v := (-2)) hx hb dX7_stage_95 (by decide) ?_
                      exact m_iret hx hb hr hlk hH hS dX7_stage_97 (by rw [hno]; exact ⟨rfl, rfl⟩)
          · have hno : stOK σ (nI pn) sz a r = false := by
              first
                | (unfold stOK; rw [c_5]; rfl)
                | (rw [stOK_nI hpn h24]; exact decide_eq_false (fun hh => by rw [c_13] at hh; exact absurd hh.1 (by decide)))
                | (rw [stOK_nI hpn h24]; exact decide_eq_false (fun hh => hh.2.1 c_23))
                | (rw [stOK_nI hpn h24]; exact decide_eq_false (fun hh => c_43 (l_eq64.mpr (hh.2.2.1 c_33))))
            refine lv_bipush (v := (-2)) hx hb dX7_stage_47 (by decide) ?_
            exact m_iret hx hb hr hlk hH hS dX7_stage_49 (by rw [hno]; exact ⟨rfl, rfl⟩)
set_option maxHeartbeats 4000000 in
set_option maxRecDepth 100000 in
theorem c_X7_up (l : Launch) (G : gG) (B : gB) (σ : gS) (hM : BkM B) : Met l yX7_up [.code yX7_up cX7_up 1 (some .long)] ({ frames := 0, cells := 0, slots := 0, locals := 0 } : Room) (mPc G B σ [.ref (B.1 0 0)]) (mQl G B (fun v σ' => v = σ.2 0 0 7 ∧ σ' = σ)) 0 0 (mA G) := by
  refine m_start (by decide) (Nat.le_of_ble_eq_true rfl) ?_
  intro p e s m below meth c ⟨hx, hb, hr, hml, hown, hK, hlk, hz⟩ hH hS ls hl
  have hl : lv_has ls 1 [(0, .ref (B.1 0 0))] := hl
  refine lv_aload_n hx hb dX7_up_0 rfl (lv_at hl 0 rfl) ?_
  refine gf_X7_139 hx hb hown hK hH (bm hM 0) dX7_up_1 ?_
  exact m_lret hx hb hr hlk hH hS dX7_up_4 (⟨rfl, rfl⟩)
set_option maxHeartbeats 4000000 in
set_option maxRecDepth 100000 in
theorem c_X7_down (l : Launch) (G : gG) (B : gB) (σ : gS) (hM : BkM B) : Met l yX7_down [.code yX7_down cX7_down 1 (some .long)] ({ frames := 0, cells := 0, slots := 0, locals := 0 } : Room) (mPc G B σ [.ref (B.1 0 0)]) (mQl G B (fun v σ' => v = σ.2 0 0 8 ∧ σ' = σ)) 0 0 (mA G) := by
  refine m_start (by decide) (Nat.le_of_ble_eq_true rfl) ?_
  intro p e s m below meth c ⟨hx, hb, hr, hml, hown, hK, hlk, hz⟩ hH hS ls hl
  have hl : lv_has ls 1 [(0, .ref (B.1 0 0))] := hl
  refine lv_aload_n hx hb dX7_down_0 rfl (lv_at hl 0 rfl) ?_
  refine gf_X7_22 hx hb hown hK hH (bm hM 0) dX7_down_1 ?_
  exact m_lret hx hb hr hlk hH hS dX7_down_4 (⟨rfl, rfl⟩)
