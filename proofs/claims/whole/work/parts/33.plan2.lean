set_option maxHeartbeats 4000000 in
set_option maxRecDepth 100000 in
theorem c_X2_admits (l : Launch) (G : gG) (B : gB) (σ : gS) (hC : BkC B) (pn : Nat) (hpB : pn < B.2 50) (hP1 : WfP1 σ pn) (hR : PR σ pn) (sz a r : Int32) : Met l yX2_admits [.code yX2_admits cX2_admits 4 (some .boolean)] ({ frames := 2, cells := 0, slots := 0, locals := 41 } : Room) (mPc G B σ [.ref (B.1 50 pn), .int (sz), .int (a), .int (r)]) (mQi G B (fun v σ' => v = bI (adB σ pn sz a r) ∧ σ' = σ)) 0 0 (mA G) := by
  refine m_start (by decide) (Nat.le_of_ble_eq_true rfl) ?_
  intro p e s m below meth c ⟨hx, hb, hr, hml, hown, hK, hlk, hz⟩ hH hS ls hl
  have hl : lv_has ls 4 [(0, .ref (B.1 50 pn)), (1, .int (sz)), (2, .int (a)), (3, .int (r))] := hl
  have hs4 := hP1.2.1
  have ht := tot_le hP1 (Nat.le_refl _)
  have et := nI_I (n := tot σ pn (stN σ pn)) (by omega)
  refine lv_aload_n hx hb dX2_admits_0 rfl (lv_at hl 0 rfl) ?_
  refine gf_X2_37 hx hb hown hK hH hpB dX2_admits_1 ?_
  refine m_toe (bI (clo σ pn)) (hR.2.1) ?_
  refine m_ifneB (tgt := 15) hx hb dX2_admits_4 (by decide) (fun c_4 => ?_) (fun c_4 => ?_)
  · refine lv_iconst (v := nI 0) hx hb dX2_admits_15 (by decide) ?_
    exact m_zret hx hb hr hlk hH hS dX2_admits_16 (by first | exact Or.inl rfl | exact Or.inr rfl | exact bI_01 _) (⟨bI_f (by refine decide_eq_false (fun hh => ?_); obtain ⟨g1, g2, g3, h5, h6, h7, h8, h9⟩ := hh; first | (rw [c_4] at g1; exact absurd g1 (by decide)) | omega), rfl⟩)
  · refine lv_aload_n hx hb dX2_admits_7 rfl (lv_at hl 0 rfl) ?_
    refine gf_X2_29 hx hb hown hK hH hpB dX2_admits_8 ?_
    refine m_toi (stN σ pn) (hR.1) ?_
    refine lv_iconst (v := nI 4) hx hb dX2_admits_11 (by decide) ?_
    refine m_icmp_ltN (tgt := 17) (by omega) (by omega) hx hb dX2_admits_12 (by decide) (fun c_12 => ?_) (fun c_12 => ?_)
    · refine lv_iload_n hx hb dX2_admits_17 rfl (lv_at hl 1 rfl) ?_
      refine lv_iconst (v := nI 1) hx hb dX2_admits_18 (by decide) ?_
      refine lv_icmp_lt (tgt := 39) hx hb dX2_admits_19 (by decide) (fun c_19 => ?_) (fun c_19 => ?_)
      · refine lv_iconst (v := nI 0) hx hb dX2_admits_39 (by decide) ?_
        exact m_zret hx hb hr hlk hH hS dX2_admits_40 (by first | exact Or.inl rfl | exact Or.inr rfl | exact bI_01 _) (⟨bI_f (by refine decide_eq_false (fun hh => ?_); obtain ⟨g1, g2, g3, h5, h6, h7, h8, h9⟩ := hh; first | (rw [i_lt, n1I] at c_19; omega) | (rw [i_lt, n60I] at c_25; omega) | (have e9 : (nI (tot σ pn (stN σ pn)) + sz).toInt = (tot σ pn (stN σ pn) : Int) + sz.toInt := (by rw [i_add (by rw [et]; omega) (by rw [et]; omega), et]); rw [i_le, e9, n60I] at c_36; omega)), rfl⟩)
      · refine lv_iload_n hx hb dX2_admits_22 rfl (lv_at hl 1 rfl) ?_
        refine lv_bipush (v := nI 60) hx hb dX2_admits_23 (by decide) ?_
        refine lv_icmp_gt (tgt := 39) hx hb dX2_admits_25 (by decide) (fun c_25 => ?_) (fun c_25 => ?_)
        · refine lv_iconst (v := nI 0) hx hb dX2_admits_39 (by decide) ?_
          exact m_zret hx hb hr hlk hH hS dX2_admits_40 (by first | exact Or.inl rfl | exact Or.inr rfl | exact bI_01 _) (⟨bI_f (by refine decide_eq_false (fun hh => ?_); obtain ⟨g1, g2, g3, h5, h6, h7, h8, h9⟩ := hh; first | (rw [i_lt, n1I] at c_19; omega) | (rw [i_lt, n60I] at c_25; omega) | (have e9 : (nI (tot σ pn (stN σ pn)) + sz).toInt = (tot σ pn (stN σ pn) : Int) + sz.toInt := (by rw [i_add (by rw [et]; omega) (by rw [et]; omega), et]); rw [i_le, e9, n60I] at c_36; omega)), rfl⟩)
        · refine lv_aload_n hx hb dX2_admits_28 rfl (lv_at hl 0 rfl) ?_
          refine m_ki (m_runV (k := 50) (i := pn) (ci := 2) ⟨hx, hb, hml, hown, hz⟩ hK hH hS hpB rfl rfl (c_X2_total l G B σ hC pn hpB hP1 hR) mw_X2_total wl_X2_41 ⟨rfl, rfl⟩ ⟨by decide, by decide⟩ rfl hl.1 rfl (Nat.le_of_ble_eq_true rfl) dX2_admits_29 ⟨Nat.zero_le _, Nat.zero_le _⟩) hS (fun r_29 σ_29 H locs hp hH hS => ?_)
          obtain ⟨hr1, hs1⟩ := hp
          subst hr1
          rw [hs1] at hH
          refine lv_iload_n hx hb dX2_admits_32 rfl (lv_at hl 1 rfl) ?_
          refine lv_iadd hx hb dX2_admits_33 ?_
          refine lv_bipush (v := nI 60) hx hb dX2_admits_34 (by decide) ?_
          refine lv_icmp_le (tgt := 41) hx hb dX2_admits_36 (by decide) (fun c_36 => ?_) (fun c_36 => ?_)
          · refine lv_iload_n hx hb dX2_admits_41 rfl (lv_at hl 2 rfl) ?_
            refine lv_iconst (v := (-1)) hx hb dX2_admits_42 (by decide) ?_
            refine lv_icmp_lt (tgt := 63) hx hb dX2_admits_43 (by decide) (fun c_43 => ?_) (fun c_43 => ?_)
            · refine lv_iconst (v := nI 0) hx hb dX2_admits_63 (by decide) ?_
              exact m_zret hx hb hr hlk hH hS dX2_admits_64 (by first | exact Or.inl rfl | exact Or.inr rfl | exact bI_01 _) (⟨bI_f (by refine decide_eq_false (fun hh => ?_); obtain ⟨g1, g2, g3, h5, h6, h7, h8, h9⟩ := hh; first | (rw [i_lt, im1] at c_43; omega) | (rw [i_lt, n60I] at c_49; omega) | (rw [i_le] at c_54; omega) | (rw [i_le, n61I] at c_60; omega)), rfl⟩)
            · refine lv_iload_n hx hb dX2_admits_46 rfl (lv_at hl 2 rfl) ?_
              refine lv_bipush (v := nI 60) hx hb dX2_admits_47 (by decide) ?_
              refine lv_icmp_gt (tgt := 63) hx hb dX2_admits_49 (by decide) (fun c_49 => ?_) (fun c_49 => ?_)
              · refine lv_iconst (v := nI 0) hx hb dX2_admits_63 (by decide) ?_
                exact m_zret hx hb hr hlk hH hS dX2_admits_64 (by first | exact Or.inl rfl | exact Or.inr rfl | exact bI_01 _) (⟨bI_f (by refine decide_eq_false (fun hh => ?_); obtain ⟨g1, g2, g3, h5, h6, h7, h8, h9⟩ := hh; first | (rw [i_lt, im1] at c_43; omega) | (rw [i_lt, n60I] at c_49; omega) | (rw [i_le] at c_54; omega) | (rw [i_le, n61I] at c_60; omega)), rfl⟩)
              · refine lv_iload_n hx hb dX2_admits_52 rfl (lv_at hl 3 rfl) ?_
                refine lv_iload_n hx hb dX2_admits_53 rfl (lv_at hl 2 rfl) ?_
                refine lv_icmp_le (tgt := 63) hx hb dX2_admits_54 (by decide) (fun c_54 => ?_) (fun c_54 => ?_)
                · refine lv_iconst (v := nI 0) hx hb dX2_admits_63 (by decide) ?_
                  exact m_zret hx hb hr hlk hH hS dX2_admits_64 (by first | exact Or.inl rfl | exact Or.inr rfl | exact bI_01 _) (⟨bI_f (by refine decide_eq_false (fun hh => ?_); obtain ⟨g1, g2, g3, h5, h6, h7, h8, h9⟩ := hh; first | (rw [i_lt, im1] at c_43; omega) | (rw [i_lt, n60I] at c_49; omega) | (rw [i_le] at c_54; omega) | (rw [i_le, n61I] at c_60; omega)), rfl⟩)
                · refine lv_iload_n hx hb dX2_admits_57 rfl (lv_at hl 3 rfl) ?_
                  refine lv_bipush (v := nI 61) hx hb dX2_admits_58 (by decide) ?_
                  refine lv_icmp_le (tgt := 65) hx hb dX2_admits_60 (by decide) (fun c_60 => ?_) (fun c_60 => ?_)
                  · refine lv_aload_n hx hb dX2_admits_65 rfl (lv_at hl 0 rfl) ?_
                    refine gf_X2_29 hx hb hown hK hH hpB dX2_admits_66 ?_
                    refine m_toi (stN σ pn) (hR.1) ?_
                    refine lv_iconst (v := nI 3) hx hb dX2_admits_69 (by decide) ?_
                    refine m_icmp_ltN (tgt := 80) (by omega) (by omega) hx hb dX2_admits_70 (by decide) (fun c_70 => ?_) (fun c_70 => ?_)
                    · refine lv_iconst (v := nI 1) hx hb dX2_admits_80 (by decide) ?_
                      refine lv_goto (tgt := 85) hx hb dX2_admits_81 (by decide) ?_
                      exact m_zret hx hb hr hlk hH hS dX2_admits_85 (by first | exact Or.inl rfl | exact Or.inr rfl | exact bI_01 _) (⟨bI_t (decide_eq_true (by rw [i_lt, n1I] at c_19; rw [i_lt, n60I] at c_25; have e9 : (nI (tot σ pn (stN σ pn)) + sz).toInt = (tot σ pn (stN σ pn) : Int) + sz.toInt := (by rw [i_add (by rw [et]; omega) (by rw [et]; omega), et]); rw [i_le, e9, n60I] at c_36; rw [i_lt, im1] at c_43; rw [i_lt, n60I] at c_49; rw [i_le] at c_54; rw [i_le, n61I] at c_60; have ea : (a + nI 1).toInt = a.toInt + 1 := (by rw [i_add (by rw [n1I]; omega) (by rw [n1I]; omega), n1I]); refine ⟨c_4, by omega, ?_, by omega, by omega, by omega, by omega, by omega⟩; first | (intro q; omega) | (intro q; rw [i_eq, ea] at c_77; exact c_77))), rfl⟩)
                    · refine lv_iload_n hx hb dX2_admits_73 rfl (lv_at hl 3 rfl) ?_
                      refine lv_iload_n hx hb dX2_admits_74 rfl (lv_at hl 2 rfl) ?_
                      refine lv_iconst (v := nI 1) hx hb dX2_admits_75 (by decide) ?_
                      refine lv_iadd hx hb dX2_admits_76 ?_
                      refine lv_icmp_ne (tgt := 84) hx hb dX2_admits_77 (by decide) (fun c_77 => ?_) (fun c_77 => ?_)
                      · refine lv_iconst (v := nI 0) hx hb dX2_admits_84 (by decide) ?_
                        exact m_zret hx hb hr hlk hH hS dX2_admits_85 (by first | exact Or.inl rfl | exact Or.inr rfl | exact bI_01 _) (⟨bI_f (by refine decide_eq_false (fun hh => ?_); obtain ⟨g1, g2, g3, h5, h6, h7, h8, h9⟩ := hh; have ea : (a + nI 1).toInt = a.toInt + 1 := (by rw [i_add (by rw [n1I]; omega) (by rw [n1I]; omega), n1I]); rw [i_eq, ea] at c_77; exact c_77 (g3 (by omega))), rfl⟩)
                      · refine lv_iconst (v := nI 1) hx hb dX2_admits_80 (by decide) ?_
                        refine lv_goto (tgt := 85) hx hb dX2_admits_81 (by decide) ?_
                        exact m_zret hx hb hr hlk hH hS dX2_admits_85 (by first | exact Or.inl rfl | exact Or.inr rfl | exact bI_01 _) (⟨bI_t (decide_eq_true (by rw [i_lt, n1I] at c_19; rw [i_lt, n60I] at c_25; have e9 : (nI (tot σ pn (stN σ pn)) + sz).toInt = (tot σ pn (stN σ pn) : Int) + sz.toInt := (by rw [i_add (by rw [et]; omega) (by rw [et]; omega), et]); rw [i_le, e9, n60I] at c_36; rw [i_lt, im1] at c_43; rw [i_lt, n60I] at c_49; rw [i_le] at c_54; rw [i_le, n61I] at c_60; have ea : (a + nI 1).toInt = a.toInt + 1 := (by rw [i_add (by rw [n1I]; omega) (by rw [n1I]; omega), n1I]); refine ⟨c_4, by omega, ?_, by omega, by omega, by omega, by omega, by omega⟩; first | (intro q; omega) | (intro q; rw [i_eq, ea] at c_77; exact c_77))), rfl⟩)
                  · refine lv_iconst (v := nI 0) hx hb dX2_admits_63 (by decide) ?_
                    exact m_zret hx hb hr hlk hH hS dX2_admits_64 (by first | exact Or.inl rfl | exact Or.inr rfl | exact bI_01 _) (⟨bI_f (by refine decide_eq_false (fun hh => ?_); obtain ⟨g1, g2, g3, h5, h6, h7, h8, h9⟩ := hh; first | (rw [i_lt, im1] at c_43; omega) | (rw [i_lt, n60I] at c_49; omega) | (rw [i_le] at c_54; omega) | (rw [i_le, n61I] at c_60; omega)), rfl⟩)
          · refine lv_iconst (v := nI 0) hx hb dX2_admits_39 (by decide) ?_
            exact m_zret hx hb hr hlk hH hS dX2_admits_40 (by first | exact Or.inl rfl | exact Or.inr rfl | exact bI_01 _) (⟨bI_f (by refine decide_eq_false (fun hh => ?_); obtain ⟨g1, g2, g3, h5, h6, h7, h8, h9⟩ := hh; first | (rw [i_lt, n1I] at c_19; omega) | (rw [i_lt, n60I] at c_25; omega) | (have e9 : (nI (tot σ pn (stN σ pn)) + sz).toInt = (tot σ pn (stN σ pn) : Int) + sz.toInt := (by rw [i_add (by rw [et]; omega) (by rw [et]; omega), et]); rw [i_le, e9, n60I] at c_36; omega)), rfl⟩)
    · refine lv_iconst (v := nI 0) hx hb dX2_admits_15 (by decide) ?_
      exact m_zret hx hb hr hlk hH hS dX2_admits_16 (by first | exact Or.inl rfl | exact Or.inr rfl | exact bI_01 _) (⟨bI_f (by refine decide_eq_false (fun hh => ?_); obtain ⟨g1, g2, g3, h5, h6, h7, h8, h9⟩ := hh; first | (rw [c_4] at g1; exact absurd g1 (by decide)) | omega), rfl⟩)
set_option maxHeartbeats 4000000 in
set_option maxRecDepth 100000 in
theorem c_X2_weight (l : Launch) (G : gG) (B : gB) (σ : gS) (hC : BkC B) (pn : Nat) (hpB : pn < B.2 50) (hP1 : WfP1 σ pn) (hR : PR σ pn) (k x d wn : Nat) (hk : k < stN σ pn) (hx6 : x ≤ 60) (hd6 : d ≤ 60) (hxd : x ≤ d) (hw : wn ≤ 2) : Met l yX2_weight [.code yX2_weight cX2_weight 5 (some .long)] ({ frames := 3, cells := 0, slots := 0, locals := 65 } : Room) (mPc G B σ [.ref (B.1 50 pn), .int (nI k), .int (nI x), .int (nI d), .int (nI wn)]) (mQl G B (fun v σ' => v = lN (wgt σ pn k x d wn) ∧ σ' = σ)) 0 0 (mA G) := by
  refine m_start (by decide) (Nat.le_of_ble_eq_true rfl) ?_
  intro p e s m below meth c ⟨hx, hb, hr, hml, hown, hK, hlk, hz⟩ hH hS ls hl
  have hl : lv_has ls 5 [(0, .ref (B.1 50 pn)), (1, .int (nI k)), (2, .int (nI x)), (3, .int (nI d)), (4, .int (nI wn))] := hl
  have hs4 := hP1.2.1
  have ht := tot_le hP1 (show k + 1 ≤ stN σ pn by omega)
  rcases (show wn = 0 ∨ wn = 1 ∨ wn = 2 by omega) with rfl | rfl | rfl
  · refine lv_iload hx hb dX2_weight_0 (lv_at hl 4 rfl) ?_
    refine lv_lookup (off := 26) (tgt := 28) hx hb dX2_weight_2 (by decide) (by decide) (by decide) ?_
    refine lv_aload_n hx hb dX2_weight_28 rfl (lv_at hl 0 rfl) ?_
    refine lv_iload_n hx hb dX2_weight_29 rfl (lv_at hl 1 rfl) ?_
    refine lv_iload_n hx hb dX2_weight_30 rfl (lv_at hl 2 rfl) ?_
    refine m_ki (m_runV (k := 50) (i := pn) (ci := 2) ⟨hx, hb, hml, hown, hz⟩ hK hH hS hpB rfl rfl (c_X2_isTakenAt l G B σ hC pn hpB hP1 hR k x (by omega) (by omega)) mw_X2_isTakenAt wl_X2_62 ⟨rfl, rfl⟩ ⟨by decide, by decide⟩ rfl hl.1 rfl (Nat.le_of_ble_eq_true rfl) dX2_weight_31 ⟨Nat.zero_le _, Nat.zero_le _⟩) hS (fun r_31 σ_31 H locs hp hH hS => ?_)
    obtain ⟨hr1, hs1⟩ := hp
    subst hr1
    rw [hs1] at hH
    refine m_ifeqB (tgt := 41) hx hb dX2_weight_34 (by decide) (fun c_34 => ?_) (fun c_34 => ?_)
    · refine lv_lconst (v := lN 0) hx hb dX2_weight_41 rfl ?_
      exact m_lret hx hb hr hlk hH hS dX2_weight_42 (⟨by unfold wgt; rw [if_pos rfl, c_34]; rfl, rfl⟩)
    · refine lv_lconst (v := lN 1) hx hb dX2_weight_37 rfl ?_
      refine lv_goto (tgt := 42) hx hb dX2_weight_38 (by decide) ?_
      exact m_lret hx hb hr hlk hH hS dX2_weight_42 (⟨by unfold wgt; rw [if_pos rfl, c_34]; rfl, rfl⟩)
  · refine lv_iload hx hb dX2_weight_0 (lv_at hl 4 rfl) ?_
    refine lv_lookup (off := 41) (tgt := 43) hx hb dX2_weight_2 (by decide) (by decide) (by decide) ?_
    refine lv_aload_n hx hb dX2_weight_43 rfl (lv_at hl 0 rfl) ?_
    refine lv_iload_n hx hb dX2_weight_44 rfl (lv_at hl 1 rfl) ?_
    refine lv_iload_n hx hb dX2_weight_45 rfl (lv_at hl 2 rfl) ?_
    refine m_ki (m_runV (k := 50) (i := pn) (ci := 2) ⟨hx, hb, hml, hown, hz⟩ hK hH hS hpB rfl rfl (c_X2_isDecidedAt l G B σ hC pn hpB hP1 hR k x (by omega) (by omega)) mw_X2_isDecidedAt wl_X2_58 ⟨rfl, rfl⟩ ⟨by decide, by decide⟩ rfl hl.1 rfl (Nat.le_of_ble_eq_true rfl) dX2_weight_46 ⟨Nat.zero_le _, Nat.zero_le _⟩) hS (fun r_46 σ_46 H locs hp hH hS => ?_)
    obtain ⟨hr1, hs1⟩ := hp
    subst hr1
    rw [hs1] at hH
    refine m_ifeqB (tgt := 62) hx hb dX2_weight_49 (by decide) (fun c_49 => ?_) (fun c_49 => ?_)
    · refine lv_lconst (v := lN 0) hx hb dX2_weight_62 rfl ?_
      exact m_lret hx hb hr hlk hH hS dX2_weight_63 (⟨by unfold wgt; rw [if_neg (by decide), if_pos rfl, c_49]; rfl, rfl⟩)
    · refine lv_aload_n hx hb dX2_weight_52 rfl (lv_at hl 0 rfl) ?_
      refine gf_X2_21 hx hb hown hK hH hpB dX2_weight_53 ?_
      refine lv_iload_n hx hb dX2_weight_56 rfl (lv_at hl 1 rfl) ?_
      refine m_iald hx hb hK hH (n := 4) (bq hC 54 hpB) (fun _ _ => rfl) (k) (rfl) (by omega) (by decide) dX2_weight_57 ?_
      refine m_toi (tot σ pn (k + 1)) ((hR.2.2.1 k hk).2.2.2) ?_
      refine m_i2lN (by omega) hx hb dX2_weight_58 ?_
      refine lv_goto (tgt := 63) hx hb dX2_weight_59 (by decide) ?_
      exact m_lret hx hb hr hlk hH hS dX2_weight_63 (⟨by unfold wgt; rw [if_neg (by decide), if_pos rfl, c_49]; rfl, rfl⟩)
  · refine lv_iload hx hb dX2_weight_0 (lv_at hl 4 rfl) ?_
    refine lv_lookup (off := 62) (tgt := 64) hx hb dX2_weight_2 (by decide) (by decide) (by decide) ?_
    refine lv_aload_n hx hb dX2_weight_64 rfl (lv_at hl 0 rfl) ?_
    refine lv_iload_n hx hb dX2_weight_65 rfl (lv_at hl 1 rfl) ?_
    refine lv_iload_n hx hb dX2_weight_66 rfl (lv_at hl 2 rfl) ?_
    refine m_ki (m_runV (k := 50) (i := pn) (ci := 2) ⟨hx, hb, hml, hown, hz⟩ hK hH hS hpB rfl rfl (c_X2_isTakenAt l G B σ hC pn hpB hP1 hR k x (by omega) (by omega)) mw_X2_isTakenAt wl_X2_62 ⟨rfl, rfl⟩ ⟨by decide, by decide⟩ rfl hl.1 rfl (Nat.le_of_ble_eq_true rfl) dX2_weight_67 ⟨Nat.zero_le _, Nat.zero_le _⟩) hS (fun r_67 σ_67 H locs hp hH hS => ?_)
    obtain ⟨hr1, hs1⟩ := hp
    subst hr1
    rw [hs1] at hH
    refine m_ifeqB (tgt := 80) hx hb dX2_weight_70 (by decide) (fun c_70 => ?_) (fun c_70 => ?_)
    · refine lv_lconst (v := lN 0) hx hb dX2_weight_80 rfl ?_
      exact m_lret hx hb hr hlk hH hS dX2_weight_81 (⟨by unfold wgt; rw [if_neg (by decide), if_neg (by decide), c_70]; rfl, rfl⟩)
    · refine lv_iload_n hx hb dX2_weight_73 rfl (lv_at hl 3 rfl) ?_
      refine lv_iload_n hx hb dX2_weight_74 rfl (lv_at hl 2 rfl) ?_
      refine m_isubN (by omega) hx hb dX2_weight_75 ?_
      refine m_i2lN (by omega) hx hb dX2_weight_76 ?_
      refine lv_goto (tgt := 81) hx hb dX2_weight_77 (by decide) ?_
      exact m_lret hx hb hr hlk hH hS dX2_weight_81 (⟨by unfold wgt; rw [if_neg (by decide), if_neg (by decide), c_70]; rfl, rfl⟩)
set_option maxHeartbeats 4000000 in
set_option maxRecDepth 100000 in
theorem c_X2_sumOverOrders (l : Launch) (G : gG) (B : gB) (σ : gS) (hC : BkC B) (pn : Nat) (hpB : pn < B.2 50) (hP1 : WfP1 σ pn) (hR : PR σ pn) (hW : WfW σ) (nn dn wn : Nat) (hn60 : nn ≤ 60) (htn : tot σ pn (stN σ pn) ≤ nn) (hdn : dn ≤ 60) (hw : wn ≤ 2) : Met l yX2_sumOverOrders [.code yX2_sumOverOrders cX2_sumOverOrders 9 (some .long)] ({ frames := 4, cells := 0, slots := 0, locals := 89 } : Room) (mPc G B σ [.ref (B.1 50 pn), .ref (B.1 41 0), .int (nI nn), .int (nI dn), .int (nI wn)]) (mQl G B (fun v σ' => v = lN (soo σ pn nn dn wn) ∧ σ' = σ)) 0 0 (mA G) := by
  refine m_start (by decide) (Nat.le_of_ble_eq_true rfl) ?_
  intro p e s m below meth c ⟨hx, hb, hr, hml, hown, hK, hlk, hz⟩ hH hS ls hl
  have hl : lv_has ls 9 [(0, .ref (B.1 50 pn)), (1, .ref (B.1 41 0)), (2, .int (nI nn)), (3, .int (nI dn)), (4, .int (nI wn))] := hl
  have hs4 := hP1.2.1
  have loop : ∀ (z : Nat) (k : Nat), k ≤ stN σ pn ∧ stN σ pn < k + z → ∀ (H : Heap) (locs : List Loc), Hp G B σ H → va_S (mA G) s.heap H locs → ∀ (ls : Array Slot), lv_has ls 9 [(0, .ref (B.1 50 pn)), (1, .ref (B.1 41 0)), (2, .int (nI nn)), (3, .int (nI dn)), (4, .int (nI wn)), (5, .long (lN (rsum (soK σ pn nn dn wn) k))), (7, .int (nI k))] → W p l e ({ frames := 4, cells := 0, slots := 0, locals := 89 } : Room) s m ([.ref (B.1 50 pn), .ref (B.1 41 0), .int (nI nn), .int (nI dn), .int (nI wn)] : List Value).toArray below meth c H locs 0 0 (MQ below (mQl G B (fun v σ' => v = lN (soo σ pn nn dn wn) ∧ σ' = σ)) ([.ref (B.1 50 pn), .ref (B.1 41 0), .int (nI nn), .int (nI dn), .int (nI wn)] : List Value).toArray s 0 0 (mA G)) (F0 m 6 ls []) := by
    intro z
    induction z with
    | zero => intro k hh; exfalso; omega
    | succ z ih =>
      intro k hh H locs hH hS ls hl
      refine lv_iload hx hb dX2_sumOverOrders_6 (lv_at hl 6 rfl) ?_
      refine lv_aload_n hx hb dX2_sumOverOrders_8 rfl (lv_at hl 0 rfl) ?_
      refine gf_X2_29 hx hb hown hK hH hpB dX2_sumOverOrders_9 ?_
      refine m_toi (stN σ pn) (hR.1) ?_
      refine m_icmp_geN (tgt := 93) (by omega) (by omega) hx hb dX2_sumOverOrders_12 (by decide) (fun c_12 => ?_) (fun c_12 => ?_)
      · refine lv_lload hx hb dX2_sumOverOrders_93 (lv_at hl 5 rfl) ?_
        exact m_lret hx hb hr hlk hH hS dX2_sumOverOrders_95 (⟨by unfold soo; rw [show stN σ pn = k by omega], rfl⟩)
      · have ht := tot_le hP1 (show k + 1 ≤ stN σ pn by omega)
        have htm := tot_mono σ pn (show k + 1 ≤ stN σ pn by omega)
        have hr3 := hR.2.2.1 k c_12
        refine lv_iconst (v := nI 0) hx hb dX2_sumOverOrders_15 (by decide) ?_
        refine lv_istore (lv' := [(8, .int (nI 0)), (0, .ref (B.1 50 pn)), (1, .ref (B.1 41 0)), (2, .int (nI nn)), (3, .int (nI dn)), (4, .int (nI wn)), (5, .long (lN (rsum (soK σ pn nn dn wn) k))), (7, .int (nI k))]) hx hb dX2_sumOverOrders_16 hl (by decide) rfl (fun ls hl => ?_)
        have loopi : ∀ (zi : Nat) (i : Nat), i ≤ min (tot σ pn (k + 1)) dn + 1 ∧ 62 < i + zi → ∀ (H : Heap) (locs : List Loc), Hp G B σ H → va_S (mA G) s.heap H locs → ∀ (ls : Array Slot), lv_has ls 9 [(0, .ref (B.1 50 pn)), (1, .ref (B.1 41 0)), (2, .int (nI nn)), (3, .int (nI dn)), (4, .int (nI wn)), (5, .long (lN (rsum (soK σ pn nn dn wn) k + rsum (soT σ pn nn dn wn k) i))), (7, .int (nI k)), (8, .int (nI i))] → W p l e ({ frames := 4, cells := 0, slots := 0, locals := 89 } : Room) s m ([.ref (B.1 50 pn), .ref (B.1 41 0), .int (nI nn), .int (nI dn), .int (nI wn)] : List Value).toArray below meth c H locs 0 0 (MQ below (mQl G B (fun v σ' => v = lN (soo σ pn nn dn wn) ∧ σ' = σ)) ([.ref (B.1 50 pn), .ref (B.1 41 0), .int (nI nn), .int (nI dn), .int (nI wn)] : List Value).toArray s 0 0 (mA G)) (F0 m 18 ls []) := by
          intro zi
          induction zi with
          | zero => intro i hhi; exfalso; omega
          | succ zi ihi =>
            intro i hhi H locs hH hS ls hl
            refine lv_iload hx hb dX2_sumOverOrders_18 (lv_at hl 7 rfl) ?_
            refine lv_aload_n hx hb dX2_sumOverOrders_20 rfl (lv_at hl 0 rfl) ?_
            refine gf_X2_21 hx hb hown hK hH hpB dX2_sumOverOrders_21 ?_
            refine lv_iload hx hb dX2_sumOverOrders_24 (lv_at hl 6 rfl) ?_
            refine m_iald hx hb hK hH (n := 4) (bq hC 54 hpB) (fun _ _ => rfl) (k) (rfl) (by omega) (by decide) dX2_sumOverOrders_26 ?_
            refine m_toi (tot σ pn (k + 1)) (hr3.2.2.2) ?_
            refine m_icmp_gtN (tgt := 87) (by omega) (by omega) hx hb dX2_sumOverOrders_27 (by decide) (fun c_27 => ?_) (fun c_27 => ?_)
            · refine lv_iinc (v := nI (k + 1)) (lv' := [(7, .int (nI (k + 1))), (0, .ref (B.1 50 pn)), (1, .ref (B.1 41 0)), (2, .int (nI nn)), (3, .int (nI dn)), (4, .int (nI wn)), (5, .long (lN (rsum (soK σ pn nn dn wn) k + rsum (soT σ pn nn dn wn k) i))), (8, .int (nI i))]) hx hb dX2_sumOverOrders_87 hl (k := 6) rfl (nI_1 _) (by decide) rfl (fun ls hl => ?_)
              refine lv_goto (tgt := 6) hx hb dX2_sumOverOrders_90 (by decide) ?_
              exact ih (k + 1) (by omega) H locs hH hS ls (by rw [show rsum (soK σ pn nn dn wn) (k + 1) = rsum (soK σ pn nn dn wn) k + rsum (soT σ pn nn dn wn k) i from (by show _ + soK σ pn nn dn wn k = _; unfold soK; rw [show min (tot σ pn (k + 1)) dn + 1 = i by omega])]; exact lv_sub hl [1, 2, 3, 4, 5, 6, 0] rfl)
            · refine lv_iload hx hb dX2_sumOverOrders_30 (lv_at hl 7 rfl) ?_
              refine lv_iload_n hx hb dX2_sumOverOrders_32 rfl (lv_at hl 3 rfl) ?_
              refine m_icmp_gtN (tgt := 87) (by omega) (by omega) hx hb dX2_sumOverOrders_33 (by decide) (fun c_33 => ?_) (fun c_33 => ?_)
              · refine lv_iinc (v := nI (k + 1)) (lv' := [(7, .int (nI (k + 1))), (0, .ref (B.1 50 pn)), (1, .ref (B.1 41 0)), (2, .int (nI nn)), (3, .int (nI dn)), (4, .int (nI wn)), (5, .long (lN (rsum (soK σ pn nn dn wn) k + rsum (soT σ pn nn dn wn k) i))), (8, .int (nI i))]) hx hb dX2_sumOverOrders_87 hl (k := 6) rfl (nI_1 _) (by decide) rfl (fun ls hl => ?_)
                refine lv_goto (tgt := 6) hx hb dX2_sumOverOrders_90 (by decide) ?_
                exact ih (k + 1) (by omega) H locs hH hS ls (by rw [show rsum (soK σ pn nn dn wn) (k + 1) = rsum (soK σ pn nn dn wn) k + rsum (soT σ pn nn dn wn k) i from (by show _ + soK σ pn nn dn wn k = _; unfold soK; rw [show min (tot σ pn (k + 1)) dn + 1 = i by omega])]; exact lv_sub hl [1, 2, 3, 4, 5, 6, 0] rfl)
              · refine lv_lload hx hb dX2_sumOverOrders_36 (lv_at hl 5 rfl) ?_
                refine lv_aload_n hx hb dX2_sumOverOrders_38 rfl (lv_at hl 0 rfl) ?_
                refine lv_iload hx hb dX2_sumOverOrders_39 (lv_at hl 6 rfl) ?_
                refine lv_iload hx hb dX2_sumOverOrders_41 (lv_at hl 7 rfl) ?_
                refine lv_iload_n hx hb dX2_sumOverOrders_43 rfl (lv_at hl 3 rfl) ?_
                refine lv_iload hx hb dX2_sumOverOrders_44 (lv_at hl 4 rfl) ?_
                refine m_kl (m_runV (k := 50) (i := pn) (ci := 2) ⟨hx, hb, hml, hown, hz⟩ hK hH hS hpB rfl rfl (c_X2_weight l G B σ hC pn hpB hP1 hR k i dn wn c_12 (by omega) (by omega) (by omega) hw) mw_X2_weight wl_X2_68 ⟨rfl, rfl⟩ ⟨by decide, by decide⟩ rfl hl.1 rfl (Nat.le_of_ble_eq_true rfl) dX2_sumOverOrders_46 ⟨Nat.zero_le _, Nat.zero_le _⟩) hS (fun r_46 σ_46 H locs hp hH hS => ?_)
                obtain ⟨hr1, hs1⟩ := hp
                subst hr1
                rw [hs1] at hH
                refine lv_aload_n hx hb dX2_sumOverOrders_49 rfl (lv_at hl 0 rfl) ?_
                refine gf_X2_26 hx hb hown hK hH hpB dX2_sumOverOrders_50 ?_
                refine lv_iload hx hb dX2_sumOverOrders_53 (lv_at hl 6 rfl) ?_
                refine m_aald hx hb hK hH (n := 4) 6 (bq hC 55 hpB) (fun _ _ => rfl) rfl rfl (k) (rfl) (by omega) (by decide) (rfl) dX2_sumOverOrders_55 ?_
                refine lv_iload hx hb dX2_sumOverOrders_56 (lv_at hl 7 rfl) ?_
                refine m_lald hx hb hK hH (n := 61) (bt hC hpB (by omega)) (fun _ _ => rfl) (i) (rfl) (by omega) (by decide) dX2_sumOverOrders_58 ?_
                refine m_toj (lN (rch σ pn k i)) (hR.2.2.2 k i c_12 (by omega)) ?_
                refine m_lmulN hx hb dX2_sumOverOrders_59 ?_
                refine lv_aload_n hx hb dX2_sumOverOrders_60 rfl (lv_at hl 1 rfl) ?_
                refine lv_iload_n hx hb dX2_sumOverOrders_61 rfl (lv_at hl 2 rfl) ?_
                refine lv_aload_n hx hb dX2_sumOverOrders_62 rfl (lv_at hl 0 rfl) ?_
                refine gf_X2_21 hx hb hown hK hH hpB dX2_sumOverOrders_63 ?_
                refine lv_iload hx hb dX2_sumOverOrders_66 (lv_at hl 6 rfl) ?_
                refine m_iald hx hb hK hH (n := 4) (bq hC 54 hpB) (fun _ _ => rfl) (k) (rfl) (by omega) (by decide) dX2_sumOverOrders_68 ?_
                refine m_toi (tot σ pn (k + 1)) (hr3.2.2.2) ?_
                refine m_isubN (by omega) hx hb dX2_sumOverOrders_69 ?_
                refine lv_iload_n hx hb dX2_sumOverOrders_70 rfl (lv_at hl 3 rfl) ?_
                refine lv_iload hx hb dX2_sumOverOrders_71 (lv_at hl 7 rfl) ?_
                refine lv_isub hx hb dX2_sumOverOrders_73 ?_
                refine m_kl (m_runV (k := 41) (i := 0) (ci := 5) ⟨hx, hb, hml, hown, hz⟩ hK hH hS (bc hC 41) rfl rfl (c_X5_choose l G B σ hC (nn - tot σ pn (k + 1)) (nI dn - nI i) (by omega) hW) mw_X5_choose wl_X2_53 ⟨rfl, rfl⟩ ⟨by decide, by decide⟩ rfl hl.1 rfl (Nat.le_of_ble_eq_true rfl) dX2_sumOverOrders_74 ⟨Nat.zero_le _, Nat.zero_le _⟩) hS (fun r_74 σ_74 H locs hp hH hS => ?_)
                obtain ⟨hr1, hs1⟩ := hp
                rw [hs1] at hH
                rw [i_subN (by omega) (by omega)] at hr1
                subst hr1
                refine m_lmulN hx hb dX2_sumOverOrders_77 ?_
                refine m_laddN hx hb dX2_sumOverOrders_78 ?_
                refine lv_lstore (lv' := [(5, .long (lN ((rsum (soK σ pn nn dn wn) k + rsum (soT σ pn nn dn wn k) i) + (((wgt σ pn k i dn wn) * (rch σ pn k i)) * (chZ (nn - tot σ pn (k + 1)) ((dn : Int) - (i : Int))))))), (0, .ref (B.1 50 pn)), (1, .ref (B.1 41 0)), (2, .int (nI nn)), (3, .int (nI dn)), (4, .int (nI wn)), (7, .int (nI k)), (8, .int (nI i))]) hx hb dX2_sumOverOrders_79 hl (by decide) rfl (fun ls hl => ?_)
                refine lv_iinc (v := nI (i + 1)) (lv' := [(8, .int (nI (i + 1))), (5, .long (lN ((rsum (soK σ pn nn dn wn) k + rsum (soT σ pn nn dn wn k) i) + (((wgt σ pn k i dn wn) * (rch σ pn k i)) * (chZ (nn - tot σ pn (k + 1)) ((dn : Int) - (i : Int))))))), (0, .ref (B.1 50 pn)), (1, .ref (B.1 41 0)), (2, .int (nI nn)), (3, .int (nI dn)), (4, .int (nI wn)), (7, .int (nI k))]) hx hb dX2_sumOverOrders_81 hl (k := 7) rfl (nI_1 _) (by decide) rfl (fun ls hl => ?_)
                refine lv_goto (tgt := 18) hx hb dX2_sumOverOrders_84 (by decide) ?_
                exact ihi (i + 1) (by omega) H locs hH hS ls (by rw [show rsum (soT σ pn nn dn wn k) (i + 1) = rsum (soT σ pn nn dn wn k) i + soT σ pn nn dn wn k i from rfl, ← Nat.add_assoc]; exact lv_sub hl [2, 3, 4, 5, 6, 1, 7, 0] rfl)
        exact loopi 63 0 (by omega) H locs hH hS ls (lv_sub hl [1, 2, 3, 4, 5, 6, 7, 0] rfl)
  refine lv_lconst (v := lN 0) hx hb dX2_sumOverOrders_0 rfl ?_
  refine lv_lstore (lv' := [(5, .long (lN 0)), (0, .ref (B.1 50 pn)), (1, .ref (B.1 41 0)), (2, .int (nI nn)), (3, .int (nI dn)), (4, .int (nI wn))]) hx hb dX2_sumOverOrders_1 hl (by decide) rfl (fun ls hl => ?_)
  refine lv_iconst (v := nI 0) hx hb dX2_sumOverOrders_3 (by decide) ?_
  refine lv_istore (lv' := [(7, .int (nI 0)), (5, .long (lN 0)), (0, .ref (B.1 50 pn)), (1, .ref (B.1 41 0)), (2, .int (nI nn)), (3, .int (nI dn)), (4, .int (nI wn))]) hx hb dX2_sumOverOrders_4 hl (by decide) rfl (fun ls hl => ?_)
  exact loop (stN σ pn + 1) 0 (by omega) _ _ hH hS ls (lv_sub hl [2, 3, 4, 5, 6, 1, 0] rfl)
