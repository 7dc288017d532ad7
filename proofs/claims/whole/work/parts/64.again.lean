/-! two contracts of the check, with their bounds told -/
set_option maxHeartbeats 4000000 in
set_option maxRecDepth 100000 in
theorem c_X7_stage2 (l : Launch) (G : gG) (B : gB) (σ : gS) (hM : BkM B) (hW : WfP σ) (x sz a r : Int32) : Met l yX7_stage [.code yX7_stage cX7_stage 6 (some .int)] ({ frames := 3, cells := 0, slots := 0, locals := 64 } : Room) (mPc G B σ [.ref (B.1 0 0), .int (x), .int (sz), .int (a), .int (r)]) (mQi G B (fun v σ' => if stOK σ x sz a r = true then ∃ pn : Nat, pn < nP σ ∧ x = nI pn ∧ v = nI (stN σ pn + 1) ∧ σ' = stUp σ pn sz a r else v = -2 ∧ σ' = σ)) 0 0 (mA G) := by
  refine m_start (by decide) (Nat.le_of_ble_eq_true rfl) ?_
  intro p e s m below meth c ⟨hx, hb, hr, hml, hown, hK, hlk, hz⟩ hH hS ls hl
  have hl : lv_has ls 6 [(0, .ref (B.1 0 0)), (1, .int (x)), (2, .int (sz)), (3, .int (a)), (4, .int (r))] := hl
  refine lv_aload_n hx hb dX7_stage_0 rfl (lv_at hl 0 rfl) ?_
  refine lv_iload_n hx hb dX7_stage_1 rfl (lv_at hl 1 rfl) ?_
  refine m_ki (m_runV (k := 0) (i := 0) (ci := 7) ⟨hx, hb, hml, hown, hz⟩ hK hH hS (bm hM 0) rfl rfl (c_X7_isPlan l G B σ hM hW x) mw_X7_isPlan wl_X7_99 ⟨rfl, rfl⟩ ⟨by decide, by decide⟩ rfl hl.1 rfl (Nat.le_of_ble_eq_true rfl) dX7_stage_2 ⟨Nat.zero_le _, Nat.zero_le _⟩) hS (fun r_2 σ_2 H locs hp hH hS => ?_)
  obtain ⟨hr1, hs1⟩ := hp
  subst hr1
  rw [hs1] at hH
  refine m_ifeqB (tgt := 47) hx hb dX7_stage_5 (by decide) (fun c_5 => ?_) (fun c_5 => ?_)
  · have hno : stOK σ (x) sz a r = false := by
      first
        | (unfold stOK; rw [c_5]; rfl)
        | (rw [stOK_nI hpn h24]; exact decide_eq_false (fun hh => by rw [c_13] at hh; exact absurd hh.1 (by decide)))
        | (rw [stOK_nI hpn h24]; exact decide_eq_false (fun hh => hh.2.1 c_23))
        | (rw [stOK_nI hpn h24]; exact decide_eq_false (fun hh => c_43 (l_eq64.mpr (hh.2.2.1 c_33))))
    refine lv_bipush (v := (-2)) hx hb dX7_stage_47 (by decide) ?_
    exact m_iret hx hb hr hlk hH hS dX7_stage_49 (by rw [hno]; exact ⟨rfl, rfl⟩)
  · obtain ⟨pn, hpn, rfl⟩ := isPl_t c_5
    have h24 := hW.2.1
    have hP := hW.2.2 pn hpn
    have ht := tot_le hP (Nat.le_refl _)
    have hs4 := hP.2.1
    have et := nI_I (n := tot σ pn (stN σ pn)) (by omega)
    refine lv_aload_n hx hb dX7_stage_8 rfl (lv_at hl 0 rfl) ?_
    refine lv_iload_n hx hb dX7_stage_9 rfl (lv_at hl 1 rfl) ?_
    refine m_ki (m_runV (k := 0) (i := 0) (ci := 7) ⟨hx, hb, hml, hown, hz⟩ hK hH hS (bm hM 0) rfl rfl (c_X7_isClosed l G B σ hM hW (nI pn)) mw_X7_isClosed wl_X7_107 ⟨rfl, rfl⟩ ⟨by decide, by decide⟩ rfl hl.1 rfl (Nat.le_of_ble_eq_true rfl) dX7_stage_10 ⟨Nat.zero_le _, Nat.zero_le _⟩) hS (fun r_10 σ_10 H locs hp hH hS => ?_)
    obtain ⟨hr1, hs1⟩ := hp
    rw [hs1] at hH
    rw [isCl_nI hpn h24] at hr1
    subst hr1
    refine m_ifneB (tgt := 47) hx hb dX7_stage_13 (by decide) (fun c_13 => ?_) (fun c_13 => ?_)
    · have hno : stOK σ (nI pn) sz a r = false := by
        first
          | (unfold stOK; rw [c_5]; rfl)
          | (rw [stOK_nI hpn h24]; exact decide_eq_false (fun hh => by rw [c_13] at hh; exact absurd hh.1 (by decide)))
          | (rw [stOK_nI hpn h24]; exact decide_eq_false (fun hh => hh.2.1 c_23))
          | (rw [stOK_nI hpn h24]; exact decide_eq_false (fun hh => c_43 (l_eq64.mpr (hh.2.2.1 c_33))))
      refine lv_bipush (v := (-2)) hx hb dX7_stage_47 (by decide) ?_
      exact m_iret hx hb hr hlk hH hS dX7_stage_49 (by rw [hno]; exact ⟨rfl, rfl⟩)
    · refine lv_aload_n hx hb dX7_stage_16 rfl (lv_at hl 0 rfl) ?_
      refine gf_X7_7 hx hb hown hK hH (bm hM 0) dX7_stage_17 ?_
      refine lv_iload_n hx hb dX7_stage_20 rfl (lv_at hl 1 rfl) ?_
      refine m_iald hx hb hK hH (n := 24) (bm hM 3) (fun _ _ => rfl) (pn) (rfl) (by omega) (by decide) dX7_stage_21 ?_
      refine m_toi (stN σ pn) (hP.1) ?_
      refine lv_iconst (v := nI 4) hx hb dX7_stage_22 (by decide) ?_
      refine m_icmp_eqN (tgt := 47) (by omega) (by omega) hx hb dX7_stage_23 (by decide) (fun c_23 => ?_) (fun c_23 => ?_)
      · have hno : stOK σ (nI pn) sz a r = false := by
          first
            | (unfold stOK; rw [c_5]; rfl)
            | (rw [stOK_nI hpn h24]; exact decide_eq_false (fun hh => by rw [c_13] at hh; exact absurd hh.1 (by decide)))
            | (rw [stOK_nI hpn h24]; exact decide_eq_false (fun hh => hh.2.1 c_23))
            | (rw [stOK_nI hpn h24]; exact decide_eq_false (fun hh => c_43 (l_eq64.mpr (hh.2.2.1 c_33))))
        refine lv_bipush (v := (-2)) hx hb dX7_stage_47 (by decide) ?_
        exact m_iret hx hb hr hlk hH hS dX7_stage_49 (by rw [hno]; exact ⟨rfl, rfl⟩)
      · refine lv_aload_n hx hb dX7_stage_26 rfl (lv_at hl 0 rfl) ?_
        refine gf_X7_7 hx hb hown hK hH (bm hM 0) dX7_stage_27 ?_
        refine lv_iload_n hx hb dX7_stage_30 rfl (lv_at hl 1 rfl) ?_
        refine m_iald hx hb hK hH (n := 24) (bm hM 3) (fun _ _ => rfl) (pn) (rfl) (by omega) (by decide) dX7_stage_31 ?_
        refine m_toi (stN σ pn) (hP.1) ?_
        refine lv_iconst (v := nI 3) hx hb dX7_stage_32 (by decide) ?_
        refine m_icmp_neN (tgt := 50) (by omega) (by omega) hx hb dX7_stage_33 (by decide) (fun c_33 => ?_) (fun c_33 => ?_)
        · have h33 : stN σ pn = 3 → r.toInt = a.toInt + 1 := by
            first
              | exact fun _ => l_eq64.mp c_43
              | exact fun q => absurd q c_33
          refine lv_iload_n hx hb dX7_stage_50 rfl (lv_at hl 2 rfl) ?_
          refine lv_iconst (v := nI 1) hx hb dX7_stage_51 (by decide) ?_
          refine lv_bipush (v := nI 60) hx hb dX7_stage_52 (by decide) ?_
          refine m_ki (m_runS ⟨hx, hb, hml, hown, hz⟩ hK hH hS (c_X7_in l G B σ sz (nI 1) (nI 60)) mw_X7_in wl_X7_95 ⟨rfl, rfl⟩ ⟨by decide, by decide⟩ rfl hl.1 rfl (Nat.le_of_ble_eq_true rfl) dX7_stage_54 ⟨Nat.zero_le _, Nat.zero_le _⟩) hS (fun r_54 σ_54 H locs hp hH hS => ?_)
          obtain ⟨hr1, hs1⟩ := hp
          subst hr1
          rw [hs1] at hH
          refine m_ifeqB (tgt := 95) hx hb dX7_stage_57 (by decide) (fun c_57 => ?_) (fun c_57 => ?_)
          · have hno : stOK σ (nI pn) sz a r = false := by
              rw [stOK_nI hpn h24]; refine decide_eq_false (fun hh => ?_); obtain ⟨-, -, -, h5, h6, h7, h8, h9⟩ := hh
              first
                | (have := inR_f c_57; rw [n1I, n60I] at this; omega)
                | (have := inR_f c_67; rw [im1, n60I] at this; omega)
                | (rw [i_le] at c_73; omega)
                | (rw [i_lt, n61I] at c_80; omega)
                | (have h10 := inR_t c_57; rw [n1I, n60I] at h10; have e9 : (nI (tot σ pn (stN σ pn)) + sz).toInt = (tot σ pn (stN σ pn) : Int) + sz.toInt := (by rw [i_add (by rw [et]; omega) (by rw [et]; omega), et]); rw [i_le, e9, n60I] at c_92; omega)
            refine lv_bipush (v := (-2)) hx hb dX7_stage_95 (by decide) ?_
            exact m_iret hx hb hr hlk hH hS dX7_stage_97 (by rw [hno]; exact ⟨rfl, rfl⟩)
          · refine lv_iload_n hx hb dX7_stage_60 rfl (lv_at hl 3 rfl) ?_
            refine lv_iconst (v := (-1)) hx hb dX7_stage_61 (by decide) ?_
            refine lv_bipush (v := nI 60) hx hb dX7_stage_62 (by decide) ?_
            refine m_ki (m_runS ⟨hx, hb, hml, hown, hz⟩ hK hH hS (c_X7_in l G B σ a (-1) (nI 60)) mw_X7_in wl_X7_95 ⟨rfl, rfl⟩ ⟨by decide, by decide⟩ rfl hl.1 rfl (Nat.le_of_ble_eq_true rfl) dX7_stage_64 ⟨Nat.zero_le _, Nat.zero_le _⟩) hS (fun r_64 σ_64 H locs hp hH hS => ?_)
            obtain ⟨hr1, hs1⟩ := hp
            subst hr1
            rw [hs1] at hH
            refine m_ifeqB (tgt := 95) hx hb dX7_stage_67 (by decide) (fun c_67 => ?_) (fun c_67 => ?_)
            · have hno : stOK σ (nI pn) sz a r = false := by
                rw [stOK_nI hpn h24]; refine decide_eq_false (fun hh => ?_); obtain ⟨-, -, -, h5, h6, h7, h8, h9⟩ := hh
                first
                  | (have := inR_f c_57; rw [n1I, n60I] at this; omega)
                  | (have := inR_f c_67; rw [im1, n60I] at this; omega)
                  | (rw [i_le] at c_73; omega)
                  | (rw [i_lt, n61I] at c_80; omega)
                  | (have h10 := inR_t c_57; rw [n1I, n60I] at h10; have e9 : (nI (tot σ pn (stN σ pn)) + sz).toInt = (tot σ pn (stN σ pn) : Int) + sz.toInt := (by rw [i_add (by rw [et]; omega) (by rw [et]; omega), et]); rw [i_le, e9, n60I] at c_92; omega)
              refine lv_bipush (v := (-2)) hx hb dX7_stage_95 (by decide) ?_
              exact m_iret hx hb hr hlk hH hS dX7_stage_97 (by rw [hno]; exact ⟨rfl, rfl⟩)
            · refine lv_iload hx hb dX7_stage_70 (lv_at hl 4 rfl) ?_
              refine lv_iload_n hx hb dX7_stage_72 rfl (lv_at hl 3 rfl) ?_
              refine lv_icmp_le (tgt := 95) hx hb dX7_stage_73 (by decide) (fun c_73 => ?_) (fun c_73 => ?_)
              · have hno : stOK σ (nI pn) sz a r = false := by
                  rw [stOK_nI hpn h24]; refine decide_eq_false (fun hh => ?_); obtain ⟨-, -, -, h5, h6, h7, h8, h9⟩ := hh
                  first
                    | (have := inR_f c_57; rw [n1I, n60I] at this; omega)
                    | (have := inR_f c_67; rw [im1, n60I] at this; omega)
                    | (rw [i_le] at c_73; omega)
                    | (rw [i_lt, n61I] at c_80; omega)
                    | (have h10 := inR_t c_57; rw [n1I, n60I] at h10; have e9 : (nI (tot σ pn (stN σ pn)) + sz).toInt = (tot σ pn (stN σ pn) : Int) + sz.toInt := (by rw [i_add (by rw [et]; omega) (by rw [et]; omega), et]); rw [i_le, e9, n60I] at c_92; omega)
                refine lv_bipush (v := (-2)) hx hb dX7_stage_95 (by decide) ?_
                exact m_iret hx hb hr hlk hH hS dX7_stage_97 (by rw [hno]; exact ⟨rfl, rfl⟩)
              · refine lv_iload hx hb dX7_stage_76 (lv_at hl 4 rfl) ?_
                refine lv_bipush (v := nI 61) hx hb dX7_stage_78 (by decide) ?_
                refine lv_icmp_gt (tgt := 95) hx hb dX7_stage_80 (by decide) (fun c_80 => ?_) (fun c_80 => ?_)
                · have hno : stOK σ (nI pn) sz a r = false := by
                    rw [stOK_nI hpn h24]; refine decide_eq_false (fun hh => ?_); obtain ⟨-, -, -, h5, h6, h7, h8, h9⟩ := hh
                    first
                      | (have := inR_f c_57; rw [n1I, n60I] at this; omega)
                      | (have := inR_f c_67; rw [im1, n60I] at this; omega)
                      | (rw [i_le] at c_73; omega)
                      | (rw [i_lt, n61I] at c_80; omega)
                      | (have h10 := inR_t c_57; rw [n1I, n60I] at h10; have e9 : (nI (tot σ pn (stN σ pn)) + sz).toInt = (tot σ pn (stN σ pn) : Int) + sz.toInt := (by rw [i_add (by rw [et]; omega) (by rw [et]; omega), et]); rw [i_le, e9, n60I] at c_92; omega)
                  refine lv_bipush (v := (-2)) hx hb dX7_stage_95 (by decide) ?_
                  exact m_iret hx hb hr hlk hH hS dX7_stage_97 (by rw [hno]; exact ⟨rfl, rfl⟩)
                · refine lv_aload_n hx hb dX7_stage_83 rfl (lv_at hl 0 rfl) ?_
                  refine lv_iload_n hx hb dX7_stage_84 rfl (lv_at hl 1 rfl) ?_
                  refine m_ki (m_runV (k := 0) (i := 0) (ci := 7) ⟨hx, hb, hml, hown, hz⟩ hK hH hS (bm hM 0) rfl rfl (c_X7_all l G B σ hM pn (by omega) hP) mw_X7_all wl_X7_110 ⟨rfl, rfl⟩ ⟨by decide, by decide⟩ rfl hl.1 rfl (Nat.le_of_ble_eq_true rfl) dX7_stage_85 ⟨Nat.zero_le _, Nat.zero_le _⟩) hS (fun r_85 σ_85 H locs hp hH hS => ?_)
                  obtain ⟨hr1, hs1⟩ := hp
                  subst hr1
                  rw [hs1] at hH
                  refine lv_iload_n hx hb dX7_stage_88 rfl (lv_at hl 2 rfl) ?_
                  refine lv_iadd hx hb dX7_stage_89 ?_
                  refine lv_bipush (v := nI 60) hx hb dX7_stage_90 (by decide) ?_
                  refine lv_icmp_le (tgt := 98) hx hb dX7_stage_92 (by decide) (fun c_92 => ?_) (fun c_92 => ?_)
                  · have hyes : stOK σ (nI pn) sz a r = true := by
                      rw [stOK_nI hpn h24]
                      have h10 := inR_t c_57; rw [n1I, n60I] at h10
                      have h11 := inR_t c_67; rw [im1, n60I] at h11
                      rw [i_le] at c_73
                      rw [i_lt, n61I] at c_80
                      have e9 : (nI (tot σ pn (stN σ pn)) + sz).toInt = (tot σ pn (stN σ pn) : Int) + sz.toInt := (by rw [i_add (by rw [et]; omega) (by rw [et]; omega), et])
                      rw [i_le, e9, n60I] at c_92
                      exact decide_eq_true ⟨c_13, c_23, h33, h10, h11, by omega, by omega, by omega⟩
                    have hs3 : stN σ pn < 4 := by omega
                    refine lv_iconst (v := nI 4) hx hb dX7_stage_98 (by decide) ?_
                    refine lv_iload_n hx hb dX7_stage_99 rfl (lv_at hl 1 rfl) ?_
                    refine m_imulN hx hb dX7_stage_100 ?_
                    refine lv_aload_n hx hb dX7_stage_101 rfl (lv_at hl 0 rfl) ?_
                    refine gf_X7_7 hx hb hown hK hH (bm hM 0) dX7_stage_102 ?_
                    refine lv_iload_n hx hb dX7_stage_105 rfl (lv_at hl 1 rfl) ?_
                    refine m_iald hx hb hK hH (n := 24) (bm hM 3) (fun _ _ => rfl) (pn) (rfl) (by omega) (by decide) dX7_stage_106 ?_
                    refine m_toi (stN σ pn) (hP.1) ?_
                    refine m_iaddN hx hb dX7_stage_107 ?_
                    refine lv_istore (lv' := [(5, .int (nI (4 * pn + (stN σ pn)))), (0, .ref (B.1 0 0)), (1, .int (nI pn)), (2, .int (sz)), (3, .int (a)), (4, .int (r))]) hx hb dX7_stage_108 hl (by decide) rfl (fun ls hl => ?_)
                    refine lv_aload_n hx hb dX7_stage_110 rfl (lv_at hl 1 rfl) ?_
                    refine gf_X7_13 hx hb hown hK hH (bm hM 0) dX7_stage_111 ?_
                    refine lv_iload hx hb dX7_stage_114 (lv_at hl 0 rfl) ?_
                    refine lv_iload_n hx hb dX7_stage_116 rfl (lv_at hl 3 rfl) ?_
                    refine m_iast hx hb hK hH hS (n := 96) (bm hM 4) (fun _ _ => rfl) (4 * pn + (stN σ pn)) (rfl) (by omega) (by decide) dX7_stage_117 (fun H locs hH hS => ?_)
                    refine lv_aload_n hx hb dX7_stage_118 rfl (lv_at hl 1 rfl) ?_
                    refine gf_X7_16 hx hb hown hK hH (bm hM 0) dX7_stage_119 ?_
                    refine lv_iload hx hb dX7_stage_122 (lv_at hl 0 rfl) ?_
                    refine lv_iload_n hx hb dX7_stage_124 rfl (lv_at hl 4 rfl) ?_
                    refine m_iast hx hb hK hH hS (n := 96) (bm hM 5) (fun _ _ => rfl) (4 * pn + (stN σ pn)) (rfl) (by omega) (by decide) dX7_stage_125 (fun H locs hH hS => ?_)
                    refine lv_aload_n hx hb dX7_stage_126 rfl (lv_at hl 1 rfl) ?_
                    refine gf_X7_19 hx hb hown hK hH (bm hM 0) dX7_stage_127 ?_
                    refine lv_iload hx hb dX7_stage_130 (lv_at hl 0 rfl) ?_
                    refine lv_iload hx hb dX7_stage_132 (lv_at hl 5 rfl) ?_
                    refine m_iast hx hb hK hH hS (n := 96) (bm hM 6) (fun _ _ => rfl) (4 * pn + (stN σ pn)) (rfl) (by omega) (by decide) dX7_stage_134 (fun H locs hH hS => ?_)
                    refine lv_aload_n hx hb dX7_stage_135 rfl (lv_at hl 1 rfl) ?_
                    refine gf_X7_7 hx hb hown hK hH (bm hM 0) dX7_stage_136 ?_
                    refine lv_iload_n hx hb dX7_stage_139 rfl (lv_at hl 2 rfl) ?_
                    refine lv_dup2_11 hx hb dX7_stage_140 rfl rfl ?_
                    refine m_iald hx hb hK hH (n := 24) (bm hM 3) (fun _ _ => rfl) (pn) (rfl) (by omega) (by decide) dX7_stage_141 ?_
                    refine m_toi (stN σ pn) (by simp only [sI_at]; simp; exact hP.1) ?_
                    refine lv_iconst (v := nI 1) hx hb dX7_stage_142 (by decide) ?_
                    refine m_iaddN hx hb dX7_stage_143 ?_
                    refine m_iast hx hb hK hH hS (n := 24) (bm hM 3) (fun _ _ => rfl) (pn) (rfl) (by omega) (by decide) dX7_stage_144 (fun H locs hH hS => ?_)
                    refine lv_aload_n hx hb dX7_stage_145 rfl (lv_at hl 1 rfl) ?_
                    refine gf_X7_7 hx hb hown hK hH (bm hM 0) dX7_stage_146 ?_
                    refine lv_iload_n hx hb dX7_stage_149 rfl (lv_at hl 2 rfl) ?_
                    refine m_iald hx hb hK hH (n := 24) (bm hM 3) (fun _ _ => rfl) (pn) (rfl) (by omega) (by decide) dX7_stage_150 ?_
                    refine m_toi (stN σ pn + 1) (by rw [sI_at, if_pos ⟨rfl, rfl, rfl⟩]) ?_
                    exact m_iret hx hb hr hlk hH hS dX7_stage_151 (by rw [hyes]; exact ⟨pn, hpn, rfl, rfl, rfl⟩)
                  · have hno : stOK σ (nI pn) sz a r = false := by
                      rw [stOK_nI hpn h24]; refine decide_eq_false (fun hh => ?_); obtain ⟨-, -, -, h5, h6, h7, h8, h9⟩ := hh
                      first
                        | (have := inR_f c_57; rw [n1I, n60I] at this; omega)
                        | (have := inR_f c_67; rw [im1, n60I] at this; omega)
                        | (rw [i_le] at c_73; omega)
                        | (rw [i_lt, n61I] at c_80; omega)
                        | (have h10 := inR_t c_57; rw [n1I, n60I] at h10; have e9 : (nI (tot σ pn (stN σ pn)) + sz).toInt = (tot σ pn (stN σ pn) : Int) + sz.toInt := (by rw [i_add (by rw [et]; omega) (by rw [et]; omega), et]); rw [i_le, e9, n60I] at c_92; omega)
                    refine lv_bipush (v := (-2)) hx hb dX7_stage_95 (by decide) ?_
                    exact m_iret hx hb hr hlk hH hS dX7_stage_97 (by rw [hno]; exact ⟨rfl, rfl⟩)
        · refine lv_iload hx hb dX7_stage_36 (lv_at hl 4 rfl) ?_
          refine lv_i2l hx hb dX7_stage_38 rfl ?_
          refine lv_iload_n hx hb dX7_stage_39 rfl (lv_at hl 3 rfl) ?_
          refine lv_i2l hx hb dX7_stage_40 rfl ?_
          refine lv_lconst (v := lN 1) hx hb dX7_stage_41 rfl ?_
          refine lv_ladd hx hb dX7_stage_42 ?_
          refine m_lc_eq (tgt := 50) hx hb dX7_stage_43 dX7_stage_44 (by decide) (fun c_43 => ?_) (fun c_43 => ?_)
          · have h33 : stN σ pn = 3 → r.toInt = a.toInt + 1 := by
              first
                | exact fun _ => l_eq64.mp c_43
                | exact fun q => absurd q c_33
            refine lv_iload_n hx hb dX7_stage_50 rfl (lv_at hl 2 rfl) ?_
            refine lv_iconst (v := nI 1) hx hb dX7_stage_51 (by decide) ?_
            refine lv_bipush (v := nI 60) hx hb dX7_stage_52 (by decide) ?_
            refine m_ki (m_runS ⟨hx, hb, hml, hown, hz⟩ hK hH hS (c_X7_in l G B σ sz (nI 1) (nI 60)) mw_X7_in wl_X7_95 ⟨rfl, rfl⟩ ⟨by decide, by decide⟩ rfl hl.1 rfl (Nat.le_of_ble_eq_true rfl) dX7_stage_54 ⟨Nat.zero_le _, Nat.zero_le _⟩) hS (fun r_54 σ_54 H locs hp hH hS => ?_)
            obtain ⟨hr1, hs1⟩ := hp
            subst hr1
            rw [hs1] at hH
            refine m_ifeqB (tgt := 95) hx hb dX7_stage_57 (by decide) (fun c_57 => ?_) (fun c_57 => ?_)
            · have hno : stOK σ (nI pn) sz a r = false := by
                rw [stOK_nI hpn h24]; refine decide_eq_false (fun hh => ?_); obtain ⟨-, -, -, h5, h6, h7, h8, h9⟩ := hh
                first
                  | (have := inR_f c_57; rw [n1I, n60I] at this; omega)
                  | (have := inR_f c_67; rw [im1, n60I] at this; omega)
                  | (rw [i_le] at c_73; omega)
                  | (rw [i_lt, n61I] at c_80; omega)
                  | (have h10 := inR_t c_57; rw [n1I, n60I] at h10; have e9 : (nI (tot σ pn (stN σ pn)) + sz).toInt = (tot σ pn (stN σ pn) : Int) + sz.toInt := (by rw [i_add (by rw [et]; omega) (by rw [et]; omega), et]); rw [i_le, e9, n60I] at c_92; omega)
              refine lv_bipush (v := (-2)) hx hb dX7_stage_95 (by decide) ?_
              exact m_iret hx hb hr hlk hH hS dX7_stage_97 (by rw [hno]; exact ⟨rfl, rfl⟩)
            · refine lv_iload_n hx hb dX7_stage_60 rfl (lv_at hl 3 rfl) ?_
              refine lv_iconst (v := (-1)) hx hb dX7_stage_61 (by decide) ?_
              refine lv_bipush (v := nI 60) hx hb dX7_stage_62 (by decide) ?_
              refine m_ki (m_runS ⟨hx, hb, hml, hown, hz⟩ hK hH hS (c_X7_in l G B σ a (-1) (nI 60)) mw_X7_in wl_X7_95 ⟨rfl, rfl⟩ ⟨by decide, by decide⟩ rfl hl.1 rfl (Nat.le_of_ble_eq_true rfl) dX7_stage_64 ⟨Nat.zero_le _, Nat.zero_le _⟩) hS (fun r_64 σ_64 H locs hp hH hS => ?_)
              obtain ⟨hr1, hs1⟩ := hp
              subst hr1
              rw [hs1] at hH
              refine m_ifeqB (tgt := 95) hx hb dX7_stage_67 (by decide) (fun c_67 => ?_) (fun c_67 => ?_)
              · have hno : stOK σ (nI pn) sz a r = false := by
                  rw [stOK_nI hpn h24]; refine decide_eq_false (fun hh => ?_); obtain ⟨-, -, -, h5, h6, h7, h8, h9⟩ := hh
                  first
                    | (have := inR_f c_57; rw [n1I, n60I] at this; omega)
                    | (have := inR_f c_67; rw [im1, n60I] at this; omega)
                    | (rw [i_le] at c_73; omega)
                    | (rw [i_lt, n61I] at c_80; omega)
                    | (have h10 := inR_t c_57; rw [n1I, n60I] at h10; have e9 : (nI (tot σ pn (stN σ pn)) + sz).toInt = (tot σ pn (stN σ pn) : Int) + sz.toInt := (by rw [i_add (by rw [et]; omega) (by rw [et]; omega), et]); rw [i_le, e9, n60I] at c_92; omega)
                refine lv_bipush (v := (-2)) hx hb dX7_stage_95 (by decide) ?_
                exact m_iret hx hb hr hlk hH hS dX7_stage_97 (by rw [hno]; exact ⟨rfl, rfl⟩)
              · refine lv_iload hx hb dX7_stage_70 (lv_at hl 4 rfl) ?_
                refine lv_iload_n hx hb dX7_stage_72 rfl (lv_at hl 3 rfl) ?_
                refine lv_icmp_le (tgt := 95) hx hb dX7_stage_73 (by decide) (fun c_73 => ?_) (fun c_73 => ?_)
                · have hno : stOK σ (nI pn) sz a r = false := by
                    rw [stOK_nI hpn h24]; refine decide_eq_false (fun hh => ?_); obtain ⟨-, -, -, h5, h6, h7, h8, h9⟩ := hh
                    first
                      | (have := inR_f c_57; rw [n1I, n60I] at this; omega)
                      | (have := inR_f c_67; rw [im1, n60I] at this; omega)
                      | (rw [i_le] at c_73; omega)
                      | (rw [i_lt, n61I] at c_80; omega)
                      | (have h10 := inR_t c_57; rw [n1I, n60I] at h10; have e9 : (nI (tot σ pn (stN σ pn)) + sz).toInt = (tot σ pn (stN σ pn) : Int) + sz.toInt := (by rw [i_add (by rw [et]; omega) (by rw [et]; omega), et]); rw [i_le, e9, n60I] at c_92; omega)
                  refine lv_bipush (v := (-2)) hx hb dX7_stage_95 (by decide) ?_
                  exact m_iret hx hb hr hlk hH hS dX7_stage_97 (by rw [hno]; exact ⟨rfl, rfl⟩)
                · refine lv_iload hx hb dX7_stage_76 (lv_at hl 4 rfl) ?_
                  refine lv_bipush (v := nI 61) hx hb dX7_stage_78 (by decide) ?_
                  refine lv_icmp_gt (tgt := 95) hx hb dX7_stage_80 (by decide) (fun c_80 => ?_) (fun c_80 => ?_)
                  · have hno : stOK σ (nI pn) sz a r = false := by
                      rw [stOK_nI hpn h24]; refine decide_eq_false (fun hh => ?_); obtain ⟨-, -, -, h5, h6, h7, h8, h9⟩ := hh
                      first
                        | (have := inR_f c_57; rw [n1I, n60I] at this; omega)
                        | (have := inR_f c_67; rw [im1, n60I] at this; omega)
                        | (rw [i_le] at c_73; omega)
                        | (rw [i_lt, n61I] at c_80; omega)
                        | (have h10 := inR_t c_57; rw [n1I, n60I] at h10; have e9 : (nI (tot σ pn (stN σ pn)) + sz).toInt = (tot σ pn (stN σ pn) : Int) + sz.toInt := (by rw [i_add (by rw [et]; omega) (by rw [et]; omega), et]); rw [i_le, e9, n60I] at c_92; omega)
                    refine lv_bipush (v := (-2)) hx hb dX7_stage_95 (by decide) ?_
                    exact m_iret hx hb hr hlk hH hS dX7_stage_97 (by rw [hno]; exact ⟨rfl, rfl⟩)
                  · refine lv_aload_n hx hb dX7_stage_83 rfl (lv_at hl 0 rfl) ?_
                    refine lv_iload_n hx hb dX7_stage_84 rfl (lv_at hl 1 rfl) ?_
                    refine m_ki (m_runV (k := 0) (i := 0) (ci := 7) ⟨hx, hb, hml, hown, hz⟩ hK hH hS (bm hM 0) rfl rfl (c_X7_all l G B σ hM pn (by omega) hP) mw_X7_all wl_X7_110 ⟨rfl, rfl⟩ ⟨by decide, by decide⟩ rfl hl.1 rfl (Nat.le_of_ble_eq_true rfl) dX7_stage_85 ⟨Nat.zero_le _, Nat.zero_le _⟩) hS (fun r_85 σ_85 H locs hp hH hS => ?_)
                    obtain ⟨hr1, hs1⟩ := hp
                    subst hr1
                    rw [hs1] at hH
                    refine lv_iload_n hx hb dX7_stage_88 rfl (lv_at hl 2 rfl) ?_
                    refine lv_iadd hx hb dX7_stage_89 ?_
                    refine lv_bipush (v := nI 60) hx hb dX7_stage_90 (by decide) ?_
                    refine lv_icmp_le (tgt := 98) hx hb dX7_stage_92 (by decide) (fun c_92 => ?_) (fun c_92 => ?_)
                    · have hyes : stOK σ (nI pn) sz a r = true := by
                        rw [stOK_nI hpn h24]
                        have h10 := inR_t c_57; rw [n1I, n60I] at h10
                        have h11 := inR_t c_67; rw [im1, n60I] at h11
                        rw [i_le] at c_73
                        rw [i_lt, n61I] at c_80
                        have e9 : (nI (tot σ pn (stN σ pn)) + sz).toInt = (tot σ pn (stN σ pn) : Int) + sz.toInt := (by rw [i_add (by rw [et]; omega) (by rw [et]; omega), et])
                        rw [i_le, e9, n60I] at c_92
                        exact decide_eq_true ⟨c_13, c_23, h33, h10, h11, by omega, by omega, by omega⟩
                      have hs3 : stN σ pn < 4 := by omega
                      refine lv_iconst (v := nI 4) hx hb dX7_stage_98 (by decide) ?_
                      refine lv_iload_n hx hb dX7_stage_99 rfl (lv_at hl 1 rfl) ?_
                      refine m_imulN hx hb dX7_stage_100 ?_
                      refine lv_aload_n hx hb dX7_stage_101 rfl (lv_at hl 0 rfl) ?_
                      refine gf_X7_7 hx hb hown hK hH (bm hM 0) dX7_stage_102 ?_
                      refine lv_iload_n hx hb dX7_stage_105 rfl (lv_at hl 1 rfl) ?_
                      refine m_iald hx hb hK hH (n := 24) (bm hM 3) (fun _ _ => rfl) (pn) (rfl) (by omega) (by decide) dX7_stage_106 ?_
                      refine m_toi (stN σ pn) (hP.1) ?_
                      refine m_iaddN hx hb dX7_stage_107 ?_
                      refine lv_istore (lv' := [(5, .int (nI (4 * pn + (stN σ pn)))), (0, .ref (B.1 0 0)), (1, .int (nI pn)), (2, .int (sz)), (3, .int (a)), (4, .int (r))]) hx hb dX7_stage_108 hl (by decide) rfl (fun ls hl => ?_)
                      refine lv_aload_n hx hb dX7_stage_110 rfl (lv_at hl 1 rfl) ?_
                      refine gf_X7_13 hx hb hown hK hH (bm hM 0) dX7_stage_111 ?_
                      refine lv_iload hx hb dX7_stage_114 (lv_at hl 0 rfl) ?_
                      refine lv_iload_n hx hb dX7_stage_116 rfl (lv_at hl 3 rfl) ?_
                      refine m_iast hx hb hK hH hS (n := 96) (bm hM 4) (fun _ _ => rfl) (4 * pn + (stN σ pn)) (rfl) (by omega) (by decide) dX7_stage_117 (fun H locs hH hS => ?_)
                      refine lv_aload_n hx hb dX7_stage_118 rfl (lv_at hl 1 rfl) ?_
                      refine gf_X7_16 hx hb hown hK hH (bm hM 0) dX7_stage_119 ?_
                      refine lv_iload hx hb dX7_stage_122 (lv_at hl 0 rfl) ?_
                      refine lv_iload_n hx hb dX7_stage_124 rfl (lv_at hl 4 rfl) ?_
                      refine m_iast hx hb hK hH hS (n := 96) (bm hM 5) (fun _ _ => rfl) (4 * pn + (stN σ pn)) (rfl) (by omega) (by decide) dX7_stage_125 (fun H locs hH hS => ?_)
                      refine lv_aload_n hx hb dX7_stage_126 rfl (lv_at hl 1 rfl) ?_
                      refine gf_X7_19 hx hb hown hK hH (bm hM 0) dX7_stage_127 ?_
                      refine lv_iload hx hb dX7_stage_130 (lv_at hl 0 rfl) ?_
                      refine lv_iload hx hb dX7_stage_132 (lv_at hl 5 rfl) ?_
                      refine m_iast hx hb hK hH hS (n := 96) (bm hM 6) (fun _ _ => rfl) (4 * pn + (stN σ pn)) (rfl) (by omega) (by decide) dX7_stage_134 (fun H locs hH hS => ?_)
                      refine lv_aload_n hx hb dX7_stage_135 rfl (lv_at hl 1 rfl) ?_
                      refine gf_X7_7 hx hb hown hK hH (bm hM 0) dX7_stage_136 ?_
                      refine lv_iload_n hx hb dX7_stage_139 rfl (lv_at hl 2 rfl) ?_
                      refine lv_dup2_11 hx hb dX7_stage_140 rfl rfl ?_
                      refine m_iald hx hb hK hH (n := 24) (bm hM 3) (fun _ _ => rfl) (pn) (rfl) (by omega) (by decide) dX7_stage_141 ?_
                      refine m_toi (stN σ pn) (by simp only [sI_at]; simp; exact hP.1) ?_
                      refine lv_iconst (v := nI 1) hx hb dX7_stage_142 (by decide) ?_
                      refine m_iaddN hx hb dX7_stage_143 ?_
                      refine m_iast hx hb hK hH hS (n := 24) (bm hM 3) (fun _ _ => rfl) (pn) (rfl) (by omega) (by decide) dX7_stage_144 (fun H locs hH hS => ?_)
                      refine lv_aload_n hx hb dX7_stage_145 rfl (lv_at hl 1 rfl) ?_
                      refine gf_X7_7 hx hb hown hK hH (bm hM 0) dX7_stage_146 ?_
                      refine lv_iload_n hx hb dX7_stage_149 rfl (lv_at hl 2 rfl) ?_
                      refine m_iald hx hb hK hH (n := 24) (bm hM 3) (fun _ _ => rfl) (pn) (rfl) (by omega) (by decide) dX7_stage_150 ?_
                      refine m_toi (stN σ pn + 1) (by rw [sI_at, if_pos ⟨rfl, rfl, rfl⟩]) ?_
                      exact m_iret hx hb hr hlk hH hS dX7_stage_151 (by rw [hyes]; exact ⟨pn, hpn, rfl, rfl, rfl⟩)
                    · have hno : stOK σ (nI pn) sz a r = false := by
                        rw [stOK_nI hpn h24]; refine decide_eq_false (fun hh => ?_); obtain ⟨-, -, -, h5, h6, h7, h8, h9⟩ := hh
                        first
                          | (have := inR_f c_57; rw [n1I, n60I] at this; omega)
                          | (have := inR_f c_67; rw [im1, n60I] at this; omega)
                          | (rw [i_le] at c_73; omega)
                          | (rw [i_lt, n61I] at c_80; omega)
                          | (have h10 := inR_t c_57; rw [n1I, n60I] at h10; have e9 : (nI (tot σ pn (stN σ pn)) + sz).toInt = (tot σ pn (stN σ pn) : Int) + sz.toInt := (by rw [i_add (by rw [et]; omega) (by rw [et]; omega), et]); rw [i_le, e9, n60I] at c_92; omega)
                      refine lv_bipush (v := (-2)) hx hb dX7_stage_95 (by decide) ?_
                      exact m_iret hx hb hr hlk hH hS dX7_stage_97 (by rw [hno]; exact ⟨rfl, rfl⟩)
          · have hno : stOK σ (nI pn) sz a r = false := by
              first
                | (unfold stOK; rw [c_5]; rfl)
                | (rw [stOK_nI hpn h24]; exact decide_eq_false (fun hh => by rw [c_13] at hh; exact absurd hh.1 (by decide)))
                | (rw [stOK_nI hpn h24]; exact decide_eq_false (fun hh => hh.2.1 c_23))
                | (rw [stOK_nI hpn h24]; exact decide_eq_false (fun hh => c_43 (l_eq64.mpr (hh.2.2.1 c_33))))
            refine lv_bipush (v := (-2)) hx hb dX7_stage_47 (by decide) ?_
            exact m_iret hx hb hr hlk hH hS dX7_stage_49 (by rw [hno]; exact ⟨rfl, rfl⟩)
set_option maxHeartbeats 4000000 in
set_option maxRecDepth 100000 in
theorem c_X7_crossing2 (l : Launch) (G : gG) (B : gB) (σ : gS) (hM : BkM B) (hP : WfP σ) (hW : WfCh σ) (x y n k : Int32) : Met l yX7_crossing [.code yX7_crossing cX7_crossing 7 (some .int)] ({ frames := 4, cells := 0, slots := 0, locals := 103 } : Room) (mPc G B σ [.ref (B.1 0 0), .int (x), .int (y), .int (n), .int (k)]) (mQi G B (fun v τ => if crOK σ x y n k = true then ∃ aq bq nq kq : Nat, aq < nP σ ∧ bq < nP σ ∧ clo σ aq = true ∧ clo σ bq = true ∧ 1 ≤ nq ∧ nq ≤ 60 ∧ tot σ aq (stN σ aq) ≤ nq ∧ tot σ bq (stN σ bq) ≤ nq ∧ x = nI aq ∧ y = nI bq ∧ n = nI nq ∧ k = nI kq ∧ kq < 2147483648 ∧ v = crA σ aq bq nq kq ∧ Sm σ τ else v = -2 ∧ Sm σ τ)) 0 0 (mA G) := by
  refine m_start (by decide) (Nat.le_of_ble_eq_true rfl) ?_
  intro p e s m below meth c ⟨hx, hb, hr, hml, hown, hK, hlk, hz⟩ hH hS ls hl
  have hl : lv_has ls 7 [(0, .ref (B.1 0 0)), (1, .int (x)), (2, .int (y)), (3, .int (n)), (4, .int (k))] := hl
  refine lv_aload_n hx hb dX7_crossing_0 rfl (lv_at hl 0 rfl) ?_
  refine lv_iload_n hx hb dX7_crossing_1 rfl (lv_at hl 1 rfl) ?_
  refine lv_iload_n hx hb dX7_crossing_2 rfl (lv_at hl 3 rfl) ?_
  refine m_ki (m_runV (k := 0) (i := 0) (ci := 7) ⟨hx, hb, hml, hown, hz⟩ hK hH hS (bm hM 0) rfl rfl (c_X7_fits l G B σ hM hP x n) mw_X7_fits wl_X7_127 ⟨rfl, rfl⟩ ⟨by decide, by decide⟩ rfl hl.1 rfl (Nat.le_of_ble_eq_true rfl) dX7_crossing_3 ⟨Nat.zero_le _, Nat.zero_le _⟩) hS (fun r_3 σ_3 H locs hp hH hS => ?_)
  obtain ⟨hr1, hs1⟩ := hp
  subst hr1
  rw [hs1] at hH
  refine m_ifeqB (tgt := 23) hx hb dX7_crossing_6 (by decide) (fun c_6 => ?_) (fun c_6 => ?_)
  · have hno : crOK σ x y n k = false := by
      unfold crOK
      first
        | (rw [c_6]; rfl)
        | (rw [c_15, Bool.and_false]; rfl)
        | (rw [decide_eq_false (fun z => c_20 (by rw [i_le, i0]; exact z)), Bool.and_false])
    refine lv_bipush (v := (-2)) hx hb dX7_crossing_23 (by decide) ?_
    exact m_iret hx hb hr hlk hH hS dX7_crossing_25 (by rw [hno]; exact ⟨rfl, Sm.rf σ⟩)
  · refine lv_aload_n hx hb dX7_crossing_9 rfl (lv_at hl 0 rfl) ?_
    refine lv_iload_n hx hb dX7_crossing_10 rfl (lv_at hl 2 rfl) ?_
    refine lv_iload_n hx hb dX7_crossing_11 rfl (lv_at hl 3 rfl) ?_
    refine m_ki (m_runV (k := 0) (i := 0) (ci := 7) ⟨hx, hb, hml, hown, hz⟩ hK hH hS (bm hM 0) rfl rfl (c_X7_fits l G B σ hM hP y n) mw_X7_fits wl_X7_127 ⟨rfl, rfl⟩ ⟨by decide, by decide⟩ rfl hl.1 rfl (Nat.le_of_ble_eq_true rfl) dX7_crossing_12 ⟨Nat.zero_le _, Nat.zero_le _⟩) hS (fun r_12 σ_12 H locs hp hH hS => ?_)
    obtain ⟨hr1, hs1⟩ := hp
    subst hr1
    rw [hs1] at hH
    refine m_ifeqB (tgt := 23) hx hb dX7_crossing_15 (by decide) (fun c_15 => ?_) (fun c_15 => ?_)
    · have hno : crOK σ x y n k = false := by
        unfold crOK
        first
          | (rw [c_6]; rfl)
          | (rw [c_15, Bool.and_false]; rfl)
          | (rw [decide_eq_false (fun z => c_20 (by rw [i_le, i0]; exact z)), Bool.and_false])
      refine lv_bipush (v := (-2)) hx hb dX7_crossing_23 (by decide) ?_
      exact m_iret hx hb hr hlk hH hS dX7_crossing_25 (by rw [hno]; exact ⟨rfl, Sm.rf σ⟩)
    · refine lv_iload hx hb dX7_crossing_18 (lv_at hl 4 rfl) ?_
      refine lv_if_ge (tgt := 26) hx hb dX7_crossing_20 (by decide) (fun c_20 => ?_) (fun c_20 => ?_)
      · rw [i_le, i0] at c_20
        have hyes : crOK σ x y n k = true := by
          unfold crOK
          rw [c_6, c_15, decide_eq_true c_20]
          rfl
        obtain ⟨a, nn, hpn, he1, he2, hcl, hn1, hn60, htn⟩ := fitb_t hP.2.1 c_6
        subst he1 he2
        obtain ⟨b, hpb, he1, hcb, htb⟩ := fitb_p hP.2.1 (by omega) c_15
        subst he1
        have h24 := hP.2.1
        obtain ⟨k1, k2⟩ := i_nat c_20
        have k3 := i_rng k
        obtain ⟨kn, hkn⟩ : ∃ z : Nat, z = k.toInt.toNat := ⟨_, rfl⟩
        rw [← hkn] at k1 k2
        have hk31 : kn < 2147483648 := by omega
        clear c_20 hkn k2 k3
        subst k1
        refine lv_iconst (v := nI 0) hx hb dX7_crossing_26 (by decide) ?_
        refine lv_istore (lv' := [(5, .int (nI 0)), (0, .ref (B.1 0 0)), (1, .int (nI a)), (2, .int (nI b)), (3, .int (nI nn)), (4, .int (nI kn))]) hx hb dX7_crossing_27 hl (by decide) rfl (fun ls hl => ?_)
        refine lv_iconst (v := nI 0) hx hb dX7_crossing_29 (by decide) ?_
        refine lv_istore (lv' := [(6, .int (nI 0)), (5, .int (nI 0)), (0, .ref (B.1 0 0)), (1, .int (nI a)), (2, .int (nI b)), (3, .int (nI nn)), (4, .int (nI kn))]) hx hb dX7_crossing_30 hl (by decide) rfl (fun ls hl => ?_)
        have loop : ∀ (z : Nat) (q : Nat), q ≤ nn ∧ nn < q + z ∧ fnd (fun q => crH σ a b nn q && decide (cnt (crH σ a b nn) q = kn)) q = none → ∀ (τ : gS) (H : Heap) (locs : List Loc), Sm σ τ → Hp G B τ H → va_S (mA G) s.heap H locs → ∀ (ls : Array Slot), lv_has ls 7 [(0, .ref (B.1 0 0)), (1, .int (nI a)), (2, .int (nI b)), (3, .int (nI nn)), (4, .int (nI kn)), (5, .int (nI (cnt (crH σ a b nn) q))), (6, .int (nI q))] → W p l e ({ frames := 4, cells := 0, slots := 0, locals := 103 } : Room) s m ([.ref (B.1 0 0), .int ((nI a)), .int ((nI b)), .int ((nI nn)), .int ((nI kn))] : List Value).toArray below meth c H locs 0 0 (MQ below (mQi G B (fun v τ => if crOK σ (nI a) (nI b) (nI nn) (nI kn) = true then ∃ aq bq nq kq : Nat, aq < nP σ ∧ bq < nP σ ∧ clo σ aq = true ∧ clo σ bq = true ∧ 1 ≤ nq ∧ nq ≤ 60 ∧ tot σ aq (stN σ aq) ≤ nq ∧ tot σ bq (stN σ bq) ≤ nq ∧ (nI a) = nI aq ∧ (nI b) = nI bq ∧ (nI nn) = nI nq ∧ (nI kn) = nI kq ∧ kq < 2147483648 ∧ v = crA σ aq bq nq kq ∧ Sm σ τ else v = -2 ∧ Sm σ τ)) ([.ref (B.1 0 0), .int ((nI a)), .int ((nI b)), .int ((nI nn)), .int ((nI kn))] : List Value).toArray s 0 0 (mA G)) (F0 m 32 ls []) := by
          intro z
          induction z with
          | zero => intro q hh; exfalso; omega
          | succ z ih =>
            intro q hh τ H locs hJ hH hS ls hl
            have hcq := cnt_le (crH σ a b nn) q
            refine lv_iload hx hb dX7_crossing_32 (lv_at hl 6 rfl) ?_
            refine lv_iload_n hx hb dX7_crossing_34 rfl (lv_at hl 3 rfl) ?_
            refine m_icmp_geN (tgt := 85) (by omega) (by omega) hx hb dX7_crossing_35 (by decide) (fun c_35 => ?_) (fun c_35 => ?_)
            · refine lv_iconst (v := (-1)) hx hb dX7_crossing_85 (by decide) ?_
              exact m_iret hx hb hr hlk hH hS dX7_crossing_86 (by rw [hyes]; exact ⟨a, b, nn, kn, hpn, hpb, hcl, hcb, hn1, hn60, htn, htb, rfl, rfl, rfl, rfl, hk31, (crA_none (by have h9 := hh.2.2; rwa [show q = nn by omega] at h9)).symm, hJ⟩)
            · refine lv_aload_n hx hb dX7_crossing_38 rfl (lv_at hl 0 rfl) ?_
              refine lv_iload_n hx hb dX7_crossing_39 rfl (lv_at hl 1 rfl) ?_
              refine lv_iload_n hx hb dX7_crossing_40 rfl (lv_at hl 2 rfl) ?_
              refine lv_iload_n hx hb dX7_crossing_41 rfl (lv_at hl 3 rfl) ?_
              refine lv_iload hx hb dX7_crossing_42 (lv_at hl 6 rfl) ?_
              refine m_ki (m_runV (k := 0) (i := 0) (ci := 7) ⟨hx, hb, hml, hown, hz⟩ hK hH hS (bm hM 0) rfl rfl (c_X7_compared l G B τ hM (hJ.wfCh hW) a b nn q (by omega) (by omega) (hJ.eqP.wf (hP.2.2 a hpn)) (hJ.eqP.wf (hP.2.2 b hpb)) hn60 (by rw [eqP_tot hJ.eqP]; exact htn) (by rw [eqP_tot hJ.eqP]; exact htb) (by omega)) mw_X7_compared wl_X7_148 ⟨rfl, rfl⟩ ⟨by decide, by decide⟩ rfl hl.1 rfl (Nat.le_of_ble_eq_true rfl) dX7_crossing_44 ⟨Nat.zero_le _, Nat.zero_le _⟩) hS (fun r_44 σ_44 H locs hp hH hS => ?_)
              obtain ⟨hr1, hs9⟩ := hp
              rw [ccN_eq hJ.eqP] at hr1
              have hsA := hJ.tr hs9
              subst hr1
              refine lv_aload_n hx hb dX7_crossing_47 rfl (lv_at hl 0 rfl) ?_
              refine lv_iload_n hx hb dX7_crossing_48 rfl (lv_at hl 1 rfl) ?_
              refine lv_iload_n hx hb dX7_crossing_49 rfl (lv_at hl 2 rfl) ?_
              refine lv_iload_n hx hb dX7_crossing_50 rfl (lv_at hl 3 rfl) ?_
              refine lv_iload hx hb dX7_crossing_51 (lv_at hl 6 rfl) ?_
              refine lv_iconst (v := nI 1) hx hb dX7_crossing_53 (by decide) ?_
              refine m_iaddN hx hb dX7_crossing_54 ?_
              refine m_ki (m_runV (k := 0) (i := 0) (ci := 7) ⟨hx, hb, hml, hown, hz⟩ hK hH hS (bm hM 0) rfl rfl (c_X7_compared l G B σ_44 hM (hsA.wfCh hW) a b nn (q + 1) (by omega) (by omega) (hsA.eqP.wf (hP.2.2 a hpn)) (hsA.eqP.wf (hP.2.2 b hpb)) hn60 (by rw [eqP_tot hsA.eqP]; exact htn) (by rw [eqP_tot hsA.eqP]; exact htb) (by omega)) mw_X7_compared wl_X7_148 ⟨rfl, rfl⟩ ⟨by decide, by decide⟩ rfl hl.1 rfl (Nat.le_of_ble_eq_true rfl) dX7_crossing_55 ⟨Nat.zero_le _, Nat.zero_le _⟩) hS (fun r_55 σ_55 H locs hp hH hS => ?_)
              obtain ⟨hr1, hs8⟩ := hp
              rw [ccN_eq hsA.eqP] at hr1
              have hsB := hsA.tr hs8
              subst hr1
              refine lv_imul hx hb dX7_crossing_58 ?_
              refine lv_iconst (v := (-1)) hx hb dX7_crossing_59 (by decide) ?_
              refine lv_icmp_eq (tgt := 66) hx hb dX7_crossing_60 (by decide) (fun c_60 => ?_) (fun c_60 => ?_)
              · refine lv_iload hx hb dX7_crossing_66 (lv_at hl 5 rfl) ?_
                refine lv_iload hx hb dX7_crossing_68 (lv_at hl 4 rfl) ?_
                refine m_icmp_neN (tgt := 76) (by omega) (by omega) hx hb dX7_crossing_70 (by decide) (fun c_70 => ?_) (fun c_70 => ?_)
                · refine lv_iinc (v := nI (cnt (crH σ a b nn) q + 1)) (lv' := [(5, .int (nI (cnt (crH σ a b nn) q + 1))), (0, .ref (B.1 0 0)), (1, .int (nI a)), (2, .int (nI b)), (3, .int (nI nn)), (4, .int (nI kn)), (6, .int (nI q))]) hx hb dX7_crossing_76 hl (k := 5) rfl (nI_1 _) (by decide) rfl (fun ls hl => ?_)
                  refine lv_iinc (v := nI (q + 1)) (lv' := [(6, .int (nI (q + 1))), (5, .int (nI (cnt (crH σ a b nn) q + 1))), (0, .ref (B.1 0 0)), (1, .int (nI a)), (2, .int (nI b)), (3, .int (nI nn)), (4, .int (nI kn))]) hx hb dX7_crossing_79 hl (k := 6) rfl (nI_1 _) (by decide) rfl (fun ls hl => ?_)
                  refine lv_goto (tgt := 32) hx hb dX7_crossing_82 (by decide) ?_
                  exact ih (q + 1) ⟨by omega, by omega, fnd_miss hh.2.2 (by show (crH σ a b nn q && _) = false; rw [decide_eq_false c_70, Bool.and_false])⟩ _ H locs hsB hH hS ls (by rw [show cnt (crH σ a b nn) (q + 1) = cnt (crH σ a b nn) q + 1 from (by show _ + (if crH σ a b nn q then 1 else 0) = _; rw [show crH σ a b nn q = true from decide_eq_true c_60]; rfl)]; exact lv_sub hl [2, 3, 4, 5, 6, 1, 0] rfl)
                · refine lv_iload hx hb dX7_crossing_73 (lv_at hl 6 rfl) ?_
                  exact m_iret hx hb hr hlk hH hS dX7_crossing_75 (by rw [hyes]; exact ⟨a, b, nn, kn, hpn, hpb, hcl, hcb, hn1, hn60, htn, htb, rfl, rfl, rfl, rfl, hk31, (crA_some hh.2.2 (by omega) (decide_eq_true c_60) c_70).symm, hsB⟩)
              · refine lv_goto (tgt := 79) hx hb dX7_crossing_63 (by decide) ?_
                refine lv_iinc (v := nI (q + 1)) (lv' := [(6, .int (nI (q + 1))), (0, .ref (B.1 0 0)), (1, .int (nI a)), (2, .int (nI b)), (3, .int (nI nn)), (4, .int (nI kn)), (5, .int (nI (cnt (crH σ a b nn) q)))]) hx hb dX7_crossing_79 hl (k := 6) rfl (nI_1 _) (by decide) rfl (fun ls hl => ?_)
                refine lv_goto (tgt := 32) hx hb dX7_crossing_82 (by decide) ?_
                exact ih (q + 1) ⟨by omega, by omega, fnd_miss hh.2.2 (by show (crH σ a b nn q && _) = false; rw [show crH σ a b nn q = false from decide_eq_false c_60]; rfl)⟩ _ H locs hsB hH hS ls (by rw [show cnt (crH σ a b nn) (q + 1) = cnt (crH σ a b nn) q from (by show _ + (if crH σ a b nn q then 1 else 0) = _; rw [show crH σ a b nn q = false from decide_eq_false c_60]; rfl)]; exact lv_sub hl [1, 2, 3, 4, 5, 6, 0] rfl)
        exact loop (nn + 1) 0 ⟨by omega, by omega, rfl⟩ σ _ _ (Sm.rf σ) hH hS ls (lv_sub hl [2, 3, 4, 5, 6, 1, 0] rfl)
      · have hno : crOK σ x y n k = false := by
          unfold crOK
          first
            | (rw [c_6]; rfl)
            | (rw [c_15, Bool.and_false]; rfl)
            | (rw [decide_eq_false (fun z => c_20 (by rw [i_le, i0]; exact z)), Bool.and_false])
        refine lv_bipush (v := (-2)) hx hb dX7_crossing_23 (by decide) ?_
        exact m_iret hx hb hr hlk hH hS dX7_crossing_25 (by rw [hno]; exact ⟨rfl, Sm.rf σ⟩)
