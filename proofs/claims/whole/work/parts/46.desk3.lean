set_option maxHeartbeats 4000000 in
set_option maxRecDepth 100000 in
theorem c_X6_risk (l : Launch) (G : gG) (B : gB) (σ : gS) (hI : RI B σ) (t d u n : Int32) : Met l yX6_risk [.code yX6_risk cX6_risk 6 (some .int)] ({ frames := 1, cells := 0, slots := 0, locals := 23 } : Room) (mPc G B σ [.ref (B.1 40 0), .int (t), .int (d), .int (u), .int (n)]) (mQi G B (fun v τ => if rkOK t d u n = true then ∃ q : Nat, q < 2 ∧ t = nI q ∧ v = nI 1 ∧ τ = tlUp σ q d u n else v = -2 ∧ τ = σ)) 0 0 (mA G) := by
  refine m_start (by decide) (Nat.le_of_ble_eq_true rfl) ?_
  intro p e s m below meth c ⟨hx, hb, hr, hml, hown, hK, hlk, hz⟩ hH hS ls hl
  have hl : lv_has ls 6 [(0, .ref (B.1 40 0)), (1, .int (t)), (2, .int (d)), (3, .int (u)), (4, .int (n))] := hl
  have hC := hI.C
  refine lv_iload_n hx hb dX6_risk_0 rfl (lv_at hl 1 rfl) ?_
  refine lv_if_eq (tgt := 12) hx hb dX6_risk_1 (by decide) (fun c_1 => ?_) (fun c_1 => ?_)
  · obtain rfl : t = nI 0 := c_1
    refine lv_iload_n hx hb dX6_risk_12 rfl (lv_at hl 2 rfl) ?_
    refine lv_if_lt (tgt := 46) hx hb dX6_risk_13 (by decide) (fun c_13 => ?_) (fun c_13 => ?_)
    · refine lv_bipush (v := (-2)) hx hb dX6_risk_46 (by decide) ?_
      exact m_iret hx hb hr hlk hH hS dX6_risk_48 (by rw [if_neg (fun z => by have z2 := of_decide_eq_true z; first | (rw [i_eq, i0] at c_1; rw [i_eq, n1I] at c_6; omega) | (rw [i_lt, i0] at c_13; omega) | (rw [i_lt, n60I] at c_19; omega) | (rw [i_lt, n1I] at c_25; omega) | (rw [i_lt, n1000I] at c_33; omega) | (rw [i_lt, i0] at c_37; omega) | (rw [i_le] at c_43; omega))]; exact ⟨rfl, rfl⟩)
    · refine lv_iload_n hx hb dX6_risk_16 rfl (lv_at hl 2 rfl) ?_
      refine lv_bipush (v := nI 60) hx hb dX6_risk_17 (by decide) ?_
      refine lv_icmp_gt (tgt := 46) hx hb dX6_risk_19 (by decide) (fun c_19 => ?_) (fun c_19 => ?_)
      · refine lv_bipush (v := (-2)) hx hb dX6_risk_46 (by decide) ?_
        exact m_iret hx hb hr hlk hH hS dX6_risk_48 (by rw [if_neg (fun z => by have z2 := of_decide_eq_true z; first | (rw [i_eq, i0] at c_1; rw [i_eq, n1I] at c_6; omega) | (rw [i_lt, i0] at c_13; omega) | (rw [i_lt, n60I] at c_19; omega) | (rw [i_lt, n1I] at c_25; omega) | (rw [i_lt, n1000I] at c_33; omega) | (rw [i_lt, i0] at c_37; omega) | (rw [i_le] at c_43; omega))]; exact ⟨rfl, rfl⟩)
      · refine lv_iload hx hb dX6_risk_22 (lv_at hl 4 rfl) ?_
        refine lv_iconst (v := nI 1) hx hb dX6_risk_24 (by decide) ?_
        refine lv_icmp_lt (tgt := 46) hx hb dX6_risk_25 (by decide) (fun c_25 => ?_) (fun c_25 => ?_)
        · refine lv_bipush (v := (-2)) hx hb dX6_risk_46 (by decide) ?_
          exact m_iret hx hb hr hlk hH hS dX6_risk_48 (by rw [if_neg (fun z => by have z2 := of_decide_eq_true z; first | (rw [i_eq, i0] at c_1; rw [i_eq, n1I] at c_6; omega) | (rw [i_lt, i0] at c_13; omega) | (rw [i_lt, n60I] at c_19; omega) | (rw [i_lt, n1I] at c_25; omega) | (rw [i_lt, n1000I] at c_33; omega) | (rw [i_lt, i0] at c_37; omega) | (rw [i_le] at c_43; omega))]; exact ⟨rfl, rfl⟩)
        · refine lv_iload hx hb dX6_risk_28 (lv_at hl 4 rfl) ?_
          refine lv_sipush (v := nI 1000) hx hb dX6_risk_30 (by decide) ?_
          refine lv_icmp_gt (tgt := 46) hx hb dX6_risk_33 (by decide) (fun c_33 => ?_) (fun c_33 => ?_)
          · refine lv_bipush (v := (-2)) hx hb dX6_risk_46 (by decide) ?_
            exact m_iret hx hb hr hlk hH hS dX6_risk_48 (by rw [if_neg (fun z => by have z2 := of_decide_eq_true z; first | (rw [i_eq, i0] at c_1; rw [i_eq, n1I] at c_6; omega) | (rw [i_lt, i0] at c_13; omega) | (rw [i_lt, n60I] at c_19; omega) | (rw [i_lt, n1I] at c_25; omega) | (rw [i_lt, n1000I] at c_33; omega) | (rw [i_lt, i0] at c_37; omega) | (rw [i_le] at c_43; omega))]; exact ⟨rfl, rfl⟩)
          · refine lv_iload_n hx hb dX6_risk_36 rfl (lv_at hl 3 rfl) ?_
            refine lv_if_lt (tgt := 46) hx hb dX6_risk_37 (by decide) (fun c_37 => ?_) (fun c_37 => ?_)
            · refine lv_bipush (v := (-2)) hx hb dX6_risk_46 (by decide) ?_
              exact m_iret hx hb hr hlk hH hS dX6_risk_48 (by rw [if_neg (fun z => by have z2 := of_decide_eq_true z; first | (rw [i_eq, i0] at c_1; rw [i_eq, n1I] at c_6; omega) | (rw [i_lt, i0] at c_13; omega) | (rw [i_lt, n60I] at c_19; omega) | (rw [i_lt, n1I] at c_25; omega) | (rw [i_lt, n1000I] at c_33; omega) | (rw [i_lt, i0] at c_37; omega) | (rw [i_le] at c_43; omega))]; exact ⟨rfl, rfl⟩)
            · refine lv_iload_n hx hb dX6_risk_40 rfl (lv_at hl 3 rfl) ?_
              refine lv_iload hx hb dX6_risk_41 (lv_at hl 4 rfl) ?_
              refine lv_icmp_le (tgt := 49) hx hb dX6_risk_43 (by decide) (fun c_43 => ?_) (fun c_43 => ?_)
              · refine lv_iload_n hx hb dX6_risk_49 rfl (lv_at hl 1 rfl) ?_
                refine m_ifneN (tgt := 60) (by omega) hx hb dX6_risk_50 (by decide) (fun c_50 => ?_) (fun c_50 => ?_)
                · exact absurd c_50 (by decide)
                · refine lv_aload_n hx hb dX6_risk_53 rfl (lv_at hl 0 rfl) ?_
                  refine gf_X6_32 hx hb hown hK hH (bc hC 40) dX6_risk_54 ?_
                  refine lv_goto (tgt := 64) hx hb dX6_risk_57 (by decide) ?_
                  refine lv_astore (lv' := [(5, .ref (B.1 49 0)), (0, .ref (B.1 40 0)), (1, .int (nI 0)), (2, .int (d)), (3, .int (u)), (4, .int (n))]) hx hb dX6_risk_64 hl (by decide) rfl (fun ls hl => ?_)
                  refine lv_aload hx hb dX6_risk_66 (lv_at hl 0 rfl) ?_
                  refine lv_iload_n hx hb dX6_risk_68 rfl (lv_at hl 3 rfl) ?_
                  refine lv_iload_n hx hb dX6_risk_69 rfl (lv_at hl 4 rfl) ?_
                  refine lv_iload hx hb dX6_risk_70 (lv_at hl 5 rfl) ?_
                  refine m_kv (m_runV (k := 49) (i := 0) (ci := 3) ⟨hx, hb, hml, hown, hz⟩ hK hH hS (bc9 hC (by decide)) rfl rfl (c_X3_tell l G B σ hC 0 (by decide) d u n) mw_X3_tell wl_X6_131 ⟨rfl, rfl⟩ ⟨by decide, by decide⟩ rfl hl.1 rfl (Nat.le_of_ble_eq_true rfl) dX6_risk_72 ⟨Nat.zero_le _, Nat.zero_le _⟩) hS (fun σ_72 H locs hp hH hS => ?_)
                  refine lv_iconst (v := nI 1) hx hb dX6_risk_75 (by decide) ?_
                  exact m_iret hx hb hr hlk hH hS dX6_risk_76 (by rw [if_pos (show rkOK (nI 0) d u n = true from decide_eq_true (by rw [i_lt, i0] at c_13; rw [i_lt, n60I] at c_19; rw [i_lt, n1I] at c_25; rw [i_lt, n1000I] at c_33; rw [i_lt, i0] at c_37; rw [i_le] at c_43; have z : (nI 0).toInt = 0 := rfl; omega))]; exact ⟨0, by decide, rfl, rfl, hp⟩)
              · refine lv_bipush (v := (-2)) hx hb dX6_risk_46 (by decide) ?_
                exact m_iret hx hb hr hlk hH hS dX6_risk_48 (by rw [if_neg (fun z => by have z2 := of_decide_eq_true z; first | (rw [i_eq, i0] at c_1; rw [i_eq, n1I] at c_6; omega) | (rw [i_lt, i0] at c_13; omega) | (rw [i_lt, n60I] at c_19; omega) | (rw [i_lt, n1I] at c_25; omega) | (rw [i_lt, n1000I] at c_33; omega) | (rw [i_lt, i0] at c_37; omega) | (rw [i_le] at c_43; omega))]; exact ⟨rfl, rfl⟩)
  · refine lv_iload_n hx hb dX6_risk_4 rfl (lv_at hl 1 rfl) ?_
    refine lv_iconst (v := nI 1) hx hb dX6_risk_5 (by decide) ?_
    refine lv_icmp_eq (tgt := 12) hx hb dX6_risk_6 (by decide) (fun c_6 => ?_) (fun c_6 => ?_)
    · obtain rfl : t = nI 1 := c_6
      refine lv_iload_n hx hb dX6_risk_12 rfl (lv_at hl 2 rfl) ?_
      refine lv_if_lt (tgt := 46) hx hb dX6_risk_13 (by decide) (fun c_13 => ?_) (fun c_13 => ?_)
      · refine lv_bipush (v := (-2)) hx hb dX6_risk_46 (by decide) ?_
        exact m_iret hx hb hr hlk hH hS dX6_risk_48 (by rw [if_neg (fun z => by have z2 := of_decide_eq_true z; first | (rw [i_eq, i0] at c_1; rw [i_eq, n1I] at c_6; omega) | (rw [i_lt, i0] at c_13; omega) | (rw [i_lt, n60I] at c_19; omega) | (rw [i_lt, n1I] at c_25; omega) | (rw [i_lt, n1000I] at c_33; omega) | (rw [i_lt, i0] at c_37; omega) | (rw [i_le] at c_43; omega))]; exact ⟨rfl, rfl⟩)
      · refine lv_iload_n hx hb dX6_risk_16 rfl (lv_at hl 2 rfl) ?_
        refine lv_bipush (v := nI 60) hx hb dX6_risk_17 (by decide) ?_
        refine lv_icmp_gt (tgt := 46) hx hb dX6_risk_19 (by decide) (fun c_19 => ?_) (fun c_19 => ?_)
        · refine lv_bipush (v := (-2)) hx hb dX6_risk_46 (by decide) ?_
          exact m_iret hx hb hr hlk hH hS dX6_risk_48 (by rw [if_neg (fun z => by have z2 := of_decide_eq_true z; first | (rw [i_eq, i0] at c_1; rw [i_eq, n1I] at c_6; omega) | (rw [i_lt, i0] at c_13; omega) | (rw [i_lt, n60I] at c_19; omega) | (rw [i_lt, n1I] at c_25; omega) | (rw [i_lt, n1000I] at c_33; omega) | (rw [i_lt, i0] at c_37; omega) | (rw [i_le] at c_43; omega))]; exact ⟨rfl, rfl⟩)
        · refine lv_iload hx hb dX6_risk_22 (lv_at hl 4 rfl) ?_
          refine lv_iconst (v := nI 1) hx hb dX6_risk_24 (by decide) ?_
          refine lv_icmp_lt (tgt := 46) hx hb dX6_risk_25 (by decide) (fun c_25 => ?_) (fun c_25 => ?_)
          · refine lv_bipush (v := (-2)) hx hb dX6_risk_46 (by decide) ?_
            exact m_iret hx hb hr hlk hH hS dX6_risk_48 (by rw [if_neg (fun z => by have z2 := of_decide_eq_true z; first | (rw [i_eq, i0] at c_1; rw [i_eq, n1I] at c_6; omega) | (rw [i_lt, i0] at c_13; omega) | (rw [i_lt, n60I] at c_19; omega) | (rw [i_lt, n1I] at c_25; omega) | (rw [i_lt, n1000I] at c_33; omega) | (rw [i_lt, i0] at c_37; omega) | (rw [i_le] at c_43; omega))]; exact ⟨rfl, rfl⟩)
          · refine lv_iload hx hb dX6_risk_28 (lv_at hl 4 rfl) ?_
            refine lv_sipush (v := nI 1000) hx hb dX6_risk_30 (by decide) ?_
            refine lv_icmp_gt (tgt := 46) hx hb dX6_risk_33 (by decide) (fun c_33 => ?_) (fun c_33 => ?_)
            · refine lv_bipush (v := (-2)) hx hb dX6_risk_46 (by decide) ?_
              exact m_iret hx hb hr hlk hH hS dX6_risk_48 (by rw [if_neg (fun z => by have z2 := of_decide_eq_true z; first | (rw [i_eq, i0] at c_1; rw [i_eq, n1I] at c_6; omega) | (rw [i_lt, i0] at c_13; omega) | (rw [i_lt, n60I] at c_19; omega) | (rw [i_lt, n1I] at c_25; omega) | (rw [i_lt, n1000I] at c_33; omega) | (rw [i_lt, i0] at c_37; omega) | (rw [i_le] at c_43; omega))]; exact ⟨rfl, rfl⟩)
            · refine lv_iload_n hx hb dX6_risk_36 rfl (lv_at hl 3 rfl) ?_
              refine lv_if_lt (tgt := 46) hx hb dX6_risk_37 (by decide) (fun c_37 => ?_) (fun c_37 => ?_)
              · refine lv_bipush (v := (-2)) hx hb dX6_risk_46 (by decide) ?_
                exact m_iret hx hb hr hlk hH hS dX6_risk_48 (by rw [if_neg (fun z => by have z2 := of_decide_eq_true z; first | (rw [i_eq, i0] at c_1; rw [i_eq, n1I] at c_6; omega) | (rw [i_lt, i0] at c_13; omega) | (rw [i_lt, n60I] at c_19; omega) | (rw [i_lt, n1I] at c_25; omega) | (rw [i_lt, n1000I] at c_33; omega) | (rw [i_lt, i0] at c_37; omega) | (rw [i_le] at c_43; omega))]; exact ⟨rfl, rfl⟩)
              · refine lv_iload_n hx hb dX6_risk_40 rfl (lv_at hl 3 rfl) ?_
                refine lv_iload hx hb dX6_risk_41 (lv_at hl 4 rfl) ?_
                refine lv_icmp_le (tgt := 49) hx hb dX6_risk_43 (by decide) (fun c_43 => ?_) (fun c_43 => ?_)
                · refine lv_iload_n hx hb dX6_risk_49 rfl (lv_at hl 1 rfl) ?_
                  refine m_ifneN (tgt := 60) (by omega) hx hb dX6_risk_50 (by decide) (fun c_50 => ?_) (fun c_50 => ?_)
                  · refine lv_aload_n hx hb dX6_risk_60 rfl (lv_at hl 0 rfl) ?_
                    refine gf_X6_36 hx hb hown hK hH (bc hC 40) dX6_risk_61 ?_
                    refine lv_astore (lv' := [(5, .ref (B.1 49 1)), (0, .ref (B.1 40 0)), (1, .int (nI 1)), (2, .int (d)), (3, .int (u)), (4, .int (n))]) hx hb dX6_risk_64 hl (by decide) rfl (fun ls hl => ?_)
                    refine lv_aload hx hb dX6_risk_66 (lv_at hl 0 rfl) ?_
                    refine lv_iload_n hx hb dX6_risk_68 rfl (lv_at hl 3 rfl) ?_
                    refine lv_iload_n hx hb dX6_risk_69 rfl (lv_at hl 4 rfl) ?_
                    refine lv_iload hx hb dX6_risk_70 (lv_at hl 5 rfl) ?_
                    refine m_kv (m_runV (k := 49) (i := 1) (ci := 3) ⟨hx, hb, hml, hown, hz⟩ hK hH hS (bc9 hC (by decide)) rfl rfl (c_X3_tell l G B σ hC 1 (by decide) d u n) mw_X3_tell wl_X6_131 ⟨rfl, rfl⟩ ⟨by decide, by decide⟩ rfl hl.1 rfl (Nat.le_of_ble_eq_true rfl) dX6_risk_72 ⟨Nat.zero_le _, Nat.zero_le _⟩) hS (fun σ_72 H locs hp hH hS => ?_)
                    refine lv_iconst (v := nI 1) hx hb dX6_risk_75 (by decide) ?_
                    exact m_iret hx hb hr hlk hH hS dX6_risk_76 (by rw [if_pos (show rkOK (nI 1) d u n = true from decide_eq_true (by rw [i_lt, i0] at c_13; rw [i_lt, n60I] at c_19; rw [i_lt, n1I] at c_25; rw [i_lt, n1000I] at c_33; rw [i_lt, i0] at c_37; rw [i_le] at c_43; have z : (nI 1).toInt = 1 := rfl; omega))]; exact ⟨1, by decide, rfl, rfl, hp⟩)
                  · exact absurd c_50 (by decide)
                · refine lv_bipush (v := (-2)) hx hb dX6_risk_46 (by decide) ?_
                  exact m_iret hx hb hr hlk hH hS dX6_risk_48 (by rw [if_neg (fun z => by have z2 := of_decide_eq_true z; first | (rw [i_eq, i0] at c_1; rw [i_eq, n1I] at c_6; omega) | (rw [i_lt, i0] at c_13; omega) | (rw [i_lt, n60I] at c_19; omega) | (rw [i_lt, n1I] at c_25; omega) | (rw [i_lt, n1000I] at c_33; omega) | (rw [i_lt, i0] at c_37; omega) | (rw [i_le] at c_43; omega))]; exact ⟨rfl, rfl⟩)
    · refine lv_bipush (v := (-2)) hx hb dX6_risk_9 (by decide) ?_
      exact m_iret hx hb hr hlk hH hS dX6_risk_11 (by rw [if_neg (fun z => by have z2 := of_decide_eq_true z; first | (rw [i_eq, i0] at c_1; rw [i_eq, n1I] at c_6; omega) | (rw [i_lt, i0] at c_13; omega) | (rw [i_lt, n60I] at c_19; omega) | (rw [i_lt, n1I] at c_25; omega) | (rw [i_lt, n1000I] at c_33; omega) | (rw [i_lt, i0] at c_37; omega) | (rw [i_le] at c_43; omega))]; exact ⟨rfl, rfl⟩)
set_option maxHeartbeats 4000000 in
set_option maxRecDepth 100000 in
theorem c_X6_risksTold (l : Launch) (G : gG) (B : gB) (σ : gS) (hI : RI B σ) : Met l yX6_risksTold [.code yX6_risksTold cX6_risksTold 1 (some .int)] ({ frames := 0, cells := 0, slots := 0, locals := 0 } : Room) (mPc G B σ [.ref (B.1 40 0)]) (mQi G B (fun v σ' => v = nI (rkN σ) ∧ σ' = σ)) 0 0 (mA G) := by
  refine m_start (by decide) (Nat.le_of_ble_eq_true rfl) ?_
  intro p e s m below meth c ⟨hx, hb, hr, hml, hown, hK, hlk, hz⟩ hH hS ls hl
  have hl : lv_has ls 1 [(0, .ref (B.1 40 0))] := hl
  have hC := hI.C
  refine lv_aload_n hx hb dX6_risksTold_0 rfl (lv_at hl 0 rfl) ?_
  refine gf_X6_32 hx hb hown hK hH (bc hC 40) dX6_risksTold_1 ?_
  refine gf_X6_138 hx hb hown hK hH (bc9 hC (by decide)) dX6_risksTold_4 ?_
  refine m_toe (bI (isRk σ 0)) ((hI.rk (by decide)).1) ?_
  refine m_ifeqB (tgt := 14) hx hb dX6_risksTold_7 (by decide) (fun c_7 => ?_) (fun c_7 => ?_)
  · refine lv_iconst (v := nI 0) hx hb dX6_risksTold_14 (by decide) ?_
    refine lv_aload_n hx hb dX6_risksTold_15 rfl (lv_at hl 0 rfl) ?_
    refine gf_X6_36 hx hb hown hK hH (bc hC 40) dX6_risksTold_16 ?_
    refine gf_X6_138 hx hb hown hK hH (bc9 hC (by decide)) dX6_risksTold_19 ?_
    refine m_toe (bI (isRk σ 1)) ((hI.rk (by decide)).1) ?_
    refine m_ifeqB (tgt := 29) hx hb dX6_risksTold_22 (by decide) (fun c_22 => ?_) (fun c_22 => ?_)
    · refine lv_iconst (v := nI 0) hx hb dX6_risksTold_29 (by decide) ?_
      refine m_iaddN hx hb dX6_risksTold_30 ?_
      exact m_iret hx hb hr hlk hH hS dX6_risksTold_31 (⟨by unfold rkN; rw [c_7, c_22]; rfl, rfl⟩)
    · refine lv_iconst (v := nI 1) hx hb dX6_risksTold_25 (by decide) ?_
      refine lv_goto (tgt := 30) hx hb dX6_risksTold_26 (by decide) ?_
      refine m_iaddN hx hb dX6_risksTold_30 ?_
      exact m_iret hx hb hr hlk hH hS dX6_risksTold_31 (⟨by unfold rkN; rw [c_7, c_22]; rfl, rfl⟩)
  · refine lv_iconst (v := nI 1) hx hb dX6_risksTold_10 (by decide) ?_
    refine lv_goto (tgt := 15) hx hb dX6_risksTold_11 (by decide) ?_
    refine lv_aload_n hx hb dX6_risksTold_15 rfl (lv_at hl 0 rfl) ?_
    refine gf_X6_36 hx hb hown hK hH (bc hC 40) dX6_risksTold_16 ?_
    refine gf_X6_138 hx hb hown hK hH (bc9 hC (by decide)) dX6_risksTold_19 ?_
    refine m_toe (bI (isRk σ 1)) ((hI.rk (by decide)).1) ?_
    refine m_ifeqB (tgt := 29) hx hb dX6_risksTold_22 (by decide) (fun c_22 => ?_) (fun c_22 => ?_)
    · refine lv_iconst (v := nI 0) hx hb dX6_risksTold_29 (by decide) ?_
      refine m_iaddN hx hb dX6_risksTold_30 ?_
      exact m_iret hx hb hr hlk hH hS dX6_risksTold_31 (⟨by unfold rkN; rw [c_7, c_22]; rfl, rfl⟩)
    · refine lv_iconst (v := nI 1) hx hb dX6_risksTold_25 (by decide) ?_
      refine lv_goto (tgt := 30) hx hb dX6_risksTold_26 (by decide) ?_
      refine m_iaddN hx hb dX6_risksTold_30 ?_
      exact m_iret hx hb hr hlk hH hS dX6_risksTold_31 (⟨by unfold rkN; rw [c_7, c_22]; rfl, rfl⟩)
set_option maxHeartbeats 4000000 in
set_option maxRecDepth 100000 in
theorem c_X6_forget (l : Launch) (G : gG) (B : gB) (σ : gS) (hI : RI B σ) : Met l yX6_forget [.code yX6_forget cX6_forget 2 (some .int)] ({ frames := 1, cells := 0, slots := 0, locals := 20 } : Room) (mPc G B σ [.ref (B.1 40 0)]) (mQi G B (fun v τ => v = nI (rkN σ) ∧ τ = sI (sI σ 49 0 0 (nI 0)) 49 1 0 (nI 0))) 0 0 (mA G) := by
  refine m_start (by decide) (Nat.le_of_ble_eq_true rfl) ?_
  intro p e s m below meth c ⟨hx, hb, hr, hml, hown, hK, hlk, hz⟩ hH hS ls hl
  have hl : lv_has ls 2 [(0, .ref (B.1 40 0))] := hl
  have hC := hI.C
  refine lv_aload_n hx hb dX6_forget_0 rfl (lv_at hl 0 rfl) ?_
  refine m_ki (m_runV (k := 40) (i := 0) (ci := 6) ⟨hx, hb, hml, hown, hz⟩ hK hH hS (bc hC 40) rfl rfl (c_X6_risksTold l G B σ hI) mw_X6_risksTold wl_X6_135 ⟨rfl, rfl⟩ ⟨by decide, by decide⟩ rfl hl.1 rfl (Nat.le_of_ble_eq_true rfl) dX6_forget_1 ⟨Nat.zero_le _, Nat.zero_le _⟩) hS (fun r_1 σ_1 H locs hp hH hS => ?_)
  obtain ⟨hr1, hs1⟩ := hp
  subst hr1
  rw [hs1] at hH
  refine lv_istore_n (lv' := [(1, .int (nI (rkN σ))), (0, .ref (B.1 40 0))]) hx hb dX6_forget_4 rfl hl (by decide) rfl (fun ls hl => ?_)
  refine lv_aload_n hx hb dX6_forget_5 rfl (lv_at hl 1 rfl) ?_
  refine gf_X6_32 hx hb hown hK hH (bc hC 40) dX6_forget_6 ?_
  refine lv_iconst (v := nI 0) hx hb dX6_forget_9 (by decide) ?_
  refine pf_X6_138 hx hb hown hK hH hS (bc9 hC (by decide)) (by first | exact Or.inl rfl | exact Or.inr rfl) dX6_forget_10 (fun H locs hH hS => ?_)
  refine lv_aload_n hx hb dX6_forget_13 rfl (lv_at hl 1 rfl) ?_
  refine gf_X6_36 hx hb hown hK hH (bc hC 40) dX6_forget_14 ?_
  refine lv_iconst (v := nI 0) hx hb dX6_forget_17 (by decide) ?_
  refine pf_X6_138 hx hb hown hK hH hS (bc9 hC (by decide)) (by first | exact Or.inl rfl | exact Or.inr rfl) dX6_forget_18 (fun H locs hH hS => ?_)
  refine lv_iload_n hx hb dX6_forget_21 rfl (lv_at hl 0 rfl) ?_
  exact m_iret hx hb hr hlk hH hS dX6_forget_22 (⟨rfl, rfl⟩)
set_option maxHeartbeats 4000000 in
set_option maxRecDepth 100000 in
theorem c_X6_canSearch (l : Launch) (G : gG) (B : gB) (σ : gS) (hI : RI B σ) (n : Int32) : Met l yX6_canSearch [.code yX6_canSearch cX6_canSearch 2 (some .boolean)] ({ frames := 1, cells := 0, slots := 0, locals := 21 } : Room) (mPc G B σ [.ref (B.1 40 0), .int (n)]) (mQi G B (fun v σ' => v = bI (maS σ n) ∧ σ' = σ)) 0 0 (mA G) := by
  refine m_start (by decide) (Nat.le_of_ble_eq_true rfl) ?_
  intro p e s m below meth c ⟨hx, hb, hr, hml, hown, hK, hlk, hz⟩ hH hS ls hl
  have hl : lv_has ls 2 [(0, .ref (B.1 40 0)), (1, .int (n))] := hl
  have hC := hI.C
  have hk0 := hI.rk (show 0 < 2 by decide)
  have hk1 := hI.rk (show 1 < 2 by decide)
  refine lv_iload_n hx hb dX6_canSearch_0 rfl (lv_at hl 1 rfl) ?_
  refine m_ki (m_runS ⟨hx, hb, hml, hown, hz⟩ hK hH hS (c_X6_isLotSize l G B σ n) mw_X6_isLotSize wl_X6_124 ⟨rfl, rfl⟩ ⟨by decide, by decide⟩ rfl hl.1 rfl (Nat.le_of_ble_eq_true rfl) dX6_canSearch_1 ⟨Nat.zero_le _, Nat.zero_le _⟩) hS (fun r_1 σ_1 H locs hp hH hS => ?_)
  obtain ⟨hr1, hs1⟩ := hp
  subst hr1
  rw [hs1] at hH
  refine m_ifeqB (tgt := 33) hx hb dX6_canSearch_4 (by decide) (fun c_4 => ?_) (fun c_4 => ?_)
  · refine lv_iconst (v := nI 0) hx hb dX6_canSearch_33 (by decide) ?_
    exact m_zret hx hb hr hlk hH hS dX6_canSearch_34 (by first | exact Or.inl rfl | exact Or.inr rfl | exact bI_01 _) (⟨bI_f (decide_eq_false (fun z => by first | exact of_decide_eq_false c_4 z.1 | (rw [(fits_i hk0).mpr z.2.1] at c_15; exact absurd c_15 (by decide)) | (rw [(fits_i hk1).mpr z.2.2] at c_26; exact absurd c_26 (by decide)))), rfl⟩)
  · refine lv_aload_n hx hb dX6_canSearch_7 rfl (lv_at hl 0 rfl) ?_
    refine gf_X6_32 hx hb hown hK hH (bc hC 40) dX6_canSearch_8 ?_
    refine lv_iload_n hx hb dX6_canSearch_11 rfl (lv_at hl 1 rfl) ?_
    refine m_ki (m_runV (k := 49) (i := 0) (ci := 3) ⟨hx, hb, hml, hown, hz⟩ hK hH hS (bc9 hC (by decide)) rfl rfl (c_X3_fits l G B σ hC 0 (by decide) hk0 n) mw_X3_fits wl_X6_148 ⟨rfl, rfl⟩ ⟨by decide, by decide⟩ rfl hl.1 rfl (Nat.le_of_ble_eq_true rfl) dX6_canSearch_12 ⟨Nat.zero_le _, Nat.zero_le _⟩) hS (fun r_12 σ_12 H locs hp hH hS => ?_)
    obtain ⟨hr1, hs1⟩ := hp
    subst hr1
    rw [hs1] at hH
    refine m_ifeqB (tgt := 33) hx hb dX6_canSearch_15 (by decide) (fun c_15 => ?_) (fun c_15 => ?_)
    · refine lv_iconst (v := nI 0) hx hb dX6_canSearch_33 (by decide) ?_
      exact m_zret hx hb hr hlk hH hS dX6_canSearch_34 (by first | exact Or.inl rfl | exact Or.inr rfl | exact bI_01 _) (⟨bI_f (decide_eq_false (fun z => by first | exact of_decide_eq_false c_4 z.1 | (rw [(fits_i hk0).mpr z.2.1] at c_15; exact absurd c_15 (by decide)) | (rw [(fits_i hk1).mpr z.2.2] at c_26; exact absurd c_26 (by decide)))), rfl⟩)
    · refine lv_aload_n hx hb dX6_canSearch_18 rfl (lv_at hl 0 rfl) ?_
      refine gf_X6_36 hx hb hown hK hH (bc hC 40) dX6_canSearch_19 ?_
      refine lv_iload_n hx hb dX6_canSearch_22 rfl (lv_at hl 1 rfl) ?_
      refine m_ki (m_runV (k := 49) (i := 1) (ci := 3) ⟨hx, hb, hml, hown, hz⟩ hK hH hS (bc9 hC (by decide)) rfl rfl (c_X3_fits l G B σ hC 1 (by decide) hk1 n) mw_X3_fits wl_X6_148 ⟨rfl, rfl⟩ ⟨by decide, by decide⟩ rfl hl.1 rfl (Nat.le_of_ble_eq_true rfl) dX6_canSearch_23 ⟨Nat.zero_le _, Nat.zero_le _⟩) hS (fun r_23 σ_23 H locs hp hH hS => ?_)
      obtain ⟨hr1, hs1⟩ := hp
      subst hr1
      rw [hs1] at hH
      refine m_ifeqB (tgt := 33) hx hb dX6_canSearch_26 (by decide) (fun c_26 => ?_) (fun c_26 => ?_)
      · refine lv_iconst (v := nI 0) hx hb dX6_canSearch_33 (by decide) ?_
        exact m_zret hx hb hr hlk hH hS dX6_canSearch_34 (by first | exact Or.inl rfl | exact Or.inr rfl | exact bI_01 _) (⟨bI_f (decide_eq_false (fun z => by first | exact of_decide_eq_false c_4 z.1 | (rw [(fits_i hk0).mpr z.2.1] at c_15; exact absurd c_15 (by decide)) | (rw [(fits_i hk1).mpr z.2.2] at c_26; exact absurd c_26 (by decide)))), rfl⟩)
      · refine lv_iconst (v := nI 1) hx hb dX6_canSearch_29 (by decide) ?_
        refine lv_goto (tgt := 34) hx hb dX6_canSearch_30 (by decide) ?_
        exact m_zret hx hb hr hlk hH hS dX6_canSearch_34 (by first | exact Or.inl rfl | exact Or.inr rfl | exact bI_01 _) (⟨bI_t (decide_eq_true ⟨of_decide_eq_true c_4, (fits_i hk0).mp c_15, (fits_i hk1).mp c_26⟩), rfl⟩)
set_option maxHeartbeats 4000000 in
set_option maxRecDepth 100000 in
theorem c_X6_ordersWith (l : Launch) (G : gG) (B : gB) (σ : gS) (hI : RI B σ) (nn dn sz xn : Nat) (hn60 : nn ≤ 60) (hsz : sz ≤ nn) (hdn : dn ≤ 60) (hxn : xn ≤ 61) : Met l yX6_ordersWith [.code yX6_ordersWith cX6_ordersWith 5 (some .long)] ({ frames := 1, cells := 0, slots := 0, locals := 22 } : Room) (mPc G B σ [.ref (B.1 40 0), .int (nI nn), .int (nI dn), .int (nI sz), .int (nI xn)]) (mQl G B (fun v σ' => v = lN (ch sz xn * chZ (nn - sz) ((dn : Int) - (xn : Int))) ∧ σ' = σ)) 0 0 (mA G) := by
  refine m_start (by decide) (Nat.le_of_ble_eq_true rfl) ?_
  intro p e s m below meth c ⟨hx, hb, hr, hml, hown, hK, hlk, hz⟩ hH hS ls hl
  have hl : lv_has ls 5 [(0, .ref (B.1 40 0)), (1, .int (nI nn)), (2, .int (nI dn)), (3, .int (nI sz)), (4, .int (nI xn))] := hl
  have hC := hI.C
  refine lv_aload_n hx hb dX6_ordersWith_0 rfl (lv_at hl 0 rfl) ?_
  refine gf_X6_10 hx hb hown hK hH (bc hC 40) dX6_ordersWith_1 ?_
  refine lv_iload_n hx hb dX6_ordersWith_4 rfl (lv_at hl 3 rfl) ?_
  refine lv_iload hx hb dX6_ordersWith_5 (lv_at hl 4 rfl) ?_
  refine m_kl (m_runV (k := 41) (i := 0) (ci := 5) ⟨hx, hb, hml, hown, hz⟩ hK hH hS (bc hC 41) rfl rfl (c_X5_choose l G B σ hC sz (nI xn) (by omega) hI.W) mw_X5_choose wl_X6_88 ⟨rfl, rfl⟩ ⟨by decide, by decide⟩ rfl hl.1 rfl (Nat.le_of_ble_eq_true rfl) dX6_ordersWith_7 ⟨Nat.zero_le _, Nat.zero_le _⟩) hS (fun r_7 σ_7 H locs hp hH hS => ?_)
  obtain ⟨hr1, hs9⟩ := hp
  rw [hs9] at hH
  rw [nI_I (by omega), chZ_nat] at hr1
  subst hr1
  refine lv_aload_n hx hb dX6_ordersWith_10 rfl (lv_at hl 0 rfl) ?_
  refine gf_X6_10 hx hb hown hK hH (bc hC 40) dX6_ordersWith_11 ?_
  refine lv_iload_n hx hb dX6_ordersWith_14 rfl (lv_at hl 1 rfl) ?_
  refine lv_iload_n hx hb dX6_ordersWith_15 rfl (lv_at hl 3 rfl) ?_
  refine m_isubN (by omega) hx hb dX6_ordersWith_16 ?_
  refine lv_iload_n hx hb dX6_ordersWith_17 rfl (lv_at hl 2 rfl) ?_
  refine lv_iload hx hb dX6_ordersWith_18 (lv_at hl 4 rfl) ?_
  refine lv_isub hx hb dX6_ordersWith_20 ?_
  refine m_kl (m_runV (k := 41) (i := 0) (ci := 5) ⟨hx, hb, hml, hown, hz⟩ hK hH hS (bc hC 41) rfl rfl (c_X5_choose l G B σ hC (nn - sz) (nI dn - nI xn) (by omega) hI.W) mw_X5_choose wl_X6_88 ⟨rfl, rfl⟩ ⟨by decide, by decide⟩ rfl hl.1 rfl (Nat.le_of_ble_eq_true rfl) dX6_ordersWith_21 ⟨Nat.zero_le _, Nat.zero_le _⟩) hS (fun r_21 σ_21 H locs hp hH hS => ?_)
  obtain ⟨hr1, hs9⟩ := hp
  rw [hs9] at hH
  rw [i_subN (by omega) (by omega)] at hr1
  subst hr1
  refine m_lmulN hx hb dX6_ordersWith_24 ?_
  exact m_lret hx hb hr hlk hH hS dX6_ordersWith_25 (⟨rfl, rfl⟩)
set_option maxHeartbeats 4000000 in
set_option maxRecDepth 100000 in
theorem c_X6_leastAccept (l : Launch) (G : gG) (B : gB) (σ : gS) (hI : RI B σ) (lt mm : Nat) (h60 : lt ≤ 60) (hml9 : mm ≤ lt) : Met l yX6_leastAccept [.code yX6_leastAccept cX6_leastAccept 12 (some .int)] ({ frames := 2, cells := 0, slots := 0, locals := 52 } : Room) (mPc G B σ [.ref (B.1 40 0), .int (nI lt), .int (nI mm)]) (mQi G B (fun v σ' => v = lsI (lc σ lt mm) ∧ σ' = σ)) 0 0 (mA G) := by
  refine m_start (by decide) (Nat.le_of_ble_eq_true rfl) ?_
  intro p e s m below meth c ⟨hx, hb, hr, hml, hown, hK, hlk, hz⟩ hH hS ls hl
  have hl : lv_has ls 12 [(0, .ref (B.1 40 0)), (1, .int (nI lt)), (2, .int (nI mm))] := hl
  have hC := hI.C
  have hk0 := hI.rk (show 0 < 2 by decide)
  have hk1 := hI.rk (show 1 < 2 by decide)
  have hd0 := hk0.2.2.1
  have hd1 := hk1.2.2.1
  have hcl0 := ch_lt (k := cRd σ 0) h60
  have hcl1 := ch_lt (k := cRd σ 1) h60
  refine lv_aload_n hx hb dX6_leastAccept_0 rfl (lv_at hl 0 rfl) ?_
  refine gf_X6_10 hx hb hown hK hH (bc hC 40) dX6_leastAccept_1 ?_
  refine lv_iload_n hx hb dX6_leastAccept_4 rfl (lv_at hl 1 rfl) ?_
  refine lv_aload_n hx hb dX6_leastAccept_5 rfl (lv_at hl 0 rfl) ?_
  refine gf_X6_32 hx hb hown hK hH (bc hC 40) dX6_leastAccept_6 ?_
  refine gf_X6_154 hx hb hown hK hH (bc9 hC (by decide)) dX6_leastAccept_9 ?_
  refine m_toi (cRd σ 0) (hk0.2.1) ?_
  refine m_kl (m_runV (k := 41) (i := 0) (ci := 5) ⟨hx, hb, hml, hown, hz⟩ hK hH hS (bc hC 41) rfl rfl (c_X5_choose l G B σ hC lt (nI (cRd σ 0)) h60 hI.W) mw_X5_choose wl_X6_88 ⟨rfl, rfl⟩ ⟨by decide, by decide⟩ rfl hl.1 rfl (Nat.le_of_ble_eq_true rfl) dX6_leastAccept_12 ⟨Nat.zero_le _, Nat.zero_le _⟩) hS (fun r_12 σ_12 H locs hp hH hS => ?_)
  obtain ⟨hr1, hs9⟩ := hp
  rw [hs9] at hH
  rw [nI_I (by omega), chZ_nat] at hr1
  subst hr1
  refine lv_lstore_n (lv' := [(3, .long (lN (ch lt (cRd σ 0)))), (0, .ref (B.1 40 0)), (1, .int (nI lt)), (2, .int (nI mm))]) hx hb dX6_leastAccept_15 rfl hl (by decide) rfl (fun ls hl => ?_)
  refine lv_aload_n hx hb dX6_leastAccept_16 rfl (lv_at hl 1 rfl) ?_
  refine gf_X6_10 hx hb hown hK hH (bc hC 40) dX6_leastAccept_17 ?_
  refine lv_iload_n hx hb dX6_leastAccept_20 rfl (lv_at hl 2 rfl) ?_
  refine lv_aload_n hx hb dX6_leastAccept_21 rfl (lv_at hl 1 rfl) ?_
  refine gf_X6_36 hx hb hown hK hH (bc hC 40) dX6_leastAccept_22 ?_
  refine gf_X6_154 hx hb hown hK hH (bc9 hC (by decide)) dX6_leastAccept_25 ?_
  refine m_toi (cRd σ 1) (hk1.2.1) ?_
  refine m_kl (m_runV (k := 41) (i := 0) (ci := 5) ⟨hx, hb, hml, hown, hz⟩ hK hH hS (bc hC 41) rfl rfl (c_X5_choose l G B σ hC lt (nI (cRd σ 1)) h60 hI.W) mw_X5_choose wl_X6_88 ⟨rfl, rfl⟩ ⟨by decide, by decide⟩ rfl hl.1 rfl (Nat.le_of_ble_eq_true rfl) dX6_leastAccept_28 ⟨Nat.zero_le _, Nat.zero_le _⟩) hS (fun r_28 σ_28 H locs hp hH hS => ?_)
  obtain ⟨hr1, hs9⟩ := hp
  rw [hs9] at hH
  rw [nI_I (by omega), chZ_nat] at hr1
  subst hr1
  refine lv_lstore (lv' := [(5, .long (lN (ch lt (cRd σ 1)))), (3, .long (lN (ch lt (cRd σ 0)))), (0, .ref (B.1 40 0)), (1, .int (nI lt)), (2, .int (nI mm))]) hx hb dX6_leastAccept_31 hl (by decide) rfl (fun ls hl => ?_)
  refine lv_lconst (v := lN 0) hx hb dX6_leastAccept_33 rfl ?_
  refine lv_lstore (lv' := [(7, .long (lN 0)), (5, .long (lN (ch lt (cRd σ 1)))), (3, .long (lN (ch lt (cRd σ 0)))), (0, .ref (B.1 40 0)), (1, .int (nI lt)), (2, .int (nI mm))]) hx hb dX6_leastAccept_34 hl (by decide) rfl (fun ls hl => ?_)
  refine lv_lconst (v := lN 0) hx hb dX6_leastAccept_36 rfl ?_
  refine lv_lstore (lv' := [(9, .long (lN 0)), (7, .long (lN 0)), (5, .long (lN (ch lt (cRd σ 1)))), (3, .long (lN (ch lt (cRd σ 0)))), (0, .ref (B.1 40 0)), (1, .int (nI lt)), (2, .int (nI mm))]) hx hb dX6_leastAccept_37 hl (by decide) rfl (fun ls hl => ?_)
  refine lv_iconst (v := nI 0) hx hb dX6_leastAccept_39 (by decide) ?_
  refine lv_istore (lv' := [(11, .int (nI 0)), (9, .long (lN 0)), (7, .long (lN 0)), (5, .long (lN (ch lt (cRd σ 1)))), (3, .long (lN (ch lt (cRd σ 0)))), (0, .ref (B.1 40 0)), (1, .int (nI lt)), (2, .int (nI mm))]) hx hb dX6_leastAccept_40 hl (by decide) rfl (fun ls hl => ?_)
  have loop : ∀ (z : Nat) (q : Nat), q ≤ mm + 1 ∧ mm + 1 < q + z ∧ fnd (fun q => hld σ mm q lt) q = none → ∀ (H : Heap) (locs : List Loc), Hp G B σ H → va_S (mA G) s.heap H locs → ∀ (ls : Array Slot), lv_has ls 12 [(0, .ref (B.1 40 0)), (1, .int (nI lt)), (2, .int (nI mm)), (3, .long (lN (ch lt (cRd σ 0)))), (5, .long (lN (ch lt (cRd σ 1)))), (7, .long (lN (hs mm lt (cRd σ 0) q))), (9, .long (lN (hs mm lt (cRd σ 1) q))), (11, .int (nI q))] → W p l e ({ frames := 2, cells := 0, slots := 0, locals := 52 } : Room) s m ([.ref (B.1 40 0), .int (nI lt), .int (nI mm)] : List Value).toArray below meth c H locs 0 0 (MQ below (mQi G B (fun v σ' => v = lsI (lc σ lt mm) ∧ σ' = σ)) ([.ref (B.1 40 0), .int (nI lt), .int (nI mm)] : List Value).toArray s 0 0 (mA G)) (F0 m 42 ls []) := by
    intro z
    induction z with
    | zero => intro q hh; exfalso; omega
    | succ z ih =>
      intro q hh H locs hH hS ls hl
      refine lv_iload hx hb dX6_leastAccept_42 (lv_at hl 7 rfl) ?_
      refine lv_iload_n hx hb dX6_leastAccept_44 rfl (lv_at hl 2 rfl) ?_
      refine m_icmp_gtN (tgt := 124) (by omega) (by omega) hx hb dX6_leastAccept_45 (by decide) (fun c_45 => ?_) (fun c_45 => ?_)
      · refine lv_iconst (v := (-1)) hx hb dX6_leastAccept_124 (by decide) ?_
        exact m_iret hx hb hr hlk hH hS dX6_leastAccept_125 (⟨by unfold lc; rw [show mm + 1 = q by omega, hh.2.2]; rfl, rfl⟩)
      · refine lv_lload hx hb dX6_leastAccept_48 (lv_at hl 5 rfl) ?_
        refine lv_aload_n hx hb dX6_leastAccept_50 rfl (lv_at hl 0 rfl) ?_
        refine lv_iload_n hx hb dX6_leastAccept_51 rfl (lv_at hl 1 rfl) ?_
        refine lv_aload_n hx hb dX6_leastAccept_52 rfl (lv_at hl 0 rfl) ?_
        refine gf_X6_32 hx hb hown hK hH (bc hC 40) dX6_leastAccept_53 ?_
        refine gf_X6_154 hx hb hown hK hH (bc9 hC (by decide)) dX6_leastAccept_56 ?_
        refine m_toi (cRd σ 0) (hk0.2.1) ?_
        refine lv_iload_n hx hb dX6_leastAccept_59 rfl (lv_at hl 2 rfl) ?_
        refine lv_iload hx hb dX6_leastAccept_60 (lv_at hl 7 rfl) ?_
        refine m_kl (m_runV (k := 40) (i := 0) (ci := 6) ⟨hx, hb, hml, hown, hz⟩ hK hH hS (bc hC 40) rfl rfl (c_X6_ordersWith l G B σ hI lt (cRd σ 0) mm q h60 hml9 hd0 (by omega)) mw_X6_ordersWith wl_X6_157 ⟨rfl, rfl⟩ ⟨by decide, by decide⟩ rfl hl.1 rfl (Nat.le_of_ble_eq_true rfl) dX6_leastAccept_62 ⟨Nat.zero_le _, Nat.zero_le _⟩) hS (fun r_62 σ_62 H locs hp hH hS => ?_)
        obtain ⟨hr1, hs1⟩ := hp
        subst hr1
        rw [hs1] at hH
        refine m_laddN hx hb dX6_leastAccept_65 ?_
        refine m_toj (lN (hs mm lt (cRd σ 0) (q + 1))) (rfl) ?_
        refine lv_lstore (lv' := [(7, .long (lN (hs mm lt (cRd σ 0) (q + 1)))), (0, .ref (B.1 40 0)), (1, .int (nI lt)), (2, .int (nI mm)), (3, .long (lN (ch lt (cRd σ 0)))), (5, .long (lN (ch lt (cRd σ 1)))), (9, .long (lN (hs mm lt (cRd σ 1) q))), (11, .int (nI q))]) hx hb dX6_leastAccept_66 hl (by decide) rfl (fun ls hl => ?_)
        refine lv_lload hx hb dX6_leastAccept_68 (lv_at hl 6 rfl) ?_
        refine lv_aload_n hx hb dX6_leastAccept_70 rfl (lv_at hl 1 rfl) ?_
        refine lv_iload_n hx hb dX6_leastAccept_71 rfl (lv_at hl 2 rfl) ?_
        refine lv_aload_n hx hb dX6_leastAccept_72 rfl (lv_at hl 1 rfl) ?_
        refine gf_X6_36 hx hb hown hK hH (bc hC 40) dX6_leastAccept_73 ?_
        refine gf_X6_154 hx hb hown hK hH (bc9 hC (by decide)) dX6_leastAccept_76 ?_
        refine m_toi (cRd σ 1) (hk1.2.1) ?_
        refine lv_iload_n hx hb dX6_leastAccept_79 rfl (lv_at hl 3 rfl) ?_
        refine lv_iload hx hb dX6_leastAccept_80 (lv_at hl 7 rfl) ?_
        refine m_kl (m_runV (k := 40) (i := 0) (ci := 6) ⟨hx, hb, hml, hown, hz⟩ hK hH hS (bc hC 40) rfl rfl (c_X6_ordersWith l G B σ hI lt (cRd σ 1) mm q h60 hml9 hd1 (by omega)) mw_X6_ordersWith wl_X6_157 ⟨rfl, rfl⟩ ⟨by decide, by decide⟩ rfl hl.1 rfl (Nat.le_of_ble_eq_true rfl) dX6_leastAccept_82 ⟨Nat.zero_le _, Nat.zero_le _⟩) hS (fun r_82 σ_82 H locs hp hH hS => ?_)
        obtain ⟨hr1, hs1⟩ := hp
        subst hr1
        rw [hs1] at hH
        refine m_laddN hx hb dX6_leastAccept_85 ?_
        refine m_toj (lN (hs mm lt (cRd σ 1) (q + 1))) (rfl) ?_
        refine lv_lstore (lv' := [(9, .long (lN (hs mm lt (cRd σ 1) (q + 1)))), (7, .long (lN (hs mm lt (cRd σ 0) (q + 1)))), (0, .ref (B.1 40 0)), (1, .int (nI lt)), (2, .int (nI mm)), (3, .long (lN (ch lt (cRd σ 0)))), (5, .long (lN (ch lt (cRd σ 1)))), (11, .int (nI q))]) hx hb dX6_leastAccept_86 hl (by decide) rfl (fun ls hl => ?_)
        have hs0 := hs_le (n := mm) (lot := lt) (d := cRd σ 0) (c := q + 1) hml9
        have hs1 := hs_le (n := mm) (lot := lt) (d := cRd σ 1) (c := q + 1) hml9
        refine lv_aload_n hx hb dX6_leastAccept_88 rfl (lv_at hl 2 rfl) ?_
        refine gf_X6_32 hx hb hown hK hH (bc hC 40) dX6_leastAccept_89 ?_
        refine lv_lload hx hb dX6_leastAccept_92 (lv_at hl 1 rfl) ?_
        refine lv_lload_n hx hb dX6_leastAccept_94 rfl (lv_at hl 5 rfl) ?_
        refine m_ki (m_runV (k := 49) (i := 0) (ci := 3) ⟨hx, hb, hml, hown, hz⟩ hK hH hS (bc9 hC (by decide)) rfl rfl (c_X3_isReached l G B σ hC 0 (by decide) hk0 (hs mm lt (cRd σ 0) (q + 1)) (ch lt (cRd σ 0)) (by omega) (by omega)) mw_X3_isReached wl_X6_161 ⟨rfl, rfl⟩ ⟨by decide, by decide⟩ rfl hl.1 rfl (Nat.le_of_ble_eq_true rfl) dX6_leastAccept_95 ⟨Nat.zero_le _, Nat.zero_le _⟩) hS (fun r_95 σ_95 H locs hp hH hS => ?_)
        obtain ⟨hr1, hs9⟩ := hp
        rw [hs9] at hH
        rw [← hl_0 hk0] at hr1
        subst hr1
        refine m_ifeqB (tgt := 118) hx hb dX6_leastAccept_98 (by decide) (fun c_98 => ?_) (fun c_98 => ?_)
        · refine lv_iinc (v := nI (q + 1)) (lv' := [(11, .int (nI (q + 1))), (9, .long (lN (hs mm lt (cRd σ 1) (q + 1)))), (7, .long (lN (hs mm lt (cRd σ 0) (q + 1)))), (0, .ref (B.1 40 0)), (1, .int (nI lt)), (2, .int (nI mm)), (3, .long (lN (ch lt (cRd σ 0)))), (5, .long (lN (ch lt (cRd σ 1))))]) hx hb dX6_leastAccept_118 hl (k := 7) rfl (nI_1 _) (by decide) rfl (fun ls hl => ?_)
          refine lv_goto (tgt := 42) hx hb dX6_leastAccept_121 (by decide) ?_
          exact ih (q + 1) ⟨by omega, by omega, fnd_miss hh.2.2 (by show hld σ mm q lt = false; rw [hld_2]; first | (rw [c_98]; rfl) | (rw [c_112, Bool.and_false]))⟩ H locs hH hS ls (lv_sub hl [3, 4, 5, 6, 7, 2, 1, 0] rfl)
        · refine lv_aload_n hx hb dX6_leastAccept_101 rfl (lv_at hl 2 rfl) ?_
          refine gf_X6_36 hx hb hown hK hH (bc hC 40) dX6_leastAccept_102 ?_
          refine lv_lload hx hb dX6_leastAccept_105 (lv_at hl 0 rfl) ?_
          refine lv_lload hx hb dX6_leastAccept_107 (lv_at hl 6 rfl) ?_
          refine m_ki (m_runV (k := 49) (i := 1) (ci := 3) ⟨hx, hb, hml, hown, hz⟩ hK hH hS (bc9 hC (by decide)) rfl rfl (c_X3_isKept l G B σ hC 1 (by decide) hk1 (hs mm lt (cRd σ 1) (q + 1)) (ch lt (cRd σ 1)) (by omega) (by omega)) mw_X3_isKept wl_X6_165 ⟨rfl, rfl⟩ ⟨by decide, by decide⟩ rfl hl.1 rfl (Nat.le_of_ble_eq_true rfl) dX6_leastAccept_109 ⟨Nat.zero_le _, Nat.zero_le _⟩) hS (fun r_109 σ_109 H locs hp hH hS => ?_)
          obtain ⟨hr1, hs9⟩ := hp
          rw [hs9] at hH
          rw [← hl_1 hk1] at hr1
          subst hr1
          refine m_ifeqB (tgt := 118) hx hb dX6_leastAccept_112 (by decide) (fun c_112 => ?_) (fun c_112 => ?_)
          · refine lv_iinc (v := nI (q + 1)) (lv' := [(11, .int (nI (q + 1))), (9, .long (lN (hs mm lt (cRd σ 1) (q + 1)))), (7, .long (lN (hs mm lt (cRd σ 0) (q + 1)))), (0, .ref (B.1 40 0)), (1, .int (nI lt)), (2, .int (nI mm)), (3, .long (lN (ch lt (cRd σ 0)))), (5, .long (lN (ch lt (cRd σ 1))))]) hx hb dX6_leastAccept_118 hl (k := 7) rfl (nI_1 _) (by decide) rfl (fun ls hl => ?_)
            refine lv_goto (tgt := 42) hx hb dX6_leastAccept_121 (by decide) ?_
            exact ih (q + 1) ⟨by omega, by omega, fnd_miss hh.2.2 (by show hld σ mm q lt = false; rw [hld_2]; first | (rw [c_98]; rfl) | (rw [c_112, Bool.and_false]))⟩ H locs hH hS ls (lv_sub hl [3, 4, 5, 6, 7, 2, 1, 0] rfl)
          · refine lv_iload hx hb dX6_leastAccept_115 (lv_at hl 7 rfl) ?_
            exact m_iret hx hb hr hlk hH hS dX6_leastAccept_117 (⟨by unfold lc; rw [fnd_up (fnd_hit hh.2.2 (by show hld σ mm q lt = true; rw [hld_2, c_98, c_112]; rfl)) (show q + 1 ≤ mm + 1 by omega)]; rfl, rfl⟩)
  exact loop (mm + 2) 0 ⟨by omega, by omega, rfl⟩ H locs hH hS ls (lv_sub hl [5, 6, 7, 4, 3, 2, 1, 0] rfl)
set_option maxHeartbeats 4000000 in
set_option maxRecDepth 100000 in
theorem c_X6_minimalPlan (l : Launch) (G : gG) (B : gB) (σ : gS) (hI : RI B σ) (lt kn : Nat) (h60 : lt ≤ 60) (hkn : kn < 2147483648) : Met l yX6_minimalPlan [.code yX6_minimalPlan cX6_minimalPlan 7 (some .int)] ({ frames := 3, cells := 0, slots := 0, locals := 83 } : Room) (mPc G B σ [.ref (B.1 40 0), .int (nI lt), .int (nI kn)]) (mQi G B (fun v σ' => v = mnA σ lt kn ∧ σ' = σ)) 0 0 (mA G) := by
  refine m_start (by decide) (Nat.le_of_ble_eq_true rfl) ?_
  intro p e s m below meth c ⟨hx, hb, hr, hml, hown, hK, hlk, hz⟩ hH hS ls hl
  have hl : lv_has ls 7 [(0, .ref (B.1 40 0)), (1, .int (nI lt)), (2, .int (nI kn))] := hl
  have hC := hI.C
  refine lv_iconst (v := nI 0) hx hb dX6_minimalPlan_0 (by decide) ?_
  refine lv_istore_n (lv' := [(3, .int (nI 0)), (0, .ref (B.1 40 0)), (1, .int (nI lt)), (2, .int (nI kn))]) hx hb dX6_minimalPlan_1 rfl hl (by decide) rfl (fun ls hl => ?_)
  refine lv_bipush (v := nI 61) hx hb dX6_minimalPlan_2 (by decide) ?_
  refine lv_istore (lv' := [(4, .int (nI 61)), (3, .int (nI 0)), (0, .ref (B.1 40 0)), (1, .int (nI lt)), (2, .int (nI kn))]) hx hb dX6_minimalPlan_4 hl (by decide) rfl (fun ls hl => ?_)
  refine lv_iconst (v := nI 1) hx hb dX6_minimalPlan_6 (by decide) ?_
  refine lv_istore (lv' := [(5, .int (nI 1)), (4, .int (nI 61)), (3, .int (nI 0)), (0, .ref (B.1 40 0)), (1, .int (nI lt)), (2, .int (nI kn))]) hx hb dX6_minimalPlan_7 hl (by decide) rfl (fun ls hl => ?_)
  have loop : ∀ (z : Nat) (m1 : Nat), m1 ≤ lt ∧ lt < m1 + z ∧ fnd (mhit σ lt kn) m1 = none → ∀ (H : Heap) (locs : List Loc), Hp G B σ H → va_S (mA G) s.heap H locs → ∀ (ls : Array Slot), lv_has ls 7 [(0, .ref (B.1 40 0)), (1, .int (nI lt)), (2, .int (nI kn)), (3, .int (nI ((mst σ lt m1).1))), (4, .int (nI (min (mst σ lt m1).2 61))), (5, .int (nI (m1 + 1)))] → W p l e ({ frames := 3, cells := 0, slots := 0, locals := 83 } : Room) s m ([.ref (B.1 40 0), .int (nI lt), .int (nI kn)] : List Value).toArray below meth c H locs 0 0 (MQ below (mQi G B (fun v σ' => v = mnA σ lt kn ∧ σ' = σ)) ([.ref (B.1 40 0), .int (nI lt), .int (nI kn)] : List Value).toArray s 0 0 (mA G)) (F0 m 9 ls []) := by
    intro z
    induction z with
    | zero => intro m1 hh; exfalso; omega
    | succ z ih =>
      intro m1 hh H locs hH hS ls hl
      have hmL := mst_le σ lt m1
      refine lv_iload hx hb dX6_minimalPlan_9 (lv_at hl 5 rfl) ?_
      refine lv_iload_n hx hb dX6_minimalPlan_11 rfl (lv_at hl 1 rfl) ?_
      refine m_icmp_gtN (tgt := 64) (by omega) (by omega) hx hb dX6_minimalPlan_12 (by decide) (fun c_12 => ?_) (fun c_12 => ?_)
      · refine lv_iconst (v := (-1)) hx hb dX6_minimalPlan_64 (by decide) ?_
        exact m_iret hx hb hr hlk hH hS dX6_minimalPlan_65 (⟨(mnA_none (by have h9 := hh.2.2; rwa [show m1 = lt by omega] at h9)).symm, rfl⟩)
      · refine lv_aload_n hx hb dX6_minimalPlan_15 rfl (lv_at hl 0 rfl) ?_
        refine lv_iload_n hx hb dX6_minimalPlan_16 rfl (lv_at hl 1 rfl) ?_
        refine lv_iload hx hb dX6_minimalPlan_17 (lv_at hl 5 rfl) ?_
        refine m_ki (m_runV (k := 40) (i := 0) (ci := 6) ⟨hx, hb, hml, hown, hz⟩ hK hH hS (bc hC 40) rfl rfl (c_X6_leastAccept l G B σ hI lt (m1 + 1) h60 (by omega)) mw_X6_leastAccept wl_X6_151 ⟨rfl, rfl⟩ ⟨by decide, by decide⟩ rfl hl.1 rfl (Nat.le_of_ble_eq_true rfl) dX6_minimalPlan_19 ⟨Nat.zero_le _, Nat.zero_le _⟩) hS (fun r_19 σ_19 H locs hp hH hS => ?_)
        obtain ⟨hr1, hs9⟩ := hp
        rw [hs9] at hH
        rcases hlc : lc σ lt (m1 + 1) with _ | aq
        · rw [hlc] at hr1
          have hr1 : r_19 = -1 := hr1
          subst hr1
          refine lv_istore (lv' := [(6, .int ((-1))), (0, .ref (B.1 40 0)), (1, .int (nI lt)), (2, .int (nI kn)), (3, .int (nI ((mst σ lt m1).1))), (4, .int (nI (min (mst σ lt m1).2 61))), (5, .int (nI (m1 + 1)))]) hx hb dX6_minimalPlan_22 hl (by decide) rfl (fun ls hl => ?_)
          refine lv_iload hx hb dX6_minimalPlan_24 (lv_at hl 0 rfl) ?_
          refine lv_iconst (v := (-1)) hx hb dX6_minimalPlan_26 (by decide) ?_
          refine lv_icmp_eq (tgt := 58) hx hb dX6_minimalPlan_27 (by decide) (fun c_27 => ?_) (fun c_27 => ?_)
          · refine lv_iinc (v := nI (m1 + 1 + 1)) (lv' := [(5, .int (nI (m1 + 1 + 1))), (6, .int ((-1))), (0, .ref (B.1 40 0)), (1, .int (nI lt)), (2, .int (nI kn)), (3, .int (nI ((mst σ lt m1).1))), (4, .int (nI (min (mst σ lt m1).2 61)))]) hx hb dX6_minimalPlan_58 hl (k := 6) rfl (nI_1 _) (by decide) rfl (fun ls hl => ?_)
            refine lv_goto (tgt := 9) hx hb dX6_minimalPlan_61 (by decide) ?_
            exact ih (m1 + 1) ⟨by omega, by omega, fnd_miss hh.2.2 (mhit_n hlc)⟩ H locs hH hS ls (by rw [mst_n hlc]; exact lv_sub hl [2, 3, 4, 5, 6, 0] rfl)
          · exact absurd rfl c_27
        · rw [hlc] at hr1
          have hr1 : r_19 = nI aq := hr1
          subst hr1
          have haq := lc_le hlc
          refine lv_istore (lv' := [(6, .int (nI aq)), (0, .ref (B.1 40 0)), (1, .int (nI lt)), (2, .int (nI kn)), (3, .int (nI ((mst σ lt m1).1))), (4, .int (nI (min (mst σ lt m1).2 61))), (5, .int (nI (m1 + 1)))]) hx hb dX6_minimalPlan_22 hl (by decide) rfl (fun ls hl => ?_)
          refine lv_iload hx hb dX6_minimalPlan_24 (lv_at hl 0 rfl) ?_
          refine lv_iconst (v := (-1)) hx hb dX6_minimalPlan_26 (by decide) ?_
          refine lv_icmp_eq (tgt := 58) hx hb dX6_minimalPlan_27 (by decide) (fun c_27 => ?_) (fun c_27 => ?_)
          · exact absurd c_27 (nI_nm1 (by omega))
          · refine lv_iload hx hb dX6_minimalPlan_30 (lv_at hl 0 rfl) ?_
            refine lv_iload hx hb dX6_minimalPlan_32 (lv_at hl 5 rfl) ?_
            refine m_icmp_geN (tgt := 58) (by omega) (by omega) hx hb dX6_minimalPlan_34 (by decide) (fun c_34 => ?_) (fun c_34 => ?_)
            · refine lv_iinc (v := nI (m1 + 1 + 1)) (lv' := [(5, .int (nI (m1 + 1 + 1))), (6, .int (nI aq)), (0, .ref (B.1 40 0)), (1, .int (nI lt)), (2, .int (nI kn)), (3, .int (nI ((mst σ lt m1).1))), (4, .int (nI (min (mst σ lt m1).2 61)))]) hx hb dX6_minimalPlan_58 hl (k := 6) rfl (nI_1 _) (by decide) rfl (fun ls hl => ?_)
              refine lv_goto (tgt := 9) hx hb dX6_minimalPlan_61 (by decide) ?_
              exact ih (m1 + 1) ⟨by omega, by omega, fnd_miss hh.2.2 (by rw [mhit_s hlc]; exact decide_eq_false (fun z => by omega))⟩ H locs hH hS ls (by rw [mst_s hlc, if_neg (by omega)]; exact lv_sub hl [2, 3, 4, 5, 6, 0] rfl)
            · refine lv_iload_n hx hb dX6_minimalPlan_37 rfl (lv_at hl 4 rfl) ?_
              refine lv_iload_n hx hb dX6_minimalPlan_38 rfl (lv_at hl 3 rfl) ?_
              refine m_icmp_neN (tgt := 51) (by omega) (by omega) hx hb dX6_minimalPlan_39 (by decide) (fun c_39 => ?_) (fun c_39 => ?_)
              · refine lv_iinc (v := nI ((mst σ lt m1).1 + 1)) (lv' := [(3, .int (nI ((mst σ lt m1).1 + 1))), (6, .int (nI aq)), (0, .ref (B.1 40 0)), (1, .int (nI lt)), (2, .int (nI kn)), (4, .int (nI (min (mst σ lt m1).2 61))), (5, .int (nI (m1 + 1)))]) hx hb dX6_minimalPlan_51 hl (k := 4) rfl (nI_1 _) (by decide) rfl (fun ls hl => ?_)
                refine lv_iload hx hb dX6_minimalPlan_54 (lv_at hl 1 rfl) ?_
                refine lv_istore (lv' := [(4, .int (nI aq)), (3, .int (nI ((mst σ lt m1).1 + 1))), (6, .int (nI aq)), (0, .ref (B.1 40 0)), (1, .int (nI lt)), (2, .int (nI kn)), (5, .int (nI (m1 + 1)))]) hx hb dX6_minimalPlan_56 hl (by decide) rfl (fun ls hl => ?_)
                refine lv_iinc (v := nI (m1 + 1 + 1)) (lv' := [(5, .int (nI (m1 + 1 + 1))), (4, .int (nI aq)), (3, .int (nI ((mst σ lt m1).1 + 1))), (6, .int (nI aq)), (0, .ref (B.1 40 0)), (1, .int (nI lt)), (2, .int (nI kn))]) hx hb dX6_minimalPlan_58 hl (k := 6) rfl (nI_1 _) (by decide) rfl (fun ls hl => ?_)
                refine lv_goto (tgt := 9) hx hb dX6_minimalPlan_61 (by decide) ?_
                exact ih (m1 + 1) ⟨by omega, by omega, fnd_miss hh.2.2 (by rw [mhit_s hlc]; exact decide_eq_false (fun z => c_39 z.2))⟩ H locs hH hS ls (by rw [mst_s hlc, if_pos (by omega), show min (((mst σ lt m1).1 + 1, aq) : Nat × Nat).2 61 = aq from Nat.min_eq_left (by show aq ≤ 61; omega)]; exact lv_sub hl [4, 5, 6, 2, 1, 0] rfl)
              · refine lv_bipush (v := nI 100) hx hb dX6_minimalPlan_42 (by decide) ?_
                refine lv_iload hx hb dX6_minimalPlan_44 (lv_at hl 6 rfl) ?_
                refine m_imulN hx hb dX6_minimalPlan_46 ?_
                refine lv_iload hx hb dX6_minimalPlan_47 (lv_at hl 0 rfl) ?_
                refine m_iaddN hx hb dX6_minimalPlan_49 ?_
                exact m_iret hx hb hr hlk hH hS dX6_minimalPlan_50 (⟨(mnA_some hh.2.2 (by omega) hlc (by omega) c_39).symm, rfl⟩)
  exact loop (lt + 1) 0 ⟨by omega, by omega, rfl⟩ s.heap [] hH hS ls (lv_sub hl [3, 4, 5, 2, 1, 0] rfl)
set_option maxHeartbeats 4000000 in
set_option maxRecDepth 100000 in
theorem c_X6_search (l : Launch) (G : gG) (B : gB) (σ : gS) (hI : RI B σ) (x : Int32) : Met l yX6_search [.code yX6_search cX6_search 2 (some .int)] ({ frames := 4, cells := 0, slots := 0, locals := 109 } : Room) (mPc G B σ [.ref (B.1 40 0), .int (x)]) (mQi G B (fun v σ' => v = (if maS σ x = true then srA σ x.toNatClampNeg else -2) ∧ σ' = σ)) 0 0 (mA G) := by
  refine m_start (by decide) (Nat.le_of_ble_eq_true rfl) ?_
  intro p e s m below meth c ⟨hx, hb, hr, hml, hown, hK, hlk, hz⟩ hH hS ls hl
  have hl : lv_has ls 2 [(0, .ref (B.1 40 0)), (1, .int (x))] := hl
  have hC := hI.C
  refine lv_aload_n hx hb dX6_search_0 rfl (lv_at hl 0 rfl) ?_
  refine lv_iload_n hx hb dX6_search_1 rfl (lv_at hl 1 rfl) ?_
  refine m_ki (m_runV (k := 40) (i := 0) (ci := 6) ⟨hx, hb, hml, hown, hz⟩ hK hH hS (bc hC 40) rfl rfl (c_X6_canSearch l G B σ hI x) mw_X6_canSearch wl_X6_141 ⟨rfl, rfl⟩ ⟨by decide, by decide⟩ rfl hl.1 rfl (Nat.le_of_ble_eq_true rfl) dX6_search_2 ⟨Nat.zero_le _, Nat.zero_le _⟩) hS (fun r_2 σ_2 H locs hp hH hS => ?_)
  obtain ⟨hr1, hs1⟩ := hp
  subst hr1
  rw [hs1] at hH
  refine m_ifneB (tgt := 11) hx hb dX6_search_5 (by decide) (fun c_5 => ?_) (fun c_5 => ?_)
  · obtain ⟨lt, he, h1, h60⟩ := maS_nI c_5
    subst he
    refine lv_aload_n hx hb dX6_search_11 rfl (lv_at hl 0 rfl) ?_
    refine lv_iload_n hx hb dX6_search_12 rfl (lv_at hl 1 rfl) ?_
    refine lv_iconst (v := nI 0) hx hb dX6_search_13 (by decide) ?_
    refine m_ki (m_runV (k := 40) (i := 0) (ci := 6) ⟨hx, hb, hml, hown, hz⟩ hK hH hS (bc hC 40) rfl rfl (c_X6_minimalPlan l G B σ hI lt 0 h60 (by omega)) mw_X6_minimalPlan wl_X6_144 ⟨rfl, rfl⟩ ⟨by decide, by decide⟩ rfl hl.1 rfl (Nat.le_of_ble_eq_true rfl) dX6_search_14 ⟨Nat.zero_le _, Nat.zero_le _⟩) hS (fun r_14 σ_14 H locs hp hH hS => ?_)
    obtain ⟨hr1, hs1⟩ := hp
    subst hr1
    rw [hs1] at hH
    exact m_iret hx hb hr hlk hH hS dX6_search_17 (⟨by rw [if_pos c_5, nI_clamp (by omega), mn_sr h60], rfl⟩)
  · refine lv_bipush (v := (-2)) hx hb dX6_search_8 (by decide) ?_
    exact m_iret hx hb hr hlk hH hS dX6_search_10 (⟨by rw [c_5]; rfl, rfl⟩)
set_option maxHeartbeats 4000000 in
set_option maxRecDepth 100000 in
theorem c_X6_minimal (l : Launch) (G : gG) (B : gB) (σ : gS) (hI : RI B σ) (x k : Int32) : Met l yX6_minimal [.code yX6_minimal cX6_minimal 3 (some .int)] ({ frames := 4, cells := 0, slots := 0, locals := 109 } : Room) (mPc G B σ [.ref (B.1 40 0), .int (x), .int (k)]) (mQi G B (fun v σ' => v = (if maS σ x = true ∧ 0 ≤ k.toInt then mnA σ x.toNatClampNeg k.toNatClampNeg else -2) ∧ σ' = σ)) 0 0 (mA G) := by
  refine m_start (by decide) (Nat.le_of_ble_eq_true rfl) ?_
  intro p e s m below meth c ⟨hx, hb, hr, hml, hown, hK, hlk, hz⟩ hH hS ls hl
  have hl : lv_has ls 3 [(0, .ref (B.1 40 0)), (1, .int (x)), (2, .int (k))] := hl
  have hC := hI.C
  refine lv_aload_n hx hb dX6_minimal_0 rfl (lv_at hl 0 rfl) ?_
  refine lv_iload_n hx hb dX6_minimal_1 rfl (lv_at hl 1 rfl) ?_
  refine m_ki (m_runV (k := 40) (i := 0) (ci := 6) ⟨hx, hb, hml, hown, hz⟩ hK hH hS (bc hC 40) rfl rfl (c_X6_canSearch l G B σ hI x) mw_X6_canSearch wl_X6_141 ⟨rfl, rfl⟩ ⟨by decide, by decide⟩ rfl hl.1 rfl (Nat.le_of_ble_eq_true rfl) dX6_minimal_2 ⟨Nat.zero_le _, Nat.zero_le _⟩) hS (fun r_2 σ_2 H locs hp hH hS => ?_)
  obtain ⟨hr1, hs1⟩ := hp
  subst hr1
  rw [hs1] at hH
  refine m_ifeqB (tgt := 12) hx hb dX6_minimal_5 (by decide) (fun c_5 => ?_) (fun c_5 => ?_)
  · refine lv_bipush (v := (-2)) hx hb dX6_minimal_12 (by decide) ?_
    exact m_iret hx hb hr hlk hH hS dX6_minimal_14 (⟨(if_neg (fun z => by first | (rw [c_5] at z; exact absurd z.1 (by decide)) | (rw [i_le, i0] at c_9; exact c_9 z.2))).symm, rfl⟩)
  · refine lv_iload_n hx hb dX6_minimal_8 rfl (lv_at hl 2 rfl) ?_
    refine lv_if_ge (tgt := 15) hx hb dX6_minimal_9 (by decide) (fun c_9 => ?_) (fun c_9 => ?_)
    · obtain ⟨lt, he, h1, h60⟩ := maS_nI c_5
      subst he
      rw [i_le, i0] at c_9
      have k3 := i_rng k
      obtain ⟨k1, k2⟩ := i_nat (x := k) (c_9)
      obtain ⟨kn, hq9⟩ : ∃ z : Nat, z = k.toInt.toNat := ⟨_, rfl⟩
      rw [← hq9] at k1 k2
      have hkn : kn < 2147483648 := by omega
      clear c_9 k2 k3
      clear hq9
      subst k1
      refine lv_aload_n hx hb dX6_minimal_15 rfl (lv_at hl 0 rfl) ?_
      refine lv_iload_n hx hb dX6_minimal_16 rfl (lv_at hl 1 rfl) ?_
      refine lv_iload_n hx hb dX6_minimal_17 rfl (lv_at hl 2 rfl) ?_
      refine m_ki (m_runV (k := 40) (i := 0) (ci := 6) ⟨hx, hb, hml, hown, hz⟩ hK hH hS (bc hC 40) rfl rfl (c_X6_minimalPlan l G B σ hI lt kn h60 hkn) mw_X6_minimalPlan wl_X6_144 ⟨rfl, rfl⟩ ⟨by decide, by decide⟩ rfl hl.1 rfl (Nat.le_of_ble_eq_true rfl) dX6_minimal_18 ⟨Nat.zero_le _, Nat.zero_le _⟩) hS (fun r_18 σ_18 H locs hp hH hS => ?_)
      obtain ⟨hr1, hs1⟩ := hp
      subst hr1
      rw [hs1] at hH
      exact m_iret hx hb hr hlk hH hS dX6_minimal_21 (⟨by rw [if_pos ⟨c_5, by rw [nI_I (by omega)]; omega⟩, nI_clamp (by omega), nI_clamp (by omega)], rfl⟩)
    · refine lv_bipush (v := (-2)) hx hb dX6_minimal_12 (by decide) ?_
      exact m_iret hx hb hr hlk hH hS dX6_minimal_14 (⟨(if_neg (fun z => by first | (rw [c_5] at z; exact absurd z.1 (by decide)) | (rw [i_le, i0] at c_9; exact c_9 z.2))).symm, rfl⟩)
