set_option maxHeartbeats 4000000 in
set_option maxRecDepth 100000 in
theorem c_X2_append (l : Launch) (G : gG) (B : gB) (σ : gS) (hC : BkC B) (pn : Nat) (hpB : pn < B.2 50) (hP1 : WfP1 σ pn) (hR : PR σ pn) (hZ : PZ σ pn) (hW : WfW σ) (sz a r : Int32) : Met l yX2_append [.code yX2_append cX2_append 11 (some .boolean)] ({ frames := 4, cells := 0, slots := 0, locals := 87 } : Room) (mPc G B σ [.ref (B.1 50 pn), .int (sz), .int (a), .int (r), .ref (B.1 41 0)]) (mQi G B (fun v τ => if adB σ pn sz a r = true then v = nI 1 ∧ ∃ sq : Nat, 1 ≤ sq ∧ tot σ pn (stN σ pn) + sq ≤ 60 ∧ sz = nI sq ∧ apP σ τ pn sq a r else v = nI 0 ∧ τ = σ)) 0 0 (mA G) := by
  refine m_start (by decide) (Nat.le_of_ble_eq_true rfl) ?_
  intro p e s m below meth c ⟨hx, hb, hr, hml, hown, hK, hlk, hz⟩ hH hS ls hl
  have hl : lv_has ls 11 [(0, .ref (B.1 50 pn)), (1, .int (sz)), (2, .int (a)), (3, .int (r)), (4, .ref (B.1 41 0))] := hl
  refine lv_aload_n hx hb dX2_append_0 rfl (lv_at hl 0 rfl) ?_
  refine lv_iload_n hx hb dX2_append_1 rfl (lv_at hl 1 rfl) ?_
  refine lv_iload_n hx hb dX2_append_2 rfl (lv_at hl 2 rfl) ?_
  refine lv_iload_n hx hb dX2_append_3 rfl (lv_at hl 3 rfl) ?_
  refine m_ki (m_runV (k := 50) (i := pn) (ci := 2) ⟨hx, hb, hml, hown, hz⟩ hK hH hS hpB rfl rfl (c_X2_admits l G B σ hC pn hpB hP1 hR sz a r) mw_X2_admits wl_X2_45 ⟨rfl, rfl⟩ ⟨by decide, by decide⟩ rfl hl.1 rfl (Nat.le_of_ble_eq_true rfl) dX2_append_4 ⟨Nat.zero_le _, Nat.zero_le _⟩) hS (fun r_4 σ_4 H locs hp hH hS => ?_)
  obtain ⟨hr1, hs1⟩ := hp
  subst hr1
  rw [hs1] at hH
  refine m_ifneB (tgt := 12) hx hb dX2_append_7 (by decide) (fun c_7 => ?_) (fun c_7 => ?_)
  · obtain ⟨g1, g2, g3, h5, h6, h7, h8, h9⟩ := of_decide_eq_true c_7
    obtain ⟨k1, k2⟩ := i_nat (x := sz) (by omega)
    obtain ⟨sn, hsn⟩ : ∃ z : Nat, z = sz.toInt.toNat := ⟨_, rfl⟩
    rw [← hsn] at k1 k2
    have hs1 : 1 ≤ sn ∧ sn ≤ 60 := by omega
    have hts : tot σ pn (stN σ pn) + sn ≤ 60 := by omega
    have hs4 := hP1.2.1
    have hs3 : stN σ pn < 4 := by omega
    clear hsn k2 h5 h9
    subst k1
    refine lv_aload_n hx hb dX2_append_12 rfl (lv_at hl 0 rfl) ?_
    refine gf_X2_29 hx hb hown hK hH hpB dX2_append_13 ?_
    refine m_toi (stN σ pn) (hR.1) ?_
    refine lv_istore (lv' := [(5, .int (nI (stN σ pn))), (0, .ref (B.1 50 pn)), (1, .int (nI sn)), (2, .int (a)), (3, .int (r)), (4, .ref (B.1 41 0))]) hx hb dX2_append_16 hl (by decide) rfl (fun ls hl => ?_)
    refine lv_aload_n hx hb dX2_append_18 rfl (lv_at hl 1 rfl) ?_
    refine m_ki (m_runV (k := 50) (i := pn) (ci := 2) ⟨hx, hb, hml, hown, hz⟩ hK hH hS hpB rfl rfl (c_X2_total l G B σ hC pn hpB hP1 hR) mw_X2_total wl_X2_41 ⟨rfl, rfl⟩ ⟨by decide, by decide⟩ rfl hl.1 rfl (Nat.le_of_ble_eq_true rfl) dX2_append_19 ⟨Nat.zero_le _, Nat.zero_le _⟩) hS (fun r_19 σ_19 H locs hp9 hH hS => ?_)
    obtain ⟨hr1, hs9⟩ := hp9
    subst hr1
    rw [hs9] at hH
    refine lv_istore (lv' := [(6, .int (nI (tot σ pn (stN σ pn)))), (5, .int (nI (stN σ pn))), (0, .ref (B.1 50 pn)), (1, .int (nI sn)), (2, .int (a)), (3, .int (r)), (4, .ref (B.1 41 0))]) hx hb dX2_append_22 hl (by decide) rfl (fun ls hl => ?_)
    refine lv_aload_n hx hb dX2_append_24 rfl (lv_at hl 2 rfl) ?_
    refine gf_X2_9 hx hb hown hK hH hpB dX2_append_25 ?_
    refine lv_iload hx hb dX2_append_28 (lv_at hl 1 rfl) ?_
    refine lv_iload_n hx hb dX2_append_30 rfl (lv_at hl 3 rfl) ?_
    refine m_iast hx hb hK hH hS (n := 4) (bq hC 51 hpB) (fun _ _ => rfl) (stN σ pn) (rfl) (by omega) (by decide) dX2_append_31 (fun H locs hH hS => ?_)
    refine lv_aload_n hx hb dX2_append_32 rfl (lv_at hl 2 rfl) ?_
    refine gf_X2_15 hx hb hown hK hH hpB dX2_append_33 ?_
    refine lv_iload hx hb dX2_append_36 (lv_at hl 1 rfl) ?_
    refine lv_iload_n hx hb dX2_append_38 rfl (lv_at hl 4 rfl) ?_
    refine m_iast hx hb hK hH hS (n := 4) (bq hC 52 hpB) (fun _ _ => rfl) (stN σ pn) (rfl) (by omega) (by decide) dX2_append_39 (fun H locs hH hS => ?_)
    refine lv_aload_n hx hb dX2_append_40 rfl (lv_at hl 2 rfl) ?_
    refine gf_X2_18 hx hb hown hK hH hpB dX2_append_41 ?_
    refine lv_iload hx hb dX2_append_44 (lv_at hl 1 rfl) ?_
    refine lv_iload_n hx hb dX2_append_46 rfl (lv_at hl 5 rfl) ?_
    refine m_iast hx hb hK hH hS (n := 4) (bq hC 53 hpB) (fun _ _ => rfl) (stN σ pn) (rfl) (by omega) (by decide) dX2_append_47 (fun H locs hH hS => ?_)
    refine lv_aload_n hx hb dX2_append_48 rfl (lv_at hl 2 rfl) ?_
    refine gf_X2_21 hx hb hown hK hH hpB dX2_append_49 ?_
    refine lv_iload hx hb dX2_append_52 (lv_at hl 1 rfl) ?_
    refine lv_iload hx hb dX2_append_54 (lv_at hl 0 rfl) ?_
    refine lv_iload_n hx hb dX2_append_56 rfl (lv_at hl 3 rfl) ?_
    refine m_iaddN hx hb dX2_append_57 ?_
    refine m_iast hx hb hK hH hS (n := 4) (bq hC 54 hpB) (fun _ _ => rfl) (stN σ pn) (rfl) (by omega) (by decide) dX2_append_58 (fun H locs hH hS => ?_)
    refine lv_iconst (v := nI 0) hx hb dX2_append_59 (by decide) ?_
    refine lv_istore (lv' := [(7, .int (nI 0)), (6, .int (nI (tot σ pn (stN σ pn)))), (5, .int (nI (stN σ pn))), (0, .ref (B.1 50 pn)), (1, .int (nI sn)), (2, .int (a)), (3, .int (r)), (4, .ref (B.1 41 0))]) hx hb dX2_append_60 hl (by decide) rfl (fun ls hl => ?_)
    have loop : ∀ (z : Nat) (b : Nat), b ≤ tot σ pn (stN σ pn) + 1 ∧ tot σ pn (stN σ pn) + 1 < b + z → ∀ (τ : gS) (H : Heap) (locs : List Loc), AP σ τ pn sn a r b 0 → Hp G B τ H → va_S (mA G) s.heap H locs → ∀ (ls : Array Slot), lv_has ls 11 [(0, .ref (B.1 50 pn)), (1, .int (nI sn)), (2, .int (a)), (3, .int (r)), (4, .ref (B.1 41 0)), (5, .int (nI (stN σ pn))), (6, .int (nI (tot σ pn (stN σ pn)))), (7, .int (nI b))] → W p l e ({ frames := 4, cells := 0, slots := 0, locals := 87 } : Room) s m ([.ref (B.1 50 pn), .int ((nI sn)), .int (a), .int (r), .ref (B.1 41 0)] : List Value).toArray below meth c H locs 0 0 (MQ below (mQi G B (fun v τ => if adB σ pn (nI sn) a r = true then v = nI 1 ∧ ∃ sq : Nat, 1 ≤ sq ∧ tot σ pn (stN σ pn) + sq ≤ 60 ∧ (nI sn) = nI sq ∧ apP σ τ pn sq a r else v = nI 0 ∧ τ = σ)) ([.ref (B.1 50 pn), .int ((nI sn)), .int (a), .int (r), .ref (B.1 41 0)] : List Value).toArray s 0 0 (mA G)) (F0 m 62 ls []) := by
      intro z
      induction z with
      | zero => intro b hh; exfalso; omega
      | succ z ih =>
        intro b hh τ H locs hJ hH hS ls hl
        refine lv_iload hx hb dX2_append_62 (lv_at hl 7 rfl) ?_
        refine lv_iload hx hb dX2_append_64 (lv_at hl 6 rfl) ?_
        refine m_icmp_gtN (tgt := 127) (by omega) (by omega) hx hb dX2_append_66 (by decide) (fun c_66 => ?_) (fun c_66 => ?_)
        · refine lv_aload_n hx hb dX2_append_127 rfl (lv_at hl 0 rfl) ?_
          refine lv_dup hx hb dX2_append_128 rfl ?_
          refine gf_X2_29 hx hb hown hK hH hpB dX2_append_129 ?_
          refine m_toi (stN σ pn) ((AP_PR hJ hR).1.trans (by rw [(AP_E hJ).st])) ?_
          refine lv_iconst (v := nI 1) hx hb dX2_append_132 (by decide) ?_
          refine m_iaddN hx hb dX2_append_133 ?_
          refine pf_X2_29 hx hb hown hK hH hS hpB dX2_append_134 (fun H locs hH hS => ?_)
          refine lv_aload_n hx hb dX2_append_137 rfl (lv_at hl 0 rfl) ?_
          refine lv_iload_n hx hb dX2_append_138 rfl (lv_at hl 3 rfl) ?_
          refine lv_iload_n hx hb dX2_append_139 rfl (lv_at hl 2 rfl) ?_
          refine lv_iconst (v := nI 1) hx hb dX2_append_140 (by decide) ?_
          refine lv_iadd hx hb dX2_append_141 ?_
          have J_142 : ∀ (ls : Array Slot), lv_has ls 11 [(0, .ref (B.1 50 pn)), (1, .int (nI sn)), (2, .int (a)), (3, .int (r)), (4, .ref (B.1 41 0)), (5, .int (nI (stN σ pn))), (6, .int (nI (tot σ pn (stN σ pn)))), (7, .int (nI b))] → W p l e ({ frames := 4, cells := 0, slots := 0, locals := 87 } : Room) s m ([.ref (B.1 50 pn), .int ((nI sn)), .int (a), .int (r), .ref (B.1 41 0)] : List Value).toArray below meth c H locs 0 0 (MQ below (mQi G B (fun v τ => if adB σ pn (nI sn) a r = true then v = nI 1 ∧ ∃ sq : Nat, 1 ≤ sq ∧ tot σ pn (stN σ pn) + sq ≤ 60 ∧ (nI sn) = nI sq ∧ apP σ τ pn sq a r else v = nI 0 ∧ τ = σ)) ([.ref (B.1 50 pn), .int ((nI sn)), .int (a), .int (r), .ref (B.1 41 0)] : List Value).toArray s 0 0 (mA G)) (F0 m 150 ls [.int (bI (decide (r = a + nI 1))), .ref (B.1 50 pn)]) := by
            intro ls hl
            refine pf_X2_37 hx hb hown hK hH hS hpB (bI_01 _) dX2_append_150 (fun H locs hH hS => ?_)
            refine lv_iconst (v := nI 1) hx hb dX2_append_153 (by decide) ?_
            exact m_zret hx hb hr hlk hH hS dX2_append_154 (by first | exact Or.inl rfl | exact Or.inr rfl | exact bI_01 _) (by rw [c_7]; exact ⟨rfl, sn, hs1.1, hts, rfl, AP_end (by rw [show tot σ pn (stN σ pn) + 1 = b by omega]; exact hJ)⟩)
          refine lv_icmp_ne (tgt := 149) hx hb dX2_append_142 (by decide) (fun c_142 => ?_) (fun c_142 => ?_)
          · refine lv_iconst (v := nI 0) hx hb dX2_append_149 (by decide) ?_
            refine m_toe (bI (decide (r = a + nI 1))) (bI_f (decide_eq_false c_142)) ?_
            exact J_142 ls (lv_sub hl [0, 1, 2, 3, 4, 5, 6, 7] rfl)
          · refine lv_iconst (v := nI 1) hx hb dX2_append_145 (by decide) ?_
            refine lv_goto (tgt := 150) hx hb dX2_append_146 (by decide) ?_
            refine m_toe (bI (decide (r = a + nI 1))) (bI_t (decide_eq_true c_142)) ?_
            exact J_142 ls (lv_sub hl [0, 1, 2, 3, 4, 5, 6, 7] rfl)
        · refine lv_aload_n hx hb dX2_append_69 rfl (lv_at hl 0 rfl) ?_
          refine lv_iload hx hb dX2_append_70 (lv_at hl 5 rfl) ?_
          refine lv_iload hx hb dX2_append_72 (lv_at hl 7 rfl) ?_
          refine m_kl (m_runV (k := 50) (i := pn) (ci := 2) ⟨hx, hb, hml, hown, hz⟩ hK hH hS hpB rfl rfl (c_X2_openWays l G B τ hC pn hpB ((AP_E hJ).wf hP1) (AP_PR hJ hR) (stN σ pn) b (by rw [(AP_E hJ).st]; omega) (by omega)) mw_X2_openWays wl_X2_49 ⟨rfl, rfl⟩ ⟨by decide, by decide⟩ rfl hl.1 rfl (Nat.le_of_ble_eq_true rfl) dX2_append_74 ⟨Nat.zero_le _, Nat.zero_le _⟩) hS (fun r_74 σ_74 H locs hp hH hS => ?_)
          obtain ⟨hr1, hs9⟩ := hp
          rw [hs9] at hH
          rw [(AP_E hJ).op] at hr1
          subst hr1
          refine lv_lstore (lv' := [(8, .long (lN (opw σ pn (stN σ pn) b))), (0, .ref (B.1 50 pn)), (1, .int (nI sn)), (2, .int (a)), (3, .int (r)), (4, .ref (B.1 41 0)), (5, .int (nI (stN σ pn))), (6, .int (nI (tot σ pn (stN σ pn)))), (7, .int (nI b))]) hx hb dX2_append_77 hl (by decide) rfl (fun ls hl => ?_)
          refine lv_iconst (v := nI 0) hx hb dX2_append_79 (by decide) ?_
          refine lv_istore (lv' := [(10, .int (nI 0)), (8, .long (lN (opw σ pn (stN σ pn) b))), (0, .ref (B.1 50 pn)), (1, .int (nI sn)), (2, .int (a)), (3, .int (r)), (4, .ref (B.1 41 0)), (5, .int (nI (stN σ pn))), (6, .int (nI (tot σ pn (stN σ pn)))), (7, .int (nI b))]) hx hb dX2_append_80 hl (by decide) rfl (fun ls hl => ?_)
          have loop2 : ∀ (z2 : Nat) (mm : Nat), mm ≤ sn + 1 ∧ sn + 1 < mm + z2 → ∀ (τ2 : gS) (H : Heap) (locs : List Loc), AP σ τ2 pn sn a r b mm → Hp G B τ2 H → va_S (mA G) s.heap H locs → ∀ (ls : Array Slot), lv_has ls 11 [(0, .ref (B.1 50 pn)), (1, .int (nI sn)), (2, .int (a)), (3, .int (r)), (4, .ref (B.1 41 0)), (5, .int (nI (stN σ pn))), (6, .int (nI (tot σ pn (stN σ pn)))), (7, .int (nI b)), (8, .long (lN (opw σ pn (stN σ pn) b))), (10, .int (nI mm))] → W p l e ({ frames := 4, cells := 0, slots := 0, locals := 87 } : Room) s m ([.ref (B.1 50 pn), .int ((nI sn)), .int (a), .int (r), .ref (B.1 41 0)] : List Value).toArray below meth c H locs 0 0 (MQ below (mQi G B (fun v τ => if adB σ pn (nI sn) a r = true then v = nI 1 ∧ ∃ sq : Nat, 1 ≤ sq ∧ tot σ pn (stN σ pn) + sq ≤ 60 ∧ (nI sn) = nI sq ∧ apP σ τ pn sq a r else v = nI 0 ∧ τ = σ)) ([.ref (B.1 50 pn), .int ((nI sn)), .int (a), .int (r), .ref (B.1 41 0)] : List Value).toArray s 0 0 (mA G)) (F0 m 82 ls []) := by
            intro z2
            induction z2 with
            | zero => intro mm hm; exfalso; omega
            | succ z2 ih2 =>
              intro mm hm τ2 H locs hJ hH hS ls hl
              refine lv_iload hx hb dX2_append_82 (lv_at hl 9 rfl) ?_
              refine lv_iload_n hx hb dX2_append_84 rfl (lv_at hl 1 rfl) ?_
              refine m_icmp_gtN (tgt := 121) (by omega) (by omega) hx hb dX2_append_85 (by decide) (fun c_85 => ?_) (fun c_85 => ?_)
              · refine lv_iinc (v := nI (b + 1)) (lv' := [(7, .int (nI (b + 1))), (0, .ref (B.1 50 pn)), (1, .int (nI sn)), (2, .int (a)), (3, .int (r)), (4, .ref (B.1 41 0)), (5, .int (nI (stN σ pn))), (6, .int (nI (tot σ pn (stN σ pn)))), (8, .long (lN (opw σ pn (stN σ pn) b))), (10, .int (nI mm))]) hx hb dX2_append_121 hl (k := 7) rfl (nI_1 _) (by decide) rfl (fun ls hl => ?_)
                refine lv_goto (tgt := 62) hx hb dX2_append_124 (by decide) ?_
                exact ih (b + 1) (by omega) _ H locs (AP_next (by rw [show sn + 1 = mm by omega]; exact hJ)) hH hS ls (lv_sub hl [1, 2, 3, 4, 5, 6, 7, 0] rfl)
              · refine lv_aload_n hx hb dX2_append_88 rfl (lv_at hl 0 rfl) ?_
                refine gf_X2_26 hx hb hown hK hH hpB dX2_append_89 ?_
                refine lv_iload hx hb dX2_append_92 (lv_at hl 5 rfl) ?_
                refine m_aald hx hb hK hH (n := 4) 6 (bq hC 55 hpB) (fun _ _ => rfl) rfl rfl (stN σ pn) (rfl) (by omega) (by decide) (rfl) dX2_append_94 ?_
                refine lv_iload hx hb dX2_append_95 (lv_at hl 7 rfl) ?_
                refine lv_iload hx hb dX2_append_97 (lv_at hl 9 rfl) ?_
                refine m_iaddN hx hb dX2_append_99 ?_
                refine lv_dup2_11 hx hb dX2_append_100 rfl rfl ?_
                refine m_lald hx hb hK hH (n := 61) (bt hC hpB (by omega)) (fun _ _ => rfl) (b + mm) (rfl) (by omega) (by decide) dX2_append_101 ?_
                refine m_toj (lN (apR σ pn sn b (b + mm))) (AP_at hJ (by omega)) ?_
                refine lv_lload hx hb dX2_append_102 (lv_at hl 8 rfl) ?_
                refine lv_aload hx hb dX2_append_104 (lv_at hl 4 rfl) ?_
                refine lv_iload_n hx hb dX2_append_106 rfl (lv_at hl 1 rfl) ?_
                refine lv_iload hx hb dX2_append_107 (lv_at hl 9 rfl) ?_
                refine m_kl (m_runV (k := 41) (i := 0) (ci := 5) ⟨hx, hb, hml, hown, hz⟩ hK hH hS (bc hC 41) rfl rfl (c_X5_choose l G B τ2 hC sn (nI mm) (by omega) (AP_W hJ hW)) mw_X5_choose wl_X2_53 ⟨rfl, rfl⟩ ⟨by decide, by decide⟩ rfl hl.1 rfl (Nat.le_of_ble_eq_true rfl) dX2_append_109 ⟨Nat.zero_le _, Nat.zero_le _⟩) hS (fun r_109 σ_109 H locs hp hH hS => ?_)
                obtain ⟨hr1, hs9⟩ := hp
                rw [hs9] at hH
                rw [nI_I (by omega), chZ_nat] at hr1
                subst hr1
                refine m_lmulN hx hb dX2_append_112 ?_
                refine m_laddN hx hb dX2_append_113 ?_
                refine m_last hx hb hK hH hS (n := 61) (bt hC hpB (by omega)) (fun _ _ => rfl) (b + mm) (rfl) (by omega) (by decide) dX2_append_114 (fun H locs hH hS => ?_)
                refine lv_iinc (v := nI (mm + 1)) (lv' := [(10, .int (nI (mm + 1))), (0, .ref (B.1 50 pn)), (1, .int (nI sn)), (2, .int (a)), (3, .int (r)), (4, .ref (B.1 41 0)), (5, .int (nI (stN σ pn))), (6, .int (nI (tot σ pn (stN σ pn)))), (7, .int (nI b)), (8, .long (lN (opw σ pn (stN σ pn) b)))]) hx hb dX2_append_115 hl (k := 9) rfl (nI_1 _) (by decide) rfl (fun ls hl => ?_)
                refine lv_goto (tgt := 82) hx hb dX2_append_118 (by decide) ?_
                exact ih2 (mm + 1) (by omega) _ H locs (AP_put hJ rfl) hH hS ls (lv_sub hl [1, 2, 3, 4, 5, 6, 7, 8, 9, 0] rfl)
          exact loop2 (sn + 2) 0 (by omega) τ H locs hJ hH hS ls (lv_sub hl [2, 3, 4, 5, 6, 7, 8, 9, 1, 0] rfl)
    exact loop (tot σ pn (stN σ pn) + 2) 0 (by omega) _ H locs (AP_0 hZ hs3) hH hS ls (lv_sub hl [3, 4, 5, 6, 7, 2, 1, 0] rfl)
  · refine lv_iconst (v := nI 0) hx hb dX2_append_10 (by decide) ?_
    exact m_zret hx hb hr hlk hH hS dX2_append_11 (by first | exact Or.inl rfl | exact Or.inr rfl | exact bI_01 _) (by rw [c_7]; exact ⟨rfl, rfl⟩)
