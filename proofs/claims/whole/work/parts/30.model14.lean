set_option maxHeartbeats 4000000 in
set_option maxRecDepth 100000 in
theorem c_X7_needed (l : Launch) (G : gG) (B : gB) (σ : gS) (hM : BkM B) (hP : WfP σ) (hL : WfL σ) (x : Int32) : Met l yX7_needed [.code yX7_needed cX7_needed 8 (some .int)] ({ frames := 2, cells := 0, slots := 0, locals := 49 } : Room) (mPc G B σ [.ref (B.1 0 0), .int (x)]) (mQi G B (fun v τ => v = (if isLo σ x = true then ndA σ x.toNatClampNeg else -2) ∧ Sm σ τ)) 0 0 (mA G) := by
  refine m_start (by decide) (Nat.le_of_ble_eq_true rfl) ?_
  intro p e s m below meth c ⟨hx, hb, hr, hml, hown, hK, hlk, hz⟩ hH hS ls hl
  have hl : lv_has ls 8 [(0, .ref (B.1 0 0)), (1, .int (x))] := hl
  refine lv_aload_n hx hb dX7_needed_0 rfl (lv_at hl 0 rfl) ?_
  refine lv_iload_n hx hb dX7_needed_1 rfl (lv_at hl 1 rfl) ?_
  refine m_ki (m_runV (k := 0) (i := 0) (ci := 7) ⟨hx, hb, hml, hown, hz⟩ hK hH hS (bm hM 0) rfl rfl (c_X7_isLot l G B σ hM ⟨hL.1, hL.2.1⟩ x) mw_X7_isLot wl_X7_189 ⟨rfl, rfl⟩ ⟨by decide, by decide⟩ rfl hl.1 rfl (Nat.le_of_ble_eq_true rfl) dX7_needed_2 ⟨Nat.zero_le _, Nat.zero_le _⟩) hS (fun r_2 σ_2 H locs hp hH hS => ?_)
  obtain ⟨hr1, hs1⟩ := hp
  subst hr1
  rw [hs1] at hH
  refine m_ifneB (tgt := 11) hx hb dX7_needed_5 (by decide) (fun c_5 => ?_) (fun c_5 => ?_)
  · obtain ⟨qn, hqn, he⟩ := isLo_t c_5
    subst he
    have hl60 := hL.2.1
    have hL1 := hL.2.2 qn hqn
    have hJH := hL1.jh hP (by omega)
    have hb1 : (jq σ qn).1 ≤ 2 := jd_now σ qn (lPl σ qn) (lSn σ qn)
    have hsn60 := hL1.2.2.2.2.2.2.2.2.1
    refine lv_aload_n hx hb dX7_needed_11 rfl (lv_at hl 0 rfl) ?_
    refine lv_iload_n hx hb dX7_needed_12 rfl (lv_at hl 1 rfl) ?_
    refine m_kv (m_runV (k := 0) (i := 0) (ci := 7) ⟨hx, hb, hml, hown, hz⟩ hK hH hS (bm hM 0) rfl rfl (c_X7_judge l G B σ hM qn (lPl σ qn) (lSn σ qn) hJH) mw_X7_judge wl_X7_192 ⟨rfl, rfl⟩ ⟨by decide, by decide⟩ rfl hl.1 rfl (Nat.le_of_ble_eq_true rfl) dX7_needed_13 ⟨Nat.zero_le _, Nat.zero_le _⟩) hS (fun σ_13 H locs hp hH hS => ?_)
    have hp : JP σ σ_13 (jq σ qn) := hp
    have hs0 := hp.sm
    refine lv_aload_n hx hb dX7_needed_16 rfl (lv_at hl 0 rfl) ?_
    refine gf_X7_177 hx hb hown hK hH (bm hM 0) dX7_needed_17 ?_
    refine m_toi ((jq σ qn).1) (hp.2.2.1) ?_
    refine m_ifeqN (tgt := 25) (by omega) hx hb dX7_needed_20 (by decide) (fun c_20 => ?_) (fun c_20 => ?_)
    · have hop : (jd σ qn (lPl σ qn) (lSn σ qn)).1 = 0 := c_20
      have hP1 := hJH.2.2.1
      have hp24 := hJH.2.1
      obtain ⟨hv1, hv2⟩ := jd_inv (q := qn) hP1 hJH.2.2.2.1 hop
      have hv0 := jd_tot (q := qn) hP1 hJH.2.2.2.1 hop
      have hv1 : (jq σ qn).2.2.1 < stN σ (lPl σ qn) := hv1
      have hv2 : lSn σ qn < tot σ (lPl σ qn) ((jq σ qn).2.2.1 + 1) := hv2
      have hv0 : tot σ (lPl σ qn) ((jq σ qn).2.2.1) ≤ lSn σ qn := hv0
      have hs4 := hP1.2.1
      have hmi : (jq σ qn).2.2.2.1 = cnt (fun k => decide (itm σ qn k = 1)) (lSn σ qn) := jd_mi hop
      have hD60 : jD (jq σ qn) ≤ 80 := by
        have h9 := jd_mm σ qn (lPl σ qn) (lSn σ qn)
        have h9 : (jq σ qn).2.2.2.1 ≤ lSn σ qn ∧ (jq σ qn).2.2.2.2 ≤ lSn σ qn := h9
        unfold jD
        omega
      have hmi60 : (jq σ qn).2.2.2.1 ≤ 60 := Nat.le_trans (jd_mm σ qn (lPl σ qn) (lSn σ qn)).1 hsn60
      have htl := tot_le hP1 (Nat.le_refl _)
      have htm := tot_mono σ (lPl σ qn) (show (jq σ qn).2.2.1 + 1 ≤ stN σ (lPl σ qn) by omega)
      refine lv_aload_n hx hb dX7_needed_25 rfl (lv_at hl 0 rfl) ?_
      refine gf_X7_64 hx hb hown hK hH (bm hM 0) dX7_needed_26 ?_
      refine lv_iload_n hx hb dX7_needed_29 rfl (lv_at hl 1 rfl) ?_
      refine m_iald hx hb hK hH (n := 60) (bm hM 21) (fun _ _ => rfl) (qn) (rfl) (by omega) (by decide) dX7_needed_30 ?_
      refine m_toi (lPl σ qn) ((hs0.rd 21 0 qn rfl).trans hL1.2.2.2.2.1) ?_
      refine lv_istore_n (lv' := [(2, .int (nI (lPl σ qn))), (0, .ref (B.1 0 0)), (1, .int (nI qn))]) hx hb dX7_needed_31 rfl hl (by decide) rfl (fun ls hl => ?_)
      refine lv_iconst (v := nI 0) hx hb dX7_needed_32 (by decide) ?_
      refine lv_istore_n (lv' := [(3, .int (nI 0)), (2, .int (nI (lPl σ qn))), (0, .ref (B.1 0 0)), (1, .int (nI qn))]) hx hb dX7_needed_33 rfl hl (by decide) rfl (fun ls hl => ?_)
      refine lv_iconst (v := nI 0) hx hb dX7_needed_34 (by decide) ?_
      refine lv_istore (lv' := [(4, .int (nI 0)), (3, .int (nI 0)), (2, .int (nI (lPl σ qn))), (0, .ref (B.1 0 0)), (1, .int (nI qn))]) hx hb dX7_needed_35 hl (by decide) rfl (fun ls hl => ?_)
      have loopa : ∀ (za : Nat) (i : Nat), i ≤ lSn σ qn ∧ lSn σ qn < i + za → ∀ (H : Heap) (locs : List Loc), Hp G B σ_13 H → va_S (mA G) s.heap H locs → ∀ (ls : Array Slot), lv_has ls 8 [(0, .ref (B.1 0 0)), (1, .int (nI qn)), (2, .int (nI (lPl σ qn))), (3, .int (nI (cnt (fun k => decide (itm σ qn k = 1)) i))), (4, .int (nI i))] → W p l e ({ frames := 2, cells := 0, slots := 0, locals := 49 } : Room) s m ([.ref (B.1 0 0), .int ((nI qn))] : List Value).toArray below meth c H locs 0 0 (MQ below (mQi G B (fun v τ => v = (if isLo σ (nI qn) = true then ndA σ (nI qn).toNatClampNeg else -2) ∧ Sm σ τ)) ([.ref (B.1 0 0), .int ((nI qn))] : List Value).toArray s 0 0 (mA G)) (F0 m 37 ls []) := by
        intro za
        induction za with
        | zero => intro i hi; exfalso; omega
        | succ za iha =>
          intro i hi H locs hH hS ls hl
          refine lv_iload hx hb dX7_needed_37 (lv_at hl 4 rfl) ?_
          refine lv_aload_n hx hb dX7_needed_39 rfl (lv_at hl 0 rfl) ?_
          refine gf_X7_70 hx hb hown hK hH (bm hM 0) dX7_needed_40 ?_
          refine lv_iload_n hx hb dX7_needed_43 rfl (lv_at hl 1 rfl) ?_
          refine m_iald hx hb hK hH (n := 60) (bm hM 23) (fun _ _ => rfl) (qn) (rfl) (by omega) (by decide) dX7_needed_44 ?_
          refine m_toi (lSn σ qn) ((hs0.rd 23 0 qn rfl).trans hL1.2.2.2.2.2.2.2.1) ?_
          refine m_icmp_geN (tgt := 78) (by omega) (by omega) hx hb dX7_needed_45 (by decide) (fun c_45 => ?_) (fun c_45 => ?_)
          · have hi9 : i = lSn σ qn := by omega
            rw [hi9, ← hmi] at hl
            refine lv_iconst (v := nI 0) hx hb dX7_needed_78 (by decide) ?_
            refine lv_istore (lv' := [(4, .int (nI 0)), (0, .ref (B.1 0 0)), (1, .int (nI qn)), (2, .int (nI (lPl σ qn))), (3, .int (nI ((jq σ qn).2.2.2.1)))]) hx hb dX7_needed_79 hl (by decide) rfl (fun ls hl => ?_)
            have loopb : ∀ (zb : Nat) (i : Nat), i ≤ 210 ∧ 210 < i + zb → ∀ (τb : gS) (H : Heap) (locs : List Loc), NZ σ τb i ∧ τb.1 0 0 33 = nI (jD (jq σ qn)) ∧ τb.1 0 0 34 = nI (jq σ qn).2.2.1 → Hp G B τb H → va_S (mA G) s.heap H locs → ∀ (ls : Array Slot), lv_has ls 8 [(0, .ref (B.1 0 0)), (1, .int (nI qn)), (2, .int (nI (lPl σ qn))), (3, .int (nI ((jq σ qn).2.2.2.1))), (4, .int (nI i))] → W p l e ({ frames := 2, cells := 0, slots := 0, locals := 49 } : Room) s m ([.ref (B.1 0 0), .int ((nI qn))] : List Value).toArray below meth c H locs 0 0 (MQ below (mQi G B (fun v τ => v = (if isLo σ (nI qn) = true then ndA σ (nI qn).toNatClampNeg else -2) ∧ Sm σ τ)) ([.ref (B.1 0 0), .int ((nI qn))] : List Value).toArray s 0 0 (mA G)) (F0 m 81 ls []) := by
              intro zb
              induction zb with
              | zero => intro i hi; exfalso; omega
              | succ zb ihb =>
                intro i hi τb H locs hJ hH hS ls hl
                refine lv_iload hx hb dX7_needed_81 (lv_at hl 4 rfl) ?_
                refine lv_sipush (v := nI 210) hx hb dX7_needed_83 (by decide) ?_
                refine m_icmp_geN (tgt := 103) (by omega) (by omega) hx hb dX7_needed_86 (by decide) (fun c_86 => ?_) (fun c_86 => ?_)
                · have hi9 : i = 210 := by omega
                  subst hi9
                  have hk62 : 3 * jD (jq σ qn) + (jq σ qn).2.2.2.1 % 3 ≤ 242 := by omega
                  have hk0 : 3 * jD (jq σ qn) + (jq σ qn).2.2.2.1 % 3 < 183 := by
                    have h9 := nd_lt (q := qn) hP1 hJH.2.2.2.1 hop
                    have h9 : (jD (jq σ qn) : Int) < 61 := h9
                    omega
                  refine lv_aload_n hx hb dX7_needed_103 rfl (lv_at hl 0 rfl) ?_
                  refine gf_X7_85 hx hb hown hK hH (bm hM 0) dX7_needed_104 ?_
                  refine lv_iconst (v := nI 3) hx hb dX7_needed_107 (by decide) ?_
                  refine lv_aload_n hx hb dX7_needed_108 rfl (lv_at hl 0 rfl) ?_
                  refine gf_X7_183 hx hb hown hK hH (bm hM 0) dX7_needed_109 ?_
                  refine m_toi (jD (jq σ qn)) (hJ.2.1) ?_
                  refine m_imulN hx hb dX7_needed_112 ?_
                  refine lv_iload_n hx hb dX7_needed_113 rfl (lv_at hl 3 rfl) ?_
                  refine lv_iconst (v := nI 3) hx hb dX7_needed_114 (by decide) ?_
                  refine m_iremN (by omega) (by omega) (by omega) hx hb dX7_needed_115 ?_
                  refine m_iaddN hx hb dX7_needed_116 ?_
                  refine lv_iconst (v := nI 1) hx hb dX7_needed_117 (by decide) ?_
                  refine m_zast hx hb hK hH hS (n := 210) (bm hM 35) (fun _ _ => rfl) (3 * (jD (jq σ qn)) + (((jq σ qn).2.2.2.1) % 3)) (rfl) (by omega) (by decide) (rfl) dX7_needed_118 (fun H locs hH hS => ?_)
                  have hNC := NZ_C (k0 := 3 * jD (jq σ qn) + (jq σ qn).2.2.2.1 % 3) hJ.1
                  refine lv_aload_n hx hb dX7_needed_119 rfl (lv_at hl 0 rfl) ?_
                  refine gf_X7_186 hx hb hown hK hH (bm hM 0) dX7_needed_120 ?_
                  refine m_toi ((jq σ qn).2.2.1) (by rw [sI_at, if_neg (by omega)]; exact hJ.2.2) ?_
                  refine lv_istore (lv' := [(4, .int (nI ((jq σ qn).2.2.1))), (0, .ref (B.1 0 0)), (1, .int (nI qn)), (2, .int (nI (lPl σ qn))), (3, .int (nI ((jq σ qn).2.2.2.1)))]) hx hb dX7_needed_123 hl (by decide) rfl (fun ls hl => ?_)
                  refine lv_iconst (v := nI 1) hx hb dX7_needed_125 (by decide) ?_
                  refine lv_istore (lv' := [(5, .int (nI 1)), (4, .int (nI ((jq σ qn).2.2.1))), (0, .ref (B.1 0 0)), (1, .int (nI qn)), (2, .int (nI (lPl σ qn))), (3, .int (nI ((jq σ qn).2.2.2.1)))]) hx hb dX7_needed_126 hl (by decide) rfl (fun ls hl => ?_)
                  have loopc : ∀ (zc : Nat) (j : Nat), j < 60 ∧ lSn σ qn + j < tot σ (lPl σ qn) (stN σ (lPl σ qn)) ∧ 3 * jD (jq σ qn) + (jq σ qn).2.2.2.1 % 3 + 3 * j < 183 ∧ fnd (ndH σ (lPl σ qn) (lSn σ qn) ((jq σ qn).2.2.1) (jD (jq σ qn))) j = none ∧ 60 < j + zc → ∀ (τ : gS) (H : Heap) (locs : List Loc), NC σ τ (3 * jD (jq σ qn) + (jq σ qn).2.2.2.1 % 3) j → Hp G B τ H → va_S (mA G) s.heap H locs → ∀ (ls : Array Slot), lv_has ls 8 [(0, .ref (B.1 0 0)), (1, .int (nI qn)), (2, .int (nI (lPl σ qn))), (3, .int (nI ((jq σ qn).2.2.2.1))), (4, .int (nI (ns σ (lPl σ qn) (lSn σ qn) ((jq σ qn).2.2.1) j))), (5, .int (nI (j + 1)))] → W p l e ({ frames := 2, cells := 0, slots := 0, locals := 49 } : Room) s m ([.ref (B.1 0 0), .int ((nI qn))] : List Value).toArray below meth c H locs 0 0 (MQ below (mQi G B (fun v τ => v = (if isLo σ (nI qn) = true then ndA σ (nI qn).toNatClampNeg else -2) ∧ Sm σ τ)) ([.ref (B.1 0 0), .int ((nI qn))] : List Value).toArray s 0 0 (mA G)) (F0 m 128 ls []) := by
                    intro zc
                    induction zc with
                    | zero => intro j hh; exfalso; omega
                    | succ zc ihc =>
                      intro j hh τ H locs hJ hH hS ls hl
                      refine lv_iload hx hb dX7_needed_128 (lv_at hl 5 rfl) ?_
                      refine lv_bipush (v := nI 60) hx hb dX7_needed_130 (by decide) ?_
                      refine m_icmp_gtN (tgt := 360) (by omega) (by omega) hx hb dX7_needed_132 (by decide) (fun c_132 => ?_) (fun c_132 => ?_)
                      · exact absurd c_132 (by omega)
                      · obtain ⟨hi1, hi2, hi3⟩ := ns_inv (sn := lSn σ qn) hP1 hv1 hv0 hv2 (j := j) (by omega)
                        have hend := tot_le hP1 (show ns σ (lPl σ qn) (lSn σ qn) ((jq σ qn).2.2.1) j + 1 ≤ stN σ (lPl σ qn) by omega)
                        refine lv_iconst (v := nI 0) hx hb dX7_needed_135 (by decide) ?_
                        refine lv_istore (lv' := [(6, .int (nI 0)), (0, .ref (B.1 0 0)), (1, .int (nI qn)), (2, .int (nI (lPl σ qn))), (3, .int (nI ((jq σ qn).2.2.2.1))), (4, .int (nI (ns σ (lPl σ qn) (lSn σ qn) ((jq σ qn).2.2.1) j))), (5, .int (nI (j + 1)))]) hx hb dX7_needed_136 hl (by decide) rfl (fun ls hl => ?_)
                        have loopd : ∀ (zd : Nat) (i : Nat), i ≤ 210 ∧ 210 < i + zd → ∀ (τd : gS) (H : Heap) (locs : List Loc), CP σ τd (τ.1 35 0) i → Hp G B τd H → va_S (mA G) s.heap H locs → ∀ (ls : Array Slot), lv_has ls 8 [(0, .ref (B.1 0 0)), (1, .int (nI qn)), (2, .int (nI (lPl σ qn))), (3, .int (nI ((jq σ qn).2.2.2.1))), (4, .int (nI (ns σ (lPl σ qn) (lSn σ qn) ((jq σ qn).2.2.1) j))), (5, .int (nI (j + 1))), (6, .int (nI i))] → W p l e ({ frames := 2, cells := 0, slots := 0, locals := 49 } : Room) s m ([.ref (B.1 0 0), .int ((nI qn))] : List Value).toArray below meth c H locs 0 0 (MQ below (mQi G B (fun v τ => v = (if isLo σ (nI qn) = true then ndA σ (nI qn).toNatClampNeg else -2) ∧ Sm σ τ)) ([.ref (B.1 0 0), .int ((nI qn))] : List Value).toArray s 0 0 (mA G)) (F0 m 138 ls []) := by
                          intro zd
                          induction zd with
                          | zero => intro i hi; exfalso; omega
                          | succ zd ihd =>
                            intro i hi τd H locs hJd hH hS ls hl
                            refine lv_iload hx hb dX7_needed_138 (lv_at hl 6 rfl) ?_
                            refine lv_sipush (v := nI 210) hx hb dX7_needed_140 (by decide) ?_
                            refine m_icmp_geN (tgt := 166) (by omega) (by omega) hx hb dX7_needed_143 (by decide) (fun c_143 => ?_) (fun c_143 => ?_)
                            · have hi9 : i = 210 := by omega
                              subst hi9
                              refine lv_iconst (v := nI 0) hx hb dX7_needed_166 (by decide) ?_
                              refine lv_istore (lv' := [(6, .int (nI 0)), (0, .ref (B.1 0 0)), (1, .int (nI qn)), (2, .int (nI (lPl σ qn))), (3, .int (nI ((jq σ qn).2.2.2.1))), (4, .int (nI (ns σ (lPl σ qn) (lSn σ qn) ((jq σ qn).2.2.1) j))), (5, .int (nI (j + 1)))]) hx hb dX7_needed_167 hl (by decide) rfl (fun ls hl => ?_)
                              have loope : ∀ (ze : Nat) (i : Nat), i ≤ 210 ∧ 210 < i + ze → ∀ (τe : gS) (H : Heap) (locs : List Loc), CW σ τe (τ.1 35 0) i → Hp G B τe H → va_S (mA G) s.heap H locs → ∀ (ls : Array Slot), lv_has ls 8 [(0, .ref (B.1 0 0)), (1, .int (nI qn)), (2, .int (nI (lPl σ qn))), (3, .int (nI ((jq σ qn).2.2.2.1))), (4, .int (nI (ns σ (lPl σ qn) (lSn σ qn) ((jq σ qn).2.2.1) j))), (5, .int (nI (j + 1))), (6, .int (nI i))] → W p l e ({ frames := 2, cells := 0, slots := 0, locals := 49 } : Room) s m ([.ref (B.1 0 0), .int ((nI qn))] : List Value).toArray below meth c H locs 0 0 (MQ below (mQi G B (fun v τ => v = (if isLo σ (nI qn) = true then ndA σ (nI qn).toNatClampNeg else -2) ∧ Sm σ τ)) ([.ref (B.1 0 0), .int ((nI qn))] : List Value).toArray s 0 0 (mA G)) (F0 m 169 ls []) := by
                                intro ze
                                induction ze with
                                | zero => intro i hi; exfalso; omega
                                | succ ze ihe =>
                                  intro i hi τe H locs hJe hH hS ls hl
                                  refine lv_iload hx hb dX7_needed_169 (lv_at hl 6 rfl) ?_
                                  refine lv_sipush (v := nI 210) hx hb dX7_needed_171 (by decide) ?_
                                  refine m_icmp_geN (tgt := 191) (by omega) (by omega) hx hb dX7_needed_174 (by decide) (fun c_174 => ?_) (fun c_174 => ?_)
                                  · have hi9 : i = 210 := by omega
                                    subst hi9
                                    refine lv_iconst (v := nI 0) hx hb dX7_needed_191 (by decide) ?_
                                    refine lv_istore (lv' := [(6, .int (nI 0)), (0, .ref (B.1 0 0)), (1, .int (nI qn)), (2, .int (nI (lPl σ qn))), (3, .int (nI ((jq σ qn).2.2.2.1))), (4, .int (nI (ns σ (lPl σ qn) (lSn σ qn) ((jq σ qn).2.2.1) j))), (5, .int (nI (j + 1)))]) hx hb dX7_needed_192 hl (by decide) rfl (fun ls hl => ?_)
                                    have loopf : ∀ (zf : Nat) (i : Nat), i ≤ 200 ∧ 200 < i + zf → ∀ (τf : gS) (H : Heap) (locs : List Loc), CX σ τf (τ.1 35 0) i → Hp G B τf H → va_S (mA G) s.heap H locs → ∀ (ls : Array Slot), lv_has ls 8 [(0, .ref (B.1 0 0)), (1, .int (nI qn)), (2, .int (nI (lPl σ qn))), (3, .int (nI ((jq σ qn).2.2.2.1))), (4, .int (nI (ns σ (lPl σ qn) (lSn σ qn) ((jq σ qn).2.2.1) j))), (5, .int (nI (j + 1))), (6, .int (nI i))] → W p l e ({ frames := 2, cells := 0, slots := 0, locals := 49 } : Room) s m ([.ref (B.1 0 0), .int ((nI qn))] : List Value).toArray below meth c H locs 0 0 (MQ below (mQi G B (fun v τ => v = (if isLo σ (nI qn) = true then ndA σ (nI qn).toNatClampNeg else -2) ∧ Sm σ τ)) ([.ref (B.1 0 0), .int ((nI qn))] : List Value).toArray s 0 0 (mA G)) (F0 m 194 ls []) := by
                                      intro zf
                                      induction zf with
                                      | zero => intro i hi; exfalso; omega
                                      | succ zf ihf =>
                                        intro i hi τf H locs hJf hH hS ls hl
                                        refine lv_iload hx hb dX7_needed_194 (lv_at hl 6 rfl) ?_
                                        refine lv_sipush (v := nI 200) hx hb dX7_needed_196 (by decide) ?_
                                        refine m_icmp_geN (tgt := 249) (by omega) (by omega) hx hb dX7_needed_199 (by decide) (fun c_199 => ?_) (fun c_199 => ?_)
                                        · have hi9 : i = 200 := by omega
                                          subst hi9
                                          have hN2 := CX_C hJ hJf (by omega)
                                          have hsf := hN2.1
                                          refine lv_aload_n hx hb dX7_needed_249 rfl (lv_at hl 0 rfl) ?_
                                          refine gf_X7_70 hx hb hown hK hH (bm hM 0) dX7_needed_250 ?_
                                          refine lv_iload_n hx hb dX7_needed_253 rfl (lv_at hl 1 rfl) ?_
                                          refine m_iald hx hb hK hH (n := 60) (bm hM 23) (fun _ _ => rfl) (qn) (rfl) (by omega) (by decide) dX7_needed_254 ?_
                                          refine m_toi (lSn σ qn) ((hsf.rd 23 0 qn rfl).trans hL1.2.2.2.2.2.2.2.1) ?_
                                          refine lv_iload hx hb dX7_needed_255 (lv_at hl 5 rfl) ?_
                                          refine m_iaddN hx hb dX7_needed_257 ?_
                                          refine lv_aload_n hx hb dX7_needed_258 rfl (lv_at hl 0 rfl) ?_
                                          refine lv_iload_n hx hb dX7_needed_259 rfl (lv_at hl 2 rfl) ?_
                                          refine lv_iload hx hb dX7_needed_260 (lv_at hl 4 rfl) ?_
                                          refine m_toe (nI (ns σ (lPl σ qn) (lSn σ qn) ((jq σ qn).2.2.1) j + 1) - 1) (by rw [nI_pred]) ?_
                                          refine m_ki (m_runV (k := 0) (i := 0) (ci := 7) ⟨hx, hb, hml, hown, hz⟩ hK hH hS (bm hM 0) rfl rfl (c_X7_upTo l G B τf hM (lPl σ qn) (ns σ (lPl σ qn) (lSn σ qn) ((jq σ qn).2.2.1) j + 1) hp24 (hsf.eqP.wf hP1) (by rw [hsf.eqP.st]; omega)) mw_X7_upTo wl_X7_103 ⟨rfl, rfl⟩ ⟨by decide, by decide⟩ rfl hl.1 rfl (Nat.le_of_ble_eq_true rfl) dX7_needed_262 ⟨Nat.zero_le _, Nat.zero_le _⟩) hS (fun r_262 σ_262 H locs hp hH hS => ?_)
                                          obtain ⟨hr1, hs1⟩ := hp
                                          rw [hs1] at hH
                                          rw [hsf.eqP.to] at hr1
                                          subst hr1
                                          have J_265 : ∀ (ls : Array Slot), lv_has ls 8 [(0, .ref (B.1 0 0)), (1, .int (nI qn)), (2, .int (nI (lPl σ qn))), (3, .int (nI ((jq σ qn).2.2.2.1))), (4, .int (nI (ns σ (lPl σ qn) (lSn σ qn) ((jq σ qn).2.2.1) j))), (5, .int (nI (j + 1))), (6, .int (nI 200))] → W p l e ({ frames := 2, cells := 0, slots := 0, locals := 49 } : Room) s m ([.ref (B.1 0 0), .int ((nI qn))] : List Value).toArray below meth c H locs 0 0 (MQ below (mQi G B (fun v τ => v = (if isLo σ (nI qn) = true then ndA σ (nI qn).toNatClampNeg else -2) ∧ Sm σ τ)) ([.ref (B.1 0 0), .int ((nI qn))] : List Value).toArray s 0 0 (mA G)) (F0 m 273 ls [.int (bI (decide (lSn σ qn + (j + 1) = tot σ (lPl σ qn) (ns σ (lPl σ qn) (lSn σ qn) ((jq σ qn).2.2.1) j + 1))))]) := by
                                            intro ls hl
                                            refine lv_istore (lv' := [(6, .int (bI (decide (lSn σ qn + (j + 1) = tot σ (lPl σ qn) (ns σ (lPl σ qn) (lSn σ qn) ((jq σ qn).2.2.1) j + 1))))), (0, .ref (B.1 0 0)), (1, .int (nI qn)), (2, .int (nI (lPl σ qn))), (3, .int (nI ((jq σ qn).2.2.2.1))), (4, .int (nI (ns σ (lPl σ qn) (lSn σ qn) ((jq σ qn).2.2.1) j))), (5, .int (nI (j + 1)))]) hx hb dX7_needed_273 hl (by decide) rfl (fun ls hl => ?_)
                                            refine lv_iconst (v := nI 0) hx hb dX7_needed_275 (by decide) ?_
                                            refine lv_istore (lv' := [(7, .int (nI 0)), (6, .int (bI (decide (lSn σ qn + (j + 1) = tot σ (lPl σ qn) (ns σ (lPl σ qn) (lSn σ qn) ((jq σ qn).2.2.1) j + 1))))), (0, .ref (B.1 0 0)), (1, .int (nI qn)), (2, .int (nI (lPl σ qn))), (3, .int (nI ((jq σ qn).2.2.2.1))), (4, .int (nI (ns σ (lPl σ qn) (lSn σ qn) ((jq σ qn).2.2.1) j))), (5, .int (nI (j + 1)))]) hx hb dX7_needed_276 hl (by decide) rfl (fun ls hl => ?_)
                                            have loopg : ∀ (zg : Nat) (i : Nat), i ≤ 210 ∧ 210 < i + zg ∧ (∀ k, k < i → τf.1 35 0 k = 1 → ¬ (rfI σ (lPl σ qn) (ns σ (lPl σ qn) (lSn σ qn) ((jq σ qn).2.2.1) j) ≤ ((k / 3 : Nat) : Int)) ∧ (decide (lSn σ qn + (j + 1) = tot σ (lPl σ qn) (ns σ (lPl σ qn) (lSn σ qn) ((jq σ qn).2.2.1) j + 1)) = true → ¬ (((k / 3 : Nat) : Int) ≤ acI σ (lPl σ qn) (ns σ (lPl σ qn) (lSn σ qn) ((jq σ qn).2.2.1) j)))) → ∀ (H : Heap) (locs : List Loc), Hp G B τf H → va_S (mA G) s.heap H locs → ∀ (ls : Array Slot), lv_has ls 8 [(0, .ref (B.1 0 0)), (1, .int (nI qn)), (2, .int (nI (lPl σ qn))), (3, .int (nI ((jq σ qn).2.2.2.1))), (4, .int (nI (ns σ (lPl σ qn) (lSn σ qn) ((jq σ qn).2.2.1) j))), (5, .int (nI (j + 1))), (6, .int (bI (decide (lSn σ qn + (j + 1) = tot σ (lPl σ qn) (ns σ (lPl σ qn) (lSn σ qn) ((jq σ qn).2.2.1) j + 1))))), (7, .int (nI i))] → W p l e ({ frames := 2, cells := 0, slots := 0, locals := 49 } : Room) s m ([.ref (B.1 0 0), .int ((nI qn))] : List Value).toArray below meth c H locs 0 0 (MQ below (mQi G B (fun v τ => v = (if isLo σ (nI qn) = true then ndA σ (nI qn).toNatClampNeg else -2) ∧ Sm σ τ)) ([.ref (B.1 0 0), .int ((nI qn))] : List Value).toArray s 0 0 (mA G)) (F0 m 278 ls []) := by
                                              intro zg
                                              induction zg with
                                              | zero => intro i hhg; exfalso; omega
                                              | succ zg ihg =>
                                                intro i hhg H locs hH hS ls hl
                                                refine lv_iload hx hb dX7_needed_278 (lv_at hl 7 rfl) ?_
                                                refine lv_sipush (v := nI 210) hx hb dX7_needed_280 (by decide) ?_
                                                refine m_icmp_geN (tgt := 346) (by omega) (by omega) hx hb dX7_needed_283 (by decide) (fun c_283 => ?_) (fun c_283 => ?_)
                                                · have hi9 : i = 210 := by omega
                                                  subst hi9
                                                  have hno : ndH σ (lPl σ qn) (lSn σ qn) ((jq σ qn).2.2.1) (jD (jq σ qn)) j = false := nd_none hN2 (by omega) (fun k hk => hhg.2.2 k hk)
                                                  refine lv_iload hx hb dX7_needed_346 (lv_at hl 6 rfl) ?_
                                                  refine m_ifeqB (tgt := 354) hx hb dX7_needed_348 (by decide) (fun c_348 => ?_) (fun c_348 => ?_)
                                                  · refine lv_iinc (v := nI (j + 1 + 1)) (lv' := [(5, .int (nI (j + 1 + 1))), (0, .ref (B.1 0 0)), (1, .int (nI qn)), (2, .int (nI (lPl σ qn))), (3, .int (nI ((jq σ qn).2.2.2.1))), (4, .int (nI (ns σ (lPl σ qn) (lSn σ qn) ((jq σ qn).2.2.1) j))), (6, .int (bI (decide (lSn σ qn + (j + 1) = tot σ (lPl σ qn) (ns σ (lPl σ qn) (lSn σ qn) ((jq σ qn).2.2.1) j + 1))))), (7, .int (nI 210))]) hx hb dX7_needed_354 hl (k := 5) rfl (nI_1 _) (by decide) rfl (fun ls hl => ?_)
                                                    refine lv_goto (tgt := 128) hx hb dX7_needed_357 (by decide) ?_
                                                    exact ihc (j + 1) ⟨by have h9 := nd_more hP1 hJH.2.2.2.1 hv1 hv0 hv2 hh.2.1 hno; omega, nd_more hP1 hJH.2.2.2.1 hv1 hv0 hv2 hh.2.1 hno, by have h9 := nd_k hP1 hi1 hno; omega, fnd_miss hh.2.2.2.1 hno, by omega⟩ _ H locs hN2 hH hS ls (by rw [show ns σ (lPl σ qn) (lSn σ qn) ((jq σ qn).2.2.1) (j + 1) = ns σ (lPl σ qn) (lSn σ qn) ((jq σ qn).2.2.1) j from if_neg (of_decide_eq_false c_348)]; exact lv_sub hl [1, 2, 3, 4, 5, 0] rfl)
                                                  · refine lv_iinc (v := nI (ns σ (lPl σ qn) (lSn σ qn) ((jq σ qn).2.2.1) j + 1)) (lv' := [(4, .int (nI (ns σ (lPl σ qn) (lSn σ qn) ((jq σ qn).2.2.1) j + 1))), (0, .ref (B.1 0 0)), (1, .int (nI qn)), (2, .int (nI (lPl σ qn))), (3, .int (nI ((jq σ qn).2.2.2.1))), (5, .int (nI (j + 1))), (6, .int (bI (decide (lSn σ qn + (j + 1) = tot σ (lPl σ qn) (ns σ (lPl σ qn) (lSn σ qn) ((jq σ qn).2.2.1) j + 1))))), (7, .int (nI 210))]) hx hb dX7_needed_351 hl (k := 4) rfl (nI_1 _) (by decide) rfl (fun ls hl => ?_)
                                                    refine lv_iinc (v := nI (j + 1 + 1)) (lv' := [(5, .int (nI (j + 1 + 1))), (4, .int (nI (ns σ (lPl σ qn) (lSn σ qn) ((jq σ qn).2.2.1) j + 1))), (0, .ref (B.1 0 0)), (1, .int (nI qn)), (2, .int (nI (lPl σ qn))), (3, .int (nI ((jq σ qn).2.2.2.1))), (6, .int (bI (decide (lSn σ qn + (j + 1) = tot σ (lPl σ qn) (ns σ (lPl σ qn) (lSn σ qn) ((jq σ qn).2.2.1) j + 1))))), (7, .int (nI 210))]) hx hb dX7_needed_354 hl (k := 5) rfl (nI_1 _) (by decide) rfl (fun ls hl => ?_)
                                                    refine lv_goto (tgt := 128) hx hb dX7_needed_357 (by decide) ?_
                                                    exact ihc (j + 1) ⟨by have h9 := nd_more hP1 hJH.2.2.2.1 hv1 hv0 hv2 hh.2.1 hno; omega, nd_more hP1 hJH.2.2.2.1 hv1 hv0 hv2 hh.2.1 hno, by have h9 := nd_k hP1 hi1 hno; omega, fnd_miss hh.2.2.2.1 hno, by omega⟩ _ H locs hN2 hH hS ls (by rw [show ns σ (lPl σ qn) (lSn σ qn) ((jq σ qn).2.2.1) (j + 1) = ns σ (lPl σ qn) (lSn σ qn) ((jq σ qn).2.2.1) j + 1 from if_pos (of_decide_eq_true c_348)]; exact lv_sub hl [2, 3, 4, 5, 1, 0] rfl)
                                                · refine lv_aload_n hx hb dX7_needed_286 rfl (lv_at hl 0 rfl) ?_
                                                  refine gf_X7_85 hx hb hown hK hH (bm hM 0) dX7_needed_287 ?_
                                                  refine lv_iload hx hb dX7_needed_290 (lv_at hl 7 rfl) ?_
                                                  refine m_zald hx hb hK hH (n := 210) (bm hM 35) (fun _ _ => rfl) (i) (rfl) (by omega) (by decide) dX7_needed_292 ?_
                                                  refine lv_if_eq (tgt := 340) hx hb dX7_needed_293 (by decide) (fun c_293 => ?_) (fun c_293 => ?_)
                                                  · refine lv_iinc (v := nI (i + 1)) (lv' := [(7, .int (nI (i + 1))), (0, .ref (B.1 0 0)), (1, .int (nI qn)), (2, .int (nI (lPl σ qn))), (3, .int (nI ((jq σ qn).2.2.2.1))), (4, .int (nI (ns σ (lPl σ qn) (lSn σ qn) ((jq σ qn).2.2.1) j))), (5, .int (nI (j + 1))), (6, .int (bI (decide (lSn σ qn + (j + 1) = tot σ (lPl σ qn) (ns σ (lPl σ qn) (lSn σ qn) ((jq σ qn).2.2.1) j + 1)))))]) hx hb dX7_needed_340 hl (k := 7) rfl (nI_1 _) (by decide) rfl (fun ls hl => ?_)
                                                    refine lv_goto (tgt := 278) hx hb dX7_needed_343 (by decide) ?_
                                                    have hnx : ∀ k, k < i + 1 → τf.1 35 0 k = 1 → ¬ (rfI σ (lPl σ qn) (ns σ (lPl σ qn) (lSn σ qn) ((jq σ qn).2.2.1) j) ≤ ((k / 3 : Nat) : Int)) ∧ (decide (lSn σ qn + (j + 1) = tot σ (lPl σ qn) (ns σ (lPl σ qn) (lSn σ qn) ((jq σ qn).2.2.1) j + 1)) = true → ¬ (((k / 3 : Nat) : Int) ≤ acI σ (lPl σ qn) (ns σ (lPl σ qn) (lSn σ qn) ((jq σ qn).2.2.1) j))) := by
                                                      intro k hk hk1
                                                      rcases Nat.lt_or_ge k i with z | z
                                                      · exact hhg.2.2 k z hk1
                                                      · have hki : k = i := by omega
                                                        rw [hki] at hk1 ⊢
                                                        first | exact absurd (c_293.symm.trans hk1) (by decide) | exact ⟨by rw [i_le, nI_I (by omega)] at c_311; unfold rfI; omega, fun hE => by rw [c_316] at hE; exact absurd hE (by decide)⟩ | exact ⟨by rw [i_le, nI_I (by omega)] at c_311; unfold rfI; omega, fun _ => by rw [i_lt, nI_I (by omega)] at c_334; unfold acI; omega⟩
                                                    exact ihg (i + 1) ⟨by omega, by omega, hnx⟩ H locs hH hS ls (lv_sub hl [1, 2, 3, 4, 5, 6, 7, 0] rfl)
                                                  · have hc1 := b01_1 (hN2.2.1 i (by omega)) c_293
                                                    have hkr := hN2.2.2.1 i (by omega) hc1
                                                    refine lv_iload hx hb dX7_needed_296 (lv_at hl 7 rfl) ?_
                                                    refine lv_iconst (v := nI 3) hx hb dX7_needed_298 (by decide) ?_
                                                    refine m_idivN (by omega) (by omega) (by omega) hx hb dX7_needed_299 ?_
                                                    refine lv_aload_n hx hb dX7_needed_300 rfl (lv_at hl 0 rfl) ?_
                                                    refine gf_X7_19 hx hb hown hK hH (bm hM 0) dX7_needed_301 ?_
                                                    refine lv_iconst (v := nI 4) hx hb dX7_needed_304 (by decide) ?_
                                                    refine lv_iload_n hx hb dX7_needed_305 rfl (lv_at hl 2 rfl) ?_
                                                    refine m_imulN hx hb dX7_needed_306 ?_
                                                    refine lv_iload hx hb dX7_needed_307 (lv_at hl 4 rfl) ?_
                                                    refine m_iaddN hx hb dX7_needed_309 ?_
                                                    refine m_iald hx hb hK hH (n := 96) (bm hM 6) (fun _ _ => rfl) (4 * (lPl σ qn) + (ns σ (lPl σ qn) (lSn σ qn) ((jq σ qn).2.2.1) j)) (rfl) (by omega) (by decide) dX7_needed_310 ?_
                                                    refine m_toe (σ.1 6 0 (4 * lPl σ qn + ns σ (lPl σ qn) (lSn σ qn) ((jq σ qn).2.2.1) j)) (hsf.rd 6 0 _ rfl) ?_
                                                    refine lv_icmp_ge (tgt := 337) hx hb dX7_needed_311 (by decide) (fun c_311 => ?_) (fun c_311 => ?_)
                                                    · refine lv_iload hx hb dX7_needed_337 (lv_at hl 5 rfl) ?_
                                                      exact m_iret hx hb hr hlk hH hS dX7_needed_339 (⟨by rw [if_pos c_5, nI_clamp (by omega)]; exact (nd_hit c_20 hh.2.2.2.1 (by omega) (by unfold ndH; first | (rw [decide_eq_true (show rfI σ (lPl σ qn) (ns σ (lPl σ qn) (lSn σ qn) ((jq σ qn).2.2.1) j) ≤ ((jD (jq σ qn) + (j + 1) : Nat) : Int) by rw [i_le, nI_I (by omega)] at c_311; unfold rfI; omega)]; rfl) | (rw [c_316, decide_eq_true (show ((jD (jq σ qn) : Nat) : Int) ≤ acI σ (lPl σ qn) (ns σ (lPl σ qn) (lSn σ qn) ((jq σ qn).2.2.1) j) by rw [i_lt, nI_I (by omega)] at c_334; unfold acI; omega)]; simp))).symm, hsf⟩)
                                                    · refine lv_iload hx hb dX7_needed_314 (lv_at hl 6 rfl) ?_
                                                      refine m_ifeqB (tgt := 340) hx hb dX7_needed_316 (by decide) (fun c_316 => ?_) (fun c_316 => ?_)
                                                      · refine lv_iinc (v := nI (i + 1)) (lv' := [(7, .int (nI (i + 1))), (0, .ref (B.1 0 0)), (1, .int (nI qn)), (2, .int (nI (lPl σ qn))), (3, .int (nI ((jq σ qn).2.2.2.1))), (4, .int (nI (ns σ (lPl σ qn) (lSn σ qn) ((jq σ qn).2.2.1) j))), (5, .int (nI (j + 1))), (6, .int (bI (decide (lSn σ qn + (j + 1) = tot σ (lPl σ qn) (ns σ (lPl σ qn) (lSn σ qn) ((jq σ qn).2.2.1) j + 1)))))]) hx hb dX7_needed_340 hl (k := 7) rfl (nI_1 _) (by decide) rfl (fun ls hl => ?_)
                                                        refine lv_goto (tgt := 278) hx hb dX7_needed_343 (by decide) ?_
                                                        have hnx : ∀ k, k < i + 1 → τf.1 35 0 k = 1 → ¬ (rfI σ (lPl σ qn) (ns σ (lPl σ qn) (lSn σ qn) ((jq σ qn).2.2.1) j) ≤ ((k / 3 : Nat) : Int)) ∧ (decide (lSn σ qn + (j + 1) = tot σ (lPl σ qn) (ns σ (lPl σ qn) (lSn σ qn) ((jq σ qn).2.2.1) j + 1)) = true → ¬ (((k / 3 : Nat) : Int) ≤ acI σ (lPl σ qn) (ns σ (lPl σ qn) (lSn σ qn) ((jq σ qn).2.2.1) j))) := by
                                                          intro k hk hk1
                                                          rcases Nat.lt_or_ge k i with z | z
                                                          · exact hhg.2.2 k z hk1
                                                          · have hki : k = i := by omega
                                                            rw [hki] at hk1 ⊢
                                                            first | exact absurd (c_293.symm.trans hk1) (by decide) | exact ⟨by rw [i_le, nI_I (by omega)] at c_311; unfold rfI; omega, fun hE => by rw [c_316] at hE; exact absurd hE (by decide)⟩ | exact ⟨by rw [i_le, nI_I (by omega)] at c_311; unfold rfI; omega, fun _ => by rw [i_lt, nI_I (by omega)] at c_334; unfold acI; omega⟩
                                                        exact ihg (i + 1) ⟨by omega, by omega, hnx⟩ H locs hH hS ls (lv_sub hl [1, 2, 3, 4, 5, 6, 7, 0] rfl)
                                                      · refine lv_iload hx hb dX7_needed_319 (lv_at hl 7 rfl) ?_
                                                        refine lv_iconst (v := nI 3) hx hb dX7_needed_321 (by decide) ?_
                                                        refine m_idivN (by omega) (by omega) (by omega) hx hb dX7_needed_322 ?_
                                                        refine lv_aload_n hx hb dX7_needed_323 rfl (lv_at hl 0 rfl) ?_
                                                        refine gf_X7_16 hx hb hown hK hH (bm hM 0) dX7_needed_324 ?_
                                                        refine lv_iconst (v := nI 4) hx hb dX7_needed_327 (by decide) ?_
                                                        refine lv_iload_n hx hb dX7_needed_328 rfl (lv_at hl 2 rfl) ?_
                                                        refine m_imulN hx hb dX7_needed_329 ?_
                                                        refine lv_iload hx hb dX7_needed_330 (lv_at hl 4 rfl) ?_
                                                        refine m_iaddN hx hb dX7_needed_332 ?_
                                                        refine m_iald hx hb hK hH (n := 96) (bm hM 5) (fun _ _ => rfl) (4 * (lPl σ qn) + (ns σ (lPl σ qn) (lSn σ qn) ((jq σ qn).2.2.1) j)) (rfl) (by omega) (by decide) dX7_needed_333 ?_
                                                        refine m_toe (σ.1 5 0 (4 * lPl σ qn + ns σ (lPl σ qn) (lSn σ qn) ((jq σ qn).2.2.1) j)) (hsf.rd 5 0 _ rfl) ?_
                                                        refine lv_icmp_gt (tgt := 340) hx hb dX7_needed_334 (by decide) (fun c_334 => ?_) (fun c_334 => ?_)
                                                        · refine lv_iinc (v := nI (i + 1)) (lv' := [(7, .int (nI (i + 1))), (0, .ref (B.1 0 0)), (1, .int (nI qn)), (2, .int (nI (lPl σ qn))), (3, .int (nI ((jq σ qn).2.2.2.1))), (4, .int (nI (ns σ (lPl σ qn) (lSn σ qn) ((jq σ qn).2.2.1) j))), (5, .int (nI (j + 1))), (6, .int (bI (decide (lSn σ qn + (j + 1) = tot σ (lPl σ qn) (ns σ (lPl σ qn) (lSn σ qn) ((jq σ qn).2.2.1) j + 1)))))]) hx hb dX7_needed_340 hl (k := 7) rfl (nI_1 _) (by decide) rfl (fun ls hl => ?_)
                                                          refine lv_goto (tgt := 278) hx hb dX7_needed_343 (by decide) ?_
                                                          have hnx : ∀ k, k < i + 1 → τf.1 35 0 k = 1 → ¬ (rfI σ (lPl σ qn) (ns σ (lPl σ qn) (lSn σ qn) ((jq σ qn).2.2.1) j) ≤ ((k / 3 : Nat) : Int)) ∧ (decide (lSn σ qn + (j + 1) = tot σ (lPl σ qn) (ns σ (lPl σ qn) (lSn σ qn) ((jq σ qn).2.2.1) j + 1)) = true → ¬ (((k / 3 : Nat) : Int) ≤ acI σ (lPl σ qn) (ns σ (lPl σ qn) (lSn σ qn) ((jq σ qn).2.2.1) j))) := by
                                                            intro k hk hk1
                                                            rcases Nat.lt_or_ge k i with z | z
                                                            · exact hhg.2.2 k z hk1
                                                            · have hki : k = i := by omega
                                                              rw [hki] at hk1 ⊢
                                                              first | exact absurd (c_293.symm.trans hk1) (by decide) | exact ⟨by rw [i_le, nI_I (by omega)] at c_311; unfold rfI; omega, fun hE => by rw [c_316] at hE; exact absurd hE (by decide)⟩ | exact ⟨by rw [i_le, nI_I (by omega)] at c_311; unfold rfI; omega, fun _ => by rw [i_lt, nI_I (by omega)] at c_334; unfold acI; omega⟩
                                                          exact ihg (i + 1) ⟨by omega, by omega, hnx⟩ H locs hH hS ls (lv_sub hl [1, 2, 3, 4, 5, 6, 7, 0] rfl)
                                                        · refine lv_iload hx hb dX7_needed_337 (lv_at hl 5 rfl) ?_
                                                          exact m_iret hx hb hr hlk hH hS dX7_needed_339 (⟨by rw [if_pos c_5, nI_clamp (by omega)]; exact (nd_hit c_20 hh.2.2.2.1 (by omega) (by unfold ndH; first | (rw [decide_eq_true (show rfI σ (lPl σ qn) (ns σ (lPl σ qn) (lSn σ qn) ((jq σ qn).2.2.1) j) ≤ ((jD (jq σ qn) + (j + 1) : Nat) : Int) by rw [i_le, nI_I (by omega)] at c_311; unfold rfI; omega)]; rfl) | (rw [c_316, decide_eq_true (show ((jD (jq σ qn) : Nat) : Int) ≤ acI σ (lPl σ qn) (ns σ (lPl σ qn) (lSn σ qn) ((jq σ qn).2.2.1) j) by rw [i_lt, nI_I (by omega)] at c_334; unfold acI; omega)]; simp))).symm, hsf⟩)
                                            exact loopg 211 0 ⟨by omega, by omega, fun k hk => absurd hk (by omega)⟩ H locs hH hS ls (lv_sub hl [2, 3, 4, 5, 6, 7, 1, 0] rfl)
                                          refine m_icmp_neN (tgt := 272) (by omega) (by omega) hx hb dX7_needed_265 (by decide) (fun c_265 => ?_) (fun c_265 => ?_)
                                          · refine lv_iconst (v := nI 0) hx hb dX7_needed_272 (by decide) ?_
                                            refine m_toe (bI (decide (lSn σ qn + (j + 1) = tot σ (lPl σ qn) (ns σ (lPl σ qn) (lSn σ qn) ((jq σ qn).2.2.1) j + 1)))) (bI_f (decide_eq_false c_265)) ?_
                                            exact J_265 ls (lv_sub hl [0, 1, 2, 3, 4, 5, 6] rfl)
                                          · refine lv_iconst (v := nI 1) hx hb dX7_needed_268 (by decide) ?_
                                            refine lv_goto (tgt := 273) hx hb dX7_needed_269 (by decide) ?_
                                            refine m_toe (bI (decide (lSn σ qn + (j + 1) = tot σ (lPl σ qn) (ns σ (lPl σ qn) (lSn σ qn) ((jq σ qn).2.2.1) j + 1)))) (bI_t (decide_eq_true c_265)) ?_
                                            exact J_265 ls (lv_sub hl [0, 1, 2, 3, 4, 5, 6] rfl)
                                        · refine lv_aload_n hx hb dX7_needed_202 rfl (lv_at hl 0 rfl) ?_
                                          refine gf_X7_88 hx hb hown hK hH (bm hM 0) dX7_needed_203 ?_
                                          refine lv_iload hx hb dX7_needed_206 (lv_at hl 6 rfl) ?_
                                          refine m_zald hx hb hK hH (n := 210) (bm hM 36) (fun _ _ => rfl) (i) (rfl) (by omega) (by decide) dX7_needed_208 ?_
                                          refine m_toe (τ.1 35 0 i) (hJf.2.1 i (by omega)) ?_
                                          refine lv_if_ne (tgt := 215) hx hb dX7_needed_209 (by decide) (fun c_209 => ?_) (fun c_209 => ?_)
                                          · refine lv_aload_n hx hb dX7_needed_215 rfl (lv_at hl 0 rfl) ?_
                                            refine gf_X7_85 hx hb hown hK hH (bm hM 0) dX7_needed_216 ?_
                                            refine lv_iload hx hb dX7_needed_219 (lv_at hl 6 rfl) ?_
                                            refine lv_iconst (v := nI 1) hx hb dX7_needed_221 (by decide) ?_
                                            refine m_zast hx hb hK hH hS (n := 210) (bm hM 35) (fun _ _ => rfl) (i) (rfl) (by omega) (by decide) (rfl) dX7_needed_222 (fun H locs hH hS => ?_)
                                            refine lv_aload_n hx hb dX7_needed_223 rfl (lv_at hl 0 rfl) ?_
                                            refine gf_X7_85 hx hb hown hK hH (bm hM 0) dX7_needed_224 ?_
                                            refine lv_iload hx hb dX7_needed_227 (lv_at hl 6 rfl) ?_
                                            refine lv_iconst (v := nI 1) hx hb dX7_needed_229 (by decide) ?_
                                            refine m_iaddN hx hb dX7_needed_230 ?_
                                            refine lv_iconst (v := nI 1) hx hb dX7_needed_231 (by decide) ?_
                                            refine m_zast hx hb hK hH hS (n := 210) (bm hM 35) (fun _ _ => rfl) (i + 1) (rfl) (by omega) (by decide) (rfl) dX7_needed_232 (fun H locs hH hS => ?_)
                                            refine lv_aload_n hx hb dX7_needed_233 rfl (lv_at hl 0 rfl) ?_
                                            refine gf_X7_85 hx hb hown hK hH (bm hM 0) dX7_needed_234 ?_
                                            refine lv_iload hx hb dX7_needed_237 (lv_at hl 6 rfl) ?_
                                            refine lv_iconst (v := nI 3) hx hb dX7_needed_239 (by decide) ?_
                                            refine m_iaddN hx hb dX7_needed_240 ?_
                                            refine lv_iconst (v := nI 1) hx hb dX7_needed_241 (by decide) ?_
                                            refine m_zast hx hb hK hH hS (n := 210) (bm hM 35) (fun _ _ => rfl) (i + 3) (rfl) (by omega) (by decide) (rfl) dX7_needed_242 (fun H locs hH hS => ?_)
                                            refine lv_iinc (v := nI (i + 1)) (lv' := [(6, .int (nI (i + 1))), (0, .ref (B.1 0 0)), (1, .int (nI qn)), (2, .int (nI (lPl σ qn))), (3, .int (nI ((jq σ qn).2.2.2.1))), (4, .int (nI (ns σ (lPl σ qn) (lSn σ qn) ((jq σ qn).2.2.1) j))), (5, .int (nI (j + 1)))]) hx hb dX7_needed_243 hl (k := 6) rfl (nI_1 _) (by decide) rfl (fun ls hl => ?_)
                                            refine lv_goto (tgt := 194) hx hb dX7_needed_246 (by decide) ?_
                                            exact ihf (i + 1) (by omega) _ H locs (CX_put hJf (by omega) (b01_1 (hJ.2.1 i (by omega)) c_209)) hH hS ls (lv_sub hl [1, 2, 3, 4, 5, 6, 0] rfl)
                                          · refine lv_goto (tgt := 243) hx hb dX7_needed_212 (by decide) ?_
                                            refine lv_iinc (v := nI (i + 1)) (lv' := [(6, .int (nI (i + 1))), (0, .ref (B.1 0 0)), (1, .int (nI qn)), (2, .int (nI (lPl σ qn))), (3, .int (nI ((jq σ qn).2.2.2.1))), (4, .int (nI (ns σ (lPl σ qn) (lSn σ qn) ((jq σ qn).2.2.1) j))), (5, .int (nI (j + 1)))]) hx hb dX7_needed_243 hl (k := 6) rfl (nI_1 _) (by decide) rfl (fun ls hl => ?_)
                                            refine lv_goto (tgt := 194) hx hb dX7_needed_246 (by decide) ?_
                                            exact ihf (i + 1) (by omega) _ H locs (CX_skip hJf (by rw [c_209]; decide)) hH hS ls (lv_sub hl [1, 2, 3, 4, 5, 6, 0] rfl)
                                    exact loopf 201 0 (by omega) τe H locs (CW_X hJe) hH hS ls (lv_sub hl [1, 2, 3, 4, 5, 6, 0] rfl)
                                  · refine lv_aload_n hx hb dX7_needed_177 rfl (lv_at hl 0 rfl) ?_
                                    refine gf_X7_85 hx hb hown hK hH (bm hM 0) dX7_needed_178 ?_
                                    refine lv_iload hx hb dX7_needed_181 (lv_at hl 6 rfl) ?_
                                    refine lv_iconst (v := nI 0) hx hb dX7_needed_183 (by decide) ?_
                                    refine m_zast hx hb hK hH hS (n := 210) (bm hM 35) (fun _ _ => rfl) (i) (rfl) (by omega) (by decide) (rfl) dX7_needed_184 (fun H locs hH hS => ?_)
                                    refine lv_iinc (v := nI (i + 1)) (lv' := [(6, .int (nI (i + 1))), (0, .ref (B.1 0 0)), (1, .int (nI qn)), (2, .int (nI (lPl σ qn))), (3, .int (nI ((jq σ qn).2.2.2.1))), (4, .int (nI (ns σ (lPl σ qn) (lSn σ qn) ((jq σ qn).2.2.1) j))), (5, .int (nI (j + 1)))]) hx hb dX7_needed_185 hl (k := 6) rfl (nI_1 _) (by decide) rfl (fun ls hl => ?_)
                                    refine lv_goto (tgt := 169) hx hb dX7_needed_188 (by decide) ?_
                                    exact ihe (i + 1) (by omega) _ H locs (CW_put hJe) hH hS ls (lv_sub hl [1, 2, 3, 4, 5, 6, 0] rfl)
                              exact loope 211 0 (by omega) τd H locs (CP_W hJd) hH hS ls (lv_sub hl [1, 2, 3, 4, 5, 6, 0] rfl)
                            · refine lv_aload_n hx hb dX7_needed_146 rfl (lv_at hl 0 rfl) ?_
                              refine gf_X7_88 hx hb hown hK hH (bm hM 0) dX7_needed_147 ?_
                              refine lv_iload hx hb dX7_needed_150 (lv_at hl 6 rfl) ?_
                              refine lv_aload_n hx hb dX7_needed_152 rfl (lv_at hl 0 rfl) ?_
                              refine gf_X7_85 hx hb hown hK hH (bm hM 0) dX7_needed_153 ?_
                              refine lv_iload hx hb dX7_needed_156 (lv_at hl 6 rfl) ?_
                              refine m_zald hx hb hK hH (n := 210) (bm hM 35) (fun _ _ => rfl) (i) (rfl) (by omega) (by decide) dX7_needed_158 ?_
                              refine m_toe (τ.1 35 0 i) (hJd.2.1 i (by omega)) ?_
                              refine m_zast hx hb hK hH hS (n := 210) (bm hM 36) (fun _ _ => rfl) (i) (rfl) (by omega) (by decide) (b01_n (hJ.2.1 i (by omega))) dX7_needed_159 (fun H locs hH hS => ?_)
                              refine lv_iinc (v := nI (i + 1)) (lv' := [(6, .int (nI (i + 1))), (0, .ref (B.1 0 0)), (1, .int (nI qn)), (2, .int (nI (lPl σ qn))), (3, .int (nI ((jq σ qn).2.2.2.1))), (4, .int (nI (ns σ (lPl σ qn) (lSn σ qn) ((jq σ qn).2.2.1) j))), (5, .int (nI (j + 1)))]) hx hb dX7_needed_160 hl (k := 6) rfl (nI_1 _) (by decide) rfl (fun ls hl => ?_)
                              refine lv_goto (tgt := 138) hx hb dX7_needed_163 (by decide) ?_
                              exact ihd (i + 1) (by omega) _ H locs (CP_put hJd (by omega) rfl) hH hS ls (lv_sub hl [1, 2, 3, 4, 5, 6, 0] rfl)
                        exact loopd 211 0 (by omega) τ H locs (NC_P hJ) hH hS ls (lv_sub hl [1, 2, 3, 4, 5, 6, 0] rfl)
                  exact loopc 61 0 ⟨by omega, by omega, by omega, rfl, by omega⟩ _ H locs hNC hH hS ls (lv_sub hl [2, 3, 4, 5, 1, 0] rfl)
                · refine lv_aload_n hx hb dX7_needed_89 rfl (lv_at hl 0 rfl) ?_
                  refine gf_X7_85 hx hb hown hK hH (bm hM 0) dX7_needed_90 ?_
                  refine lv_iload hx hb dX7_needed_93 (lv_at hl 4 rfl) ?_
                  refine lv_iconst (v := nI 0) hx hb dX7_needed_95 (by decide) ?_
                  refine m_zast hx hb hK hH hS (n := 210) (bm hM 35) (fun _ _ => rfl) (i) (rfl) (by omega) (by decide) (rfl) dX7_needed_96 (fun H locs hH hS => ?_)
                  refine lv_iinc (v := nI (i + 1)) (lv' := [(4, .int (nI (i + 1))), (0, .ref (B.1 0 0)), (1, .int (nI qn)), (2, .int (nI (lPl σ qn))), (3, .int (nI ((jq σ qn).2.2.2.1)))]) hx hb dX7_needed_97 hl (k := 4) rfl (nI_1 _) (by decide) rfl (fun ls hl => ?_)
                  refine lv_goto (tgt := 81) hx hb dX7_needed_100 (by decide) ?_
                  exact ihb (i + 1) (by omega) _ H locs ⟨NZ_put hJ.1, by rw [sI_at, if_neg (by omega)]; exact hJ.2.1, by rw [sI_at, if_neg (by omega)]; exact hJ.2.2⟩ hH hS ls (lv_sub hl [1, 2, 3, 4, 0] rfl)
            exact loopb 211 0 (by omega) σ_13 H locs ⟨⟨hs0, fun k hk => absurd hk (by omega)⟩, hp.2.2.2.2.1, hp.2.2.2.2.2⟩ hH hS ls (lv_sub hl [1, 2, 3, 4, 0] rfl)
          · have hit := hL1.2.2.2.2.2.2.2.2.2.1 i c_45
            refine lv_iload_n hx hb dX7_needed_48 rfl (lv_at hl 3 rfl) ?_
            refine lv_aload_n hx hb dX7_needed_49 rfl (lv_at hl 0 rfl) ?_
            refine gf_X7_73 hx hb hown hK hH (bm hM 0) dX7_needed_50 ?_
            refine lv_bipush (v := nI 60) hx hb dX7_needed_53 (by decide) ?_
            refine lv_iload_n hx hb dX7_needed_55 rfl (lv_at hl 1 rfl) ?_
            refine m_imulN hx hb dX7_needed_56 ?_
            refine lv_iload hx hb dX7_needed_57 (lv_at hl 4 rfl) ?_
            refine m_iaddN hx hb dX7_needed_59 ?_
            refine m_iald hx hb hK hH (n := 3600) (bm hM 24) (fun _ _ => rfl) (60 * qn + i) (rfl) (by omega) (by decide) dX7_needed_60 ?_
            refine m_toi (itm σ qn i) ((hs0.rd 24 0 _ rfl).trans hit.1) ?_
            refine lv_iconst (v := nI 1) hx hb dX7_needed_61 (by decide) ?_
            have J_62 : ∀ (ls : Array Slot), lv_has ls 8 [(0, .ref (B.1 0 0)), (1, .int (nI qn)), (2, .int (nI (lPl σ qn))), (3, .int (nI (cnt (fun k => decide (itm σ qn k = 1)) i))), (4, .int (nI i))] → W p l e ({ frames := 2, cells := 0, slots := 0, locals := 49 } : Room) s m ([.ref (B.1 0 0), .int ((nI qn))] : List Value).toArray below meth c H locs 0 0 (MQ below (mQi G B (fun v τ => v = (if isLo σ (nI qn) = true then ndA σ (nI qn).toNatClampNeg else -2) ∧ Sm σ τ)) ([.ref (B.1 0 0), .int ((nI qn))] : List Value).toArray s 0 0 (mA G)) (F0 m 70 ls [.int (nI (if decide (itm σ qn i = 1) = true then 1 else 0)), .int (nI (cnt (fun k => decide (itm σ qn k = 1)) i))]) := by
              intro ls hl
              refine m_iaddN hx hb dX7_needed_70 ?_
              refine lv_istore_n (lv' := [(3, .int (nI ((cnt (fun k => decide (itm σ qn k = 1)) i) + (if decide (itm σ qn i = 1) = true then 1 else 0)))), (0, .ref (B.1 0 0)), (1, .int (nI qn)), (2, .int (nI (lPl σ qn))), (4, .int (nI i))]) hx hb dX7_needed_71 rfl hl (by decide) rfl (fun ls hl => ?_)
              refine lv_iinc (v := nI (i + 1)) (lv' := [(4, .int (nI (i + 1))), (3, .int (nI ((cnt (fun k => decide (itm σ qn k = 1)) i) + (if decide (itm σ qn i = 1) = true then 1 else 0)))), (0, .ref (B.1 0 0)), (1, .int (nI qn)), (2, .int (nI (lPl σ qn)))]) hx hb dX7_needed_72 hl (k := 4) rfl (nI_1 _) (by decide) rfl (fun ls hl => ?_)
              refine lv_goto (tgt := 37) hx hb dX7_needed_75 (by decide) ?_
              exact iha (i + 1) (by omega) H locs hH hS ls (lv_sub hl [2, 3, 4, 1, 0] rfl)
            refine m_icmp_neN (tgt := 69) (by omega) (by omega) hx hb dX7_needed_62 (by decide) (fun c_62 => ?_) (fun c_62 => ?_)
            · refine lv_iconst (v := nI 0) hx hb dX7_needed_69 (by decide) ?_
              refine m_toe (nI (if decide (itm σ qn i = 1) = true then 1 else 0)) (by rw [if_neg (by rw [decide_eq_false c_62]; decide)]) ?_
              exact J_62 ls (lv_sub hl [0, 1, 2, 3, 4] rfl)
            · refine lv_iconst (v := nI 1) hx hb dX7_needed_65 (by decide) ?_
              refine lv_goto (tgt := 70) hx hb dX7_needed_66 (by decide) ?_
              refine m_toe (nI (if decide (itm σ qn i = 1) = true then 1 else 0)) (by rw [if_pos (decide_eq_true c_62)]) ?_
              exact J_62 ls (lv_sub hl [0, 1, 2, 3, 4] rfl)
      exact loopa (lSn σ qn + 1) 0 (by omega) H locs hH hS ls (lv_sub hl [3, 4, 2, 1, 0] rfl)
    · refine lv_iconst (v := nI 0) hx hb dX7_needed_23 (by decide) ?_
      exact m_iret hx hb hr hlk hH hS dX7_needed_24 (⟨by rw [if_pos c_5, nI_clamp (by omega)]; unfold ndA; rw [if_neg (by omega)]; rfl, hs0⟩)
  · refine lv_bipush (v := (-2)) hx hb dX7_needed_8 (by decide) ?_
    exact m_iret hx hb hr hlk hH hS dX7_needed_10 (⟨(if_neg (fun h => by rw [c_5] at h; exact absurd h (by decide))).symm, Sm.rf σ⟩)
