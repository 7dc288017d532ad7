def scOK (σ : gS) (x w : Int32) : Bool := isSu σ x && decide (0 ≤ w.toInt ∧ w.toInt ≤ 6)
def scV (σ : gS) (s w : Nat) : Int64 := if w = 6 then (σ.1 16 0 s).toInt64 else scA σ s w
set_option maxHeartbeats 4000000 in
set_option maxRecDepth 100000 in
theorem c_X7_score (l : Launch) (G : gG) (B : gB) (σ : gS) (hM : BkM B) (hP : WfP σ) (hWS : WfS σ) (hL : WfL σ) (x w : Int32) : Met l yX7_score [.code yX7_score cX7_score 8 (some .long)] ({ frames := 2, cells := 0, slots := 0, locals := 49 } : Room) (mPc G B σ [.ref (B.1 0 0), .int (x), .int (w)]) (mQl G B (fun r τ => r = (if scOK σ x w = true then scV σ x.toNatClampNeg w.toNatClampNeg else -2) ∧ Sm σ τ)) 0 0 (mA G) := by
  refine m_start (by decide) (Nat.le_of_ble_eq_true rfl) ?_
  intro p e s m below meth c ⟨hx, hb, hr, hml, hown, hK, hlk, hz⟩ hH hS ls hl
  have hl : lv_has ls 8 [(0, .ref (B.1 0 0)), (1, .int (x)), (2, .int (w))] := hl
  refine lv_aload_n hx hb dX7_score_0 rfl (lv_at hl 0 rfl) ?_
  refine lv_iload_n hx hb dX7_score_1 rfl (lv_at hl 1 rfl) ?_
  refine m_ki (m_runV (k := 0) (i := 0) (ci := 7) ⟨hx, hb, hml, hown, hz⟩ hK hH hS (bm hM 0) rfl rfl (c_X7_isSupplier l G B σ hM hWS x) mw_X7_isSupplier wl_X7_174 ⟨rfl, rfl⟩ ⟨by decide, by decide⟩ rfl hl.1 rfl (Nat.le_of_ble_eq_true rfl) dX7_score_2 ⟨Nat.zero_le _, Nat.zero_le _⟩) hS (fun r_2 σ_2 H locs hp hH hS => ?_)
  obtain ⟨hr1, hs1⟩ := hp
  subst hr1
  rw [hs1] at hH
  refine m_ifeqB (tgt := 18) hx hb dX7_score_5 (by decide) (fun c_5 => ?_) (fun c_5 => ?_)
  · have hno : scOK σ x w = false := by
      unfold scOK
      first
        | (rw [c_5]; rfl)
        | (have h9 := inR_f c_15; rw [n0I, n6I] at h9; rw [decide_eq_false h9, Bool.and_false])
    refine lv_ldc2 hx hb hown (hK.2 _ wc_X7_142 rfl _) dX7_score_18 ?_
    exact m_lret hx hb hr hlk hH hS dX7_score_21 (⟨by rw [hno]; rfl, Sm.rf σ⟩)
  · refine lv_iload_n hx hb dX7_score_8 rfl (lv_at hl 2 rfl) ?_
    refine lv_iconst (v := nI 0) hx hb dX7_score_9 (by decide) ?_
    refine lv_bipush (v := nI 6) hx hb dX7_score_10 (by decide) ?_
    refine m_ki (m_runS ⟨hx, hb, hml, hown, hz⟩ hK hH hS (c_X7_in l G B σ w (nI 0) (nI 6)) mw_X7_in wl_X7_95 ⟨rfl, rfl⟩ ⟨by decide, by decide⟩ rfl hl.1 rfl (Nat.le_of_ble_eq_true rfl) dX7_score_12 ⟨Nat.zero_le _, Nat.zero_le _⟩) hS (fun r_12 σ_12 H locs hp hH hS => ?_)
    obtain ⟨hr1, hs1⟩ := hp
    subst hr1
    rw [hs1] at hH
    refine m_ifneB (tgt := 22) hx hb dX7_score_15 (by decide) (fun c_15 => ?_) (fun c_15 => ?_)
    · have h9 := inR_t c_15; rw [n0I, n6I] at h9
      have hyes : scOK σ x w = true := by
        unfold scOK
        rw [c_5, decide_eq_true h9]
        rfl
      obtain ⟨sn, hsn, he⟩ := isSu_t c_5
      subst he
      have h8 := hWS.2.1
      obtain ⟨v1, v2⟩ := i_nat h9.1
      obtain ⟨wn, hvn⟩ : ∃ z : Nat, z = w.toInt.toNat := ⟨_, rfl⟩
      rw [← hvn] at v1 v2
      have hw6 : wn ≤ 6 := by omega
      clear c_15 h9 hvn v2
      subst v1
      have hl60 := hL.2.1
      refine lv_iload_n hx hb dX7_score_22 rfl (lv_at hl 2 rfl) ?_
      refine lv_bipush (v := nI 6) hx hb dX7_score_23 (by decide) ?_
      refine m_icmp_neN (tgt := 36) (by omega) (by omega) hx hb dX7_score_25 (by decide) (fun c_25 => ?_) (fun c_25 => ?_)
      · refine lv_lconst (v := lN 0) hx hb dX7_score_36 rfl ?_
        refine lv_lstore_n (lv' := [(3, .long (lN 0)), (0, .ref (B.1 0 0)), (1, .int (nI sn)), (2, .int (nI wn))]) hx hb dX7_score_37 rfl hl (by decide) rfl (fun ls hl => ?_)
        refine lv_iconst (v := nI 0) hx hb dX7_score_38 (by decide) ?_
        refine lv_istore (lv' := [(5, .int (nI 0)), (3, .long (lN 0)), (0, .ref (B.1 0 0)), (1, .int (nI sn)), (2, .int (nI wn))]) hx hb dX7_score_39 hl (by decide) rfl (fun ls hl => ?_)
        have loop : ∀ (n : Nat) (i : Nat), i ≤ nL σ ∧ nL σ < i + n → ∀ (τ : gS) (H : Heap) (locs : List Loc), Sm σ τ → Hp G B τ H → va_S (mA G) s.heap H locs → ∀ (ls : Array Slot), lv_has ls 8 [(0, .ref (B.1 0 0)), (1, .int (nI sn)), (2, .int (nI wn)), (3, .long (s64 (fun q => if lSu σ q = sn then slv σ wn q else 0) i)), (5, .int (nI i))] → W p l e ({ frames := 2, cells := 0, slots := 0, locals := 49 } : Room) s m ([.ref (B.1 0 0), .int (nI sn), .int (nI wn)] : List Value).toArray below meth c H locs 0 0 (MQ below (mQl G B (fun r τ => r = (if scOK σ (nI sn) (nI wn) = true then scV σ (nI sn).toNatClampNeg (nI wn).toNatClampNeg else -2) ∧ Sm σ τ)) ([.ref (B.1 0 0), .int (nI sn), .int (nI wn)] : List Value).toArray s 0 0 (mA G)) (F0 m 41 ls []) := by
          intro n
          induction n with
          | zero => intro i hh; exfalso; omega
          | succ n ih =>
            intro i hh τ H locs hJ hH hS ls hl
            refine lv_iload hx hb dX7_score_41 (lv_at hl 4 rfl) ?_
            refine lv_aload_n hx hb dX7_score_43 rfl (lv_at hl 0 rfl) ?_
            refine gf_X7_171 hx hb hown hK hH (bm hM 0) dX7_score_44 ?_
            refine m_toi (nL σ) ((hJ.rd 0 0 2 rfl).trans hL.1) ?_
            refine m_icmp_geN (tgt := 193) (by omega) (by omega) hx hb dX7_score_47 (by decide) (fun c_47 => ?_) (fun c_47 => ?_)
            · refine lv_lload_n hx hb dX7_score_193 rfl (lv_at hl 3 rfl) ?_
              exact m_lret hx hb hr hlk hH hS dX7_score_194 (⟨by rw [if_pos hyes, nI_clamp (by omega), nI_clamp (by omega)]; unfold scV; rw [if_neg c_25]; unfold scA; rw [show nL σ = i by omega], hJ⟩)
            · have hL1 := hL.2.2 i c_47
              have hsu9 := hL1.2.1
              have hsn60 := hL1.2.2.2.2.2.2.2.2.1
              refine lv_aload_n hx hb dX7_score_50 rfl (lv_at hl 0 rfl) ?_
              refine gf_X7_58 hx hb hown hK hH (bm hM 0) dX7_score_51 ?_
              refine lv_iload hx hb dX7_score_54 (lv_at hl 4 rfl) ?_
              refine m_iald hx hb hK hH (n := 60) (bm hM 19) (fun _ _ => rfl) (i) (rfl) (by omega) (by decide) dX7_score_56 ?_
              refine m_toi (lSu σ i) ((hJ.rd 19 0 i rfl).trans hL1.1) ?_
              refine lv_iload_n hx hb dX7_score_57 rfl (lv_at hl 1 rfl) ?_
              refine m_icmp_eqN (tgt := 64) (by omega) (by omega) hx hb dX7_score_58 (by decide) (fun c_58 => ?_) (fun c_58 => ?_)
              · refine lv_aload_n hx hb dX7_score_64 rfl (lv_at hl 0 rfl) ?_
                refine lv_iload hx hb dX7_score_65 (lv_at hl 4 rfl) ?_
                refine m_kv (m_runV (k := 0) (i := 0) (ci := 7) ⟨hx, hb, hml, hown, hz⟩ hK hH hS (bm hM 0) rfl rfl (c_X7_judge l G B τ hM i (lPl τ i) (lSn τ i) ((hJ.wfL1 hL1).jh (hJ.wfP hP) (by omega))) mw_X7_judge wl_X7_192 ⟨rfl, rfl⟩ ⟨by decide, by decide⟩ rfl hl.1 rfl (Nat.le_of_ble_eq_true rfl) dX7_score_67 ⟨Nat.zero_le _, Nat.zero_le _⟩) hS (fun σ_67 H locs hp hH hS => ?_)
                have hp : JP τ σ_67 (jq τ i) := hp
                rw [hJ.jqE] at hp
                have hs9 := hJ.tr hp.sm
                have hb1 : (jq σ i).1 ≤ 2 := jd_now σ i (lPl σ i) (lSn σ i)
                refine lv_iload_n hx hb dX7_score_70 rfl (lv_at hl 2 rfl) ?_
                refine lv_iconst (v := nI 3) hx hb dX7_score_71 (by decide) ?_
                refine m_icmp_geN (tgt := 108) (by omega) (by omega) hx hb dX7_score_72 (by decide) (fun c_72 => ?_) (fun c_72 => ?_)
                · refine lv_iconst (v := nI 0) hx hb dX7_score_108 (by decide) ?_
                  refine lv_istore (lv' := [(6, .int (nI 0)), (0, .ref (B.1 0 0)), (1, .int (nI sn)), (2, .int (nI wn)), (3, .long (s64 (fun q => if lSu σ q = sn then slv σ wn q else 0) i)), (5, .int (nI i))]) hx hb dX7_score_109 hl (by decide) rfl (fun ls hl => ?_)
                  have loop2 : ∀ (n2 : Nat) (k : Nat), k ≤ lSn σ i ∧ lSn σ i < k + n2 → ∀ (H : Heap) (locs : List Loc), Hp G B σ_67 H → va_S (mA G) s.heap H locs → ∀ (ls : Array Slot), lv_has ls 8 [(0, .ref (B.1 0 0)), (1, .int (nI sn)), (2, .int (nI wn)), (3, .long (s64 (fun q => if lSu σ q = sn then slv σ wn q else 0) i + s64 (fun k => itv σ wn (itm σ i k)) k)), (5, .int (nI i)), (6, .int (nI k))] → W p l e ({ frames := 2, cells := 0, slots := 0, locals := 49 } : Room) s m ([.ref (B.1 0 0), .int (nI sn), .int (nI wn)] : List Value).toArray below meth c H locs 0 0 (MQ below (mQl G B (fun r τ => r = (if scOK σ (nI sn) (nI wn) = true then scV σ (nI sn).toNatClampNeg (nI wn).toNatClampNeg else -2) ∧ Sm σ τ)) ([.ref (B.1 0 0), .int (nI sn), .int (nI wn)] : List Value).toArray s 0 0 (mA G)) (F0 m 111 ls []) := by
                    intro n2
                    induction n2 with
                    | zero => intro k hk; exfalso; omega
                    | succ n2 ih2 =>
                      intro k hk H locs hH hS ls hl
                      refine lv_iload hx hb dX7_score_111 (lv_at hl 5 rfl) ?_
                      refine lv_aload_n hx hb dX7_score_113 rfl (lv_at hl 0 rfl) ?_
                      refine gf_X7_70 hx hb hown hK hH (bm hM 0) dX7_score_114 ?_
                      refine lv_iload hx hb dX7_score_117 (lv_at hl 4 rfl) ?_
                      refine m_iald hx hb hK hH (n := 60) (bm hM 23) (fun _ _ => rfl) (i) (rfl) (by omega) (by decide) dX7_score_119 ?_
                      refine m_toi (lSn σ i) ((hs9.rd 23 0 i rfl).trans hL1.2.2.2.2.2.2.2.1) ?_
                      refine m_icmp_geN (tgt := 187) (by omega) (by omega) hx hb dX7_score_120 (by decide) (fun c_120 => ?_) (fun c_120 => ?_)
                      · refine lv_iinc (v := nI (i + 1)) (lv' := [(5, .int (nI (i + 1))), (0, .ref (B.1 0 0)), (1, .int (nI sn)), (2, .int (nI wn)), (3, .long (s64 (fun q => if lSu σ q = sn then slv σ wn q else 0) i + s64 (fun k => itv σ wn (itm σ i k)) k)), (6, .int (nI k))]) hx hb dX7_score_187 hl (k := 4) rfl (nI_1 _) (by decide) rfl (fun ls hl => ?_)
                        refine lv_goto (tgt := 41) hx hb dX7_score_190 (by decide) ?_
                        have hse : s64 (fun q => if lSu σ q = sn then slv σ wn q else 0) (i + 1) = s64 (fun q => if lSu σ q = sn then slv σ wn q else 0) i + s64 (fun k => itv σ wn (itm σ i k)) k := by rw [s64_yes c_58]; unfold slv; rw [if_neg (by omega), show k = lSn σ i by omega]
                        exact ih (i + 1) (by omega) _ H locs hs9 hH hS ls (by rw [hse]; exact lv_sub hl [1, 2, 3, 4, 0] rfl)
                      · refine lv_iload_n hx hb dX7_score_123 rfl (lv_at hl 2 rfl) ?_
                        refine lv_iconst (v := nI 2) hx hb dX7_score_124 (by decide) ?_
                        refine m_icmp_leN (tgt := 187) (by omega) (by omega) hx hb dX7_score_125 (by decide) (fun c_125 => ?_) (fun c_125 => ?_)
                        · exact absurd c_125 (by omega)
                        · have hit := hL1.2.2.2.2.2.2.2.2.2.1 k c_120
                          refine lv_aload_n hx hb dX7_score_128 rfl (lv_at hl 0 rfl) ?_
                          refine gf_X7_73 hx hb hown hK hH (bm hM 0) dX7_score_129 ?_
                          refine lv_bipush (v := nI 60) hx hb dX7_score_132 (by decide) ?_
                          refine lv_iload hx hb dX7_score_134 (lv_at hl 4 rfl) ?_
                          refine m_imulN hx hb dX7_score_136 ?_
                          refine lv_iload hx hb dX7_score_137 (lv_at hl 5 rfl) ?_
                          refine m_iaddN hx hb dX7_score_139 ?_
                          refine m_iald hx hb hK hH (n := 3600) (bm hM 24) (fun _ _ => rfl) (60 * i + k) (rfl) (by omega) (by decide) dX7_score_140 ?_
                          refine m_toi (itm σ i k) ((hs9.rd 24 0 _ rfl).trans hit.1) ?_
                          refine lv_istore (lv' := [(7, .int (nI (itm σ i k))), (0, .ref (B.1 0 0)), (1, .int (nI sn)), (2, .int (nI wn)), (3, .long (s64 (fun q => if lSu σ q = sn then slv σ wn q else 0) i + s64 (fun k => itv σ wn (itm σ i k)) k)), (5, .int (nI i)), (6, .int (nI k))]) hx hb dX7_score_141 hl (by decide) rfl (fun ls hl => ?_)
                          refine lv_lload_n hx hb dX7_score_143 rfl (lv_at hl 4 rfl) ?_
                          refine lv_iload_n hx hb dX7_score_144 rfl (lv_at hl 3 rfl) ?_
                          refine lv_iconst (v := nI 3) hx hb dX7_score_145 (by decide) ?_
                          have J_146 : ∀ (ls : Array Slot), lv_has ls 8 [(7, .int (nI (itm σ i k))), (0, .ref (B.1 0 0)), (1, .int (nI sn)), (2, .int (nI wn)), (3, .long (s64 (fun q => if lSu σ q = sn then slv σ wn q else 0) i + s64 (fun k => itv σ wn (itm σ i k)) k)), (5, .int (nI i)), (6, .int (nI k))] → W p l e ({ frames := 2, cells := 0, slots := 0, locals := 49 } : Room) s m ([.ref (B.1 0 0), .int (nI sn), .int (nI wn)] : List Value).toArray below meth c H locs 0 0 (MQ below (mQl G B (fun r τ => r = (if scOK σ (nI sn) (nI wn) = true then scV σ (nI sn).toNatClampNeg (nI wn).toNatClampNeg else -2) ∧ Sm σ τ)) ([.ref (B.1 0 0), .int (nI sn), .int (nI wn)] : List Value).toArray s 0 0 (mA G)) (F0 m 179 ls [.long (itv σ wn (itm σ i k)), .long (s64 (fun q => if lSu σ q = sn then slv σ wn q else 0) i + s64 (fun k => itv σ wn (itm σ i k)) k)]) := by
                            intro ls hl
                            refine lv_ladd hx hb dX7_score_179 ?_
                            refine lv_lstore_n (lv' := [(3, .long ((s64 (fun q => if lSu σ q = sn then slv σ wn q else 0) i + s64 (fun k => itv σ wn (itm σ i k)) k) + (itv σ wn (itm σ i k)))), (7, .int (nI (itm σ i k))), (0, .ref (B.1 0 0)), (1, .int (nI sn)), (2, .int (nI wn)), (5, .int (nI i)), (6, .int (nI k))]) hx hb dX7_score_180 rfl hl (by decide) rfl (fun ls hl => ?_)
                            refine lv_iinc (v := nI (k + 1)) (lv' := [(6, .int (nI (k + 1))), (3, .long ((s64 (fun q => if lSu σ q = sn then slv σ wn q else 0) i + s64 (fun k => itv σ wn (itm σ i k)) k) + (itv σ wn (itm σ i k)))), (7, .int (nI (itm σ i k))), (0, .ref (B.1 0 0)), (1, .int (nI sn)), (2, .int (nI wn)), (5, .int (nI i))]) hx hb dX7_score_181 hl (k := 6) rfl (nI_1 _) (by decide) rfl (fun ls hl => ?_)
                            refine lv_goto (tgt := 111) hx hb dX7_score_184 (by decide) ?_
                            exact ih2 (k + 1) (by omega) H locs hH hS ls (by rw [show s64 (fun k => itv σ wn (itm σ i k)) (k + 1) = s64 (fun k => itv σ wn (itm σ i k)) k + itv σ wn (itm σ i k) from rfl, ← Int64.add_assoc]; exact lv_sub hl [3, 4, 5, 1, 6, 0] rfl)
                          refine m_icmp_neN (tgt := 153) (by omega) (by omega) hx hb dX7_score_146 (by decide) (fun c_146 => ?_) (fun c_146 => ?_)
                          · refine lv_iload_n hx hb dX7_score_153 rfl (lv_at hl 3 rfl) ?_
                            refine lv_iconst (v := nI 4) hx hb dX7_score_154 (by decide) ?_
                            refine m_icmp_neN (tgt := 171) (by omega) (by omega) hx hb dX7_score_155 (by decide) (fun c_155 => ?_) (fun c_155 => ?_)
                            · refine lv_aload_n hx hb dX7_score_171 rfl (lv_at hl 1 rfl) ?_
                              refine gf_X7_76 hx hb hown hK hH (bm hM 0) dX7_score_172 ?_
                              refine lv_iload hx hb dX7_score_175 (lv_at hl 0 rfl) ?_
                              refine m_iald hx hb hK hH (n := 4) (bm hM 25) (fun _ _ => rfl) (itm σ i k) (rfl) (by omega) (by decide) dX7_score_177 ?_
                              refine m_toe (σ.1 25 0 (itm σ i k)) (hs9.rd 25 0 _ rfl) ?_
                              refine lv_i2l hx hb dX7_score_178 rfl ?_
                              refine m_toj (itv σ wn (itm σ i k)) (by unfold itv; first | rw [if_pos c_146] | rw [if_neg c_146, if_pos c_155, if_pos (by rw [i_le, i0, nI_I (by omega)] at c_160; omega)] | rw [if_neg c_146, if_pos c_155, if_neg (by rw [i_le, i0, nI_I (by omega)] at c_160; omega)] | rw [if_neg c_146, if_neg c_155]) ?_
                              exact J_146 ls (lv_sub hl [0, 1, 2, 3, 4, 5, 6] rfl)
                            · refine lv_iload hx hb dX7_score_158 (lv_at hl 0 rfl) ?_
                              refine lv_if_le (tgt := 167) hx hb dX7_score_160 (by decide) (fun c_160 => ?_) (fun c_160 => ?_)
                              · refine lv_lconst (v := lN 0) hx hb dX7_score_167 rfl ?_
                                refine lv_goto (tgt := 179) hx hb dX7_score_168 (by decide) ?_
                                refine m_toj (itv σ wn (itm σ i k)) (by unfold itv; first | rw [if_pos c_146] | rw [if_neg c_146, if_pos c_155, if_pos (by rw [i_le, i0, nI_I (by omega)] at c_160; omega)] | rw [if_neg c_146, if_pos c_155, if_neg (by rw [i_le, i0, nI_I (by omega)] at c_160; omega)] | rw [if_neg c_146, if_neg c_155]) ?_
                                exact J_146 ls (lv_sub hl [0, 1, 2, 3, 4, 5, 6] rfl)
                              · refine lv_lconst (v := lN 1) hx hb dX7_score_163 rfl ?_
                                refine lv_goto (tgt := 179) hx hb dX7_score_164 (by decide) ?_
                                refine m_toj (itv σ wn (itm σ i k)) (by unfold itv; first | rw [if_pos c_146] | rw [if_neg c_146, if_pos c_155, if_pos (by rw [i_le, i0, nI_I (by omega)] at c_160; omega)] | rw [if_neg c_146, if_pos c_155, if_neg (by rw [i_le, i0, nI_I (by omega)] at c_160; omega)] | rw [if_neg c_146, if_neg c_155]) ?_
                                exact J_146 ls (lv_sub hl [0, 1, 2, 3, 4, 5, 6] rfl)
                          · refine lv_lconst (v := lN 1) hx hb dX7_score_149 rfl ?_
                            refine lv_goto (tgt := 179) hx hb dX7_score_150 (by decide) ?_
                            refine m_toj (itv σ wn (itm σ i k)) (by unfold itv; first | rw [if_pos c_146] | rw [if_neg c_146, if_pos c_155, if_pos (by rw [i_le, i0, nI_I (by omega)] at c_160; omega)] | rw [if_neg c_146, if_pos c_155, if_neg (by rw [i_le, i0, nI_I (by omega)] at c_160; omega)] | rw [if_neg c_146, if_neg c_155]) ?_
                            exact J_146 ls (lv_sub hl [0, 1, 2, 3, 4, 5, 6] rfl)
                  exact loop2 (lSn σ i + 1) 0 (by omega) H locs hH hS ls (by rw [show s64 (fun k => itv σ wn (itm σ i k)) 0 = 0 from rfl, Int64.add_zero]; exact lv_sub hl [1, 2, 3, 4, 5, 0] rfl)
                · refine lv_lload_n hx hb dX7_score_75 rfl (lv_at hl 3 rfl) ?_
                  refine lv_aload_n hx hb dX7_score_76 rfl (lv_at hl 0 rfl) ?_
                  refine gf_X7_177 hx hb hown hK hH (bm hM 0) dX7_score_77 ?_
                  refine m_toi ((jq σ i).1) (hp.2.2.1) ?_
                  refine lv_iload_n hx hb dX7_score_80 rfl (lv_at hl 2 rfl) ?_
                  have J_81 : ∀ (ls : Array Slot), lv_has ls 8 [(0, .ref (B.1 0 0)), (1, .int (nI sn)), (2, .int (nI wn)), (3, .long (s64 (fun q => if lSu σ q = sn then slv σ wn q else 0) i)), (5, .int (nI i))] → W p l e ({ frames := 2, cells := 0, slots := 0, locals := 49 } : Room) s m ([.ref (B.1 0 0), .int (nI sn), .int (nI wn)] : List Value).toArray below meth c H locs 0 0 (MQ below (mQl G B (fun r τ => r = (if scOK σ (nI sn) (nI wn) = true then scV σ (nI sn).toNatClampNeg (nI wn).toNatClampNeg else -2) ∧ Sm σ τ)) ([.ref (B.1 0 0), .int (nI sn), .int (nI wn)] : List Value).toArray s 0 0 (mA G)) (F0 m 98 ls [.int (nI (tgt wn)), .int (nI ((jq σ i).1)), .long (s64 (fun q => if lSu σ q = sn then slv σ wn q else 0) i)]) := by
                    intro ls hl
                    have ht2 : tgt wn ≤ 2 := by unfold tgt; split; omega; split <;> omega
                    have J_98 : ∀ (ls : Array Slot), lv_has ls 8 [(0, .ref (B.1 0 0)), (1, .int (nI sn)), (2, .int (nI wn)), (3, .long (s64 (fun q => if lSu σ q = sn then slv σ wn q else 0) i)), (5, .int (nI i))] → W p l e ({ frames := 2, cells := 0, slots := 0, locals := 49 } : Room) s m ([.ref (B.1 0 0), .int (nI sn), .int (nI wn)] : List Value).toArray below meth c H locs 0 0 (MQ below (mQl G B (fun r τ => r = (if scOK σ (nI sn) (nI wn) = true then scV σ (nI sn).toNatClampNeg (nI wn).toNatClampNeg else -2) ∧ Sm σ τ)) ([.ref (B.1 0 0), .int (nI sn), .int (nI wn)] : List Value).toArray s 0 0 (mA G)) (F0 m 106 ls [.long (if (jq σ i).1 = tgt wn then lN 1 else lN 0), .long (s64 (fun q => if lSu σ q = sn then slv σ wn q else 0) i)]) := by
                      intro ls hl
                      refine lv_ladd hx hb dX7_score_106 ?_
                      refine lv_lstore_n (lv' := [(3, .long ((s64 (fun q => if lSu σ q = sn then slv σ wn q else 0) i) + (if (jq σ i).1 = tgt wn then lN 1 else lN 0))), (0, .ref (B.1 0 0)), (1, .int (nI sn)), (2, .int (nI wn)), (5, .int (nI i))]) hx hb dX7_score_107 rfl hl (by decide) rfl (fun ls hl => ?_)
                      refine lv_iconst (v := nI 0) hx hb dX7_score_108 (by decide) ?_
                      refine lv_istore (lv' := [(6, .int (nI 0)), (3, .long ((s64 (fun q => if lSu σ q = sn then slv σ wn q else 0) i) + (if (jq σ i).1 = tgt wn then lN 1 else lN 0))), (0, .ref (B.1 0 0)), (1, .int (nI sn)), (2, .int (nI wn)), (5, .int (nI i))]) hx hb dX7_score_109 hl (by decide) rfl (fun ls hl => ?_)
                      refine lv_iload hx hb dX7_score_111 (lv_at hl 0 rfl) ?_
                      refine lv_aload_n hx hb dX7_score_113 rfl (lv_at hl 2 rfl) ?_
                      refine gf_X7_70 hx hb hown hK hH (bm hM 0) dX7_score_114 ?_
                      refine lv_iload hx hb dX7_score_117 (lv_at hl 5 rfl) ?_
                      refine m_iald hx hb hK hH (n := 60) (bm hM 23) (fun _ _ => rfl) (i) (rfl) (by omega) (by decide) dX7_score_119 ?_
                      refine m_toi (lSn σ i) ((hs9.rd 23 0 i rfl).trans hL1.2.2.2.2.2.2.2.1) ?_
                      refine m_icmp_geN (tgt := 187) (by omega) (by omega) hx hb dX7_score_120 (by decide) (fun c_120 => ?_) (fun c_120 => ?_)
                      · refine lv_iinc (v := nI (i + 1)) (lv' := [(5, .int (nI (i + 1))), (6, .int (nI 0)), (3, .long ((s64 (fun q => if lSu σ q = sn then slv σ wn q else 0) i) + (if (jq σ i).1 = tgt wn then lN 1 else lN 0))), (0, .ref (B.1 0 0)), (1, .int (nI sn)), (2, .int (nI wn))]) hx hb dX7_score_187 hl (k := 5) rfl (nI_1 _) (by decide) rfl (fun ls hl => ?_)
                        refine lv_goto (tgt := 41) hx hb dX7_score_190 (by decide) ?_
                        have hse : s64 (fun q => if lSu σ q = sn then slv σ wn q else 0) (i + 1) = s64 (fun q => if lSu σ q = sn then slv σ wn q else 0) i + (if (jq σ i).1 = tgt wn then lN 1 else lN 0) := by rw [s64_yes c_58]; unfold slv; rw [if_pos c_72]
                        exact ih (i + 1) (by omega) _ H locs hs9 hH hS ls (by rw [hse]; exact lv_sub hl [3, 4, 5, 2, 0] rfl)
                      · refine lv_iload_n hx hb dX7_score_123 rfl (lv_at hl 4 rfl) ?_
                        refine lv_iconst (v := nI 2) hx hb dX7_score_124 (by decide) ?_
                        refine m_icmp_leN (tgt := 187) (by omega) (by omega) hx hb dX7_score_125 (by decide) (fun c_125 => ?_) (fun c_125 => ?_)
                        · refine lv_iinc (v := nI (i + 1)) (lv' := [(5, .int (nI (i + 1))), (6, .int (nI 0)), (3, .long ((s64 (fun q => if lSu σ q = sn then slv σ wn q else 0) i) + (if (jq σ i).1 = tgt wn then lN 1 else lN 0))), (0, .ref (B.1 0 0)), (1, .int (nI sn)), (2, .int (nI wn))]) hx hb dX7_score_187 hl (k := 5) rfl (nI_1 _) (by decide) rfl (fun ls hl => ?_)
                          refine lv_goto (tgt := 41) hx hb dX7_score_190 (by decide) ?_
                          have hse : s64 (fun q => if lSu σ q = sn then slv σ wn q else 0) (i + 1) = s64 (fun q => if lSu σ q = sn then slv σ wn q else 0) i + (if (jq σ i).1 = tgt wn then lN 1 else lN 0) := by rw [s64_yes c_58]; unfold slv; rw [if_pos c_72]
                          exact ih (i + 1) (by omega) _ H locs hs9 hH hS ls (by rw [hse]; exact lv_sub hl [3, 4, 5, 2, 0] rfl)
                        · exact absurd c_125 (by omega)
                    refine m_icmp_neN (tgt := 105) (by omega) (by omega) hx hb dX7_score_98 (by decide) (fun c_98 => ?_) (fun c_98 => ?_)
                    · refine lv_lconst (v := lN 0) hx hb dX7_score_105 rfl ?_
                      refine m_toj (if (jq σ i).1 = tgt wn then lN 1 else lN 0) (by rw [if_neg c_98]) ?_
                      exact J_98 ls (lv_sub hl [0, 1, 2, 3, 4] rfl)
                    · refine lv_lconst (v := lN 1) hx hb dX7_score_101 rfl ?_
                      refine lv_goto (tgt := 106) hx hb dX7_score_102 (by decide) ?_
                      refine m_toj (if (jq σ i).1 = tgt wn then lN 1 else lN 0) (by rw [if_pos c_98]) ?_
                      exact J_98 ls (lv_sub hl [0, 1, 2, 3, 4] rfl)
                  refine m_ifneN (tgt := 88) (by omega) hx hb dX7_score_81 (by decide) (fun c_81 => ?_) (fun c_81 => ?_)
                  · refine lv_iload_n hx hb dX7_score_88 rfl (lv_at hl 2 rfl) ?_
                    refine lv_iconst (v := nI 1) hx hb dX7_score_89 (by decide) ?_
                    refine m_icmp_neN (tgt := 97) (by omega) (by omega) hx hb dX7_score_90 (by decide) (fun c_90 => ?_) (fun c_90 => ?_)
                    · refine lv_iconst (v := nI 0) hx hb dX7_score_97 (by decide) ?_
                      refine m_toe (nI (tgt wn)) (by unfold tgt; first | rw [if_pos c_81] | rw [if_neg (by omega), if_pos c_90] | rw [if_neg (by omega), if_neg c_90]) ?_
                      exact J_81 ls (lv_sub hl [0, 1, 2, 3, 4] rfl)
                    · refine lv_iconst (v := nI 2) hx hb dX7_score_93 (by decide) ?_
                      refine lv_goto (tgt := 98) hx hb dX7_score_94 (by decide) ?_
                      refine m_toe (nI (tgt wn)) (by unfold tgt; first | rw [if_pos c_81] | rw [if_neg (by omega), if_pos c_90] | rw [if_neg (by omega), if_neg c_90]) ?_
                      exact J_81 ls (lv_sub hl [0, 1, 2, 3, 4] rfl)
                  · refine lv_iconst (v := nI 1) hx hb dX7_score_84 (by decide) ?_
                    refine lv_goto (tgt := 98) hx hb dX7_score_85 (by decide) ?_
                    refine m_toe (nI (tgt wn)) (by unfold tgt; first | rw [if_pos c_81] | rw [if_neg (by omega), if_pos c_90] | rw [if_neg (by omega), if_neg c_90]) ?_
                    exact J_81 ls (lv_sub hl [0, 1, 2, 3, 4] rfl)
              · refine lv_goto (tgt := 187) hx hb dX7_score_61 (by decide) ?_
                refine lv_iinc (v := nI (i + 1)) (lv' := [(5, .int (nI (i + 1))), (0, .ref (B.1 0 0)), (1, .int (nI sn)), (2, .int (nI wn)), (3, .long (s64 (fun q => if lSu σ q = sn then slv σ wn q else 0) i))]) hx hb dX7_score_187 hl (k := 4) rfl (nI_1 _) (by decide) rfl (fun ls hl => ?_)
                refine lv_goto (tgt := 41) hx hb dX7_score_190 (by decide) ?_
                exact ih (i + 1) (by omega) _ H locs hJ hH hS ls (by rw [s64_no c_58]; exact lv_sub hl [1, 2, 3, 4, 0] rfl)
        exact loop (nL σ + 1) 0 (by omega) σ _ _ (Sm.rf σ) hH hS ls (lv_sub hl [2, 3, 4, 1, 0] rfl)
      · refine lv_aload_n hx hb dX7_score_28 rfl (lv_at hl 0 rfl) ?_
        refine gf_X7_49 hx hb hown hK hH (bm hM 0) dX7_score_29 ?_
        refine lv_iload_n hx hb dX7_score_32 rfl (lv_at hl 1 rfl) ?_
        refine m_iald hx hb hK hH (n := 8) (bm hM 16) (fun _ _ => rfl) (sn) (rfl) (by omega) (by decide) dX7_score_33 ?_
        refine lv_i2l hx hb dX7_score_34 rfl ?_
        exact m_lret hx hb hr hlk hH hS dX7_score_35 (⟨by rw [if_pos hyes, nI_clamp (by omega), nI_clamp (by omega)]; unfold scV; rw [if_pos c_25], Sm.rf σ⟩)
    · have hno : scOK σ x w = false := by
        unfold scOK
        first
          | (rw [c_5]; rfl)
          | (have h9 := inR_f c_15; rw [n0I, n6I] at h9; rw [decide_eq_false h9, Bool.and_false])
      refine lv_ldc2 hx hb hown (hK.2 _ wc_X7_142 rfl _) dX7_score_18 ?_
      exact m_lret hx hb hr hlk hH hS dX7_score_21 (⟨by rw [hno]; rfl, Sm.rf σ⟩)
