set_option maxHeartbeats 4000000 in
set_option maxRecDepth 100000 in
theorem c_X7_judge (l : Launch) (G : gG) (B : gB) (σ : gS) (hM : BkM B) (qn pn sn : Nat) (hL : JH σ qn pn sn) : Met l yX7_judge [.code yX7_judge cX7_judge 6 none] ({ frames := 1, cells := 0, slots := 0, locals := 24 } : Room) (mPc G B σ [.ref (B.1 0 0), .int (nI qn)]) (mQv G B (fun τ => JP σ τ (jd σ qn pn sn))) 0 0 (mA G) := by
  refine m_start (by decide) (Nat.le_of_ble_eq_true rfl) ?_
  intro p e s m below meth c ⟨hx, hb, hr, hml, hown, hK, hlk, hz⟩ hH hS ls hl
  have hl : lv_has ls 6 [(0, .ref (B.1 0 0)), (1, .int (nI qn))] := hl
  have loop : ∀ (n : Nat) (j : Nat), j ≤ sn ∧ sn < j + n → ∀ (τ : gS) (H : Heap) (locs : List Loc), JP σ τ (jd σ qn pn j) → Hp G B τ H → va_S (mA G) s.heap H locs → ∀ (ls : Array Slot), lv_has ls 6 [(0, .ref (B.1 0 0)), (1, .int (nI qn)), (2, .int (nI pn)), (3, .int (nI ((jd σ qn pn j).2.2.2.1))), (4, .int (nI ((jd σ qn pn j).2.2.2.2)))] → W p l e ({ frames := 1, cells := 0, slots := 0, locals := 24 } : Room) s m ([.ref (B.1 0 0), .int (nI qn)] : List Value).toArray below meth c H locs 0 0 (MQ below (mQv G B (fun τ => JP σ τ (jd σ qn pn sn))) ([.ref (B.1 0 0), .int (nI qn)] : List Value).toArray s 0 0 (mA G)) (F0 m 32 ls []) := by
    intro n
    induction n with
    | zero => intro j hh; exfalso; omega
    | succ n ih =>
      intro j hh τ H locs hJ hH hS ls hl
      have hb1 := jd_now σ qn pn j
      have hb2 := jd_mm σ qn pn j
      have h60 := hL.2.2.2.2.2.2.1
      have hq := hL.1
      refine lv_aload_n hx hb dX7_judge_32 rfl (lv_at hl 0 rfl) ?_
      refine gf_X7_177 hx hb hown hK hH (bm hM 0) dX7_judge_33 ?_
      refine m_toi ((jd σ qn pn j).1) (hJ.2.2.1) ?_
      refine m_ifneN (tgt := 209) (by omega) hx hb dX7_judge_36 (by decide) (fun c_36 => ?_) (fun c_36 => ?_)
      · exact m_vret hx hb hr hlk hH hS dX7_judge_209 (by first | (rw [jd_fix (show (jd σ qn pn j).1 ≠ 0 by omega) hh.1]; exact hJ) | (have e1 := jd_cnt c_36; rw [show sn = j by omega]; exact hJ))
      · refine lv_aload_n hx hb dX7_judge_39 rfl (lv_at hl 0 rfl) ?_
        refine gf_X7_180 hx hb hown hK hH (bm hM 0) dX7_judge_40 ?_
        refine m_toi (j) (by rw [hJ.2.2.2.1, jd_cnt c_36]) ?_
        refine lv_aload_n hx hb dX7_judge_43 rfl (lv_at hl 0 rfl) ?_
        refine gf_X7_70 hx hb hown hK hH (bm hM 0) dX7_judge_44 ?_
        refine lv_iload_n hx hb dX7_judge_47 rfl (lv_at hl 1 rfl) ?_
        refine m_iald hx hb hK hH (n := 60) (bm hM 23) (fun _ _ => rfl) (qn) (rfl) (by omega) (by decide) dX7_judge_48 ?_
        refine m_toi (sn) ((hJ.1 23 0 qn (by omega)).trans hL.2.2.2.2.2.1) ?_
        refine m_icmp_geN (tgt := 209) (by omega) (by omega) hx hb dX7_judge_49 (by decide) (fun c_49 => ?_) (fun c_49 => ?_)
        · exact m_vret hx hb hr hlk hH hS dX7_judge_209 (by first | (rw [jd_fix (show (jd σ qn pn j).1 ≠ 0 by omega) hh.1]; exact hJ) | (have e1 := jd_cnt c_36; rw [show sn = j by omega]; exact hJ))
        · have hit := hL.2.2.2.2.2.2.2 j c_49
          obtain ⟨hv1, hv2⟩ := jd_inv (q := qn) hL.2.2.1 hL.2.2.2.1 c_36
          have hs4 := hL.2.2.1.2.1
          have hp24 := hL.2.1
          refine lv_aload_n hx hb dX7_judge_52 rfl (lv_at hl 0 rfl) ?_
          refine gf_X7_73 hx hb hown hK hH (bm hM 0) dX7_judge_53 ?_
          refine lv_bipush (v := nI 60) hx hb dX7_judge_56 (by decide) ?_
          refine lv_iload_n hx hb dX7_judge_58 rfl (lv_at hl 1 rfl) ?_
          refine m_imulN hx hb dX7_judge_59 ?_
          refine lv_aload_n hx hb dX7_judge_60 rfl (lv_at hl 0 rfl) ?_
          refine gf_X7_180 hx hb hown hK hH (bm hM 0) dX7_judge_61 ?_
          refine m_toi (j) (by rw [hJ.2.2.2.1, jd_cnt c_36]) ?_
          refine m_iaddN hx hb dX7_judge_64 ?_
          refine m_iald hx hb hK hH (n := 3600) (bm hM 24) (fun _ _ => rfl) (60 * qn + j) (rfl) (by omega) (by decide) dX7_judge_65 ?_
          refine m_toi (itm σ qn j) ((hJ.1 24 0 _ (by omega)).trans hit.1) ?_
          refine lv_istore (lv' := [(5, .int (nI (itm σ qn j))), (0, .ref (B.1 0 0)), (1, .int (nI qn)), (2, .int (nI pn)), (3, .int (nI ((jd σ qn pn j).2.2.2.1))), (4, .int (nI ((jd σ qn pn j).2.2.2.2)))]) hx hb dX7_judge_66 hl (by decide) rfl (fun ls hl => ?_)
          refine lv_aload_n hx hb dX7_judge_68 rfl (lv_at hl 1 rfl) ?_
          refine lv_dup hx hb dX7_judge_69 rfl ?_
          refine gf_X7_180 hx hb hown hK hH (bm hM 0) dX7_judge_70 ?_
          refine m_toi (j) (by rw [hJ.2.2.2.1, jd_cnt c_36]) ?_
          refine lv_iconst (v := nI 1) hx hb dX7_judge_73 (by decide) ?_
          refine m_iaddN hx hb dX7_judge_74 ?_
          refine pf_X7_180 hx hb hown hK hH hS (bm hM 0) dX7_judge_75 (fun H locs hH hS => ?_)
          refine lv_iload_n hx hb dX7_judge_78 rfl (lv_at hl 4 rfl) ?_
          refine lv_iload hx hb dX7_judge_79 (lv_at hl 0 rfl) ?_
          refine lv_iconst (v := nI 1) hx hb dX7_judge_81 (by decide) ?_
          have J_82 : ∀ (ls : Array Slot), lv_has ls 6 [(5, .int (nI (itm σ qn j))), (0, .ref (B.1 0 0)), (1, .int (nI qn)), (2, .int (nI pn)), (3, .int (nI ((jd σ qn pn j).2.2.2.1))), (4, .int (nI ((jd σ qn pn j).2.2.2.2)))] → W p l e ({ frames := 1, cells := 0, slots := 0, locals := 24 } : Room) s m ([.ref (B.1 0 0), .int (nI qn)] : List Value).toArray below meth c H locs 0 0 (MQ below (mQv G B (fun τ => JP σ τ (jd σ qn pn sn))) ([.ref (B.1 0 0), .int (nI qn)] : List Value).toArray s 0 0 (mA G)) (F0 m 90 ls [.int (nI (isM (itm σ qn j))), .int (nI ((jd σ qn pn j).2.2.2.1))]) := by
            intro ls hl
            refine m_iaddN hx hb dX7_judge_90 ?_
            have hm1 := isM_le (itm σ qn j)
            refine lv_istore_n (lv' := [(3, .int (nI ((jd σ qn pn j).2.2.2.1 + (isM (itm σ qn j))))), (5, .int (nI (itm σ qn j))), (0, .ref (B.1 0 0)), (1, .int (nI qn)), (2, .int (nI pn)), (4, .int (nI ((jd σ qn pn j).2.2.2.2)))]) hx hb dX7_judge_91 rfl hl (by decide) rfl (fun ls hl => ?_)
            refine lv_iload hx hb dX7_judge_92 (lv_at hl 5 rfl) ?_
            refine lv_iload hx hb dX7_judge_94 (lv_at hl 1 rfl) ?_
            refine lv_iconst (v := nI 1) hx hb dX7_judge_96 (by decide) ?_
            have J_97 : ∀ (ls : Array Slot), lv_has ls 6 [(3, .int (nI ((jd σ qn pn j).2.2.2.1 + (isM (itm σ qn j))))), (5, .int (nI (itm σ qn j))), (0, .ref (B.1 0 0)), (1, .int (nI qn)), (2, .int (nI pn)), (4, .int (nI ((jd σ qn pn j).2.2.2.2)))] → W p l e ({ frames := 1, cells := 0, slots := 0, locals := 24 } : Room) s m ([.ref (B.1 0 0), .int (nI qn)] : List Value).toArray below meth c H locs 0 0 (MQ below (mQv G B (fun τ => JP σ τ (jd σ qn pn sn))) ([.ref (B.1 0 0), .int (nI qn)] : List Value).toArray s 0 0 (mA G)) (F0 m 105 ls [.int (nI (isB (itm σ qn j))), .int (nI ((jd σ qn pn j).2.2.2.2))]) := by
              intro ls hl
              refine m_iaddN hx hb dX7_judge_105 ?_
              have hm2 := isB_le (itm σ qn j)
              refine lv_istore (lv' := [(4, .int (nI ((jd σ qn pn j).2.2.2.2 + (isB (itm σ qn j))))), (3, .int (nI ((jd σ qn pn j).2.2.2.1 + (isM (itm σ qn j))))), (5, .int (nI (itm σ qn j))), (0, .ref (B.1 0 0)), (1, .int (nI qn)), (2, .int (nI pn))]) hx hb dX7_judge_106 hl (by decide) rfl (fun ls hl => ?_)
              refine lv_aload_n hx hb dX7_judge_108 rfl (lv_at hl 3 rfl) ?_
              refine lv_iload hx hb dX7_judge_109 (lv_at hl 0 rfl) ?_
              refine lv_iload_n hx hb dX7_judge_111 rfl (lv_at hl 1 rfl) ?_
              refine lv_iconst (v := nI 3) hx hb dX7_judge_112 (by decide) ?_
              refine m_idivN (by omega) (by omega) (by omega) hx hb dX7_judge_113 ?_
              refine m_iaddN hx hb dX7_judge_114 ?_
              refine pf_X7_183 hx hb hown hK hH hS (bm hM 0) dX7_judge_115 (fun H locs hH hS => ?_)
              have hdX : ((jd σ qn pn j).2.2.2.2 + isB (itm σ qn j) + ((jd σ qn pn j).2.2.2.1 + isM (itm σ qn j)) / 3) / 1 ≤ 200 := by rw [Nat.div_one]; have := Nat.div_le_self ((jd σ qn pn j).2.2.2.1 + isM (itm σ qn j)) 3; omega
              rw [Nat.div_one] at hdX
              have heP : eqP σ τ := hJ.eqP
              refine lv_iload hx hb dX7_judge_118 (lv_at hl 2 rfl) ?_
              refine lv_iconst (v := nI 3) hx hb dX7_judge_120 (by decide) ?_
              refine m_icmp_eqN (tgt := 144) (by omega) (by omega) hx hb dX7_judge_121 (by decide) (fun c_121 => ?_) (fun c_121 => ?_)
              · refine lv_aload_n hx hb dX7_judge_144 rfl (lv_at hl 3 rfl) ?_
                refine lv_iconst (v := nI 2) hx hb dX7_judge_145 (by decide) ?_
                refine pf_X7_177 hx hb hown hK hH hS (bm hM 0) dX7_judge_146 (fun H locs hH hS => ?_)
                refine lv_goto (tgt := 206) hx hb dX7_judge_149 (by decide) ?_
                refine lv_goto (tgt := 32) hx hb dX7_judge_206 (by decide) ?_
                have heq := jd_2 c_36 (by first | exact Or.inl c_121 | (refine Or.inr ?_; rw [i_lt, nI_I (by omega)] at c_141; unfold rfI; omega))
                exact ih (j + 1) (by omega) _ H locs (by rw [heq]; exact JP_A hJ rfl (by show _ + 1 = _; rw [jd_cnt c_36]) rfl rfl) hH hS ls (by rw [heq]; exact lv_sub hl [3, 4, 5, 1, 0] rfl)
              · refine lv_aload_n hx hb dX7_judge_124 rfl (lv_at hl 3 rfl) ?_
                refine gf_X7_183 hx hb hown hK hH (bm hM 0) dX7_judge_125 ?_
                refine m_toi ((jd σ qn pn j).2.2.2.2 + isB (itm σ qn j) + ((jd σ qn pn j).2.2.2.1 + isM (itm σ qn j)) / 3) (by rw [sI_at, if_pos ⟨rfl, rfl, rfl⟩]) ?_
                refine lv_aload_n hx hb dX7_judge_128 rfl (lv_at hl 3 rfl) ?_
                refine gf_X7_19 hx hb hown hK hH (bm hM 0) dX7_judge_129 ?_
                refine lv_iconst (v := nI 4) hx hb dX7_judge_132 (by decide) ?_
                refine lv_iload_n hx hb dX7_judge_133 rfl (lv_at hl 5 rfl) ?_
                refine m_imulN hx hb dX7_judge_134 ?_
                refine lv_aload_n hx hb dX7_judge_135 rfl (lv_at hl 3 rfl) ?_
                refine gf_X7_186 hx hb hown hK hH (bm hM 0) dX7_judge_136 ?_
                refine m_toi ((jd σ qn pn j).2.2.1) (by rw [sI_at, if_neg (by omega), sI_at, if_neg (by omega)]; exact hJ.2.2.2.2.2) ?_
                refine m_iaddN hx hb dX7_judge_139 ?_
                refine m_iald hx hb hK hH (n := 96) (bm hM 6) (fun _ _ => rfl) (4 * pn + ((jd σ qn pn j).2.2.1)) (rfl) (by omega) (by decide) dX7_judge_140 ?_
                refine m_toe (σ.1 6 0 (4 * pn + (jd σ qn pn j).2.2.1)) (by rw [sI_at, if_neg (by omega), sI_at, if_neg (by omega)]; exact hJ.1 6 0 _ (by omega)) ?_
                refine lv_icmp_lt (tgt := 152) hx hb dX7_judge_141 (by decide) (fun c_141 => ?_) (fun c_141 => ?_)
                · have hnc : ¬ (itm σ qn j = 3 ∨ rfI σ pn (jd σ qn pn j).2.2.1 ≤ (((jd σ qn pn j).2.2.2.2 + isB (itm σ qn j) + ((jd σ qn pn j).2.2.2.1 + isM (itm σ qn j)) / 3 : Nat) : Int)) := by
                    rw [i_lt, nI_I (by omega)] at c_141
                    unfold rfI
                    omega
                  refine lv_aload_n hx hb dX7_judge_152 rfl (lv_at hl 3 rfl) ?_
                  refine gf_X7_180 hx hb hown hK hH (bm hM 0) dX7_judge_153 ?_
                  refine m_toi (j + 1) (by rw [sI_at, if_neg (by omega), sI_at, if_pos ⟨rfl, rfl, rfl⟩]) ?_
                  refine lv_aload_n hx hb dX7_judge_156 rfl (lv_at hl 3 rfl) ?_
                  refine lv_iload_n hx hb dX7_judge_157 rfl (lv_at hl 5 rfl) ?_
                  refine lv_aload_n hx hb dX7_judge_158 rfl (lv_at hl 3 rfl) ?_
                  refine gf_X7_186 hx hb hown hK hH (bm hM 0) dX7_judge_159 ?_
                  refine m_toi ((jd σ qn pn j).2.2.1) (by rw [sI_at, if_neg (by omega), sI_at, if_neg (by omega)]; exact hJ.2.2.2.2.2) ?_
                  have heQ : eqP σ (sI (sI τ 0 0 32 (nI (j + 1))) 0 0 33 (nI ((jd σ qn pn j).2.2.2.2 + isB (itm σ qn j) + ((jd σ qn pn j).2.2.2.1 + isM (itm σ qn j)) / 3))) := (heP.put (by omega)).put (by omega)
                  refine m_toe (nI ((jd σ qn pn j).2.2.1 + 1) - 1) (by rw [nI_pred]) ?_
                  refine m_ki (m_runV (k := 0) (i := 0) (ci := 7) ⟨hx, hb, hml, hown, hz⟩ hK hH hS (bm hM 0) rfl rfl (c_X7_upTo l G B (sI (sI τ 0 0 32 (nI (j + 1))) 0 0 33 (nI ((jd σ qn pn j).2.2.2.2 + isB (itm σ qn j) + ((jd σ qn pn j).2.2.2.1 + isM (itm σ qn j)) / 3))) hM pn ((jd σ qn pn j).2.2.1 + 1) hp24 (heQ.wf hL.2.2.1) (by rw [heQ.st]; omega)) mw_X7_upTo wl_X7_103 ⟨rfl, rfl⟩ ⟨by decide, by decide⟩ rfl hl.1 rfl (Nat.le_of_ble_eq_true rfl) dX7_judge_162 ⟨Nat.zero_le _, Nat.zero_le _⟩) hS (fun r_162 σ_162 H locs hp hH hS => ?_)
                  obtain ⟨hr1, hs1⟩ := hp
                  rw [hs1] at hH
                  rw [heQ.to] at hr1
                  subst hr1
                  have htl := tot_le hL.2.2.1 (show (jd σ qn pn j).2.2.1 + 1 ≤ stN σ pn by omega)
                  refine m_icmp_neN (tgt := 206) (by omega) (by omega) hx hb dX7_judge_165 (by decide) (fun c_165 => ?_) (fun c_165 => ?_)
                  · refine lv_goto (tgt := 32) hx hb dX7_judge_206 (by decide) ?_
                    have heq := jd_0 c_36 hnc c_165
                    exact ih (j + 1) (by omega) _ H locs (by rw [heq]; exact JP_B hJ rfl (by show _ + 1 = _; rw [jd_cnt c_36]) rfl rfl) hH hS ls (by rw [heq]; exact lv_sub hl [3, 4, 5, 1, 0] rfl)
                  · refine lv_aload_n hx hb dX7_judge_168 rfl (lv_at hl 3 rfl) ?_
                    refine gf_X7_183 hx hb hown hK hH (bm hM 0) dX7_judge_169 ?_
                    refine m_toi ((jd σ qn pn j).2.2.2.2 + isB (itm σ qn j) + ((jd σ qn pn j).2.2.2.1 + isM (itm σ qn j)) / 3) (by rw [sI_at, if_pos ⟨rfl, rfl, rfl⟩]) ?_
                    refine lv_aload_n hx hb dX7_judge_172 rfl (lv_at hl 3 rfl) ?_
                    refine gf_X7_16 hx hb hown hK hH (bm hM 0) dX7_judge_173 ?_
                    refine lv_iconst (v := nI 4) hx hb dX7_judge_176 (by decide) ?_
                    refine lv_iload_n hx hb dX7_judge_177 rfl (lv_at hl 5 rfl) ?_
                    refine m_imulN hx hb dX7_judge_178 ?_
                    refine lv_aload_n hx hb dX7_judge_179 rfl (lv_at hl 3 rfl) ?_
                    refine gf_X7_186 hx hb hown hK hH (bm hM 0) dX7_judge_180 ?_
                    refine m_toi ((jd σ qn pn j).2.2.1) (by rw [sI_at, if_neg (by omega), sI_at, if_neg (by omega)]; exact hJ.2.2.2.2.2) ?_
                    refine m_iaddN hx hb dX7_judge_183 ?_
                    refine m_iald hx hb hK hH (n := 96) (bm hM 5) (fun _ _ => rfl) (4 * pn + ((jd σ qn pn j).2.2.1)) (rfl) (by omega) (by decide) dX7_judge_184 ?_
                    refine m_toe (σ.1 5 0 (4 * pn + (jd σ qn pn j).2.2.1)) (by rw [sI_at, if_neg (by omega), sI_at, if_neg (by omega)]; exact hJ.1 5 0 _ (by omega)) ?_
                    refine lv_icmp_gt (tgt := 196) hx hb dX7_judge_185 (by decide) (fun c_185 => ?_) (fun c_185 => ?_)
                    · refine lv_aload_n hx hb dX7_judge_196 rfl (lv_at hl 3 rfl) ?_
                      refine lv_dup hx hb dX7_judge_197 rfl ?_
                      refine gf_X7_186 hx hb hown hK hH (bm hM 0) dX7_judge_198 ?_
                      refine m_toi ((jd σ qn pn j).2.2.1) (by rw [sI_at, if_neg (by omega), sI_at, if_neg (by omega)]; exact hJ.2.2.2.2.2) ?_
                      refine lv_iconst (v := nI 1) hx hb dX7_judge_201 (by decide) ?_
                      refine m_iaddN hx hb dX7_judge_202 ?_
                      refine pf_X7_186 hx hb hown hK hH hS (bm hM 0) dX7_judge_203 (fun H locs hH hS => ?_)
                      refine lv_goto (tgt := 32) hx hb dX7_judge_206 (by decide) ?_
                      have heq := jd_0s c_36 hnc c_165 (by rw [i_lt, nI_I (by omega)] at c_185; unfold acI; omega)
                      exact ih (j + 1) (by omega) _ H locs (by rw [heq]; exact JP_C hJ c_36.symm (by show _ + 1 = _; rw [jd_cnt c_36]) rfl rfl) hH hS ls (by rw [heq]; exact lv_sub hl [3, 4, 5, 1, 0] rfl)
                    · refine lv_aload_n hx hb dX7_judge_188 rfl (lv_at hl 3 rfl) ?_
                      refine lv_iconst (v := nI 1) hx hb dX7_judge_189 (by decide) ?_
                      refine pf_X7_177 hx hb hown hK hH hS (bm hM 0) dX7_judge_190 (fun H locs hH hS => ?_)
                      refine lv_goto (tgt := 206) hx hb dX7_judge_193 (by decide) ?_
                      refine lv_goto (tgt := 32) hx hb dX7_judge_206 (by decide) ?_
                      have heq := jd_1 c_36 hnc c_165 (by rw [i_lt, nI_I (by omega)] at c_185; unfold acI; omega)
                      exact ih (j + 1) (by omega) _ H locs (by rw [heq]; exact JP_A hJ rfl (by show _ + 1 = _; rw [jd_cnt c_36]) rfl rfl) hH hS ls (by rw [heq]; exact lv_sub hl [3, 4, 5, 1, 0] rfl)
                · refine lv_aload_n hx hb dX7_judge_144 rfl (lv_at hl 3 rfl) ?_
                  refine lv_iconst (v := nI 2) hx hb dX7_judge_145 (by decide) ?_
                  refine pf_X7_177 hx hb hown hK hH hS (bm hM 0) dX7_judge_146 (fun H locs hH hS => ?_)
                  refine lv_goto (tgt := 206) hx hb dX7_judge_149 (by decide) ?_
                  refine lv_goto (tgt := 32) hx hb dX7_judge_206 (by decide) ?_
                  have heq := jd_2 c_36 (by first | exact Or.inl c_121 | (refine Or.inr ?_; rw [i_lt, nI_I (by omega)] at c_141; unfold rfI; omega))
                  exact ih (j + 1) (by omega) _ H locs (by rw [heq]; exact JP_A hJ rfl (by show _ + 1 = _; rw [jd_cnt c_36]) rfl rfl) hH hS ls (by rw [heq]; exact lv_sub hl [3, 4, 5, 1, 0] rfl)
            refine m_icmp_leN (tgt := 104) (by omega) (by omega) hx hb dX7_judge_97 (by decide) (fun c_97 => ?_) (fun c_97 => ?_)
            · refine lv_iconst (v := nI 0) hx hb dX7_judge_104 (by decide) ?_
              refine m_toe (nI (isB (itm σ qn j))) (by unfold isB; rw [if_neg (by omega)]) ?_
              exact J_97 ls (lv_sub hl [0, 1, 2, 3, 4, 5] rfl)
            · refine lv_iconst (v := nI 1) hx hb dX7_judge_100 (by decide) ?_
              refine lv_goto (tgt := 105) hx hb dX7_judge_101 (by decide) ?_
              refine m_toe (nI (isB (itm σ qn j))) (by unfold isB; rw [if_pos c_97]) ?_
              exact J_97 ls (lv_sub hl [0, 1, 2, 3, 4, 5] rfl)
          refine m_icmp_neN (tgt := 89) (by omega) (by omega) hx hb dX7_judge_82 (by decide) (fun c_82 => ?_) (fun c_82 => ?_)
          · refine lv_iconst (v := nI 0) hx hb dX7_judge_89 (by decide) ?_
            refine m_toe (nI (isM (itm σ qn j))) (by unfold isM; rw [if_neg c_82]) ?_
            exact J_82 ls (lv_sub hl [0, 1, 2, 3, 4, 5] rfl)
          · refine lv_iconst (v := nI 1) hx hb dX7_judge_85 (by decide) ?_
            refine lv_goto (tgt := 90) hx hb dX7_judge_86 (by decide) ?_
            refine m_toe (nI (isM (itm σ qn j))) (by unfold isM; rw [if_pos c_82]) ?_
            exact J_82 ls (lv_sub hl [0, 1, 2, 3, 4, 5] rfl)
  have hq := hL.1
  refine lv_aload_n hx hb dX7_judge_0 rfl (lv_at hl 0 rfl) ?_
  refine lv_iconst (v := nI 0) hx hb dX7_judge_1 (by decide) ?_
  refine pf_X7_177 hx hb hown hK hH hS (bm hM 0) dX7_judge_2 (fun H locs hH hS => ?_)
  refine lv_aload_n hx hb dX7_judge_5 rfl (lv_at hl 0 rfl) ?_
  refine lv_iconst (v := nI 0) hx hb dX7_judge_6 (by decide) ?_
  refine pf_X7_180 hx hb hown hK hH hS (bm hM 0) dX7_judge_7 (fun H locs hH hS => ?_)
  refine lv_aload_n hx hb dX7_judge_10 rfl (lv_at hl 0 rfl) ?_
  refine lv_iconst (v := nI 0) hx hb dX7_judge_11 (by decide) ?_
  refine pf_X7_183 hx hb hown hK hH hS (bm hM 0) dX7_judge_12 (fun H locs hH hS => ?_)
  refine lv_aload_n hx hb dX7_judge_15 rfl (lv_at hl 0 rfl) ?_
  refine lv_iconst (v := nI 0) hx hb dX7_judge_16 (by decide) ?_
  refine pf_X7_186 hx hb hown hK hH hS (bm hM 0) dX7_judge_17 (fun H locs hH hS => ?_)
  refine lv_aload_n hx hb dX7_judge_20 rfl (lv_at hl 0 rfl) ?_
  refine gf_X7_64 hx hb hown hK hH (bm hM 0) dX7_judge_21 ?_
  refine lv_iload_n hx hb dX7_judge_24 rfl (lv_at hl 1 rfl) ?_
  refine m_iald hx hb hK hH (n := 60) (bm hM 21) (fun _ _ => rfl) (qn) (rfl) (by omega) (by decide) dX7_judge_25 ?_
  refine m_toi (pn) (((JP_0 σ).1 21 0 qn (by omega)).trans hL.2.2.2.2.1) ?_
  refine lv_istore_n (lv' := [(2, .int (nI pn)), (0, .ref (B.1 0 0)), (1, .int (nI qn))]) hx hb dX7_judge_26 rfl hl (by decide) rfl (fun ls hl => ?_)
  refine lv_iconst (v := nI 0) hx hb dX7_judge_27 (by decide) ?_
  refine lv_istore_n (lv' := [(3, .int (nI 0)), (2, .int (nI pn)), (0, .ref (B.1 0 0)), (1, .int (nI qn))]) hx hb dX7_judge_28 rfl hl (by decide) rfl (fun ls hl => ?_)
  refine lv_iconst (v := nI 0) hx hb dX7_judge_29 (by decide) ?_
  refine lv_istore (lv' := [(4, .int (nI 0)), (3, .int (nI 0)), (2, .int (nI pn)), (0, .ref (B.1 0 0)), (1, .int (nI qn))]) hx hb dX7_judge_30 hl (by decide) rfl (fun ls hl => ?_)
  exact loop (sn + 1) 0 (by omega) _ H locs (JP_0 σ) hH hS ls (lv_sub hl [3, 4, 2, 1, 0] rfl)
