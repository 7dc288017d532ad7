def abA (σ : gS) (q : Nat) (w : Int32) : Int32 := if w = nI 0 then nI (jq σ q).1 else if w = nI 1 then nI (lSn σ q) else if w = nI 2 then nI (jD (jq σ q)) else if w = nI 3 then nI (jq σ q).2.2.1 else if w = nI 4 then nI (lPl σ q) else if w = nI 5 then nI (lSz σ q) else if w = nI 6 then nI (lRu σ q) else -2
set_option maxHeartbeats 4000000 in
set_option maxRecDepth 100000 in
theorem c_X7_about (l : Launch) (G : gG) (B : gB) (σ : gS) (hM : BkM B) (hP : WfP σ) (hL : WfL σ) (x w : Int32) : Met l yX7_about [.code yX7_about cX7_about 3 (some .int)] ({ frames := 2, cells := 0, slots := 0, locals := 49 } : Room) (mPc G B σ [.ref (B.1 0 0), .int (x), .int (w)]) (mQi G B (fun v τ => v = (if isLo σ x = true then abA σ x.toNatClampNeg w else -2) ∧ Sm σ τ)) 0 0 (mA G) := by
  refine m_start (by decide) (Nat.le_of_ble_eq_true rfl) ?_
  intro p e s m below meth c ⟨hx, hb, hr, hml, hown, hK, hlk, hz⟩ hH hS ls hl
  have hl : lv_has ls 3 [(0, .ref (B.1 0 0)), (1, .int (x)), (2, .int (w))] := hl
  refine lv_aload_n hx hb dX7_about_0 rfl (lv_at hl 0 rfl) ?_
  refine lv_iload_n hx hb dX7_about_1 rfl (lv_at hl 1 rfl) ?_
  refine m_ki (m_runV (k := 0) (i := 0) (ci := 7) ⟨hx, hb, hml, hown, hz⟩ hK hH hS (bm hM 0) rfl rfl (c_X7_isLot l G B σ hM ⟨hL.1, hL.2.1⟩ x) mw_X7_isLot wl_X7_189 ⟨rfl, rfl⟩ ⟨by decide, by decide⟩ rfl hl.1 rfl (Nat.le_of_ble_eq_true rfl) dX7_about_2 ⟨Nat.zero_le _, Nat.zero_le _⟩) hS (fun r_2 σ_2 H locs hp hH hS => ?_)
  obtain ⟨hr1, hs1⟩ := hp
  subst hr1
  rw [hs1] at hH
  refine m_ifneB (tgt := 11) hx hb dX7_about_5 (by decide) (fun c_5 => ?_) (fun c_5 => ?_)
  · obtain ⟨qn, hqn, he⟩ := isLo_t c_5
    subst he
    have hl60 := hL.2.1
    have hL1 := hL.2.2 qn hqn
    refine lv_aload_n hx hb dX7_about_11 rfl (lv_at hl 0 rfl) ?_
    refine lv_iload_n hx hb dX7_about_12 rfl (lv_at hl 1 rfl) ?_
    refine m_kv (m_runV (k := 0) (i := 0) (ci := 7) ⟨hx, hb, hml, hown, hz⟩ hK hH hS (bm hM 0) rfl rfl (c_X7_judge l G B σ hM qn (lPl σ qn) (lSn σ qn) (hL1.jh hP (by omega))) mw_X7_judge wl_X7_192 ⟨rfl, rfl⟩ ⟨by decide, by decide⟩ rfl hl.1 rfl (Nat.le_of_ble_eq_true rfl) dX7_about_13 ⟨Nat.zero_le _, Nat.zero_le _⟩) hS (fun σ_13 H locs hp hH hS => ?_)
    have hp : JP σ σ_13 (jq σ qn) := hp
    have hif : isLo σ (nI qn) = true := c_5
    clear c_5
    refine lv_iload_n hx hb dX7_about_16 rfl (lv_at hl 2 rfl) ?_
    by_cases s_17_0 : w = nI 0
    · refine m_toe (nI 0) s_17_0 ?_
      refine lv_tableIn (off := 43) (tgt := 60) hx hb dX7_about_17 (by decide) (by decide) (by decide) (by decide) ?_
      refine lv_aload_n hx hb dX7_about_60 rfl (lv_at hl 0 rfl) ?_
      refine gf_X7_177 hx hb hown hK hH (bm hM 0) dX7_about_61 ?_
      refine m_toi ((jq σ qn).1) (hp.2.2.1) ?_
      exact m_iret hx hb hr hlk hH hS dX7_about_64 (⟨by rw [if_pos hif, nI_clamp (by omega)]; unfold abA; rw [if_pos s_17_0], hp.sm⟩)
    by_cases s_17_1 : w = nI 1
    · refine m_toe (nI 1) s_17_1 ?_
      refine lv_tableIn (off := 48) (tgt := 65) hx hb dX7_about_17 (by decide) (by decide) (by decide) (by decide) ?_
      refine lv_aload_n hx hb dX7_about_65 rfl (lv_at hl 0 rfl) ?_
      refine gf_X7_70 hx hb hown hK hH (bm hM 0) dX7_about_66 ?_
      refine lv_iload_n hx hb dX7_about_69 rfl (lv_at hl 1 rfl) ?_
      refine m_iald hx hb hK hH (n := 60) (bm hM 23) (fun _ _ => rfl) (qn) (rfl) (by omega) (by decide) dX7_about_70 ?_
      refine m_toi (lSn σ qn) ((hp.1 23 0 qn (by omega)).trans hL1.2.2.2.2.2.2.2.1) ?_
      exact m_iret hx hb hr hlk hH hS dX7_about_71 (⟨by rw [if_pos hif, nI_clamp (by omega)]; unfold abA; rw [if_neg s_17_0, if_pos s_17_1], hp.sm⟩)
    by_cases s_17_2 : w = nI 2
    · refine m_toe (nI 2) s_17_2 ?_
      refine lv_tableIn (off := 55) (tgt := 72) hx hb dX7_about_17 (by decide) (by decide) (by decide) (by decide) ?_
      refine lv_aload_n hx hb dX7_about_72 rfl (lv_at hl 0 rfl) ?_
      refine gf_X7_183 hx hb hown hK hH (bm hM 0) dX7_about_73 ?_
      refine m_toi (jD (jq σ qn)) (hp.2.2.2.2.1) ?_
      exact m_iret hx hb hr hlk hH hS dX7_about_76 (⟨by rw [if_pos hif, nI_clamp (by omega)]; unfold abA; rw [if_neg s_17_0, if_neg s_17_1, if_pos s_17_2], hp.sm⟩)
    by_cases s_17_3 : w = nI 3
    · refine m_toe (nI 3) s_17_3 ?_
      refine lv_tableIn (off := 60) (tgt := 77) hx hb dX7_about_17 (by decide) (by decide) (by decide) (by decide) ?_
      refine lv_aload_n hx hb dX7_about_77 rfl (lv_at hl 0 rfl) ?_
      refine gf_X7_186 hx hb hown hK hH (bm hM 0) dX7_about_78 ?_
      refine m_toi ((jq σ qn).2.2.1) (hp.2.2.2.2.2) ?_
      exact m_iret hx hb hr hlk hH hS dX7_about_81 (⟨by rw [if_pos hif, nI_clamp (by omega)]; unfold abA; rw [if_neg s_17_0, if_neg s_17_1, if_neg s_17_2, if_pos s_17_3], hp.sm⟩)
    by_cases s_17_4 : w = nI 4
    · refine m_toe (nI 4) s_17_4 ?_
      refine lv_tableIn (off := 65) (tgt := 82) hx hb dX7_about_17 (by decide) (by decide) (by decide) (by decide) ?_
      refine lv_aload_n hx hb dX7_about_82 rfl (lv_at hl 0 rfl) ?_
      refine gf_X7_64 hx hb hown hK hH (bm hM 0) dX7_about_83 ?_
      refine lv_iload_n hx hb dX7_about_86 rfl (lv_at hl 1 rfl) ?_
      refine m_iald hx hb hK hH (n := 60) (bm hM 21) (fun _ _ => rfl) (qn) (rfl) (by omega) (by decide) dX7_about_87 ?_
      refine m_toi (lPl σ qn) ((hp.1 21 0 qn (by omega)).trans hL1.2.2.2.2.1) ?_
      exact m_iret hx hb hr hlk hH hS dX7_about_88 (⟨by rw [if_pos hif, nI_clamp (by omega)]; unfold abA; rw [if_neg s_17_0, if_neg s_17_1, if_neg s_17_2, if_neg s_17_3, if_pos s_17_4], hp.sm⟩)
    by_cases s_17_5 : w = nI 5
    · refine m_toe (nI 5) s_17_5 ?_
      refine lv_tableIn (off := 72) (tgt := 89) hx hb dX7_about_17 (by decide) (by decide) (by decide) (by decide) ?_
      refine lv_aload_n hx hb dX7_about_89 rfl (lv_at hl 0 rfl) ?_
      refine gf_X7_61 hx hb hown hK hH (bm hM 0) dX7_about_90 ?_
      refine lv_iload_n hx hb dX7_about_93 rfl (lv_at hl 1 rfl) ?_
      refine m_iald hx hb hK hH (n := 60) (bm hM 20) (fun _ _ => rfl) (qn) (rfl) (by omega) (by decide) dX7_about_94 ?_
      refine m_toi (lSz σ qn) ((hp.1 20 0 qn (by omega)).trans hL1.2.2.1) ?_
      exact m_iret hx hb hr hlk hH hS dX7_about_95 (⟨by rw [if_pos hif, nI_clamp (by omega)]; unfold abA; rw [if_neg s_17_0, if_neg s_17_1, if_neg s_17_2, if_neg s_17_3, if_neg s_17_4, if_pos s_17_5], hp.sm⟩)
    by_cases s_17_6 : w = nI 6
    · refine m_toe (nI 6) s_17_6 ?_
      refine lv_tableIn (off := 79) (tgt := 96) hx hb dX7_about_17 (by decide) (by decide) (by decide) (by decide) ?_
      refine lv_aload_n hx hb dX7_about_96 rfl (lv_at hl 0 rfl) ?_
      refine gf_X7_67 hx hb hown hK hH (bm hM 0) dX7_about_97 ?_
      refine lv_iload_n hx hb dX7_about_100 rfl (lv_at hl 1 rfl) ?_
      refine m_iald hx hb hK hH (n := 60) (bm hM 22) (fun _ _ => rfl) (qn) (rfl) (by omega) (by decide) dX7_about_101 ?_
      refine m_toi (lRu σ qn) ((hp.1 22 0 qn (by omega)).trans hL1.2.2.2.1) ?_
      exact m_iret hx hb hr hlk hH hS dX7_about_102 (⟨by rw [if_pos hif, nI_clamp (by omega)]; unfold abA; rw [if_neg s_17_0, if_neg s_17_1, if_neg s_17_2, if_neg s_17_3, if_neg s_17_4, if_neg s_17_5, if_pos s_17_6], hp.sm⟩)
    have so_17 : w.toInt < 0 ∨ 6 < w.toInt := by
      simp only [i_eq] at s_17_0 s_17_1 s_17_2 s_17_3 s_17_4 s_17_5 s_17_6
      simp only [show (nI 0).toInt = 0 from rfl, show (nI 1).toInt = 1 from rfl, show (nI 2).toInt = 2 from rfl, show (nI 3).toInt = 3 from rfl, show (nI 4).toInt = 4 from rfl, show (nI 5).toInt = 5 from rfl, show (nI 6).toInt = 6 from rfl] at s_17_0 s_17_1 s_17_2 s_17_3 s_17_4 s_17_5 s_17_6
      omega
    refine lv_tableOut (tgt := 103) hx hb dX7_about_17 so_17 (by decide) ?_
    refine lv_bipush (v := (-2)) hx hb dX7_about_103 (by decide) ?_
    exact m_iret hx hb hr hlk hH hS dX7_about_105 (⟨by rw [if_pos hif, nI_clamp (by omega)]; unfold abA; rw [if_neg s_17_0, if_neg s_17_1, if_neg s_17_2, if_neg s_17_3, if_neg s_17_4, if_neg s_17_5, if_neg s_17_6], hp.sm⟩)
  · refine lv_bipush (v := (-2)) hx hb dX7_about_8 (by decide) ?_
    exact m_iret hx hb hr hlk hH hS dX7_about_10 (⟨(if_neg (fun h => by rw [c_5] at h; exact absurd h (by decide))).symm, Sm.rf σ⟩)
def unOK (σ : gS) (x : Int32) : Bool := opn σ x && decide (lSn σ x.toNatClampNeg ≠ 0)
set_option maxHeartbeats 4000000 in
set_option maxRecDepth 100000 in
theorem c_X7_undo (l : Launch) (G : gG) (B : gB) (σ : gS) (hM : BkM B) (hP : WfP σ) (hL : WfL σ) (x : Int32) : Met l yX7_undo [.code yX7_undo cX7_undo 2 (some .int)] ({ frames := 3, cells := 0, slots := 0, locals := 70 } : Room) (mPc G B σ [.ref (B.1 0 0), .int (x)]) (mQi G B (fun v τ => v = (if unOK σ x = true then nI (lSn σ x.toNatClampNeg - 1) else -2) ∧ Sm (if unOK σ x = true then sI σ 23 0 x.toNatClampNeg (nI (lSn σ x.toNatClampNeg - 1)) else σ) τ)) 0 0 (mA G) := by
  refine m_start (by decide) (Nat.le_of_ble_eq_true rfl) ?_
  intro p e s m below meth c ⟨hx, hb, hr, hml, hown, hK, hlk, hz⟩ hH hS ls hl
  have hl : lv_has ls 2 [(0, .ref (B.1 0 0)), (1, .int (x))] := hl
  refine lv_aload_n hx hb dX7_undo_0 rfl (lv_at hl 0 rfl) ?_
  refine lv_iload_n hx hb dX7_undo_1 rfl (lv_at hl 1 rfl) ?_
  refine m_ki (m_runV (k := 0) (i := 0) (ci := 7) ⟨hx, hb, hml, hown, hz⟩ hK hH hS (bm hM 0) rfl rfl (c_X7_isOpen l G B σ hM hP hL x) mw_X7_isOpen wl_X7_198 ⟨rfl, rfl⟩ ⟨by decide, by decide⟩ rfl hl.1 rfl (Nat.le_of_ble_eq_true rfl) dX7_undo_2 ⟨Nat.zero_le _, Nat.zero_le _⟩) hS (fun r_2 σ_2 H locs hp hH hS => ?_)
  obtain ⟨hr1, hsm⟩ := hp
  subst hr1
  refine m_ifeqB (tgt := 17) hx hb dX7_undo_5 (by decide) (fun c_5 => ?_) (fun c_5 => ?_)
  · have hno : unOK σ (x) = false := by
      unfold unOK
      first
        | (rw [c_5]; rfl)
        | (rw [nI_clamp (by omega), decide_eq_false (fun z => z c_14), Bool.and_false])
    refine lv_bipush (v := (-2)) hx hb dX7_undo_17 (by decide) ?_
    exact m_iret hx hb hr hlk hH hS dX7_undo_19 (⟨by rw [hno]; rfl, by rw [hno]; exact hsm⟩)
  · obtain ⟨qn, hqn, he, hop⟩ := opn_t hL.2.1 c_5
    subst he
    have hl60 := hL.2.1
    have hL1 := hL.2.2 qn hqn
    have hsn := hL1.2.2.2.2.2.2.2.2.1
    refine lv_aload_n hx hb dX7_undo_8 rfl (lv_at hl 0 rfl) ?_
    refine gf_X7_70 hx hb hown hK hH (bm hM 0) dX7_undo_9 ?_
    refine lv_iload_n hx hb dX7_undo_12 rfl (lv_at hl 1 rfl) ?_
    refine m_iald hx hb hK hH (n := 60) (bm hM 23) (fun _ _ => rfl) (qn) (rfl) (by omega) (by decide) dX7_undo_13 ?_
    refine m_toi (lSn σ qn) ((hsm.rd 23 0 qn rfl).trans hL1.2.2.2.2.2.2.2.1) ?_
    refine m_ifneN (tgt := 20) (by omega) hx hb dX7_undo_14 (by decide) (fun c_14 => ?_) (fun c_14 => ?_)
    · have hyes : unOK σ (nI qn) = true := by
        unfold unOK
        rw [nI_clamp (by omega), c_5, decide_eq_true (show lSn σ qn ≠ 0 by omega)]
        rfl
      refine lv_aload_n hx hb dX7_undo_20 rfl (lv_at hl 0 rfl) ?_
      refine gf_X7_70 hx hb hown hK hH (bm hM 0) dX7_undo_21 ?_
      refine lv_iload_n hx hb dX7_undo_24 rfl (lv_at hl 1 rfl) ?_
      refine lv_dup2_11 hx hb dX7_undo_25 rfl rfl ?_
      refine m_iald hx hb hK hH (n := 60) (bm hM 23) (fun _ _ => rfl) (qn) (rfl) (by omega) (by decide) dX7_undo_26 ?_
      refine m_toi (lSn σ qn) ((hsm.rd 23 0 qn rfl).trans hL1.2.2.2.2.2.2.2.1) ?_
      refine lv_iconst (v := nI 1) hx hb dX7_undo_27 (by decide) ?_
      refine m_isubN (by omega) hx hb dX7_undo_28 ?_
      refine m_iast hx hb hK hH hS (n := 60) (bm hM 23) (fun _ _ => rfl) (qn) (rfl) (by omega) (by decide) dX7_undo_29 (fun H locs hH hS => ?_)
      refine lv_aload_n hx hb dX7_undo_30 rfl (lv_at hl 0 rfl) ?_
      refine gf_X7_70 hx hb hown hK hH (bm hM 0) dX7_undo_31 ?_
      refine lv_iload_n hx hb dX7_undo_34 rfl (lv_at hl 1 rfl) ?_
      refine m_iald hx hb hK hH (n := 60) (bm hM 23) (fun _ _ => rfl) (qn) (rfl) (by omega) (by decide) dX7_undo_35 ?_
      refine m_toi (lSn σ qn - 1) (by rw [sI_at, if_pos ⟨rfl, rfl, rfl⟩]) ?_
      exact m_iret hx hb hr hlk hH hS dX7_undo_36 (⟨by rw [if_pos hyes, nI_clamp (by omega)], by rw [if_pos hyes, nI_clamp (by omega)]; exact hsm.put 23 0 qn _⟩)
    · have hno : unOK σ (nI qn) = false := by
        unfold unOK
        first
          | (rw [c_5]; rfl)
          | (rw [nI_clamp (by omega), decide_eq_false (fun z => z c_14), Bool.and_false])
      refine lv_bipush (v := (-2)) hx hb dX7_undo_17 (by decide) ?_
      exact m_iret hx hb hr hlk hH hS dX7_undo_19 (⟨by rw [hno]; rfl, by rw [hno]; exact hsm⟩)
set_option maxHeartbeats 4000000 in
set_option maxRecDepth 100000 in
theorem c_X7_hears (l : Launch) (G : gG) (B : gB) (σ : gS) (hM : BkM B) (hW : WfS σ) (qn : Nat) (hJ0 : JH σ qn (lPl σ qn) (lSn σ qn)) (hs1 : σ.1 19 0 qn = nI (lSu σ qn)) (hs2 : lSu σ qn < nS σ) (hrn : rn σ (lSu σ qn) < 60) : Met l yX7_hears [.code yX7_hears cX7_hears 7 (some .int)] ({ frames := 3, cells := 0, slots := 0, locals := 65 } : Room) (mPc G B σ [.ref (B.1 0 0), .int (nI qn)]) (mQi G B (fun v τ => v = nI (jq σ qn).1 ∧ Sm (hrs σ qn) τ)) 0 0 (mA G) := by
  refine m_start (by decide) (Nat.le_of_ble_eq_true rfl) ?_
  intro p e s m below meth c ⟨hx, hb, hr, hml, hown, hK, hlk, hz⟩ hH hS ls hl
  have hl : lv_has ls 7 [(0, .ref (B.1 0 0)), (1, .int (nI qn))] := hl
  refine lv_aload_n hx hb dX7_hears_0 rfl (lv_at hl 0 rfl) ?_
  refine lv_iload_n hx hb dX7_hears_1 rfl (lv_at hl 1 rfl) ?_
  refine m_kv (m_runV (k := 0) (i := 0) (ci := 7) ⟨hx, hb, hml, hown, hz⟩ hK hH hS (bm hM 0) rfl rfl (c_X7_judge l G B σ hM qn (lPl σ qn) (lSn σ qn) hJ0) mw_X7_judge wl_X7_192 ⟨rfl, rfl⟩ ⟨by decide, by decide⟩ rfl hl.1 rfl (Nat.le_of_ble_eq_true rfl) dX7_hears_2 ⟨Nat.zero_le _, Nat.zero_le _⟩) hS (fun σ_2 H locs hp hH hS => ?_)
  have hp : JP σ σ_2 (jq σ qn) := hp
  have hb1 : (jq σ qn).1 ≤ 2 := jd_now σ qn (lPl σ qn) (lSn σ qn)
  have hq := hJ0.1
  have h8 := hW.2.1
  have hS1 := hW.2.2.1 (lSu σ qn) hs2
  refine lv_aload_n hx hb dX7_hears_5 rfl (lv_at hl 0 rfl) ?_
  refine gf_X7_70 hx hb hown hK hH (bm hM 0) dX7_hears_6 ?_
  refine lv_iload_n hx hb dX7_hears_9 rfl (lv_at hl 1 rfl) ?_
  refine lv_aload_n hx hb dX7_hears_10 rfl (lv_at hl 0 rfl) ?_
  refine gf_X7_180 hx hb hown hK hH (bm hM 0) dX7_hears_11 ?_
  refine m_toi ((jq σ qn).2.1) (hp.2.2.2.1) ?_
  refine m_iast hx hb hK hH hS (n := 60) (bm hM 23) (fun _ _ => rfl) (qn) (rfl) (by omega) (by decide) dX7_hears_14 (fun H locs hH hS => ?_)
  refine lv_aload_n hx hb dX7_hears_15 rfl (lv_at hl 0 rfl) ?_
  refine gf_X7_177 hx hb hown hK hH (bm hM 0) dX7_hears_16 ?_
  refine m_toi ((jq σ qn).1) (by rw [sI_at, if_neg (by omega)]; exact hp.2.2.1) ?_
  refine m_ifneN (tgt := 24) (by omega) hx hb dX7_hears_19 (by decide) (fun c_19 => ?_) (fun c_19 => ?_)
  · refine lv_aload_n hx hb dX7_hears_24 rfl (lv_at hl 0 rfl) ?_
    refine gf_X7_177 hx hb hown hK hH (bm hM 0) dX7_hears_25 ?_
    refine m_toi ((jq σ qn).1) (by rw [sI_at, if_neg (by omega)]; exact hp.2.2.1) ?_
    refine lv_istore_n (lv' := [(2, .int (nI ((jq σ qn).1))), (0, .ref (B.1 0 0)), (1, .int (nI qn))]) hx hb dX7_hears_28 rfl hl (by decide) rfl (fun ls hl => ?_)
    refine lv_aload_n hx hb dX7_hears_29 rfl (lv_at hl 1 rfl) ?_
    refine gf_X7_58 hx hb hown hK hH (bm hM 0) dX7_hears_30 ?_
    refine lv_iload_n hx hb dX7_hears_33 rfl (lv_at hl 2 rfl) ?_
    refine m_iald hx hb hK hH (n := 60) (bm hM 19) (fun _ _ => rfl) (qn) (rfl) (by omega) (by decide) dX7_hears_34 ?_
    refine m_toi (lSu σ qn) (by rw [sI_at, if_neg (by omega)]; exact (hp.1 19 0 qn (by omega)).trans hs1) ?_
    refine lv_istore_n (lv' := [(3, .int (nI (lSu σ qn))), (2, .int (nI ((jq σ qn).1))), (0, .ref (B.1 0 0)), (1, .int (nI qn))]) hx hb dX7_hears_35 rfl hl (by decide) rfl (fun ls hl => ?_)
    refine lv_aload_n hx hb dX7_hears_36 rfl (lv_at hl 2 rfl) ?_
    refine gf_X7_55 hx hb hown hK hH (bm hM 0) dX7_hears_37 ?_
    refine lv_bipush (v := nI 60) hx hb dX7_hears_40 (by decide) ?_
    refine lv_iload_n hx hb dX7_hears_42 rfl (lv_at hl 0 rfl) ?_
    refine m_imulN hx hb dX7_hears_43 ?_
    refine lv_aload_n hx hb dX7_hears_44 rfl (lv_at hl 2 rfl) ?_
    refine gf_X7_52 hx hb hown hK hH (bm hM 0) dX7_hears_45 ?_
    refine lv_iload_n hx hb dX7_hears_48 rfl (lv_at hl 0 rfl) ?_
    refine m_iald hx hb hK hH (n := 8) (bm hM 17) (fun _ _ => rfl) (lSu σ qn) (rfl) (by omega) (by decide) dX7_hears_49 ?_
    refine m_toi (rn σ (lSu σ qn)) (by rw [sI_at, if_neg (by omega)]; exact (hp.1 17 0 _ (by omega)).trans hS1.2.2.2.1) ?_
    refine m_iaddN hx hb dX7_hears_50 ?_
    refine lv_iload_n hx hb dX7_hears_51 rfl (lv_at hl 1 rfl) ?_
    refine m_iast hx hb hK hH hS (n := 480) (bm hM 18) (fun _ _ => rfl) (60 * (lSu σ qn) + (rn σ (lSu σ qn))) (rfl) (by omega) (by decide) dX7_hears_52 (fun H locs hH hS => ?_)
    refine lv_aload_n hx hb dX7_hears_53 rfl (lv_at hl 2 rfl) ?_
    refine gf_X7_52 hx hb hown hK hH (bm hM 0) dX7_hears_54 ?_
    refine lv_iload_n hx hb dX7_hears_57 rfl (lv_at hl 0 rfl) ?_
    refine lv_dup2_11 hx hb dX7_hears_58 rfl rfl ?_
    refine m_iald hx hb hK hH (n := 8) (bm hM 17) (fun _ _ => rfl) (lSu σ qn) (rfl) (by omega) (by decide) dX7_hears_59 ?_
    refine m_toi (rn σ (lSu σ qn)) (by rw [sI_at, if_neg (by omega), sI_at, if_neg (by omega)]; exact (hp.1 17 0 _ (by omega)).trans hS1.2.2.2.1) ?_
    refine lv_iconst (v := nI 1) hx hb dX7_hears_60 (by decide) ?_
    refine m_iaddN hx hb dX7_hears_61 ?_
    refine m_iast hx hb hK hH hS (n := 8) (bm hM 17) (fun _ _ => rfl) (lSu σ qn) (rfl) (by omega) (by decide) dX7_hears_62 (fun H locs hH hS => ?_)
    obtain ⟨υ, hυ⟩ : ∃ z, z = sI (sI (sI σ_2 23 0 qn (nI ((jq σ qn).2.1))) 18 0 (60 * (lSu σ qn) + (rn σ (lSu σ qn))) (nI ((jq σ qn).1))) 17 0 (lSu σ qn) (nI (rn σ (lSu σ qn) + 1)) := ⟨_, rfl⟩
    rw [← hυ] at hH
    obtain ⟨σ1, hσ1⟩ : ∃ z, z = sI σ 23 0 qn (nI (jq σ qn).2.1) := ⟨_, rfl⟩
    obtain ⟨su, hsu⟩ : ∃ z, z = lSu σ qn := ⟨_, rfl⟩
    obtain ⟨an, han⟩ : ∃ z, z = (jq σ qn).1 := ⟨_, rfl⟩
    have hW1 : WfS σ1 := by rw [hσ1]; exact x23_S hW
    have hrn1 : rn σ1 su = rn σ su := by rw [hσ1]; exact x23_rn σ _ _ _
    have hrl1 : rl σ1 su = rl σ su := by rw [hσ1]; exact x23_rl σ _ _ _
    have h161 : σ1.1 16 0 su = σ.1 16 0 su := by rw [hσ1]; exact x23_16 σ _ _ _
    have hnS1 : nS σ1 = nS σ := by rw [hσ1]; exact x23_n σ _ _
    have hsm1 : Sm σ1 (sI σ_2 23 0 qn (nI (jq σ qn).2.1)) := by rw [hσ1]; exact hp.sm.put 23 0 qn _
    have hsmA : Sm (rcA σ1 su an) υ := by unfold rcA; rw [hυ, hrn1, hsu, han]; exact (hsm1.put 18 0 _ _).put 17 0 _ _
    rw [← hsu] at hs2 hrn hS1
    rw [← hsu, ← han] at hl
    rw [← han] at hb1 c_19
    have hWA : WfS υ := hsmA.wfS (rcA_wfS hW1 (by rw [hnS1]; exact hs2) (by rw [hrn1]; exact hrn))
    have hrA : rn υ su = rn σ su + 1 := (hsmA.rnE su).trans ((rn_rcA (by rw [hrn1]; exact hrn)).trans (by rw [hrn1]))
    have hnA : nS υ = nS σ := hsmA.nSE.trans ((rcA_n σ1 su an).trans hnS1)
    have hsA : isSu υ (nI su) = true := isSu_nI (by rw [hnA]; exact hs2) (by rw [hnA]; exact h8)
    have h15 : υ.1 15 0 su = nI (rl σ su) := (hsmA.rd 15 0 su rfl).trans ((rcA_15 σ1 su an su).trans (by rw [hσ1]; exact hS1.1))
    have h16 : υ.1 16 0 su = σ.1 16 0 su := (hsmA.rd 16 0 su rfl).trans ((rcA_16 σ1 su an su).trans h161)
    clear hυ hsm1
    refine lv_aload_n hx hb dX7_hears_63 rfl (lv_at hl 2 rfl) ?_
    refine gf_X7_46 hx hb hown hK hH (bm hM 0) dX7_hears_64 ?_
    refine lv_iload_n hx hb dX7_hears_67 rfl (lv_at hl 0 rfl) ?_
    refine m_iald hx hb hK hH (n := 8) (bm hM 15) (fun _ _ => rfl) (su) (rfl) (by omega) (by decide) dX7_hears_68 ?_
    refine m_toi (rl σ su) (h15) ?_
    refine lv_istore (lv' := [(4, .int (nI (rl σ su))), (3, .int (nI su)), (2, .int (nI an)), (0, .ref (B.1 0 0)), (1, .int (nI qn))]) hx hb dX7_hears_69 hl (by decide) rfl (fun ls hl => ?_)
    refine lv_iconst (v := nI 0) hx hb dX7_hears_71 (by decide) ?_
    refine lv_istore (lv' := [(5, .int (nI 0)), (4, .int (nI (rl σ su))), (3, .int (nI su)), (2, .int (nI an)), (0, .ref (B.1 0 0)), (1, .int (nI qn))]) hx hb dX7_hears_72 hl (by decide) rfl (fun ls hl => ?_)
    refine lv_iconst (v := nI 0) hx hb dX7_hears_74 (by decide) ?_
    refine lv_istore (lv' := [(6, .int (nI 0)), (5, .int (nI 0)), (4, .int (nI (rl σ su))), (3, .int (nI su)), (2, .int (nI an)), (0, .ref (B.1 0 0)), (1, .int (nI qn))]) hx hb dX7_hears_75 hl (by decide) rfl (fun ls hl => ?_)
    have loop : ∀ (n : Nat) (i : Nat), i ≤ 5 ∧ 5 < i + n → ∀ (H : Heap) (locs : List Loc), Hp G B υ H → va_S (mA G) s.heap H locs → ∀ (ls : Array Slot), lv_has ls 7 [(0, .ref (B.1 0 0)), (1, .int (nI qn)), (2, .int (nI an)), (3, .int (nI su)), (4, .int (nI (rl σ su))), (5, .int (nI (rf5 (rv υ su) i))), (6, .int (nI i))] → W p l e ({ frames := 3, cells := 0, slots := 0, locals := 65 } : Room) s m ([.ref (B.1 0 0), .int (nI qn)] : List Value).toArray below meth c H locs 0 0 (MQ below (mQi G B (fun v τ => v = nI (jq σ qn).1 ∧ Sm (hrs σ qn) τ)) ([.ref (B.1 0 0), .int (nI qn)] : List Value).toArray s 0 0 (mA G)) (F0 m 77 ls []) := by
      intro n
      induction n with
      | zero => intro i hh; exfalso; omega
      | succ n ih =>
        intro i hh H locs hH hS ls hl
        refine lv_iload hx hb dX7_hears_77 (lv_at hl 6 rfl) ?_
        refine lv_iconst (v := nI 5) hx hb dX7_hears_79 (by decide) ?_
        refine m_icmp_geN (tgt := 110) (by omega) (by omega) hx hb dX7_hears_80 (by decide) (fun c_80 => ?_) (fun c_80 => ?_)
        · have hi5 : i = 5 := by omega
          subst hi5
          refine lv_iconst (v := nI 0) hx hb dX7_hears_110 (by decide) ?_
          refine lv_istore (lv' := [(6, .int (nI 0)), (0, .ref (B.1 0 0)), (1, .int (nI qn)), (2, .int (nI an)), (3, .int (nI su)), (4, .int (nI (rl σ su))), (5, .int (nI (rf5 (rv υ su) 5)))]) hx hb dX7_hears_111 hl (by decide) rfl (fun ls hl => ?_)
          have loop2 : ∀ (n2 : Nat) (j : Nat), j ≤ rn υ su ∧ rn υ su < j + n2 ∧ ld (rv υ su) j = true → ∀ (H : Heap) (locs : List Loc), Hp G B υ H → va_S (mA G) s.heap H locs → ∀ (ls : Array Slot), lv_has ls 7 [(0, .ref (B.1 0 0)), (1, .int (nI qn)), (2, .int (nI an)), (3, .int (nI su)), (4, .int (nI (rl σ su))), (5, .int (nI (rf5 (rv υ su) 5))), (6, .int (nI j))] → W p l e ({ frames := 3, cells := 0, slots := 0, locals := 65 } : Room) s m ([.ref (B.1 0 0), .int (nI qn)] : List Value).toArray below meth c H locs 0 0 (MQ below (mQi G B (fun v τ => v = nI (jq σ qn).1 ∧ Sm (hrs σ qn) τ)) ([.ref (B.1 0 0), .int (nI qn)] : List Value).toArray s 0 0 (mA G)) (F0 m 113 ls []) := by
            intro n2
            induction n2 with
            | zero => intro j hj; exfalso; omega
            | succ n2 ih2 =>
              intro j hj H locs hH hS ls hl
              refine lv_aload_n hx hb dX7_hears_113 rfl (lv_at hl 0 rfl) ?_
              refine lv_iload_n hx hb dX7_hears_114 rfl (lv_at hl 3 rfl) ?_
              refine lv_iload hx hb dX7_hears_115 (lv_at hl 6 rfl) ?_
              refine m_ki (m_runV (k := 0) (i := 0) (ci := 7) ⟨hx, hb, hml, hown, hz⟩ hK hH hS (bm hM 0) rfl rfl (c_X7_run l G B υ hM hWA (nI su) (nI j)) mw_X7_run wl_X7_196 ⟨rfl, rfl⟩ ⟨by decide, by decide⟩ rfl hl.1 rfl (Nat.le_of_ble_eq_true rfl) dX7_hears_117 ⟨Nat.zero_le _, Nat.zero_le _⟩) hS (fun r_117 σ_117 H locs hp hH hS => ?_)
              obtain ⟨hr1, hs9⟩ := hp
              rw [hs9] at hH
              rw [if_pos ⟨hsA, by rw [nI_I (by omega)]; omega⟩, nI_clamp (by omega), nI_clamp (by omega)] at hr1
              subst hr1
              refine lv_iconst (v := nI 1) hx hb dX7_hears_120 (by decide) ?_
              refine lv_icmp_ne (tgt := 130) hx hb dX7_hears_121 (by decide) (fun c_121 => ?_) (fun c_121 => ?_)
              · have hr2 := hS1.2.1
                have hl5 := rf5_le (rv υ su) 5
                have hn2 := nxr_le (rl σ su) an (rv υ su)
                refine lv_iload hx hb dX7_hears_130 (lv_at hl 4 rfl) ?_
                have J_132 : ∀ (ls : Array Slot), lv_has ls 7 [(4, .int (nI (nxr (rl σ su) an (rv υ su)))), (0, .ref (B.1 0 0)), (1, .int (nI qn)), (2, .int (nI an)), (3, .int (nI su)), (5, .int (nI (rf5 (rv υ su) 5))), (6, .int (nI j))] → W p l e ({ frames := 3, cells := 0, slots := 0, locals := 65 } : Room) s m ([.ref (B.1 0 0), .int (nI qn)] : List Value).toArray below meth c H locs 0 0 (MQ below (mQi G B (fun v τ => v = nI (jq σ qn).1 ∧ Sm (hrs σ qn) τ)) ([.ref (B.1 0 0), .int (nI qn)] : List Value).toArray s 0 0 (mA G)) (F0 m 196 ls []) := by
                  intro ls hl
                  refine lv_iload hx hb dX7_hears_196 (lv_at hl 0 rfl) ?_
                  refine lv_aload_n hx hb dX7_hears_198 rfl (lv_at hl 1 rfl) ?_
                  refine gf_X7_46 hx hb hown hK hH (bm hM 0) dX7_hears_199 ?_
                  refine lv_iload_n hx hb dX7_hears_202 rfl (lv_at hl 4 rfl) ?_
                  refine m_iald hx hb hK hH (n := 8) (bm hM 15) (fun _ _ => rfl) (su) (rfl) (by omega) (by decide) dX7_hears_203 ?_
                  refine m_toi (rl σ su) (h15) ?_
                  refine m_icmp_eqN (tgt := 232) (by omega) (by omega) hx hb dX7_hears_204 (by decide) (fun c_204 => ?_) (fun c_204 => ?_)
                  · have hNX : nxr (rl σ1 su) an (rv (rcA σ1 su an) su) = nxr (rl σ su) an (rv υ su) := by rw [hsmA.rvE su, hrl1]
                    have hfin : hrs σ qn = rcv σ1 su an := by rw [hrs_1 (by rw [← han]; omega), ← hσ1, ← hsu, ← han]
                    refine lv_iload_n hx hb dX7_hears_232 rfl (lv_at hl 3 rfl) ?_
                    exact m_iret hx hb hr hlk hH hS dX7_hears_233 (⟨by rw [han], by rw [hfin, rcv_same (by rw [hNX, hrl1]; exact c_204)]; exact hsmA⟩)
                  · refine lv_aload_n hx hb dX7_hears_207 rfl (lv_at hl 1 rfl) ?_
                    refine gf_X7_46 hx hb hown hK hH (bm hM 0) dX7_hears_208 ?_
                    refine lv_iload_n hx hb dX7_hears_211 rfl (lv_at hl 4 rfl) ?_
                    refine lv_iload hx hb dX7_hears_212 (lv_at hl 0 rfl) ?_
                    refine m_iast hx hb hK hH hS (n := 8) (bm hM 15) (fun _ _ => rfl) (su) (rfl) (by omega) (by decide) dX7_hears_214 (fun H locs hH hS => ?_)
                    refine lv_aload_n hx hb dX7_hears_215 rfl (lv_at hl 1 rfl) ?_
                    refine gf_X7_49 hx hb hown hK hH (bm hM 0) dX7_hears_216 ?_
                    refine lv_iload_n hx hb dX7_hears_219 rfl (lv_at hl 4 rfl) ?_
                    refine lv_dup2_11 hx hb dX7_hears_220 rfl rfl ?_
                    refine m_iald hx hb hK hH (n := 8) (bm hM 16) (fun _ _ => rfl) (su) (rfl) (by omega) (by decide) dX7_hears_221 ?_
                    refine m_toe (σ.1 16 0 su) (by rw [sI_at, if_neg (by omega)]; exact h16) ?_
                    refine lv_iconst (v := nI 1) hx hb dX7_hears_222 (by decide) ?_
                    refine lv_iadd hx hb dX7_hears_223 ?_
                    refine m_iast hx hb hK hH hS (n := 8) (bm hM 16) (fun _ _ => rfl) (su) (rfl) (by omega) (by decide) dX7_hears_224 (fun H locs hH hS => ?_)
                    refine lv_aload_n hx hb dX7_hears_225 rfl (lv_at hl 1 rfl) ?_
                    refine gf_X7_52 hx hb hown hK hH (bm hM 0) dX7_hears_226 ?_
                    refine lv_iload_n hx hb dX7_hears_229 rfl (lv_at hl 4 rfl) ?_
                    refine lv_iconst (v := nI 0) hx hb dX7_hears_230 (by decide) ?_
                    refine m_iast hx hb hK hH hS (n := 8) (bm hM 17) (fun _ _ => rfl) (su) (rfl) (by omega) (by decide) dX7_hears_231 (fun H locs hH hS => ?_)
                    have hNX : nxr (rl σ1 su) an (rv (rcA σ1 su an) su) = nxr (rl σ su) an (rv υ su) := by rw [hsmA.rvE su, hrl1]
                    have hfin : hrs σ qn = rcv σ1 su an := by rw [hrs_1 (by rw [← han]; omega), ← hσ1, ← hsu, ← han]
                    refine lv_iload_n hx hb dX7_hears_232 rfl (lv_at hl 3 rfl) ?_
                    exact m_iret hx hb hr hlk hH hS dX7_hears_233 (⟨by rw [han], by rw [hfin, rcv_new (by rw [hNX, hrl1]; exact c_204), hNX, h161]; exact ((hsmA.put 15 0 _ _).put 16 0 _ _).put 17 0 _ _⟩)
                refine m_ifneN (tgt := 162) (by omega) hx hb dX7_hears_132 (by decide) (fun c_132 => ?_) (fun c_132 => ?_)
                · refine lv_iload hx hb dX7_hears_162 (lv_at hl 4 rfl) ?_
                  refine lv_iconst (v := nI 1) hx hb dX7_hears_164 (by decide) ?_
                  refine m_icmp_neN (tgt := 184) (by omega) (by omega) hx hb dX7_hears_165 (by decide) (fun c_165 => ?_) (fun c_165 => ?_)
                  · refine lv_iload_n hx hb dX7_hears_184 rfl (lv_at hl 2 rfl) ?_
                    refine lv_iconst (v := nI 2) hx hb dX7_hears_185 (by decide) ?_
                    refine m_icmp_neN (tgt := 193) (by omega) (by omega) hx hb dX7_hears_186 (by decide) (fun c_186 => ?_) (fun c_186 => ?_)
                    · refine lv_iconst (v := nI 2) hx hb dX7_hears_193 (by decide) ?_
                      refine lv_istore (lv' := [(4, .int (nI 2)), (0, .ref (B.1 0 0)), (1, .int (nI qn)), (2, .int (nI an)), (3, .int (nI su)), (5, .int (nI (rf5 (rv υ su) 5))), (6, .int (nI j))]) hx hb dX7_hears_194 hl (by decide) rfl (fun ls hl => ?_)
                      exact J_132 ls (by rw [show nxr (rl σ su) an (rv υ su) = 2 by unfold nxr; first | rw [if_pos c_132, if_pos c_138] | rw [if_pos c_132, if_neg (by omega), if_pos ((ld_iff hj.2.2 c_121).mpr c_149)] | rw [if_pos c_132, if_neg (by omega), if_neg (fun q => by have := (ld_iff hj.2.2 c_121).mp q; omega)] | rw [if_neg (by omega), if_pos c_165, if_pos ((ld_iff hj.2.2 c_121).mpr c_171)] | rw [if_neg (by omega), if_pos c_165, if_neg (fun q => by have := (ld_iff hj.2.2 c_121).mp q; omega)] | rw [if_neg (by omega), if_neg c_165, if_pos c_186] | rw [if_neg (by omega), if_neg c_165, if_neg c_186]]; exact lv_sub hl [0, 1, 2, 3, 4, 5, 6] rfl)
                    · refine lv_iconst (v := nI 0) hx hb dX7_hears_189 (by decide) ?_
                      refine lv_goto (tgt := 194) hx hb dX7_hears_190 (by decide) ?_
                      refine lv_istore (lv' := [(4, .int (nI 0)), (0, .ref (B.1 0 0)), (1, .int (nI qn)), (2, .int (nI an)), (3, .int (nI su)), (5, .int (nI (rf5 (rv υ su) 5))), (6, .int (nI j))]) hx hb dX7_hears_194 hl (by decide) rfl (fun ls hl => ?_)
                      exact J_132 ls (by rw [show nxr (rl σ su) an (rv υ su) = 0 by unfold nxr; first | rw [if_pos c_132, if_pos c_138] | rw [if_pos c_132, if_neg (by omega), if_pos ((ld_iff hj.2.2 c_121).mpr c_149)] | rw [if_pos c_132, if_neg (by omega), if_neg (fun q => by have := (ld_iff hj.2.2 c_121).mp q; omega)] | rw [if_neg (by omega), if_pos c_165, if_pos ((ld_iff hj.2.2 c_121).mpr c_171)] | rw [if_neg (by omega), if_pos c_165, if_neg (fun q => by have := (ld_iff hj.2.2 c_121).mp q; omega)] | rw [if_neg (by omega), if_neg c_165, if_pos c_186] | rw [if_neg (by omega), if_neg c_165, if_neg c_186]]; exact lv_sub hl [0, 1, 2, 3, 4, 5, 6] rfl)
                  · refine lv_iload hx hb dX7_hears_168 (lv_at hl 6 rfl) ?_
                    refine lv_iconst (v := nI 5) hx hb dX7_hears_170 (by decide) ?_
                    refine m_icmp_ltN (tgt := 178) (by omega) (by omega) hx hb dX7_hears_171 (by decide) (fun c_171 => ?_) (fun c_171 => ?_)
                    · refine lv_iconst (v := nI 1) hx hb dX7_hears_178 (by decide) ?_
                      refine lv_istore (lv' := [(4, .int (nI 1)), (0, .ref (B.1 0 0)), (1, .int (nI qn)), (2, .int (nI an)), (3, .int (nI su)), (5, .int (nI (rf5 (rv υ su) 5))), (6, .int (nI j))]) hx hb dX7_hears_179 hl (by decide) rfl (fun ls hl => ?_)
                      refine lv_goto (tgt := 196) hx hb dX7_hears_181 (by decide) ?_
                      exact J_132 ls (by rw [show nxr (rl σ su) an (rv υ su) = 1 by unfold nxr; first | rw [if_pos c_132, if_pos c_138] | rw [if_pos c_132, if_neg (by omega), if_pos ((ld_iff hj.2.2 c_121).mpr c_149)] | rw [if_pos c_132, if_neg (by omega), if_neg (fun q => by have := (ld_iff hj.2.2 c_121).mp q; omega)] | rw [if_neg (by omega), if_pos c_165, if_pos ((ld_iff hj.2.2 c_121).mpr c_171)] | rw [if_neg (by omega), if_pos c_165, if_neg (fun q => by have := (ld_iff hj.2.2 c_121).mp q; omega)] | rw [if_neg (by omega), if_neg c_165, if_pos c_186] | rw [if_neg (by omega), if_neg c_165, if_neg c_186]]; exact lv_sub hl [0, 1, 2, 3, 4, 5, 6] rfl)
                    · refine lv_iconst (v := nI 0) hx hb dX7_hears_174 (by decide) ?_
                      refine lv_goto (tgt := 179) hx hb dX7_hears_175 (by decide) ?_
                      refine lv_istore (lv' := [(4, .int (nI 0)), (0, .ref (B.1 0 0)), (1, .int (nI qn)), (2, .int (nI an)), (3, .int (nI su)), (5, .int (nI (rf5 (rv υ su) 5))), (6, .int (nI j))]) hx hb dX7_hears_179 hl (by decide) rfl (fun ls hl => ?_)
                      refine lv_goto (tgt := 196) hx hb dX7_hears_181 (by decide) ?_
                      exact J_132 ls (by rw [show nxr (rl σ su) an (rv υ su) = 0 by unfold nxr; first | rw [if_pos c_132, if_pos c_138] | rw [if_pos c_132, if_neg (by omega), if_pos ((ld_iff hj.2.2 c_121).mpr c_149)] | rw [if_pos c_132, if_neg (by omega), if_neg (fun q => by have := (ld_iff hj.2.2 c_121).mp q; omega)] | rw [if_neg (by omega), if_pos c_165, if_pos ((ld_iff hj.2.2 c_121).mpr c_171)] | rw [if_neg (by omega), if_pos c_165, if_neg (fun q => by have := (ld_iff hj.2.2 c_121).mp q; omega)] | rw [if_neg (by omega), if_neg c_165, if_pos c_186] | rw [if_neg (by omega), if_neg c_165, if_neg c_186]]; exact lv_sub hl [0, 1, 2, 3, 4, 5, 6] rfl)
                · refine lv_iload hx hb dX7_hears_135 (lv_at hl 5 rfl) ?_
                  refine lv_iconst (v := nI 2) hx hb dX7_hears_137 (by decide) ?_
                  refine m_icmp_ltN (tgt := 145) (by omega) (by omega) hx hb dX7_hears_138 (by decide) (fun c_138 => ?_) (fun c_138 => ?_)
                  · refine lv_iload hx hb dX7_hears_145 (lv_at hl 6 rfl) ?_
                    refine lv_bipush (v := nI 6) hx hb dX7_hears_147 (by decide) ?_
                    refine m_icmp_ltN (tgt := 156) (by omega) (by omega) hx hb dX7_hears_149 (by decide) (fun c_149 => ?_) (fun c_149 => ?_)
                    · refine lv_iconst (v := nI 0) hx hb dX7_hears_156 (by decide) ?_
                      refine lv_istore (lv' := [(4, .int (nI 0)), (0, .ref (B.1 0 0)), (1, .int (nI qn)), (2, .int (nI an)), (3, .int (nI su)), (5, .int (nI (rf5 (rv υ su) 5))), (6, .int (nI j))]) hx hb dX7_hears_157 hl (by decide) rfl (fun ls hl => ?_)
                      refine lv_goto (tgt := 196) hx hb dX7_hears_159 (by decide) ?_
                      exact J_132 ls (by rw [show nxr (rl σ su) an (rv υ su) = 0 by unfold nxr; first | rw [if_pos c_132, if_pos c_138] | rw [if_pos c_132, if_neg (by omega), if_pos ((ld_iff hj.2.2 c_121).mpr c_149)] | rw [if_pos c_132, if_neg (by omega), if_neg (fun q => by have := (ld_iff hj.2.2 c_121).mp q; omega)] | rw [if_neg (by omega), if_pos c_165, if_pos ((ld_iff hj.2.2 c_121).mpr c_171)] | rw [if_neg (by omega), if_pos c_165, if_neg (fun q => by have := (ld_iff hj.2.2 c_121).mp q; omega)] | rw [if_neg (by omega), if_neg c_165, if_pos c_186] | rw [if_neg (by omega), if_neg c_165, if_neg c_186]]; exact lv_sub hl [0, 1, 2, 3, 4, 5, 6] rfl)
                    · refine lv_iconst (v := nI 2) hx hb dX7_hears_152 (by decide) ?_
                      refine lv_goto (tgt := 157) hx hb dX7_hears_153 (by decide) ?_
                      refine lv_istore (lv' := [(4, .int (nI 2)), (0, .ref (B.1 0 0)), (1, .int (nI qn)), (2, .int (nI an)), (3, .int (nI su)), (5, .int (nI (rf5 (rv υ su) 5))), (6, .int (nI j))]) hx hb dX7_hears_157 hl (by decide) rfl (fun ls hl => ?_)
                      refine lv_goto (tgt := 196) hx hb dX7_hears_159 (by decide) ?_
                      exact J_132 ls (by rw [show nxr (rl σ su) an (rv υ su) = 2 by unfold nxr; first | rw [if_pos c_132, if_pos c_138] | rw [if_pos c_132, if_neg (by omega), if_pos ((ld_iff hj.2.2 c_121).mpr c_149)] | rw [if_pos c_132, if_neg (by omega), if_neg (fun q => by have := (ld_iff hj.2.2 c_121).mp q; omega)] | rw [if_neg (by omega), if_pos c_165, if_pos ((ld_iff hj.2.2 c_121).mpr c_171)] | rw [if_neg (by omega), if_pos c_165, if_neg (fun q => by have := (ld_iff hj.2.2 c_121).mp q; omega)] | rw [if_neg (by omega), if_neg c_165, if_pos c_186] | rw [if_neg (by omega), if_neg c_165, if_neg c_186]]; exact lv_sub hl [0, 1, 2, 3, 4, 5, 6] rfl)
                  · refine lv_iconst (v := nI 1) hx hb dX7_hears_141 (by decide) ?_
                    refine lv_goto (tgt := 157) hx hb dX7_hears_142 (by decide) ?_
                    refine lv_istore (lv' := [(4, .int (nI 1)), (0, .ref (B.1 0 0)), (1, .int (nI qn)), (2, .int (nI an)), (3, .int (nI su)), (5, .int (nI (rf5 (rv υ su) 5))), (6, .int (nI j))]) hx hb dX7_hears_157 hl (by decide) rfl (fun ls hl => ?_)
                    refine lv_goto (tgt := 196) hx hb dX7_hears_159 (by decide) ?_
                    exact J_132 ls (by rw [show nxr (rl σ su) an (rv υ su) = 1 by unfold nxr; first | rw [if_pos c_132, if_pos c_138] | rw [if_pos c_132, if_neg (by omega), if_pos ((ld_iff hj.2.2 c_121).mpr c_149)] | rw [if_pos c_132, if_neg (by omega), if_neg (fun q => by have := (ld_iff hj.2.2 c_121).mp q; omega)] | rw [if_neg (by omega), if_pos c_165, if_pos ((ld_iff hj.2.2 c_121).mpr c_171)] | rw [if_neg (by omega), if_pos c_165, if_neg (fun q => by have := (ld_iff hj.2.2 c_121).mp q; omega)] | rw [if_neg (by omega), if_neg c_165, if_pos c_186] | rw [if_neg (by omega), if_neg c_165, if_neg c_186]]; exact lv_sub hl [0, 1, 2, 3, 4, 5, 6] rfl)
              · refine lv_iinc (v := nI (j + 1)) (lv' := [(6, .int (nI (j + 1))), (0, .ref (B.1 0 0)), (1, .int (nI qn)), (2, .int (nI an)), (3, .int (nI su)), (4, .int (nI (rl σ su))), (5, .int (nI (rf5 (rv υ su) 5)))]) hx hb dX7_hears_124 hl (k := 6) rfl (nI_1 _) (by decide) rfl (fun ls hl => ?_)
                refine lv_goto (tgt := 113) hx hb dX7_hears_127 (by decide) ?_
                exact ih2 (j + 1) ⟨by have := rv_1 c_121; omega, by have := rv_1 c_121; omega, by show (ld _ j && _) = true; rw [hj.2.2, decide_eq_true c_121]; rfl⟩ H locs hH hS ls (lv_sub hl [1, 2, 3, 4, 5, 6, 0] rfl)
          exact loop2 (rn υ su + 1) 0 ⟨by omega, by omega, rfl⟩ H locs hH hS ls (lv_sub hl [1, 2, 3, 4, 5, 6, 0] rfl)
        · refine lv_iload hx hb dX7_hears_83 (lv_at hl 5 rfl) ?_
          refine lv_aload_n hx hb dX7_hears_85 rfl (lv_at hl 0 rfl) ?_
          refine lv_iload_n hx hb dX7_hears_86 rfl (lv_at hl 3 rfl) ?_
          refine lv_iload hx hb dX7_hears_87 (lv_at hl 6 rfl) ?_
          refine m_ki (m_runV (k := 0) (i := 0) (ci := 7) ⟨hx, hb, hml, hown, hz⟩ hK hH hS (bm hM 0) rfl rfl (c_X7_run l G B υ hM hWA (nI su) (nI i)) mw_X7_run wl_X7_196 ⟨rfl, rfl⟩ ⟨by decide, by decide⟩ rfl hl.1 rfl (Nat.le_of_ble_eq_true rfl) dX7_hears_89 ⟨Nat.zero_le _, Nat.zero_le _⟩) hS (fun r_89 σ_89 H locs hp hH hS => ?_)
          obtain ⟨hr1, hs9⟩ := hp
          rw [hs9] at hH
          rw [if_pos ⟨hsA, by rw [nI_I (by omega)]; omega⟩, nI_clamp (by omega), nI_clamp (by omega)] at hr1
          subst hr1
          refine lv_iconst (v := nI 2) hx hb dX7_hears_92 (by decide) ?_
          have J_93 : ∀ (ls : Array Slot), lv_has ls 7 [(0, .ref (B.1 0 0)), (1, .int (nI qn)), (2, .int (nI an)), (3, .int (nI su)), (4, .int (nI (rl σ su))), (5, .int (nI (rf5 (rv υ su) i))), (6, .int (nI i))] → W p l e ({ frames := 3, cells := 0, slots := 0, locals := 65 } : Room) s m ([.ref (B.1 0 0), .int (nI qn)] : List Value).toArray below meth c H locs 0 0 (MQ below (mQi G B (fun v τ => v = nI (jq σ qn).1 ∧ Sm (hrs σ qn) τ)) ([.ref (B.1 0 0), .int (nI qn)] : List Value).toArray s 0 0 (mA G)) (F0 m 101 ls [.int (nI (if rv υ su i = nI 2 then 1 else 0)), .int (nI (rf5 (rv υ su) i))]) := by
            intro ls hl
            refine m_iaddN hx hb dX7_hears_101 ?_
            refine lv_istore (lv' := [(5, .int (nI (rf5 (rv υ su) i + (if rv υ su i = nI 2 then 1 else 0)))), (0, .ref (B.1 0 0)), (1, .int (nI qn)), (2, .int (nI an)), (3, .int (nI su)), (4, .int (nI (rl σ su))), (6, .int (nI i))]) hx hb dX7_hears_102 hl (by decide) rfl (fun ls hl => ?_)
            refine lv_iinc (v := nI (i + 1)) (lv' := [(6, .int (nI (i + 1))), (5, .int (nI (rf5 (rv υ su) i + (if rv υ su i = nI 2 then 1 else 0)))), (0, .ref (B.1 0 0)), (1, .int (nI qn)), (2, .int (nI an)), (3, .int (nI su)), (4, .int (nI (rl σ su)))]) hx hb dX7_hears_104 hl (k := 6) rfl (nI_1 _) (by decide) rfl (fun ls hl => ?_)
            refine lv_goto (tgt := 77) hx hb dX7_hears_107 (by decide) ?_
            exact ih (i + 1) (by omega) H locs hH hS ls (lv_sub hl [2, 3, 4, 5, 6, 1, 0] rfl)
          refine lv_icmp_ne (tgt := 100) hx hb dX7_hears_93 (by decide) (fun c_93 => ?_) (fun c_93 => ?_)
          · refine lv_iconst (v := nI 0) hx hb dX7_hears_100 (by decide) ?_
            refine m_toe (nI (if rv υ su i = nI 2 then 1 else 0)) (by rw [if_neg c_93]) ?_
            exact J_93 ls (lv_sub hl [0, 1, 2, 3, 4, 5, 6] rfl)
          · refine lv_iconst (v := nI 1) hx hb dX7_hears_96 (by decide) ?_
            refine lv_goto (tgt := 101) hx hb dX7_hears_97 (by decide) ?_
            refine m_toe (nI (if rv υ su i = nI 2 then 1 else 0)) (by rw [if_pos c_93]) ?_
            exact J_93 ls (lv_sub hl [0, 1, 2, 3, 4, 5, 6] rfl)
    exact loop 6 0 (by omega) H locs hH hS ls (lv_sub hl [5, 6, 4, 3, 2, 1, 0] rfl)
  · refine lv_iconst (v := nI 0) hx hb dX7_hears_22 (by decide) ?_
    exact m_iret hx hb hr hlk hH hS dX7_hears_23 (⟨by rw [c_19], by unfold hrs; rw [if_pos c_19]; exact hp.sm.put 23 0 qn _⟩)
