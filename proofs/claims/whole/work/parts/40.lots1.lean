set_option maxHeartbeats 4000000 in
set_option maxRecDepth 100000 in
theorem c_X6_isClass (l : Launch) (G : gG) (B : gB) (σ : gS) (v : Int32) : Met l yX6_isClass [.code yX6_isClass cX6_isClass 1 (some .boolean)] ({ frames := 0, cells := 0, slots := 0, locals := 0 } : Room) (mPc G B σ [.int (v)]) (mQi G B (fun r σ' => r = bI (decide (0 ≤ v.toInt ∧ v.toInt ≤ 3)) ∧ σ' = σ)) 0 0 (mA G) := by
  refine m_start (by decide) (Nat.le_of_ble_eq_true rfl) ?_
  intro p e s m below meth c ⟨hx, hb, hr, hml, hown, hK, hlk, hz⟩ hH hS ls hl
  have hl : lv_has ls 1 [(0, .int (v))] := hl
  refine lv_iload_n hx hb dX6_isClass_0 rfl (lv_at hl 0 rfl) ?_
  refine lv_if_lt (tgt := 13) hx hb dX6_isClass_1 (by decide) (fun c_1 => ?_) (fun c_1 => ?_)
  · refine lv_iconst (v := nI 0) hx hb dX6_isClass_13 (by decide) ?_
    exact m_zret hx hb hr hlk hH hS dX6_isClass_14 (by first | exact Or.inl rfl | exact Or.inr rfl | exact bI_01 _) (⟨bI_f (decide_eq_false (by first | (rw [i_lt, i0] at c_1; omega) | (rw [i_lt, n3I] at c_6; omega))), rfl⟩)
  · refine lv_iload_n hx hb dX6_isClass_4 rfl (lv_at hl 0 rfl) ?_
    refine lv_iconst (v := nI 3) hx hb dX6_isClass_5 (by decide) ?_
    refine lv_icmp_gt (tgt := 13) hx hb dX6_isClass_6 (by decide) (fun c_6 => ?_) (fun c_6 => ?_)
    · refine lv_iconst (v := nI 0) hx hb dX6_isClass_13 (by decide) ?_
      exact m_zret hx hb hr hlk hH hS dX6_isClass_14 (by first | exact Or.inl rfl | exact Or.inr rfl | exact bI_01 _) (⟨bI_f (decide_eq_false (by first | (rw [i_lt, i0] at c_1; omega) | (rw [i_lt, n3I] at c_6; omega))), rfl⟩)
    · refine lv_iconst (v := nI 1) hx hb dX6_isClass_9 (by decide) ?_
      refine lv_goto (tgt := 14) hx hb dX6_isClass_10 (by decide) ?_
      exact m_zret hx hb hr hlk hH hS dX6_isClass_14 (by first | exact Or.inl rfl | exact Or.inr rfl | exact bI_01 _) (⟨bI_t (decide_eq_true (by rw [i_lt, i0] at c_1; rw [i_lt, n3I] at c_6; omega)), rfl⟩)
set_option maxHeartbeats 4000000 in
set_option maxRecDepth 100000 in
theorem c_X6_isLotSize (l : Launch) (G : gG) (B : gB) (σ : gS) (v : Int32) : Met l yX6_isLotSize [.code yX6_isLotSize cX6_isLotSize 1 (some .boolean)] ({ frames := 0, cells := 0, slots := 0, locals := 0 } : Room) (mPc G B σ [.int (v)]) (mQi G B (fun r σ' => r = bI (decide (1 ≤ v.toInt ∧ v.toInt ≤ 60)) ∧ σ' = σ)) 0 0 (mA G) := by
  refine m_start (by decide) (Nat.le_of_ble_eq_true rfl) ?_
  intro p e s m below meth c ⟨hx, hb, hr, hml, hown, hK, hlk, hz⟩ hH hS ls hl
  have hl : lv_has ls 1 [(0, .int (v))] := hl
  refine lv_iload_n hx hb dX6_isLotSize_0 rfl (lv_at hl 0 rfl) ?_
  refine lv_iconst (v := nI 1) hx hb dX6_isLotSize_1 (by decide) ?_
  refine lv_icmp_lt (tgt := 15) hx hb dX6_isLotSize_2 (by decide) (fun c_2 => ?_) (fun c_2 => ?_)
  · refine lv_iconst (v := nI 0) hx hb dX6_isLotSize_15 (by decide) ?_
    exact m_zret hx hb hr hlk hH hS dX6_isLotSize_16 (by first | exact Or.inl rfl | exact Or.inr rfl | exact bI_01 _) (⟨bI_f (decide_eq_false (by first | (rw [i_lt, n1I] at c_2; omega) | (rw [i_lt, n60I] at c_8; omega))), rfl⟩)
  · refine lv_iload_n hx hb dX6_isLotSize_5 rfl (lv_at hl 0 rfl) ?_
    refine lv_bipush (v := nI 60) hx hb dX6_isLotSize_6 (by decide) ?_
    refine lv_icmp_gt (tgt := 15) hx hb dX6_isLotSize_8 (by decide) (fun c_8 => ?_) (fun c_8 => ?_)
    · refine lv_iconst (v := nI 0) hx hb dX6_isLotSize_15 (by decide) ?_
      exact m_zret hx hb hr hlk hH hS dX6_isLotSize_16 (by first | exact Or.inl rfl | exact Or.inr rfl | exact bI_01 _) (⟨bI_f (decide_eq_false (by first | (rw [i_lt, n1I] at c_2; omega) | (rw [i_lt, n60I] at c_8; omega))), rfl⟩)
    · refine lv_iconst (v := nI 1) hx hb dX6_isLotSize_11 (by decide) ?_
      refine lv_goto (tgt := 16) hx hb dX6_isLotSize_12 (by decide) ?_
      exact m_zret hx hb hr hlk hH hS dX6_isLotSize_16 (by first | exact Or.inl rfl | exact Or.inr rfl | exact bI_01 _) (⟨bI_t (decide_eq_true (by rw [i_lt, n1I] at c_2; rw [i_lt, n60I] at c_8; omega)), rfl⟩)
set_option maxHeartbeats 4000000 in
set_option maxRecDepth 100000 in
theorem c_X0_hasItem (l : Launch) (G : gG) (B : gB) (σ : gS) (hC : BkC B) (qn : Nat) (hqB : qn < B.2 60) (nn : Nat) (hn6 : nn ≤ 60) (h7 : σ.1 60 qn 7 = nI nn) (k : Int32) : Met l yX0_hasItem [.code yX0_hasItem cX0_hasItem 2 (some .boolean)] ({ frames := 0, cells := 0, slots := 0, locals := 0 } : Room) (mPc G B σ [.ref (B.1 60 qn), .int (k)]) (mQi G B (fun r σ' => r = bI (decide (0 ≤ k.toInt ∧ k.toInt < (nn : Int))) ∧ σ' = σ)) 0 0 (mA G) := by
  refine m_start (by decide) (Nat.le_of_ble_eq_true rfl) ?_
  intro p e s m below meth c ⟨hx, hb, hr, hml, hown, hK, hlk, hz⟩ hH hS ls hl
  have hl : lv_has ls 2 [(0, .ref (B.1 60 qn)), (1, .int (k))] := hl
  have en := nI_I (n := nn) (by omega)
  refine lv_iload_n hx hb dX0_hasItem_0 rfl (lv_at hl 1 rfl) ?_
  refine lv_if_lt (tgt := 16) hx hb dX0_hasItem_1 (by decide) (fun c_1 => ?_) (fun c_1 => ?_)
  · refine lv_iconst (v := nI 0) hx hb dX0_hasItem_16 (by decide) ?_
    exact m_zret hx hb hr hlk hH hS dX0_hasItem_17 (by first | exact Or.inl rfl | exact Or.inr rfl | exact bI_01 _) (⟨bI_f (decide_eq_false (by first | (rw [i_lt, i0] at c_1; omega) | (rw [i_le, en] at c_9; omega))), rfl⟩)
  · refine lv_iload_n hx hb dX0_hasItem_4 rfl (lv_at hl 1 rfl) ?_
    refine lv_aload_n hx hb dX0_hasItem_5 rfl (lv_at hl 0 rfl) ?_
    refine gf_X0_38 hx hb hown hK hH hqB dX0_hasItem_6 ?_
    refine m_toi (nn) (h7) ?_
    refine lv_icmp_ge (tgt := 16) hx hb dX0_hasItem_9 (by decide) (fun c_9 => ?_) (fun c_9 => ?_)
    · refine lv_iconst (v := nI 0) hx hb dX0_hasItem_16 (by decide) ?_
      exact m_zret hx hb hr hlk hH hS dX0_hasItem_17 (by first | exact Or.inl rfl | exact Or.inr rfl | exact bI_01 _) (⟨bI_f (decide_eq_false (by first | (rw [i_lt, i0] at c_1; omega) | (rw [i_le, en] at c_9; omega))), rfl⟩)
    · refine lv_iconst (v := nI 1) hx hb dX0_hasItem_12 (by decide) ?_
      refine lv_goto (tgt := 17) hx hb dX0_hasItem_13 (by decide) ?_
      exact m_zret hx hb hr hlk hH hS dX0_hasItem_17 (by first | exact Or.inl rfl | exact Or.inr rfl | exact bI_01 _) (⟨bI_t (decide_eq_true (by rw [i_lt, i0] at c_1; rw [i_le, en] at c_9; omega)), rfl⟩)
set_option maxHeartbeats 4000000 in
set_option maxRecDepth 100000 in
theorem c_X0_defects (l : Launch) (G : gG) (B : gB) (σ : gS) (hC : BkC B) (qn : Nat) (hqB : qn < B.2 60) (a1 a2 a3 : Nat) (h1 : σ.1 62 qn 1 = nI a1) (h2 : σ.1 62 qn 2 = nI a2) (h3 : σ.1 62 qn 3 = nI a3) (hb1 : a1 ≤ 61) : Met l yX0_defects [.code yX0_defects cX0_defects 1 (some .int)] ({ frames := 0, cells := 0, slots := 0, locals := 0 } : Room) (mPc G B σ [.ref (B.1 60 qn)]) (mQi G B (fun r σ' => r = nI (a2 + a3 + a1 / 3) ∧ σ' = σ)) 0 0 (mA G) := by
  refine m_start (by decide) (Nat.le_of_ble_eq_true rfl) ?_
  intro p e s m below meth c ⟨hx, hb, hr, hml, hown, hK, hlk, hz⟩ hH hS ls hl
  have hl : lv_has ls 1 [(0, .ref (B.1 60 qn))] := hl
  refine lv_aload_n hx hb dX0_defects_0 rfl (lv_at hl 0 rfl) ?_
  refine gf_X0_15 hx hb hown hK hH hqB dX0_defects_1 ?_
  refine lv_iconst (v := nI 2) hx hb dX0_defects_4 (by decide) ?_
  refine m_iald hx hb hK hH (n := 4) (bl hC 62 hqB) (fun _ _ => rfl) (2) (rfl) (by omega) (by decide) dX0_defects_5 ?_
  refine m_toi (a2) (h2) ?_
  refine lv_aload_n hx hb dX0_defects_6 rfl (lv_at hl 0 rfl) ?_
  refine gf_X0_15 hx hb hown hK hH hqB dX0_defects_7 ?_
  refine lv_iconst (v := nI 3) hx hb dX0_defects_10 (by decide) ?_
  refine m_iald hx hb hK hH (n := 4) (bl hC 62 hqB) (fun _ _ => rfl) (3) (rfl) (by omega) (by decide) dX0_defects_11 ?_
  refine m_toi (a3) (h3) ?_
  refine m_iaddN hx hb dX0_defects_12 ?_
  refine lv_aload_n hx hb dX0_defects_13 rfl (lv_at hl 0 rfl) ?_
  refine gf_X0_15 hx hb hown hK hH hqB dX0_defects_14 ?_
  refine lv_iconst (v := nI 1) hx hb dX0_defects_17 (by decide) ?_
  refine m_iald hx hb hK hH (n := 4) (bl hC 62 hqB) (fun _ _ => rfl) (1) (rfl) (by omega) (by decide) dX0_defects_18 ?_
  refine m_toi (a1) (h1) ?_
  refine lv_iconst (v := nI 3) hx hb dX0_defects_19 (by decide) ?_
  refine m_idivN (by omega) (by omega) (by omega) hx hb dX0_defects_20 ?_
  refine m_iaddN hx hb dX0_defects_21 ?_
  exact m_iret hx hb hr hlk hH hS dX0_defects_22 (⟨rfl, rfl⟩)
set_option maxHeartbeats 4000000 in
set_option maxRecDepth 100000 in
theorem c_X0_see (l : Launch) (G : gG) (B : gB) (σ : gS) (hC : BkC B) (qn : Nat) (hqB : qn < B.2 60) (pn : Nat) (hpB : pn < B.2 50) (hP1 : WfP1 σ pn) (hR : PR σ pn) (h3 : σ.1 60 qn 3 = nI pn) (hp24 : pn < 24) (t : jT) (f : Nat → Nat) (hZ : LZ σ qn t f) (ht2 : t.1 ≤ 2) (hok : t.1 = 0 → t.2.1 < 60 ∧ t.2.2.1 < stN σ pn ∧ t.2.2.2.1 = tal f 1 t.2.1 ∧ t.2.2.2.2 = tal f 2 t.2.1 + tal f 3 t.2.1) (v : Nat) (hv : v ≤ 3) : Met l yX0_see [.code yX0_see cX0_see 3 none] ({ frames := 2, cells := 0, slots := 0, locals := 43 } : Room) (mPc G B σ [.ref (B.1 60 qn), .int (nI v)]) (mQv G B (fun τ => SEE σ τ qn pn t f v)) 0 0 (mA G) := by
  refine m_start (by decide) (Nat.le_of_ble_eq_true rfl) ?_
  intro p e s m below meth c ⟨hx, hb, hr, hml, hown, hK, hlk, hz⟩ hH hS ls hl
  have hl : lv_has ls 3 [(0, .ref (B.1 60 qn)), (1, .int (nI v))] := hl
  refine lv_aload_n hx hb dX0_see_0 rfl (lv_at hl 0 rfl) ?_
  refine gf_X0_18 hx hb hown hK hH hqB dX0_see_1 ?_
  refine m_toi (t.1) (hZ.1) ?_
  refine m_ifneN (tgt := 23) (by omega) hx hb dX0_see_4 (by decide) (fun c_4 => ?_) (fun c_4 => ?_)
  · exact m_vret hx hb hr hlk hH hS dX0_see_23 (⟨LF.rf σ qn, fun z => absurd z (by omega), fun _ => rfl⟩)
  · refine lv_aload_n hx hb dX0_see_7 rfl (lv_at hl 0 rfl) ?_
    obtain ⟨o1, o2, o3, o4⟩ := hok c_4
    refine gf_X0_38 hx hb hown hK hH hqB dX0_see_8 ?_
    refine m_toi (t.2.1) (hZ.2.1) ?_
    refine lv_bipush (v := nI 60) hx hb dX0_see_11 (by decide) ?_
    refine m_icmp_geN (tgt := 23) (by omega) (by omega) hx hb dX0_see_13 (by decide) (fun c_13 => ?_) (fun c_13 => ?_)
    · exact absurd o1 (by omega)
    · refine lv_iload_n hx hb dX0_see_16 rfl (lv_at hl 1 rfl) ?_
      refine m_ki (m_runSN ⟨hx, hb, hml, hown, hz⟩ hK hH hS (c_X6_isClass l G B σ (nI v)) mw_X6_isClass wl_X0_41 ⟨rfl, rfl⟩ ⟨by decide, by decide⟩ rfl hl.1 rfl (Nat.le_of_ble_eq_true rfl) dX0_see_17 ⟨Nat.zero_le _, Nat.zero_le _⟩) hS (fun r_17 σ_17 H locs hp hH hS => ?_)
      obtain ⟨hr1, hs1⟩ := hp
      rw [hs1] at hH
      rw [decide_eq_true (by rw [nI_I (by omega)]; omega)] at hr1
      subst hr1
      refine m_ifneB (tgt := 24) hx hb dX0_see_20 (by decide) (fun c_20 => ?_) (fun c_20 => ?_)
      · refine lv_aload_n hx hb dX0_see_24 rfl (lv_at hl 0 rfl) ?_
        refine gf_X0_9 hx hb hown hK hH hqB dX0_see_25 ?_
        refine lv_aload_n hx hb dX0_see_28 rfl (lv_at hl 0 rfl) ?_
        refine gf_X0_38 hx hb hown hK hH hqB dX0_see_29 ?_
        refine m_toi (t.2.1) (hZ.2.1) ?_
        refine lv_iload_n hx hb dX0_see_32 rfl (lv_at hl 1 rfl) ?_
        refine m_iast hx hb hK hH hS (n := 60) (bl hC 61 hqB) (fun _ _ => rfl) (t.2.1) (rfl) (by omega) (by decide) dX0_see_33 (fun H locs hH hS => ?_)
        refine lv_aload_n hx hb dX0_see_34 rfl (lv_at hl 0 rfl) ?_
        refine lv_dup hx hb dX0_see_35 rfl ?_
        refine gf_X0_38 hx hb hown hK hH hqB dX0_see_36 ?_
        refine m_toi (t.2.1) (by rw [sI_at, if_neg (by omega)]; exact hZ.2.1) ?_
        refine lv_iconst (v := nI 1) hx hb dX0_see_39 (by decide) ?_
        refine m_iaddN hx hb dX0_see_40 ?_
        refine pf_X0_38 hx hb hown hK hH hS hqB dX0_see_41 (fun H locs hH hS => ?_)
        refine lv_aload_n hx hb dX0_see_44 rfl (lv_at hl 0 rfl) ?_
        refine gf_X0_15 hx hb hown hK hH hqB dX0_see_45 ?_
        refine lv_iload_n hx hb dX0_see_48 rfl (lv_at hl 1 rfl) ?_
        refine lv_dup2_11 hx hb dX0_see_49 rfl rfl ?_
        refine m_iald hx hb hK hH (n := 4) (bl hC 62 hqB) (fun _ _ => rfl) (v) (rfl) (by omega) (by decide) dX0_see_50 ?_
        refine m_toi (tal f v t.2.1) (by rw [sI_at, if_neg (by omega), sI_at, if_neg (by omega)]; exact hZ.2.2.2 v (by omega)) ?_
        refine lv_iconst (v := nI 1) hx hb dX0_see_51 (by decide) ?_
        refine m_iaddN hx hb dX0_see_52 ?_
        refine m_iast hx hb hK hH hS (n := 4) (bl hC 62 hqB) (fun _ _ => rfl) (v) (rfl) (by omega) (by decide) dX0_see_53 (fun H locs hH hS => ?_)
        obtain ⟨υ, hυ⟩ : ∃ z, z = sI (sI (sI σ 61 qn t.2.1 (nI v)) 60 qn 7 (nI (t.2.1 + 1))) 62 qn v (nI (tal f v t.2.1 + 1)) := ⟨_, rfl⟩
        rw [← hυ] at hH
        have hV : SV σ υ qn t f v := by rw [hυ]; exact SV_mk hZ c_4
        have hF := hV.1
        have hD := SV_tl hV hv o3 o4
        have hRu := hF.pr hR
        have hPu := hF.eqP.wf hP1
        have h3u : υ.1 60 qn 3 = nI pn := (hF.1 60 qn 3 (by omega)).trans h3
        have g1 := tal_le (updN f t.2.1 v) 1 (t.2.1 + 1)
        have g2 := tal_le (updN f t.2.1 v) 2 (t.2.1 + 1)
        have g3 := tal_le (updN f t.2.1 v) 3 (t.2.1 + 1)
        have hDb : jD (jadd t v) < 200 := by omega
        have hs4 := hP1.2.1
        refine lv_aload_n hx hb dX0_see_54 rfl (lv_at hl 0 rfl) ?_
        refine m_ki (m_runV (k := 60) (i := qn) (ci := 0) ⟨hx, hb, hml, hown, hz⟩ hK hH hS hqB rfl rfl (c_X0_defects l G B υ hC qn hqB (tal (updN f t.2.1 v) 1 (t.2.1 + 1)) (tal (updN f t.2.1 v) 2 (t.2.1 + 1)) (tal (updN f t.2.1 v) 3 (t.2.1 + 1)) (hV.2.2.2.2.1 1 (by omega)) (hV.2.2.2.2.1 2 (by omega)) (hV.2.2.2.2.1 3 (by omega)) (by omega)) mw_X0_defects wl_X0_45 ⟨rfl, rfl⟩ ⟨by decide, by decide⟩ rfl hl.1 rfl (Nat.le_of_ble_eq_true rfl) dX0_see_55 ⟨Nat.zero_le _, Nat.zero_le _⟩) hS (fun r_55 σ_55 H locs hp hH hS => ?_)
        obtain ⟨hr1, hs1⟩ := hp
        rw [hs1] at hH
        rw [hD] at hr1
        subst hr1
        refine lv_istore_n (lv' := [(2, .int (nI (jD (jadd t v)))), (0, .ref (B.1 60 qn)), (1, .int (nI v))]) hx hb dX0_see_58 rfl hl (by decide) rfl (fun ls hl => ?_)
        refine lv_iload_n hx hb dX0_see_59 rfl (lv_at hl 2 rfl) ?_
        refine lv_iconst (v := nI 3) hx hb dX0_see_60 (by decide) ?_
        refine m_icmp_eqN (tgt := 79) (by omega) (by omega) hx hb dX0_see_61 (by decide) (fun c_61 => ?_) (fun c_61 => ?_)
        · refine lv_aload_n hx hb dX0_see_79 rfl (lv_at hl 1 rfl) ?_
          refine lv_iconst (v := nI 2) hx hb dX0_see_80 (by decide) ?_
          refine pf_X0_18 hx hb hown hK hH hS hqB dX0_see_81 (fun H locs hH hS => ?_)
          refine lv_goto (tgt := 138) hx hb dX0_see_84 (by decide) ?_
          exact m_vret hx hb hr hlk hH hS dX0_see_138 (SEE_2 hV c_4 o2 (by first | exact Or.inl c_61 | exact Or.inr c_76))
        · refine lv_aload_n hx hb dX0_see_64 rfl (lv_at hl 1 rfl) ?_
          refine gf_X0_28 hx hb hown hK hH hqB dX0_see_65 ?_
          refine m_tor (B.1 50 pn) (by rw [h3u, nI_clamp (by omega)]) ?_
          refine lv_aload_n hx hb dX0_see_68 rfl (lv_at hl 1 rfl) ?_
          refine gf_X0_49 hx hb hown hK hH hqB dX0_see_69 ?_
          refine m_toi (t.2.2.1) (hV.2.2.2.1) ?_
          refine lv_iload_n hx hb dX0_see_72 rfl (lv_at hl 0 rfl) ?_
          refine m_ki (m_runV (k := 50) (i := pn) (ci := 2) ⟨hx, hb, hml, hown, hz⟩ hK hH hS hpB rfl rfl (c_X2_isRefusedAt l G B υ hC pn hpB hPu hRu t.2.2.1 (jD (jadd t v)) (by omega) (by omega)) mw_X2_isRefusedAt wl_X0_52 ⟨rfl, rfl⟩ ⟨by decide, by decide⟩ rfl hl.1 rfl (Nat.le_of_ble_eq_true rfl) dX0_see_73 ⟨Nat.zero_le _, Nat.zero_le _⟩) hS (fun r_73 σ_73 H locs hp hH hS => ?_)
          obtain ⟨hr1, hs1⟩ := hp
          rw [hs1] at hH
          rw [hF.eqP.rfb] at hr1
          subst hr1
          refine m_ifeqB (tgt := 87) hx hb dX0_see_76 (by decide) (fun c_76 => ?_) (fun c_76 => ?_)
          · refine lv_aload_n hx hb dX0_see_87 rfl (lv_at hl 1 rfl) ?_
            refine gf_X0_28 hx hb hown hK hH hqB dX0_see_88 ?_
            refine m_tor (B.1 50 pn) (by rw [h3u, nI_clamp (by omega)]) ?_
            refine lv_aload_n hx hb dX0_see_91 rfl (lv_at hl 1 rfl) ?_
            refine gf_X0_49 hx hb hown hK hH hqB dX0_see_92 ?_
            refine m_toi (t.2.2.1) (hV.2.2.2.1) ?_
            refine lv_aload_n hx hb dX0_see_95 rfl (lv_at hl 1 rfl) ?_
            refine gf_X0_38 hx hb hown hK hH hqB dX0_see_96 ?_
            refine m_toi (t.2.1 + 1) (hV.2.2.1) ?_
            refine m_ki (m_runV (k := 50) (i := pn) (ci := 2) ⟨hx, hb, hml, hown, hz⟩ hK hH hS hpB rfl rfl (c_X2_isEndOf l G B υ hC pn hpB hPu hRu t.2.2.1 (t.2.1 + 1) (by omega) (by omega)) mw_X2_isEndOf wl_X0_58 ⟨rfl, rfl⟩ ⟨by decide, by decide⟩ rfl hl.1 rfl (Nat.le_of_ble_eq_true rfl) dX0_see_99 ⟨Nat.zero_le _, Nat.zero_le _⟩) hS (fun r_99 σ_99 H locs hp hH hS => ?_)
            obtain ⟨hr1, hs1⟩ := hp
            rw [hs1] at hH
            rw [hF.eqP.en] at hr1
            subst hr1
            refine m_ifeqB (tgt := 138) hx hb dX0_see_102 (by decide) (fun c_102 => ?_) (fun c_102 => ?_)
            · exact m_vret hx hb hr hlk hH hS dX0_see_138 (SEE_0 hV c_4 o2 c_61 c_76 c_102)
            · refine lv_aload_n hx hb dX0_see_105 rfl (lv_at hl 1 rfl) ?_
              refine gf_X0_28 hx hb hown hK hH hqB dX0_see_106 ?_
              refine m_tor (B.1 50 pn) (by rw [h3u, nI_clamp (by omega)]) ?_
              refine lv_aload_n hx hb dX0_see_109 rfl (lv_at hl 1 rfl) ?_
              refine gf_X0_49 hx hb hown hK hH hqB dX0_see_110 ?_
              refine m_toi (t.2.2.1) (hV.2.2.2.1) ?_
              refine lv_iload_n hx hb dX0_see_113 rfl (lv_at hl 0 rfl) ?_
              refine m_ki (m_runV (k := 50) (i := pn) (ci := 2) ⟨hx, hb, hml, hown, hz⟩ hK hH hS hpB rfl rfl (c_X2_isTakenAt l G B υ hC pn hpB hPu hRu t.2.2.1 (jD (jadd t v)) (by omega) (by omega)) mw_X2_isTakenAt wl_X0_61 ⟨rfl, rfl⟩ ⟨by decide, by decide⟩ rfl hl.1 rfl (Nat.le_of_ble_eq_true rfl) dX0_see_114 ⟨Nat.zero_le _, Nat.zero_le _⟩) hS (fun r_114 σ_114 H locs hp hH hS => ?_)
              obtain ⟨hr1, hs1⟩ := hp
              rw [hs1] at hH
              rw [hF.eqP.tk] at hr1
              subst hr1
              refine m_ifeqB (tgt := 128) hx hb dX0_see_117 (by decide) (fun c_117 => ?_) (fun c_117 => ?_)
              · refine lv_aload_n hx hb dX0_see_128 rfl (lv_at hl 1 rfl) ?_
                refine lv_dup hx hb dX0_see_129 rfl ?_
                refine gf_X0_49 hx hb hown hK hH hqB dX0_see_130 ?_
                refine m_toi (t.2.2.1) (hV.2.2.2.1) ?_
                refine lv_iconst (v := nI 1) hx hb dX0_see_133 (by decide) ?_
                refine m_iaddN hx hb dX0_see_134 ?_
                refine pf_X0_49 hx hb hown hK hH hS hqB dX0_see_135 (fun H locs hH hS => ?_)
                exact m_vret hx hb hr hlk hH hS dX0_see_138 (SEE_s hV c_4 o2 c_61 c_76 c_102 c_117)
              · refine lv_aload_n hx hb dX0_see_120 rfl (lv_at hl 1 rfl) ?_
                refine lv_iconst (v := nI 1) hx hb dX0_see_121 (by decide) ?_
                refine pf_X0_18 hx hb hown hK hH hS hqB dX0_see_122 (fun H locs hH hS => ?_)
                refine lv_goto (tgt := 138) hx hb dX0_see_125 (by decide) ?_
                exact m_vret hx hb hr hlk hH hS dX0_see_138 (SEE_1 hV c_4 o2 c_61 c_76 c_102 c_117)
          · refine lv_aload_n hx hb dX0_see_79 rfl (lv_at hl 1 rfl) ?_
            refine lv_iconst (v := nI 2) hx hb dX0_see_80 (by decide) ?_
            refine pf_X0_18 hx hb hown hK hH hS hqB dX0_see_81 (fun H locs hH hS => ?_)
            refine lv_goto (tgt := 138) hx hb dX0_see_84 (by decide) ?_
            exact m_vret hx hb hr hlk hH hS dX0_see_138 (SEE_2 hV c_4 o2 (by first | exact Or.inl c_61 | exact Or.inr c_76))
      · exact absurd c_20 (by decide)
theorem jstep_eq {σ τ : gS} (h : eqP σ τ) (p : Nat) (t : jT) (v : Nat) : jstep τ p t v = jstep σ p t v := by
  unfold jstep jdec
  simp only [h.rf, h.to, h.ac]
def S1 (σ τ : gS) (q i : Nat) : Prop := LF σ τ q ∧ (∀ k, τ.1 61 q k = σ.1 61 q k) ∧ τ.1 60 q 9 = nI 0 ∧ τ.1 60 q 7 = nI 0 ∧ τ.1 60 q 8 = nI 0 ∧ ∀ v, v < i → τ.1 62 q v = nI 0
theorem S1_0 (σ : gS) (q : Nat) : S1 σ (sI (sI (sI σ 60 q 7 (nI 0)) 60 q 8 (nI 0)) 60 q 9 (nI 0)) q 0 := by
  refine ⟨(((LF.rf σ q).put (by omega)).put (by omega)).put (by omega), fun k => ?_, ?_, ?_, ?_, fun v hv => absurd hv (by omega)⟩
  · rw [sI_at, if_neg (by omega), sI_at, if_neg (by omega), sI_at, if_neg (by omega)]
  · rw [sI_at, if_pos ⟨rfl, rfl, rfl⟩]
  · rw [sI_at, if_neg (by omega), sI_at, if_neg (by omega), sI_at, if_pos ⟨rfl, rfl, rfl⟩]
  · rw [sI_at, if_neg (by omega), sI_at, if_pos ⟨rfl, rfl, rfl⟩]
theorem S1_s {σ τ : gS} {q i : Nat} (h : S1 σ τ q i) : S1 σ (sI τ 62 q i (nI 0)) q (i + 1) := by
  refine ⟨h.1.put (by omega), fun k => ?_, ?_, ?_, ?_, fun v hv => ?_⟩
  · rw [sI_at, if_neg (by omega)]; exact h.2.1 k
  · rw [sI_at, if_neg (by omega)]; exact h.2.2.1
  · rw [sI_at, if_neg (by omega)]; exact h.2.2.2.1
  · rw [sI_at, if_neg (by omega)]; exact h.2.2.2.2.1
  · rw [sI_at]
    by_cases e : v = i
    · rw [if_pos ⟨rfl, rfl, e⟩]
    · rw [if_neg (fun z => e z.2.2)]; exact h.2.2.2.2.2 v (by omega)
theorem S1_A {σ τ : gS} {q : Nat} {f : Nat → Nat} (h : S1 σ τ q 4) : SA σ τ q (0, 0, 0, 0, 0) f := ⟨h.1, h.2.1, h.2.2.1, h.2.2.2.1, h.2.2.2.2.1, h.2.2.2.2.2⟩
theorem SA_s {σ τ τ' ρ : gS} {q qr p i : Nat} (h : SA σ τ q (jd ρ qr p i) (itm ρ qr)) (hE : eqP σ ρ) (hs : SEE τ τ' q p (jd ρ qr p i) (itm ρ qr) (itm ρ qr i)) (hi : σ.1 61 q i = nI (itm ρ qr i)) : SA σ τ' q (jd ρ qr p (i + 1)) (itm ρ qr) := by
  by_cases h0 : (jd ρ qr p i).1 = 0
  · obtain ⟨a, b⟩ := hs.2.1 h0
    have hc := jd_cnt h0
    refine ⟨h.1.tr hs.1, fun k => ?_, ?_⟩
    · rw [b k]
      by_cases e : k = (jd ρ qr p i).2.1
      · rw [if_pos e, e, hc]; exact hi.symm
      · rw [if_neg e]; exact h.2.1 k
    · rw [hc, updN_same, jstep_eq (h.1.eqP), ← jstep_eq hE] at a
      have e : jd ρ qr p (i + 1) = jstep ρ p (jd ρ qr p i) (itm ρ qr i) := by
        show jstep ρ p _ (itm ρ qr (jd ρ qr p i).2.1) = _
        rw [hc]
      rw [e]; exact a
  · rw [hs.2.2 h0, jd_fix h0 (Nat.le_succ i)]; exact h
theorem SA_ok {σ τ ρ : gS} {q qr p i : Nat} (h : SA σ τ q (jd ρ qr p i) (itm ρ qr)) (hE : eqP σ ρ) (hP : WfP1 σ p) (hc : clo σ p = true) (hi : i < 60) (hit : ∀ k, k < i → itm ρ qr k ≤ 3) : (jd ρ qr p i).1 = 0 → (jd ρ qr p i).2.1 < 60 ∧ (jd ρ qr p i).2.2.1 < stN τ p ∧ (jd ρ qr p i).2.2.2.1 = tal (itm ρ qr) 1 (jd ρ qr p i).2.1 ∧ (jd ρ qr p i).2.2.2.2 = tal (itm ρ qr) 2 (jd ρ qr p i).2.1 + tal (itm ρ qr) 3 (jd ρ qr p i).2.1 := by
  intro h0
  have h1 := jd_cnt h0
  have h2 := jd_inv (hE.wf hP) (by rw [hE.cl]; exact hc) h0
  have h3 := jd_tal (p := p) hit
  refine ⟨by omega, ?_, h3.1, h3.2⟩
  rw [h.1.eqP.st, ← hE.st]; exact h2.1
set_option maxHeartbeats 4000000 in
set_option maxRecDepth 100000 in
theorem c_X0_seeAgain (l : Launch) (G : gG) (B : gB) (σ : gS) (hC : BkC B) (qn : Nat) (hqB : qn < B.2 60) (pn : Nat) (hpB : pn < B.2 50) (hP1 : WfP1 σ pn) (hR : PR σ pn) (h3 : σ.1 60 qn 3 = nI pn) (hp24 : pn < 24) (ρ : gS) (hE : eqP σ ρ) (hcl : clo σ pn = true) (qr mm : Nat) (hmm : mm ≤ 60) (hit : ∀ k, k < mm → σ.1 61 qn k = nI (itm ρ qr k) ∧ itm ρ qr k ≤ 3) : Met l yX0_seeAgain [.code yX0_seeAgain cX0_seeAgain 3 none] ({ frames := 3, cells := 0, slots := 0, locals := 65 } : Room) (mPc G B σ [.ref (B.1 60 qn), .int (nI mm)]) (mQv G B (fun τ => SA σ τ qn (jd ρ qr pn mm) (itm ρ qr))) 0 0 (mA G) := by
  refine m_start (by decide) (Nat.le_of_ble_eq_true rfl) ?_
  intro p e s m below meth c ⟨hx, hb, hr, hml, hown, hK, hlk, hz⟩ hH hS ls hl
  have hl : lv_has ls 3 [(0, .ref (B.1 60 qn)), (1, .int (nI mm))] := hl
  have loop : ∀ (z : Nat) (i : Nat), i ≤ 4 ∧ 4 < i + z → ∀ (τ : gS) (H : Heap) (locs : List Loc), S1 σ τ qn i → Hp G B τ H → va_S (mA G) s.heap H locs → ∀ (ls : Array Slot), lv_has ls 3 [(0, .ref (B.1 60 qn)), (1, .int (nI mm)), (2, .int (nI i))] → W p l e ({ frames := 3, cells := 0, slots := 0, locals := 65 } : Room) s m ([.ref (B.1 60 qn), .int (nI mm)] : List Value).toArray below meth c H locs 0 0 (MQ below (mQv G B (fun τ => SA σ τ qn (jd ρ qr pn mm) (itm ρ qr))) ([.ref (B.1 60 qn), .int (nI mm)] : List Value).toArray s 0 0 (mA G)) (F0 m 17 ls []) := by
    intro z
    induction z with
    | zero => intro i hh; exfalso; omega
    | succ z ih =>
      intro i hh τ H locs hJ hH hS ls hl
      refine lv_iload_n hx hb dX0_seeAgain_17 rfl (lv_at hl 2 rfl) ?_
      refine lv_iconst (v := nI 4) hx hb dX0_seeAgain_18 (by decide) ?_
      refine m_icmp_geN (tgt := 35) (by omega) (by omega) hx hb dX0_seeAgain_19 (by decide) (fun c_19 => ?_) (fun c_19 => ?_)
      · refine lv_iconst (v := nI 0) hx hb dX0_seeAgain_35 (by decide) ?_
        refine lv_istore_n (lv' := [(2, .int (nI 0)), (0, .ref (B.1 60 qn)), (1, .int (nI mm))]) hx hb dX0_seeAgain_36 rfl hl (by decide) rfl (fun ls hl => ?_)
        have loop2 : ∀ (z2 : Nat) (i : Nat), i ≤ mm ∧ mm < i + z2 → ∀ (τ2 : gS) (H : Heap) (locs : List Loc), SA σ τ2 qn (jd ρ qr pn i) (itm ρ qr) → Hp G B τ2 H → va_S (mA G) s.heap H locs → ∀ (ls : Array Slot), lv_has ls 3 [(0, .ref (B.1 60 qn)), (1, .int (nI mm)), (2, .int (nI i))] → W p l e ({ frames := 3, cells := 0, slots := 0, locals := 65 } : Room) s m ([.ref (B.1 60 qn), .int (nI mm)] : List Value).toArray below meth c H locs 0 0 (MQ below (mQv G B (fun τ => SA σ τ qn (jd ρ qr pn mm) (itm ρ qr))) ([.ref (B.1 60 qn), .int (nI mm)] : List Value).toArray s 0 0 (mA G)) (F0 m 37 ls []) := by
          intro z2
          induction z2 with
          | zero => intro i hi; exfalso; omega
          | succ z2 ih2 =>
            intro i hi τ2 H locs hJ hH hS ls hl
            refine lv_iload_n hx hb dX0_seeAgain_37 rfl (lv_at hl 2 rfl) ?_
            refine lv_iload_n hx hb dX0_seeAgain_38 rfl (lv_at hl 1 rfl) ?_
            refine m_icmp_geN (tgt := 64) (by omega) (by omega) hx hb dX0_seeAgain_39 (by decide) (fun c_39 => ?_) (fun c_39 => ?_)
            · exact m_vret hx hb hr hlk hH hS dX0_seeAgain_64 (by rw [show mm = i by omega]; exact hJ)
            · refine lv_iload_n hx hb dX0_seeAgain_42 rfl (lv_at hl 2 rfl) ?_
              refine lv_bipush (v := nI 60) hx hb dX0_seeAgain_43 (by decide) ?_
              refine m_icmp_geN (tgt := 64) (by omega) (by omega) hx hb dX0_seeAgain_45 (by decide) (fun c_45 => ?_) (fun c_45 => ?_)
              · exact absurd hmm (by omega)
              · refine lv_aload_n hx hb dX0_seeAgain_48 rfl (lv_at hl 0 rfl) ?_
                refine lv_aload_n hx hb dX0_seeAgain_49 rfl (lv_at hl 0 rfl) ?_
                refine gf_X0_9 hx hb hown hK hH hqB dX0_seeAgain_50 ?_
                refine lv_iload_n hx hb dX0_seeAgain_53 rfl (lv_at hl 2 rfl) ?_
                refine m_iald hx hb hK hH (n := 60) (bl hC 61 hqB) (fun _ _ => rfl) (i) (rfl) (by omega) (by decide) dX0_seeAgain_54 ?_
                refine m_toi (itm ρ qr i) ((hJ.2.1 i).trans (hit i (by omega)).1) ?_
                refine m_kv (m_runV (k := 60) (i := qn) (ci := 0) ⟨hx, hb, hml, hown, hz⟩ hK hH hS hqB rfl rfl (c_X0_see l G B τ2 hC qn hqB pn hpB (hJ.1.eqP.wf hP1) (hJ.1.pr hR) ((hJ.1.1 60 qn 3 (by omega)).trans h3) hp24 (jd ρ qr pn i) (itm ρ qr) hJ.2.2 (jd_now _ _ _ _) (SA_ok hJ hE hP1 hcl (by omega) (fun k hk => (hit k (by omega)).2)) (itm ρ qr i) (hit i (by omega)).2) mw_X0_see wl_X0_64 ⟨rfl, rfl⟩ ⟨by decide, by decide⟩ rfl hl.1 rfl (Nat.le_of_ble_eq_true rfl) dX0_seeAgain_55 ⟨Nat.zero_le _, Nat.zero_le _⟩) hS (fun σ_55 H locs hp hH hS => ?_)
                refine lv_iinc (v := nI (i + 1)) (lv' := [(2, .int (nI (i + 1))), (0, .ref (B.1 60 qn)), (1, .int (nI mm))]) hx hb dX0_seeAgain_58 hl (k := 2) rfl (nI_1 _) (by decide) rfl (fun ls hl => ?_)
                refine lv_goto (tgt := 37) hx hb dX0_seeAgain_61 (by decide) ?_
                exact ih2 (i + 1) (by omega) _ H locs (SA_s hJ hE hp (hit i (by omega)).1) hH hS ls (lv_sub hl [1, 2, 0] rfl)
        exact loop2 (mm + 1) 0 (by omega) τ H locs (S1_A (by rw [show 4 = i by omega]; exact hJ)) hH hS ls (lv_sub hl [1, 2, 0] rfl)
      · refine lv_aload_n hx hb dX0_seeAgain_22 rfl (lv_at hl 0 rfl) ?_
        refine gf_X0_15 hx hb hown hK hH hqB dX0_seeAgain_23 ?_
        refine lv_iload_n hx hb dX0_seeAgain_26 rfl (lv_at hl 2 rfl) ?_
        refine lv_iconst (v := nI 0) hx hb dX0_seeAgain_27 (by decide) ?_
        refine m_iast hx hb hK hH hS (n := 4) (bl hC 62 hqB) (fun _ _ => rfl) (i) (rfl) (by omega) (by decide) dX0_seeAgain_28 (fun H locs hH hS => ?_)
        refine lv_iinc (v := nI (i + 1)) (lv' := [(2, .int (nI (i + 1))), (0, .ref (B.1 60 qn)), (1, .int (nI mm))]) hx hb dX0_seeAgain_29 hl (k := 2) rfl (nI_1 _) (by decide) rfl (fun ls hl => ?_)
        refine lv_goto (tgt := 17) hx hb dX0_seeAgain_32 (by decide) ?_
        exact ih (i + 1) (by omega) _ H locs (S1_s hJ) hH hS ls (lv_sub hl [1, 2, 0] rfl)
  refine lv_aload_n hx hb dX0_seeAgain_0 rfl (lv_at hl 0 rfl) ?_
  refine lv_iconst (v := nI 0) hx hb dX0_seeAgain_1 (by decide) ?_
  refine pf_X0_38 hx hb hown hK hH hS hqB dX0_seeAgain_2 (fun H locs hH hS => ?_)
  refine lv_aload_n hx hb dX0_seeAgain_5 rfl (lv_at hl 0 rfl) ?_
  refine lv_iconst (v := nI 0) hx hb dX0_seeAgain_6 (by decide) ?_
  refine pf_X0_49 hx hb hown hK hH hS hqB dX0_seeAgain_7 (fun H locs hH hS => ?_)
  refine lv_aload_n hx hb dX0_seeAgain_10 rfl (lv_at hl 0 rfl) ?_
  refine lv_iconst (v := nI 0) hx hb dX0_seeAgain_11 (by decide) ?_
  refine pf_X0_18 hx hb hown hK hH hS hqB dX0_seeAgain_12 (fun H locs hH hS => ?_)
  refine lv_iconst (v := nI 0) hx hb dX0_seeAgain_15 (by decide) ?_
  refine lv_istore_n (lv' := [(2, .int (nI 0)), (0, .ref (B.1 60 qn)), (1, .int (nI mm))]) hx hb dX0_seeAgain_16 rfl hl (by decide) rfl (fun ls hl => ?_)
  exact loop 5 0 (by omega) _ H locs (S1_0 σ qn) hH hS ls (lv_sub hl [1, 2, 0] rfl)
set_option maxHeartbeats 4000000 in
set_option maxRecDepth 100000 in
theorem c_X0_leastFurther (l : Launch) (G : gG) (B : gB) (σ : gS) (hC : BkC B) (qn : Nat) (hqB : qn < B.2 60) (pn : Nat) (hpB : pn < B.2 50) (hP1 : WfP1 σ pn) (hR : PR σ pn) (h3 : σ.1 60 qn 3 = nI pn) (hp24 : pn < 24) (t : jT) (f : Nat → Nat) (hZ : LZ σ qn t f) (ht2 : t.1 ≤ 2) (hcl : clo σ pn = true) (hok : t.1 = 0 → t.2.1 < 60 ∧ t.2.2.1 < stN σ pn ∧ t.2.2.2.1 = tal f 1 t.2.1 ∧ t.2.2.2.2 = tal f 2 t.2.1 + tal f 3 t.2.1) (hst : t.1 = 0 → t.2.2.1 < stN σ pn ∧ tot σ pn t.2.2.1 ≤ t.2.1 ∧ t.2.1 < tot σ pn (t.2.2.1 + 1)) : Met l yX0_leastFurther [.code yX0_leastFurther cX0_leastFurther 5 (some .int)] ({ frames := 2, cells := 0, slots := 0, locals := 43 } : Room) (mPc G B σ [.ref (B.1 60 qn)]) (mQi G B (fun r σ' => r = (if t.1 = 0 then lfA σ pn t.2.1 t.2.2.1 (jD t) else 0) ∧ σ' = σ)) 0 0 (mA G) := by
  refine m_start (by decide) (Nat.le_of_ble_eq_true rfl) ?_
  intro p e s m below meth c ⟨hx, hb, hr, hml, hown, hK, hlk, hz⟩ hH hS ls hl
  have hl : lv_has ls 5 [(0, .ref (B.1 60 qn))] := hl
  refine lv_aload_n hx hb dX0_leastFurther_0 rfl (lv_at hl 0 rfl) ?_
  refine gf_X0_18 hx hb hown hK hH hqB dX0_leastFurther_1 ?_
  refine m_toi (t.1) (hZ.1) ?_
  refine m_ifeqN (tgt := 9) (by omega) hx hb dX0_leastFurther_4 (by decide) (fun c_4 => ?_) (fun c_4 => ?_)
  · obtain ⟨o1, o2, o3, o4⟩ := hok c_4
    obtain ⟨q1, q2, q3⟩ := hst c_4
    have g1 := tal_le f 1 t.2.1
    have g2 := tal_le f 2 t.2.1
    have g3 := tal_le f 3 t.2.1
    have hs4 := hP1.2.1
    have hT := tot_le hP1 (Nat.le_refl _)
    have hD : tal f 2 t.2.1 + tal f 3 t.2.1 + tal f 1 t.2.1 / 3 = jD t := by unfold jD; rw [o3, o4]
    have hDb : jD t < 200 := by omega
    have hsT : t.2.1 < tot σ pn (stN σ pn) := by have := tot_mono σ pn (show t.2.2.1 + 1 ≤ stN σ pn by omega); omega
    refine lv_aload_n hx hb dX0_leastFurther_9 rfl (lv_at hl 0 rfl) ?_
    refine m_ki (m_runV (k := 60) (i := qn) (ci := 0) ⟨hx, hb, hml, hown, hz⟩ hK hH hS hqB rfl rfl (c_X0_defects l G B σ hC qn hqB (tal f 1 t.2.1) (tal f 2 t.2.1) (tal f 3 t.2.1) (hZ.2.2.2 1 (by omega)) (hZ.2.2.2 2 (by omega)) (hZ.2.2.2 3 (by omega)) (by omega)) mw_X0_defects wl_X0_45 ⟨rfl, rfl⟩ ⟨by decide, by decide⟩ rfl hl.1 rfl (Nat.le_of_ble_eq_true rfl) dX0_leastFurther_10 ⟨Nat.zero_le _, Nat.zero_le _⟩) hS (fun r_10 σ_10 H locs hp hH hS => ?_)
    obtain ⟨hr1, hs1⟩ := hp
    rw [hs1] at hH
    rw [hD] at hr1
    subst hr1
    refine lv_istore_n (lv' := [(1, .int (nI (jD t))), (0, .ref (B.1 60 qn))]) hx hb dX0_leastFurther_13 rfl hl (by decide) rfl (fun ls hl => ?_)
    refine lv_aload_n hx hb dX0_leastFurther_14 rfl (lv_at hl 1 rfl) ?_
    refine gf_X0_49 hx hb hown hK hH hqB dX0_leastFurther_15 ?_
    refine m_toi (t.2.2.1) (hZ.2.2.1) ?_
    refine lv_istore_n (lv' := [(2, .int (nI (t.2.2.1))), (1, .int (nI (jD t))), (0, .ref (B.1 60 qn))]) hx hb dX0_leastFurther_18 rfl hl (by decide) rfl (fun ls hl => ?_)
    refine lv_iconst (v := nI 1) hx hb dX0_leastFurther_19 (by decide) ?_
    refine lv_istore_n (lv' := [(3, .int (nI 1)), (2, .int (nI (t.2.2.1))), (1, .int (nI (jD t))), (0, .ref (B.1 60 qn))]) hx hb dX0_leastFurther_20 rfl hl (by decide) rfl (fun ls hl => ?_)
    have loop : ∀ (z : Nat) (j : Nat), t.2.1 + j < tot σ pn (stN σ pn) ∧ tot σ pn (stN σ pn) < t.2.1 + j + z ∧ fnd (ndH σ pn t.2.1 t.2.2.1 (jD t)) j = none → ∀ (H : Heap) (locs : List Loc), Hp G B σ H → va_S (mA G) s.heap H locs → ∀ (ls : Array Slot), lv_has ls 5 [(0, .ref (B.1 60 qn)), (1, .int (nI (jD t))), (2, .int (nI (ns σ pn t.2.1 t.2.2.1 j))), (3, .int (nI (j + 1)))] → W p l e ({ frames := 2, cells := 0, slots := 0, locals := 43 } : Room) s m ([.ref (B.1 60 qn)] : List Value).toArray below meth c H locs 0 0 (MQ below (mQi G B (fun r σ' => r = (if t.1 = 0 then lfA σ pn t.2.1 t.2.2.1 (jD t) else 0) ∧ σ' = σ)) ([.ref (B.1 60 qn)] : List Value).toArray s 0 0 (mA G)) (F0 m 21 ls []) := by
      intro z
      induction z with
      | zero => intro j hh; exfalso; omega
      | succ z ih =>
        intro j hh H locs hH hS ls hl
        have hn := hh.2.2
        obtain ⟨n1, n2, n3⟩ := ns_inv hP1 q1 q2 q3 (j := j) (by omega)
        refine lv_aload_n hx hb dX0_leastFurther_21 rfl (lv_at hl 0 rfl) ?_
        refine gf_X0_38 hx hb hown hK hH hqB dX0_leastFurther_22 ?_
        refine m_toi (t.2.1) (hZ.2.1) ?_
        refine lv_iload_n hx hb dX0_leastFurther_25 rfl (lv_at hl 3 rfl) ?_
        refine m_iaddN hx hb dX0_leastFurther_26 ?_
        refine lv_aload_n hx hb dX0_leastFurther_27 rfl (lv_at hl 0 rfl) ?_
        refine gf_X0_28 hx hb hown hK hH hqB dX0_leastFurther_28 ?_
        refine m_tor (B.1 50 pn) (by rw [h3, nI_clamp (by omega)]) ?_
        refine m_ki (m_runV (k := 50) (i := pn) (ci := 2) ⟨hx, hb, hml, hown, hz⟩ hK hH hS hpB rfl rfl (c_X2_total l G B σ hC pn hpB hP1 hR) mw_X2_total wl_X0_68 ⟨rfl, rfl⟩ ⟨by decide, by decide⟩ rfl hl.1 rfl (Nat.le_of_ble_eq_true rfl) dX0_leastFurther_31 ⟨Nat.zero_le _, Nat.zero_le _⟩) hS (fun r_31 σ_31 H locs hp hH hS => ?_)
        obtain ⟨hr1, hs1⟩ := hp
        subst hr1
        rw [hs1] at hH
        refine m_icmp_geN (tgt := 100) (by omega) (by omega) hx hb dX0_leastFurther_34 (by decide) (fun c_34 => ?_) (fun c_34 => ?_)
        · refine lv_aload_n hx hb dX0_leastFurther_100 rfl (lv_at hl 0 rfl) ?_
          refine gf_X0_28 hx hb hown hK hH hqB dX0_leastFurther_101 ?_
          refine m_tor (B.1 50 pn) (by rw [h3, nI_clamp (by omega)]) ?_
          refine m_ki (m_runV (k := 50) (i := pn) (ci := 2) ⟨hx, hb, hml, hown, hz⟩ hK hH hS hpB rfl rfl (c_X2_total l G B σ hC pn hpB hP1 hR) mw_X2_total wl_X0_68 ⟨rfl, rfl⟩ ⟨by decide, by decide⟩ rfl hl.1 rfl (Nat.le_of_ble_eq_true rfl) dX0_leastFurther_104 ⟨Nat.zero_le _, Nat.zero_le _⟩) hS (fun r_104 σ_104 H locs hp hH hS => ?_)
          obtain ⟨hr1, hs1⟩ := hp
          subst hr1
          rw [hs1] at hH
          refine lv_aload_n hx hb dX0_leastFurther_107 rfl (lv_at hl 0 rfl) ?_
          refine gf_X0_38 hx hb hown hK hH hqB dX0_leastFurther_108 ?_
          refine m_toi (t.2.1) (hZ.2.1) ?_
          refine m_isubN (by omega) hx hb dX0_leastFurther_111 ?_
          exact m_iret hx hb hr hlk hH hS dX0_leastFurther_112 (⟨by rw [if_pos c_4, lf_hit hn (by omega) (nd_last hP1 hcl q1 q2 q3 (by omega))]; congr 1; omega, rfl⟩)
        · refine lv_aload_n hx hb dX0_leastFurther_37 rfl (lv_at hl 0 rfl) ?_
          refine gf_X0_28 hx hb hown hK hH hqB dX0_leastFurther_38 ?_
          refine m_tor (B.1 50 pn) (by rw [h3, nI_clamp (by omega)]) ?_
          refine lv_iload_n hx hb dX0_leastFurther_41 rfl (lv_at hl 2 rfl) ?_
          refine lv_aload_n hx hb dX0_leastFurther_42 rfl (lv_at hl 0 rfl) ?_
          refine gf_X0_38 hx hb hown hK hH hqB dX0_leastFurther_43 ?_
          refine m_toi (t.2.1) (hZ.2.1) ?_
          refine lv_iload_n hx hb dX0_leastFurther_46 rfl (lv_at hl 3 rfl) ?_
          refine m_iaddN hx hb dX0_leastFurther_47 ?_
          refine m_ki (m_runV (k := 50) (i := pn) (ci := 2) ⟨hx, hb, hml, hown, hz⟩ hK hH hS hpB rfl rfl (c_X2_isEndOf l G B σ hC pn hpB hP1 hR (ns σ pn t.2.1 t.2.2.1 j) (t.2.1 + (j + 1)) (by omega) (by omega)) mw_X2_isEndOf wl_X0_58 ⟨rfl, rfl⟩ ⟨by decide, by decide⟩ rfl hl.1 rfl (Nat.le_of_ble_eq_true rfl) dX0_leastFurther_48 ⟨Nat.zero_le _, Nat.zero_le _⟩) hS (fun r_48 σ_48 H locs hp hH hS => ?_)
          obtain ⟨hr1, hs1⟩ := hp
          subst hr1
          rw [hs1] at hH
          refine lv_istore (lv' := [(4, .int (bI (enB σ pn (ns σ pn t.2.1 t.2.2.1 j) (t.2.1 + (j + 1))))), (0, .ref (B.1 60 qn)), (1, .int (nI (jD t))), (2, .int (nI (ns σ pn t.2.1 t.2.2.1 j))), (3, .int (nI (j + 1)))]) hx hb dX0_leastFurther_51 hl (by decide) rfl (fun ls hl => ?_)
          refine lv_aload_n hx hb dX0_leastFurther_53 rfl (lv_at hl 1 rfl) ?_
          refine gf_X0_28 hx hb hown hK hH hqB dX0_leastFurther_54 ?_
          refine m_tor (B.1 50 pn) (by rw [h3, nI_clamp (by omega)]) ?_
          refine lv_iload_n hx hb dX0_leastFurther_57 rfl (lv_at hl 3 rfl) ?_
          refine lv_iload_n hx hb dX0_leastFurther_58 rfl (lv_at hl 2 rfl) ?_
          refine lv_iload_n hx hb dX0_leastFurther_59 rfl (lv_at hl 4 rfl) ?_
          refine m_iaddN hx hb dX0_leastFurther_60 ?_
          refine m_ki (m_runV (k := 50) (i := pn) (ci := 2) ⟨hx, hb, hml, hown, hz⟩ hK hH hS hpB rfl rfl (c_X2_isRefusedAt l G B σ hC pn hpB hP1 hR (ns σ pn t.2.1 t.2.2.1 j) (jD t + (j + 1)) (by omega) (by omega)) mw_X2_isRefusedAt wl_X0_52 ⟨rfl, rfl⟩ ⟨by decide, by decide⟩ rfl hl.1 rfl (Nat.le_of_ble_eq_true rfl) dX0_leastFurther_61 ⟨Nat.zero_le _, Nat.zero_le _⟩) hS (fun r_61 σ_61 H locs hp hH hS => ?_)
          obtain ⟨hr1, hs1⟩ := hp
          subst hr1
          rw [hs1] at hH
          refine m_ifneB (tgt := 84) hx hb dX0_leastFurther_64 (by decide) (fun c_64 => ?_) (fun c_64 => ?_)
          · refine lv_iload_n hx hb dX0_leastFurther_84 rfl (lv_at hl 4 rfl) ?_
            exact m_iret hx hb hr hlk hH hS dX0_leastFurther_85 (⟨by rw [if_pos c_4, lf_hit hn (by omega) (by rw [ndH_c n1]; first | (rw [c_64]; rfl) | (rw [c_69, c_81, Bool.and_true, Bool.or_true]))], rfl⟩)
          · refine lv_iload hx hb dX0_leastFurther_67 (lv_at hl 0 rfl) ?_
            refine m_ifeqB (tgt := 86) hx hb dX0_leastFurther_69 (by decide) (fun c_69 => ?_) (fun c_69 => ?_)
            · refine lv_iload hx hb dX0_leastFurther_86 (lv_at hl 0 rfl) ?_
              refine m_ifeqB (tgt := 94) hx hb dX0_leastFurther_88 (by decide) (fun c_88 => ?_) (fun c_88 => ?_)
              · refine lv_iinc (v := nI (j + 1 + 1)) (lv' := [(3, .int (nI (j + 1 + 1))), (4, .int (bI (enB σ pn (ns σ pn t.2.1 t.2.2.1 j) (t.2.1 + (j + 1))))), (0, .ref (B.1 60 qn)), (1, .int (nI (jD t))), (2, .int (nI (ns σ pn t.2.1 t.2.2.1 j)))]) hx hb dX0_leastFurther_94 hl (k := 4) rfl (nI_1 _) (by decide) rfl (fun ls hl => ?_)
                refine lv_goto (tgt := 21) hx hb dX0_leastFurther_97 (by decide) ?_
                have hno : ndH σ pn t.2.1 t.2.2.1 (jD t) j = false := by rw [ndH_c n1, c_64]; first | (rw [c_69]; rfl) | (rw [c_81, Bool.and_false]; rfl)
                exact ih (j + 1) ⟨by omega, by omega, fnd_miss hn hno⟩ H locs hH hS ls (by rw [ns_c n1, if_neg (by rw [c_88]; decide)]; exact lv_sub hl [2, 3, 4, 0] rfl)
              · refine lv_iinc (v := nI (ns σ pn t.2.1 t.2.2.1 j + 1)) (lv' := [(2, .int (nI (ns σ pn t.2.1 t.2.2.1 j + 1))), (4, .int (bI (enB σ pn (ns σ pn t.2.1 t.2.2.1 j) (t.2.1 + (j + 1))))), (0, .ref (B.1 60 qn)), (1, .int (nI (jD t))), (3, .int (nI (j + 1)))]) hx hb dX0_leastFurther_91 hl (k := 3) rfl (nI_1 _) (by decide) rfl (fun ls hl => ?_)
                refine lv_iinc (v := nI (j + 1 + 1)) (lv' := [(3, .int (nI (j + 1 + 1))), (2, .int (nI (ns σ pn t.2.1 t.2.2.1 j + 1))), (4, .int (bI (enB σ pn (ns σ pn t.2.1 t.2.2.1 j) (t.2.1 + (j + 1))))), (0, .ref (B.1 60 qn)), (1, .int (nI (jD t)))]) hx hb dX0_leastFurther_94 hl (k := 4) rfl (nI_1 _) (by decide) rfl (fun ls hl => ?_)
                refine lv_goto (tgt := 21) hx hb dX0_leastFurther_97 (by decide) ?_
                have hno : ndH σ pn t.2.1 t.2.2.1 (jD t) j = false := by rw [ndH_c n1, c_64]; first | (rw [c_69]; rfl) | (rw [c_81, Bool.and_false]; rfl)
                exact ih (j + 1) ⟨by omega, by omega, fnd_miss hn hno⟩ H locs hH hS ls (by rw [ns_c n1, if_pos c_88]; exact lv_sub hl [3, 4, 1, 0] rfl)
            · refine lv_aload_n hx hb dX0_leastFurther_72 rfl (lv_at hl 1 rfl) ?_
              refine gf_X0_28 hx hb hown hK hH hqB dX0_leastFurther_73 ?_
              refine m_tor (B.1 50 pn) (by rw [h3, nI_clamp (by omega)]) ?_
              refine lv_iload_n hx hb dX0_leastFurther_76 rfl (lv_at hl 3 rfl) ?_
              refine lv_iload_n hx hb dX0_leastFurther_77 rfl (lv_at hl 2 rfl) ?_
              refine m_ki (m_runV (k := 50) (i := pn) (ci := 2) ⟨hx, hb, hml, hown, hz⟩ hK hH hS hpB rfl rfl (c_X2_isTakenAt l G B σ hC pn hpB hP1 hR (ns σ pn t.2.1 t.2.2.1 j) (jD t) (by omega) (by omega)) mw_X2_isTakenAt wl_X0_61 ⟨rfl, rfl⟩ ⟨by decide, by decide⟩ rfl hl.1 rfl (Nat.le_of_ble_eq_true rfl) dX0_leastFurther_78 ⟨Nat.zero_le _, Nat.zero_le _⟩) hS (fun r_78 σ_78 H locs hp hH hS => ?_)
              obtain ⟨hr1, hs1⟩ := hp
              subst hr1
              rw [hs1] at hH
              refine m_ifeqB (tgt := 86) hx hb dX0_leastFurther_81 (by decide) (fun c_81 => ?_) (fun c_81 => ?_)
              · refine lv_iload hx hb dX0_leastFurther_86 (lv_at hl 0 rfl) ?_
                refine m_ifeqB (tgt := 94) hx hb dX0_leastFurther_88 (by decide) (fun c_88 => ?_) (fun c_88 => ?_)
                · refine lv_iinc (v := nI (j + 1 + 1)) (lv' := [(3, .int (nI (j + 1 + 1))), (4, .int (bI (enB σ pn (ns σ pn t.2.1 t.2.2.1 j) (t.2.1 + (j + 1))))), (0, .ref (B.1 60 qn)), (1, .int (nI (jD t))), (2, .int (nI (ns σ pn t.2.1 t.2.2.1 j)))]) hx hb dX0_leastFurther_94 hl (k := 4) rfl (nI_1 _) (by decide) rfl (fun ls hl => ?_)
                  refine lv_goto (tgt := 21) hx hb dX0_leastFurther_97 (by decide) ?_
                  have hno : ndH σ pn t.2.1 t.2.2.1 (jD t) j = false := by rw [ndH_c n1, c_64]; first | (rw [c_69]; rfl) | (rw [c_81, Bool.and_false]; rfl)
                  exact ih (j + 1) ⟨by omega, by omega, fnd_miss hn hno⟩ H locs hH hS ls (by rw [ns_c n1, if_neg (by rw [c_88]; decide)]; exact lv_sub hl [2, 3, 4, 0] rfl)
                · refine lv_iinc (v := nI (ns σ pn t.2.1 t.2.2.1 j + 1)) (lv' := [(2, .int (nI (ns σ pn t.2.1 t.2.2.1 j + 1))), (4, .int (bI (enB σ pn (ns σ pn t.2.1 t.2.2.1 j) (t.2.1 + (j + 1))))), (0, .ref (B.1 60 qn)), (1, .int (nI (jD t))), (3, .int (nI (j + 1)))]) hx hb dX0_leastFurther_91 hl (k := 3) rfl (nI_1 _) (by decide) rfl (fun ls hl => ?_)
                  refine lv_iinc (v := nI (j + 1 + 1)) (lv' := [(3, .int (nI (j + 1 + 1))), (2, .int (nI (ns σ pn t.2.1 t.2.2.1 j + 1))), (4, .int (bI (enB σ pn (ns σ pn t.2.1 t.2.2.1 j) (t.2.1 + (j + 1))))), (0, .ref (B.1 60 qn)), (1, .int (nI (jD t)))]) hx hb dX0_leastFurther_94 hl (k := 4) rfl (nI_1 _) (by decide) rfl (fun ls hl => ?_)
                  refine lv_goto (tgt := 21) hx hb dX0_leastFurther_97 (by decide) ?_
                  have hno : ndH σ pn t.2.1 t.2.2.1 (jD t) j = false := by rw [ndH_c n1, c_64]; first | (rw [c_69]; rfl) | (rw [c_81, Bool.and_false]; rfl)
                  exact ih (j + 1) ⟨by omega, by omega, fnd_miss hn hno⟩ H locs hH hS ls (by rw [ns_c n1, if_pos c_88]; exact lv_sub hl [3, 4, 1, 0] rfl)
              · refine lv_iload_n hx hb dX0_leastFurther_84 rfl (lv_at hl 4 rfl) ?_
                exact m_iret hx hb hr hlk hH hS dX0_leastFurther_85 (⟨by rw [if_pos c_4, lf_hit hn (by omega) (by rw [ndH_c n1]; first | (rw [c_64]; rfl) | (rw [c_69, c_81, Bool.and_true, Bool.or_true]))], rfl⟩)
    exact loop 61 0 ⟨by omega, by omega, rfl⟩ H locs hH hS ls (lv_sub hl [3, 2, 1, 0] rfl)
  · refine lv_iconst (v := nI 0) hx hb dX0_leastFurther_7 (by decide) ?_
    exact m_iret hx hb hr hlk hH hS dX0_leastFurther_8 (⟨(if_neg (by omega)).symm, rfl⟩)
set_option maxHeartbeats 4000000 in
set_option maxRecDepth 100000 in
theorem c_X0_cents (l : Launch) (G : gG) (B : gB) (σ : gS) (hC : BkC B) (qn : Nat) (hqB : qn < B.2 60) (f : Nat → Nat) (nn : Nat) (hn6 : nn ≤ 60) (h62 : ∀ v, v < 4 → σ.1 62 qn v = nI (tal f v nn)) : Met l yX0_cents [.code yX0_cents cX0_cents 5 (some .long)] ({ frames := 0, cells := 0, slots := 0, locals := 0 } : Room) (mPc G B σ [.ref (B.1 60 qn), .ref (B.1 48 0)]) (mQl G B (fun r σ' => r = s64 (fun z => lN (tal f z nn) * (σ.1 48 0 z).toInt64) 4 ∧ σ' = σ)) 0 0 (mA G) := by
  refine m_start (by decide) (Nat.le_of_ble_eq_true rfl) ?_
  intro p e s m below meth c ⟨hx, hb, hr, hml, hown, hK, hlk, hz⟩ hH hS ls hl
  have hl : lv_has ls 5 [(0, .ref (B.1 60 qn)), (1, .ref (B.1 48 0))] := hl
  have loop : ∀ (z : Nat) (i : Nat), i ≤ 4 ∧ 4 < i + z → ∀ (H : Heap) (locs : List Loc), Hp G B σ H → va_S (mA G) s.heap H locs → ∀ (ls : Array Slot), lv_has ls 5 [(0, .ref (B.1 60 qn)), (1, .ref (B.1 48 0)), (2, .long (s64 (fun z => lN (tal f z nn) * (σ.1 48 0 z).toInt64) i)), (4, .int (nI i))] → W p l e ({ frames := 0, cells := 0, slots := 0, locals := 0 } : Room) s m ([.ref (B.1 60 qn), .ref (B.1 48 0)] : List Value).toArray below meth c H locs 0 0 (MQ below (mQl G B (fun r σ' => r = s64 (fun z => lN (tal f z nn) * (σ.1 48 0 z).toInt64) 4 ∧ σ' = σ)) ([.ref (B.1 60 qn), .ref (B.1 48 0)] : List Value).toArray s 0 0 (mA G)) (F0 m 5 ls []) := by
    intro z
    induction z with
    | zero => intro i hh; exfalso; omega
    | succ z ih =>
      intro i hh H locs hH hS ls hl
      refine lv_iload hx hb dX0_cents_5 (lv_at hl 3 rfl) ?_
      refine lv_iconst (v := nI 4) hx hb dX0_cents_7 (by decide) ?_
      refine m_icmp_geN (tgt := 41) (by omega) (by omega) hx hb dX0_cents_8 (by decide) (fun c_8 => ?_) (fun c_8 => ?_)
      · refine lv_lload_n hx hb dX0_cents_41 rfl (lv_at hl 2 rfl) ?_
        exact m_lret hx hb hr hlk hH hS dX0_cents_42 (⟨by rw [show 4 = i by omega], rfl⟩)
      · refine lv_iload hx hb dX0_cents_11 (lv_at hl 3 rfl) ?_
        refine lv_aload_n hx hb dX0_cents_13 rfl (lv_at hl 1 rfl) ?_
        refine m_alen hx hb hK hH (n := 4) (bc hC 48) (fun _ _ => rfl) dX0_cents_14 ?_
        refine m_icmp_geN (tgt := 41) (by omega) (by omega) hx hb dX0_cents_15 (by decide) (fun c_15 => ?_) (fun c_15 => ?_)
        · refine lv_lload_n hx hb dX0_cents_41 rfl (lv_at hl 2 rfl) ?_
          exact m_lret hx hb hr hlk hH hS dX0_cents_42 (⟨by rw [show 4 = i by omega], rfl⟩)
        · have g1 := tal_le f i nn
          refine lv_lload_n hx hb dX0_cents_18 rfl (lv_at hl 2 rfl) ?_
          refine lv_aload_n hx hb dX0_cents_19 rfl (lv_at hl 0 rfl) ?_
          refine gf_X0_15 hx hb hown hK hH hqB dX0_cents_20 ?_
          refine lv_iload hx hb dX0_cents_23 (lv_at hl 3 rfl) ?_
          refine m_iald hx hb hK hH (n := 4) (bl hC 62 hqB) (fun _ _ => rfl) (i) (rfl) (by omega) (by decide) dX0_cents_25 ?_
          refine m_toi (tal f i nn) (h62 i (by omega)) ?_
          refine m_i2lN (by omega) hx hb dX0_cents_26 ?_
          refine lv_aload_n hx hb dX0_cents_27 rfl (lv_at hl 1 rfl) ?_
          refine lv_iload hx hb dX0_cents_28 (lv_at hl 3 rfl) ?_
          refine m_iald hx hb hK hH (n := 4) (bc hC 48) (fun _ _ => rfl) (i) (rfl) (by omega) (by decide) dX0_cents_30 ?_
          refine lv_i2l hx hb dX0_cents_31 rfl ?_
          refine lv_lmul hx hb dX0_cents_32 ?_
          refine lv_ladd hx hb dX0_cents_33 ?_
          refine lv_lstore_n (lv' := [(2, .long ((s64 (fun z => lN (tal f z nn) * (σ.1 48 0 z).toInt64) i) + ((lN (tal f i nn)) * ((σ.1 48 0 i).toInt64)))), (0, .ref (B.1 60 qn)), (1, .ref (B.1 48 0)), (4, .int (nI i))]) hx hb dX0_cents_34 rfl hl (by decide) rfl (fun ls hl => ?_)
          refine lv_iinc (v := nI (i + 1)) (lv' := [(4, .int (nI (i + 1))), (2, .long ((s64 (fun z => lN (tal f z nn) * (σ.1 48 0 z).toInt64) i) + ((lN (tal f i nn)) * ((σ.1 48 0 i).toInt64)))), (0, .ref (B.1 60 qn)), (1, .ref (B.1 48 0))]) hx hb dX0_cents_35 hl (k := 3) rfl (nI_1 _) (by decide) rfl (fun ls hl => ?_)
          refine lv_goto (tgt := 5) hx hb dX0_cents_38 (by decide) ?_
          exact ih (i + 1) (by omega) H locs hH hS ls (by rw [show s64 (fun z => lN (tal f z nn) * (σ.1 48 0 z).toInt64) (i + 1) = s64 (fun z => lN (tal f z nn) * (σ.1 48 0 z).toInt64) i + lN (tal f i nn) * (σ.1 48 0 i).toInt64 from rfl]; exact lv_sub hl [2, 3, 1, 0] rfl)
  refine lv_lconst (v := lN 0) hx hb dX0_cents_0 rfl ?_
  refine lv_lstore_n (lv' := [(2, .long (lN 0)), (0, .ref (B.1 60 qn)), (1, .ref (B.1 48 0))]) hx hb dX0_cents_1 rfl hl (by decide) rfl (fun ls hl => ?_)
  refine lv_iconst (v := nI 0) hx hb dX0_cents_2 (by decide) ?_
  refine lv_istore (lv' := [(4, .int (nI 0)), (2, .long (lN 0)), (0, .ref (B.1 60 qn)), (1, .ref (B.1 48 0))]) hx hb dX0_cents_3 hl (by decide) rfl (fun ls hl => ?_)
  exact loop 5 0 (by omega) _ _ hH hS ls (lv_sub hl [2, 3, 1, 0] rfl)
