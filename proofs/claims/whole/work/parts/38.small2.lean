set_option maxHeartbeats 4000000 in
set_option maxRecDepth 100000 in
theorem c_X4_planNow (l : Launch) (G : gG) (B : gB) (σ : gS) (hC : BkC B) (sn : Nat) (hsB : sn < B.2 57) (hC4 : CS σ sn) : Met l yX4_planNow [.code yX4_planNow cX4_planNow 1 (some .int)] ({ frames := 0, cells := 0, slots := 0, locals := 0 } : Room) (mPc G B σ [.ref (B.1 57 sn)]) (mQi G B (fun r σ' => r = σ.1 58 sn (crl σ sn) ∧ σ' = σ)) 0 0 (mA G) := by
  refine m_start (by decide) (Nat.le_of_ble_eq_true rfl) ?_
  intro p e s m below meth c ⟨hx, hb, hr, hml, hown, hK, hlk, hz⟩ hH hS ls hl
  have hl : lv_has ls 1 [(0, .ref (B.1 57 sn))] := hl
  have hn60 := hC4.2.1
  have hl2 := hC4.2.2.2
  refine lv_aload_n hx hb dX4_planNow_0 rfl (lv_at hl 0 rfl) ?_
  refine gf_X4_18 hx hb hown hK hH hsB dX4_planNow_1 ?_
  refine m_toi (crl σ sn) (hC4.2.2.1) ?_
  refine lv_if_lt (tgt := 27) hx hb dX4_planNow_4 (by decide) (fun c_4 => ?_) (fun c_4 => ?_)
  · exact absurd c_4 (nI_pos (by omega))
  · refine lv_aload_n hx hb dX4_planNow_7 rfl (lv_at hl 0 rfl) ?_
    refine gf_X4_18 hx hb hown hK hH hsB dX4_planNow_8 ?_
    refine m_toi (crl σ sn) (hC4.2.2.1) ?_
    refine lv_iconst (v := nI 3) hx hb dX4_planNow_11 (by decide) ?_
    refine m_icmp_geN (tgt := 27) (by omega) (by omega) hx hb dX4_planNow_12 (by decide) (fun c_12 => ?_) (fun c_12 => ?_)
    · exact absurd c_12 (by omega)
    · refine lv_aload_n hx hb dX4_planNow_15 rfl (lv_at hl 0 rfl) ?_
      refine gf_X4_9 hx hb hown hK hH hsB dX4_planNow_16 ?_
      refine lv_aload_n hx hb dX4_planNow_19 rfl (lv_at hl 0 rfl) ?_
      refine gf_X4_18 hx hb hown hK hH hsB dX4_planNow_20 ?_
      refine m_toi (crl σ sn) (hC4.2.2.1) ?_
      refine m_iald hx hb hK hH (n := 3) (bs hC 58 hsB) (fun _ _ => rfl) (crl σ sn) (rfl) (by omega) (by decide) dX4_planNow_23 ?_
      refine lv_goto (tgt := 28) hx hb dX4_planNow_24 (by decide) ?_
      exact m_iret hx hb hr hlk hH hS dX4_planNow_28 (⟨rfl, rfl⟩)
set_option maxHeartbeats 4000000 in
set_option maxRecDepth 100000 in
theorem c_X4_latest (l : Launch) (G : gG) (B : gB) (σ : gS) (hC : BkC B) (sn : Nat) (hsB : sn < B.2 57) (hC4 : CS σ sn) (kn : Nat) (hkn : kn < 2147483648) : Met l yX4_latest [.code yX4_latest cX4_latest 2 (some .int)] ({ frames := 0, cells := 0, slots := 0, locals := 0 } : Room) (mPc G B σ [.ref (B.1 57 sn), .int (nI kn)]) (mQi G B (fun r σ' => r = crv σ sn kn ∧ σ' = σ)) 0 0 (mA G) := by
  refine m_start (by decide) (Nat.le_of_ble_eq_true rfl) ?_
  intro p e s m below meth c ⟨hx, hb, hr, hml, hown, hK, hlk, hz⟩ hH hS ls hl
  have hl : lv_has ls 2 [(0, .ref (B.1 57 sn)), (1, .int (nI kn))] := hl
  have hn60 := hC4.2.1
  have hl2 := hC4.2.2.2
  refine lv_iload_n hx hb dX4_latest_0 rfl (lv_at hl 1 rfl) ?_
  refine lv_if_lt (tgt := 28) hx hb dX4_latest_1 (by decide) (fun c_1 => ?_) (fun c_1 => ?_)
  · exact absurd c_1 (nI_pos (by omega))
  · refine lv_iload_n hx hb dX4_latest_4 rfl (lv_at hl 1 rfl) ?_
    refine lv_aload_n hx hb dX4_latest_5 rfl (lv_at hl 0 rfl) ?_
    refine gf_X4_22 hx hb hown hK hH hsB dX4_latest_6 ?_
    refine m_toi (crn σ sn) (hC4.1) ?_
    refine m_icmp_geN (tgt := 28) (by omega) (by omega) hx hb dX4_latest_9 (by decide) (fun c_9 => ?_) (fun c_9 => ?_)
    · refine lv_iconst (v := nI 0) hx hb dX4_latest_28 (by decide) ?_
      exact m_iret hx hb hr hlk hH hS dX4_latest_29 (⟨by unfold crv; exact (if_neg (by omega)).symm, rfl⟩)
    · refine lv_aload_n hx hb dX4_latest_12 rfl (lv_at hl 0 rfl) ?_
      refine gf_X4_15 hx hb hown hK hH hsB dX4_latest_13 ?_
      refine lv_aload_n hx hb dX4_latest_16 rfl (lv_at hl 0 rfl) ?_
      refine gf_X4_22 hx hb hown hK hH hsB dX4_latest_17 ?_
      refine m_toi (crn σ sn) (hC4.1) ?_
      refine lv_iconst (v := nI 1) hx hb dX4_latest_20 (by decide) ?_
      refine m_isubN (by omega) hx hb dX4_latest_21 ?_
      refine lv_iload_n hx hb dX4_latest_22 rfl (lv_at hl 1 rfl) ?_
      refine m_isubN (by omega) hx hb dX4_latest_23 ?_
      refine m_iald hx hb hK hH (n := 60) (bs hC 59 hsB) (fun _ _ => rfl) (((crn σ sn) - 1) - kn) (rfl) (by omega) (by decide) dX4_latest_24 ?_
      refine lv_goto (tgt := 29) hx hb dX4_latest_25 (by decide) ?_
      exact m_iret hx hb hr hlk hH hS dX4_latest_29 (⟨by unfold crv; exact (if_pos c_9).symm, rfl⟩)
set_option maxHeartbeats 4000000 in
set_option maxRecDepth 100000 in
theorem c_X4_amongLatest (l : Launch) (G : gG) (B : gB) (σ : gS) (hC : BkC B) (sn : Nat) (hsB : sn < B.2 57) (hC4 : CS σ sn) (mm : Nat) (v : Int32) (hmm : mm ≤ 6) : Met l yX4_amongLatest [.code yX4_amongLatest cX4_amongLatest 5 (some .int)] ({ frames := 1, cells := 0, slots := 0, locals := 21 } : Room) (mPc G B σ [.ref (B.1 57 sn), .int (nI mm), .int (v)]) (mQi G B (fun r σ' => r = nI (cns (crv σ sn) v mm) ∧ σ' = σ)) 0 0 (mA G) := by
  refine m_start (by decide) (Nat.le_of_ble_eq_true rfl) ?_
  intro p e s m below meth c ⟨hx, hb, hr, hml, hown, hK, hlk, hz⟩ hH hS ls hl
  have hl : lv_has ls 5 [(0, .ref (B.1 57 sn)), (1, .int (nI mm)), (2, .int (v))] := hl
  have loop : ∀ (z : Nat) (i : Nat), i ≤ mm ∧ mm < i + z → ∀ (H : Heap) (locs : List Loc), Hp G B σ H → va_S (mA G) s.heap H locs → ∀ (ls : Array Slot), lv_has ls 5 [(0, .ref (B.1 57 sn)), (1, .int (nI mm)), (2, .int (v)), (3, .int (nI (cns (crv σ sn) v i))), (4, .int (nI i))] → W p l e ({ frames := 1, cells := 0, slots := 0, locals := 21 } : Room) s m ([.ref (B.1 57 sn), .int (nI mm), .int (v)] : List Value).toArray below meth c H locs 0 0 (MQ below (mQi G B (fun r σ' => r = nI (cns (crv σ sn) v mm) ∧ σ' = σ)) ([.ref (B.1 57 sn), .int (nI mm), .int (v)] : List Value).toArray s 0 0 (mA G)) (F0 m 5 ls []) := by
    intro z
    induction z with
    | zero => intro i hh; exfalso; omega
    | succ z ih =>
      intro i hh H locs hH hS ls hl
      have hcl := cns_le (crv σ sn) v i
      refine lv_iload hx hb dX4_amongLatest_5 (lv_at hl 4 rfl) ?_
      refine lv_iload_n hx hb dX4_amongLatest_7 rfl (lv_at hl 1 rfl) ?_
      refine m_icmp_geN (tgt := 30) (by omega) (by omega) hx hb dX4_amongLatest_8 (by decide) (fun c_8 => ?_) (fun c_8 => ?_)
      · refine lv_iload_n hx hb dX4_amongLatest_30 rfl (lv_at hl 3 rfl) ?_
        exact m_iret hx hb hr hlk hH hS dX4_amongLatest_31 (⟨by rw [show mm = i by omega], rfl⟩)
      · refine lv_aload_n hx hb dX4_amongLatest_11 rfl (lv_at hl 0 rfl) ?_
        refine lv_iload hx hb dX4_amongLatest_12 (lv_at hl 4 rfl) ?_
        refine m_ki (m_runV (k := 57) (i := sn) (ci := 4) ⟨hx, hb, hml, hown, hz⟩ hK hH hS hsB rfl rfl (c_X4_latest l G B σ hC sn hsB hC4 i (by omega)) mw_X4_latest wl_X4_36 ⟨rfl, rfl⟩ ⟨by decide, by decide⟩ rfl hl.1 rfl (Nat.le_of_ble_eq_true rfl) dX4_amongLatest_14 ⟨Nat.zero_le _, Nat.zero_le _⟩) hS (fun r_14 σ_14 H locs hp hH hS => ?_)
        obtain ⟨hr1, hs1⟩ := hp
        subst hr1
        rw [hs1] at hH
        refine lv_iload_n hx hb dX4_amongLatest_17 rfl (lv_at hl 2 rfl) ?_
        refine lv_icmp_ne (tgt := 24) hx hb dX4_amongLatest_18 (by decide) (fun c_18 => ?_) (fun c_18 => ?_)
        · refine lv_iinc (v := nI (i + 1)) (lv' := [(4, .int (nI (i + 1))), (0, .ref (B.1 57 sn)), (1, .int (nI mm)), (2, .int (v)), (3, .int (nI (cns (crv σ sn) v i)))]) hx hb dX4_amongLatest_24 hl (k := 4) rfl (nI_1 _) (by decide) rfl (fun ls hl => ?_)
          refine lv_goto (tgt := 5) hx hb dX4_amongLatest_27 (by decide) ?_
          exact ih (i + 1) (by omega) H locs hH hS ls (by rw [show cns (crv σ sn) v (i + 1) = cns (crv σ sn) v i + (if crv σ sn i = v then 1 else 0) from rfl, if_neg c_18, Nat.add_zero]; exact lv_sub hl [1, 2, 3, 4, 0] rfl)
        · refine lv_iinc (v := nI (cns (crv σ sn) v i + 1)) (lv' := [(3, .int (nI (cns (crv σ sn) v i + 1))), (0, .ref (B.1 57 sn)), (1, .int (nI mm)), (2, .int (v)), (4, .int (nI i))]) hx hb dX4_amongLatest_21 hl (k := 3) rfl (nI_1 _) (by decide) rfl (fun ls hl => ?_)
          refine lv_iinc (v := nI (i + 1)) (lv' := [(4, .int (nI (i + 1))), (3, .int (nI (cns (crv σ sn) v i + 1))), (0, .ref (B.1 57 sn)), (1, .int (nI mm)), (2, .int (v))]) hx hb dX4_amongLatest_24 hl (k := 4) rfl (nI_1 _) (by decide) rfl (fun ls hl => ?_)
          refine lv_goto (tgt := 5) hx hb dX4_amongLatest_27 (by decide) ?_
          exact ih (i + 1) (by omega) H locs hH hS ls (by rw [show cns (crv σ sn) v (i + 1) = cns (crv σ sn) v i + (if crv σ sn i = v then 1 else 0) from rfl, if_pos c_18]; exact lv_sub hl [2, 3, 4, 1, 0] rfl)
  refine lv_iconst (v := nI 0) hx hb dX4_amongLatest_0 (by decide) ?_
  refine lv_istore_n (lv' := [(3, .int (nI 0)), (0, .ref (B.1 57 sn)), (1, .int (nI mm)), (2, .int (v))]) hx hb dX4_amongLatest_1 rfl hl (by decide) rfl (fun ls hl => ?_)
  refine lv_iconst (v := nI 0) hx hb dX4_amongLatest_2 (by decide) ?_
  refine lv_istore (lv' := [(4, .int (nI 0)), (3, .int (nI 0)), (0, .ref (B.1 57 sn)), (1, .int (nI mm)), (2, .int (v))]) hx hb dX4_amongLatest_3 hl (by decide) rfl (fun ls hl => ?_)
  exact loop (mm + 1) 0 (by omega) _ _ hH hS ls (lv_sub hl [2, 3, 4, 1, 0] rfl)
set_option maxHeartbeats 4000000 in
set_option maxRecDepth 100000 in
theorem c_X4_nextRule (l : Launch) (G : gG) (B : gB) (σ : gS) (hC : BkC B) (sn : Nat) (hsB : sn < B.2 57) (hC4 : CS σ sn) : Met l yX4_nextRule [.code yX4_nextRule cX4_nextRule 1 (some .int)] ({ frames := 2, cells := 0, slots := 0, locals := 45 } : Room) (mPc G B σ [.ref (B.1 57 sn)]) (mQi G B (fun r σ' => r = nI (cnx (crl σ sn) (crv σ sn)) ∧ σ' = σ)) 0 0 (mA G) := by
  refine m_start (by decide) (Nat.le_of_ble_eq_true rfl) ?_
  intro p e s m below meth c ⟨hx, hb, hr, hml, hown, hK, hlk, hz⟩ hH hS ls hl
  have hl : lv_has ls 1 [(0, .ref (B.1 57 sn))] := hl
  have hn60 := hC4.2.1
  have hl2 := hC4.2.2.2
  rcases (show crl σ sn = 0 ∨ crl σ sn = 1 ∨ crl σ sn = 2 by omega) with h9 | h9 | h9
  · refine lv_aload_n hx hb dX4_nextRule_0 rfl (lv_at hl 0 rfl) ?_
    refine gf_X4_18 hx hb hown hK hH hsB dX4_nextRule_1 ?_
    refine m_toe (nI 0) (by rw [hC4.2.2.1, h9]) ?_
    refine lv_lookup (off := 28) (tgt := 32) hx hb dX4_nextRule_4 (by decide) (by decide) (by decide) ?_
    refine lv_aload_n hx hb dX4_nextRule_32 rfl (lv_at hl 0 rfl) ?_
    refine lv_iconst (v := nI 5) hx hb dX4_nextRule_33 (by decide) ?_
    refine lv_iconst (v := nI 2) hx hb dX4_nextRule_34 (by decide) ?_
    refine m_ki (m_runV (k := 57) (i := sn) (ci := 4) ⟨hx, hb, hml, hown, hz⟩ hK hH hS hsB rfl rfl (c_X4_amongLatest l G B σ hC sn hsB hC4 5 (nI 2) (by omega)) mw_X4_amongLatest wl_X4_32 ⟨rfl, rfl⟩ ⟨by decide, by decide⟩ rfl hl.1 rfl (Nat.le_of_ble_eq_true rfl) dX4_nextRule_35 ⟨Nat.zero_le _, Nat.zero_le _⟩) hS (fun r_35 σ_35 H locs hp hH hS => ?_)
    obtain ⟨hr1, hs1⟩ := hp
    subst hr1
    rw [hs1] at hH
    have hcl52 := cns_le (crv σ sn) (nI 2) 5
    refine lv_iconst (v := nI 2) hx hb dX4_nextRule_38 (by decide) ?_
    refine m_icmp_ltN (tgt := 44) (by omega) (by omega) hx hb dX4_nextRule_39 (by decide) (fun c_39 => ?_) (fun c_39 => ?_)
    · refine lv_aload_n hx hb dX4_nextRule_44 rfl (lv_at hl 0 rfl) ?_
      refine lv_bipush (v := nI 6) hx hb dX4_nextRule_45 (by decide) ?_
      refine lv_iconst (v := nI 1) hx hb dX4_nextRule_47 (by decide) ?_
      refine m_ki (m_runV (k := 57) (i := sn) (ci := 4) ⟨hx, hb, hml, hown, hz⟩ hK hH hS hsB rfl rfl (c_X4_amongLatest l G B σ hC sn hsB hC4 6 (nI 1) (by omega)) mw_X4_amongLatest wl_X4_32 ⟨rfl, rfl⟩ ⟨by decide, by decide⟩ rfl hl.1 rfl (Nat.le_of_ble_eq_true rfl) dX4_nextRule_48 ⟨Nat.zero_le _, Nat.zero_le _⟩) hS (fun r_48 σ_48 H locs hp hH hS => ?_)
      obtain ⟨hr1, hs1⟩ := hp
      subst hr1
      rw [hs1] at hH
      have hcl61 := cns_le (crv σ sn) (nI 1) 6
      refine lv_bipush (v := nI 6) hx hb dX4_nextRule_51 (by decide) ?_
      refine m_icmp_neN (tgt := 60) (by omega) (by omega) hx hb dX4_nextRule_53 (by decide) (fun c_53 => ?_) (fun c_53 => ?_)
      · refine lv_iconst (v := nI 0) hx hb dX4_nextRule_60 (by decide) ?_
        exact m_iret hx hb hr hlk hH hS dX4_nextRule_61 (⟨by rw [h9]; unfold cnx; rw [if_pos rfl, if_neg (by omega)]; first | rw [if_pos c_53] | rw [if_neg c_53], rfl⟩)
      · refine lv_iconst (v := nI 2) hx hb dX4_nextRule_56 (by decide) ?_
        refine lv_goto (tgt := 61) hx hb dX4_nextRule_57 (by decide) ?_
        exact m_iret hx hb hr hlk hH hS dX4_nextRule_61 (⟨by rw [h9]; unfold cnx; rw [if_pos rfl, if_neg (by omega)]; first | rw [if_pos c_53] | rw [if_neg c_53], rfl⟩)
    · refine lv_iconst (v := nI 1) hx hb dX4_nextRule_42 (by decide) ?_
      exact m_iret hx hb hr hlk hH hS dX4_nextRule_43 (⟨by rw [h9]; unfold cnx; rw [if_pos rfl, if_pos c_39], rfl⟩)
  · refine lv_aload_n hx hb dX4_nextRule_0 rfl (lv_at hl 0 rfl) ?_
    refine gf_X4_18 hx hb hown hK hH hsB dX4_nextRule_1 ?_
    refine m_toe (nI 1) (by rw [hC4.2.2.1, h9]) ?_
    refine lv_lookup (off := 58) (tgt := 62) hx hb dX4_nextRule_4 (by decide) (by decide) (by decide) ?_
    refine lv_aload_n hx hb dX4_nextRule_62 rfl (lv_at hl 0 rfl) ?_
    refine lv_iconst (v := nI 5) hx hb dX4_nextRule_63 (by decide) ?_
    refine lv_iconst (v := nI 1) hx hb dX4_nextRule_64 (by decide) ?_
    refine m_ki (m_runV (k := 57) (i := sn) (ci := 4) ⟨hx, hb, hml, hown, hz⟩ hK hH hS hsB rfl rfl (c_X4_amongLatest l G B σ hC sn hsB hC4 5 (nI 1) (by omega)) mw_X4_amongLatest wl_X4_32 ⟨rfl, rfl⟩ ⟨by decide, by decide⟩ rfl hl.1 rfl (Nat.le_of_ble_eq_true rfl) dX4_nextRule_65 ⟨Nat.zero_le _, Nat.zero_le _⟩) hS (fun r_65 σ_65 H locs hp hH hS => ?_)
    obtain ⟨hr1, hs1⟩ := hp
    subst hr1
    rw [hs1] at hH
    have hcl51 := cns_le (crv σ sn) (nI 1) 5
    refine lv_iconst (v := nI 5) hx hb dX4_nextRule_68 (by decide) ?_
    refine m_icmp_neN (tgt := 76) (by omega) (by omega) hx hb dX4_nextRule_69 (by decide) (fun c_69 => ?_) (fun c_69 => ?_)
    · refine lv_iconst (v := nI 1) hx hb dX4_nextRule_76 (by decide) ?_
      exact m_iret hx hb hr hlk hH hS dX4_nextRule_77 (⟨by rw [h9]; unfold cnx; rw [if_neg (by decide), if_pos rfl]; first | rw [if_pos c_69] | rw [if_neg c_69], rfl⟩)
    · refine lv_iconst (v := nI 0) hx hb dX4_nextRule_72 (by decide) ?_
      refine lv_goto (tgt := 77) hx hb dX4_nextRule_73 (by decide) ?_
      exact m_iret hx hb hr hlk hH hS dX4_nextRule_77 (⟨by rw [h9]; unfold cnx; rw [if_neg (by decide), if_pos rfl]; first | rw [if_pos c_69] | rw [if_neg c_69], rfl⟩)
  · refine lv_aload_n hx hb dX4_nextRule_0 rfl (lv_at hl 0 rfl) ?_
    refine gf_X4_18 hx hb hown hK hH hsB dX4_nextRule_1 ?_
    refine m_toe (nI 2) (by rw [hC4.2.2.1, h9]) ?_
    refine lv_lookup (off := 74) (tgt := 78) hx hb dX4_nextRule_4 (by decide) (by decide) (by decide) ?_
    refine lv_aload_n hx hb dX4_nextRule_78 rfl (lv_at hl 0 rfl) ?_
    refine lv_iconst (v := nI 0) hx hb dX4_nextRule_79 (by decide) ?_
    refine m_ki (m_runV (k := 57) (i := sn) (ci := 4) ⟨hx, hb, hml, hown, hz⟩ hK hH hS hsB rfl rfl (c_X4_latest l G B σ hC sn hsB hC4 0 (by omega)) mw_X4_latest wl_X4_36 ⟨rfl, rfl⟩ ⟨by decide, by decide⟩ rfl hl.1 rfl (Nat.le_of_ble_eq_true rfl) dX4_nextRule_80 ⟨Nat.zero_le _, Nat.zero_le _⟩) hS (fun r_80 σ_80 H locs hp hH hS => ?_)
    obtain ⟨hr1, hs1⟩ := hp
    subst hr1
    rw [hs1] at hH
    refine lv_iconst (v := nI 2) hx hb dX4_nextRule_83 (by decide) ?_
    refine lv_icmp_ne (tgt := 91) hx hb dX4_nextRule_84 (by decide) (fun c_84 => ?_) (fun c_84 => ?_)
    · refine lv_iconst (v := nI 2) hx hb dX4_nextRule_91 (by decide) ?_
      exact m_iret hx hb hr hlk hH hS dX4_nextRule_92 (⟨by rw [h9]; unfold cnx; rw [if_neg (by decide), if_neg (by decide)]; first | rw [if_pos c_84] | rw [if_neg c_84], rfl⟩)
    · refine lv_iconst (v := nI 0) hx hb dX4_nextRule_87 (by decide) ?_
      refine lv_goto (tgt := 92) hx hb dX4_nextRule_88 (by decide) ?_
      exact m_iret hx hb hr hlk hH hS dX4_nextRule_92 (⟨by rw [h9]; unfold cnx; rw [if_neg (by decide), if_neg (by decide)]; first | rw [if_pos c_84] | rw [if_neg c_84], rfl⟩)
set_option maxHeartbeats 4000000 in
set_option maxRecDepth 100000 in
theorem c_X4_receive (l : Launch) (G : gG) (B : gB) (σ : gS) (hC : BkC B) (sn : Nat) (hsB : sn < B.2 57) (hC4 : CS σ sn) (hn : crn σ sn < 60) (an : Nat) (ha : an ≤ 2) : Met l yX4_receive [.code yX4_receive cX4_receive 3 none] ({ frames := 3, cells := 0, slots := 0, locals := 65 } : Room) (mPc G B σ [.ref (B.1 57 sn), .int (nI an)]) (mQv G B (fun σ' => σ' = ccv σ sn an)) 0 0 (mA G) := by
  refine m_start (by decide) (Nat.le_of_ble_eq_true rfl) ?_
  intro p e s m below meth c ⟨hx, hb, hr, hml, hown, hK, hlk, hz⟩ hH hS ls hl
  have hl : lv_has ls 3 [(0, .ref (B.1 57 sn)), (1, .int (nI an))] := hl
  have hn60 := hC4.2.1
  have hl2 := hC4.2.2.2
  refine lv_aload_n hx hb dX4_receive_0 rfl (lv_at hl 0 rfl) ?_
  refine gf_X4_22 hx hb hown hK hH hsB dX4_receive_1 ?_
  refine m_toi (crn σ sn) (hC4.1) ?_
  refine lv_bipush (v := nI 60) hx hb dX4_receive_4 (by decide) ?_
  refine m_icmp_ltN (tgt := 10) (by omega) (by omega) hx hb dX4_receive_6 (by decide) (fun c_6 => ?_) (fun c_6 => ?_)
  · refine lv_aload_n hx hb dX4_receive_10 rfl (lv_at hl 0 rfl) ?_
    refine gf_X4_15 hx hb hown hK hH hsB dX4_receive_11 ?_
    refine lv_aload_n hx hb dX4_receive_14 rfl (lv_at hl 0 rfl) ?_
    refine gf_X4_22 hx hb hown hK hH hsB dX4_receive_15 ?_
    refine m_toi (crn σ sn) (hC4.1) ?_
    refine lv_iload_n hx hb dX4_receive_18 rfl (lv_at hl 1 rfl) ?_
    refine m_iast hx hb hK hH hS (n := 60) (bs hC 59 hsB) (fun _ _ => rfl) (crn σ sn) (rfl) (by omega) (by decide) dX4_receive_19 (fun H locs hH hS => ?_)
    refine lv_aload_n hx hb dX4_receive_20 rfl (lv_at hl 0 rfl) ?_
    refine lv_dup hx hb dX4_receive_21 rfl ?_
    refine gf_X4_22 hx hb hown hK hH hsB dX4_receive_22 ?_
    refine m_toi (crn σ sn) (by rw [sI_at, if_neg (by omega)]; exact hC4.1) ?_
    refine lv_iconst (v := nI 1) hx hb dX4_receive_25 (by decide) ?_
    refine m_iaddN hx hb dX4_receive_26 ?_
    refine pf_X4_22 hx hb hown hK hH hS hsB dX4_receive_27 (fun H locs hH hS => ?_)
    refine lv_aload_n hx hb dX4_receive_30 rfl (lv_at hl 0 rfl) ?_
    refine m_ki (m_runV (k := 57) (i := sn) (ci := 4) ⟨hx, hb, hml, hown, hz⟩ hK hH hS hsB rfl rfl (c_X4_nextRule l G B (ccA σ sn an) hC sn hsB (ccA_CS hC4 hn)) mw_X4_nextRule wl_X4_25 ⟨rfl, rfl⟩ ⟨by decide, by decide⟩ rfl hl.1 rfl (Nat.le_of_ble_eq_true rfl) dX4_receive_31 ⟨Nat.zero_le _, Nat.zero_le _⟩) hS (fun r_31 σ_31 H locs hp hH hS => ?_)
    obtain ⟨hr1, hs1⟩ := hp
    rw [hs1] at hH
    rw [ccA_l, cnx_nxr (by omega) (ccA_0 hn)] at hr1
    subst hr1
    have hx2 := nxr_le (crl σ sn) an (crv (ccA σ sn an) sn)
    refine lv_istore_n (lv' := [(2, .int (nI (nxr (crl σ sn) an (crv (ccA σ sn an) sn)))), (0, .ref (B.1 57 sn)), (1, .int (nI an))]) hx hb dX4_receive_34 rfl hl (by decide) rfl (fun ls hl => ?_)
    refine lv_iload_n hx hb dX4_receive_35 rfl (lv_at hl 0 rfl) ?_
    refine lv_aload_n hx hb dX4_receive_36 rfl (lv_at hl 1 rfl) ?_
    refine gf_X4_18 hx hb hown hK hH hsB dX4_receive_37 ?_
    refine m_toi (crl σ sn) ((ccA_3 σ sn an).trans hC4.2.2.1) ?_
    refine m_icmp_eqN (tgt := 63) (by omega) (by omega) hx hb dX4_receive_40 (by decide) (fun c_40 => ?_) (fun c_40 => ?_)
    · exact m_vret hx hb hr hlk hH hS dX4_receive_63 (by unfold ccv; first | rw [if_pos c_40] | rw [if_neg c_40])
    · refine lv_aload_n hx hb dX4_receive_43 rfl (lv_at hl 1 rfl) ?_
      refine lv_iload_n hx hb dX4_receive_44 rfl (lv_at hl 0 rfl) ?_
      refine pf_X4_18 hx hb hown hK hH hS hsB dX4_receive_45 (fun H locs hH hS => ?_)
      refine lv_aload_n hx hb dX4_receive_48 rfl (lv_at hl 1 rfl) ?_
      refine lv_dup hx hb dX4_receive_49 rfl ?_
      refine gf_X4_29 hx hb hown hK hH hsB dX4_receive_50 ?_
      refine m_toe (σ.1 57 sn 4) (by rw [sI_at, if_neg (by omega)]; exact ccA_4 σ sn an) ?_
      refine lv_iconst (v := nI 1) hx hb dX4_receive_53 (by decide) ?_
      refine lv_iadd hx hb dX4_receive_54 ?_
      refine pf_X4_29 hx hb hown hK hH hS hsB dX4_receive_55 (fun H locs hH hS => ?_)
      refine lv_aload_n hx hb dX4_receive_58 rfl (lv_at hl 1 rfl) ?_
      refine lv_iconst (v := nI 0) hx hb dX4_receive_59 (by decide) ?_
      refine pf_X4_22 hx hb hown hK hH hS hsB dX4_receive_60 (fun H locs hH hS => ?_)
      exact m_vret hx hb hr hlk hH hS dX4_receive_63 (by unfold ccv; first | rw [if_pos c_40] | rw [if_neg c_40])
  · exact absurd hn (by omega)
