/-! plan, supplier, lot of the desk -/
set_option maxHeartbeats 4000000 in
set_option maxRecDepth 100000 in
theorem c_X6_plan (l : Launch) (G : gG) (B : gB) (σ : gS) (hC : BkC B) (hD : DK B σ) (h24 : nP σ ≤ 24) (h60 : ∀ i, i < B.2 60 → (σ.1 60 i 3).toNatClampNeg < nP σ) : Met l yX6_plan [.code yX6_plan cX6_plan 1 (some .int)] ({ frames := 2, cells := 10, slots := 271, locals := 40 } : Room) (oPc G B σ [.ref (B.1 40 0)]) (oQ G (fun r u => if nP σ = 24 then r = -2 ∧ u = (B, σ) else r = nI (nP σ) ∧ ∃ q, u = (gP B (nP σ) q, sI (sP σ (nP σ)) 40 0 3 (nI (nP σ + 1))))) 10 271 (mA G) := by
  refine o_start (by decide) (Nat.le_of_ble_eq_true rfl) ?_
  intro p e s m below meth c ⟨hx, hb, hr, hml, hown, hK, hlk, hz⟩ hAO hH hS ls hl
  have hl : lv_has ls 1 [(0, .ref (B.1 40 0))] := hl
  refine lv_aload_n hx hb dX6_plan_0 rfl (lv_at hl 0 rfl) ?_
  refine gf_X6_55 hx hb hown hK hH (bc hC 40) dX6_plan_1 ?_
  refine m_toi (nP σ) (hD.1) ?_
  refine lv_bipush (v := nI 24) hx hb dX6_plan_4 (by decide) ?_
  refine m_icmp_ltN (tgt := 12) (by omega) (by omega) hx hb dX6_plan_6 (by decide) (fun c_6 => ?_) (fun c_6 => ?_)
  · refine lv_aload_n hx hb dX6_plan_12 rfl (lv_at hl 0 rfl) ?_
    refine gf_X6_25 hx hb hown hK hH (bc hC 40) dX6_plan_13 ?_
    refine lv_aload_n hx hb dX6_plan_16 rfl (lv_at hl 0 rfl) ?_
    refine gf_X6_55 hx hb hown hK hH (bc hC 40) dX6_plan_17 ?_
    refine m_toi (nP σ) (hD.1) ?_
    obtain ⟨q, hq⟩ : ∃ q, Array.size s.heap = q := ⟨_, rfl⟩
    have hGq : G.2.2 ≤ q := by omega
    have hlt : ∀ k i, i < B.2 k → B.1 k i < q := fun k i hi => by rw [← hq]; exact hH.lt hi
    refine n_new hx hb hown hK hq hS 2 [.null, .null, .null, .null, .null, .int 0, .int 0] rfl tyX2 tyX2_ok wk_X6_23 wn_X2 (by decide) (by decide) (by decide) dX6_plan_20 (fun H1 h1 h2 h3 hS => ?_)
    refine lv_dup hx hb dX6_plan_23 rfl ?_
    refine n_callN (q := q) (As := []) ⟨hx, hb, hml, hown, hz⟩ hK hAO hS h1 hGq h3 (c_X2_init l (G.1, G.2.1, q) (aP q) rfl rfl rfl rfl rfl rfl (fun _ _ => rfl)) mw_X2_init rfl wl_X6_59 ⟨rfl, rfl⟩ ⟨by decide, by decide⟩ rfl hl.1 rfl (Nat.le_of_ble_eq_true rfl) dX6_plan_24 ⟨by decide, by decide⟩ (fun u H2 locs hu hW hz1 hz2 hk hS => ?_)
    subst hu
    have hHk : Hp G B σ H2 := hH.keep (fun k i hi => (hk _ (hlt k i hi)).trans (h2 _ (hlt k i hi)))
    have hv : va_at G.1 clsz (q, .inr (2, [.ref (q + 1), .ref (q + 2), .ref (q + 3), .ref (q + 4), .ref (q + 5), .int 0, .int 0])) H2 := (hW.1 50 0 (Nat.le_of_ble_eq_true rfl)).2
    refine n_aast hx hb hK hHk hS (k0 := 45) (gi := 3) (bc hC 45) (fun _ _ => rfl) rfl hv rfl (nP σ) (by omega) (by decide) dX6_plan_27 (fun H locs h45 hk3 hS => ?_)
    have hH := grow_plan hC hD.2.1 hHk hlt hGq hW h60 (by omega) h45 hk3
    refine lv_aload_n hx hb dX6_plan_28 rfl (lv_at hl 0 rfl) ?_
    refine lv_dup hx hb dX6_plan_29 rfl ?_
    refine gf_X6_55 hx hb hown hK hH (bc hC 40) dX6_plan_30 ?_
    refine m_toi (nP σ) (hD.1) ?_
    refine lv_iconst (v := nI 1) hx hb dX6_plan_33 (by decide) ?_
    refine m_iaddN hx hb dX6_plan_34 ?_
    refine pf_X6_55 hx hb hown hK hH hS (bc hC 40) dX6_plan_35 (fun H locs hH hS => ?_)
    refine lv_aload_n hx hb dX6_plan_38 rfl (lv_at hl 0 rfl) ?_
    refine gf_X6_55 hx hb hown hK hH (bc hC 40) dX6_plan_39 ?_
    refine m_toi (nP σ + 1) (by rw [sI_at, if_pos ⟨rfl, rfl, rfl⟩]) ?_
    refine lv_iconst (v := nI 1) hx hb dX6_plan_42 (by decide) ?_
    refine m_isubN (by omega) hx hb dX6_plan_43 ?_
    exact o_iret hx hb hr hlk hH hS dX6_plan_44 (by rw [if_neg (by omega)]; exact ⟨by rw [show nP σ + 1 - 1 = nP σ by omega], q, rfl⟩) (by decide) (by decide)
  · refine lv_bipush (v := (-2)) hx hb dX6_plan_9 (by decide) ?_
    exact o_iret hx hb hr hlk hH hS dX6_plan_11 (by rw [if_pos (by omega)]; exact ⟨rfl, rfl⟩) (by decide) (by decide)
set_option maxHeartbeats 4000000 in
set_option maxRecDepth 100000 in
theorem c_X6_supplier (l : Launch) (G : gG) (B : gB) (σ : gS) (hI : RI B σ) (x y z : Int32) : Met l yX6_supplier [.code yX6_supplier cX6_supplier 4 (some .int)] ({ frames := 2, cells := 3, slots := 68, locals := 43 } : Room) (oPc G B σ [.ref (B.1 40 0), .int (x), .int (y), .int (z)]) (oQ G (fun r u => if suOK σ x y z = true then r = nI (nS σ) ∧ ∃ q, u = (gU B (nS σ) q, sI (sU σ (sI (sI (sI z00 58 0 0 x) 58 0 1 y) 58 0 2 z) (nS σ)) 40 0 7 (nI (nS σ + 1))) else r = -2 ∧ u = (B, σ))) 3 68 (mA G) := by
  refine o_start (by decide) (Nat.le_of_ble_eq_true rfl) ?_
  intro p e s m below meth c ⟨hx, hb, hr, hml, hown, hK, hlk, hz⟩ hAO hH hS ls hl
  have hl : lv_has ls 4 [(0, .ref (B.1 40 0)), (1, .int (x)), (2, .int (y)), (3, .int (z))] := hl
  have hC := hI.C
  have h24 := hI.P.2.1
  have h8 := hI.S.2.1
  have h60 := hI.L.2.1
  refine lv_aload_n hx hb dX6_supplier_0 rfl (lv_at hl 0 rfl) ?_
  refine lv_iload_n hx hb dX6_supplier_1 rfl (lv_at hl 1 rfl) ?_
  refine m_kq (m_runV (k := 40) (i := 0) (ci := 6) ⟨hx, hb, hml, hown, hz⟩ hK hH hS (bc hC 40) rfl rfl (c_X6_closedPlanAt l G B σ hI (x)) mw_X6_closedPlanAt wl_X6_121 ⟨rfl, rfl⟩ ⟨by decide, by decide⟩ rfl hl.1 rfl (Nat.le_of_ble_eq_true rfl) dX6_supplier_2 ⟨Nat.zero_le _, Nat.zero_le _⟩) hS (fun r_2 σ_2 H locs hp hH hS => ?_)
  obtain ⟨hr1, hs1⟩ := hp
  rw [hs1] at hH
  by_cases b_2 : isCl σ x = true
  · rw [if_pos b_2] at hr1
    subst hr1
    refine lv_ifnull hx hb dX6_supplier_5 ?_
    refine lv_aload_n hx hb dX6_supplier_8 rfl (lv_at hl 0 rfl) ?_
    refine lv_iload_n hx hb dX6_supplier_9 rfl (lv_at hl 2 rfl) ?_
    refine m_kq (m_runV (k := 40) (i := 0) (ci := 6) ⟨hx, hb, hml, hown, hz⟩ hK hH hS (bc hC 40) rfl rfl (c_X6_closedPlanAt l G B σ hI (y)) mw_X6_closedPlanAt wl_X6_121 ⟨rfl, rfl⟩ ⟨by decide, by decide⟩ rfl hl.1 rfl (Nat.le_of_ble_eq_true rfl) dX6_supplier_10 ⟨Nat.zero_le _, Nat.zero_le _⟩) hS (fun r_10 σ_10 H locs hp hH hS => ?_)
    obtain ⟨hr1, hs1⟩ := hp
    rw [hs1] at hH
    by_cases b_10 : isCl σ y = true
    · rw [if_pos b_10] at hr1
      subst hr1
      refine lv_ifnull hx hb dX6_supplier_13 ?_
      refine lv_aload_n hx hb dX6_supplier_16 rfl (lv_at hl 0 rfl) ?_
      refine lv_iload_n hx hb dX6_supplier_17 rfl (lv_at hl 3 rfl) ?_
      refine m_kq (m_runV (k := 40) (i := 0) (ci := 6) ⟨hx, hb, hml, hown, hz⟩ hK hH hS (bc hC 40) rfl rfl (c_X6_closedPlanAt l G B σ hI (z)) mw_X6_closedPlanAt wl_X6_121 ⟨rfl, rfl⟩ ⟨by decide, by decide⟩ rfl hl.1 rfl (Nat.le_of_ble_eq_true rfl) dX6_supplier_18 ⟨Nat.zero_le _, Nat.zero_le _⟩) hS (fun r_18 σ_18 H locs hp hH hS => ?_)
      obtain ⟨hr1, hs1⟩ := hp
      rw [hs1] at hH
      by_cases b_18 : isCl σ z = true
      · rw [if_pos b_18] at hr1
        subst hr1
        refine lv_ifnull hx hb dX6_supplier_21 ?_
        refine lv_aload_n hx hb dX6_supplier_24 rfl (lv_at hl 0 rfl) ?_
        refine gf_X6_168 hx hb hown hK hH (bc hC 40) dX6_supplier_25 ?_
        refine m_toi (nS σ) (hI.D.2.2.1) ?_
        refine lv_bipush (v := nI 8) hx hb dX6_supplier_28 (by decide) ?_
        refine m_icmp_ltN (tgt := 36) (by omega) (by omega) hx hb dX6_supplier_30 (by decide) (fun c_30 => ?_) (fun c_30 => ?_)
        · refine lv_aload_n hx hb dX6_supplier_36 rfl (lv_at hl 0 rfl) ?_
          refine gf_X6_41 hx hb hown hK hH (bc hC 40) dX6_supplier_37 ?_
          refine lv_aload_n hx hb dX6_supplier_40 rfl (lv_at hl 0 rfl) ?_
          refine gf_X6_168 hx hb hown hK hH (bc hC 40) dX6_supplier_41 ?_
          refine m_toi (nS σ) (hI.D.2.2.1) ?_
          obtain ⟨q, hq⟩ : ∃ q, Array.size H = q := ⟨_, rfl⟩
          have hGq : G.2.2 ≤ q := by have := hS.1; omega
          have hlt : ∀ k i, i < B.2 k → B.1 k i < q := fun k i hi => by rw [← hq]; exact hH.lt hi
          refine n_new hx hb hown hK hq hS 4 [.null, .null, .int 0, .int 0, .int 0] rfl tyX4 tyX4_ok wk_X6_39 wn_X4 (by decide) (by decide) (by decide) dX6_supplier_44 (fun H1 h1 h2 h3 hS => ?_)
          refine lv_dup hx hb dX6_supplier_47 rfl ?_
          refine lv_iload_n hx hb dX6_supplier_48 rfl (lv_at hl 1 rfl) ?_
          refine lv_iload_n hx hb dX6_supplier_49 rfl (lv_at hl 2 rfl) ?_
          refine lv_iload_n hx hb dX6_supplier_50 rfl (lv_at hl 3 rfl) ?_
          refine n_call (q := q) (As := [.int x, .int y, .int z]) ⟨hx, hb, hml, hown, hz⟩ hK hAO hS h1 hGq h3 (c_X4_init l (G.1, G.2.1, q) (aU q) x y z rfl rfl rfl) mw_X4_init rfl wl_X6_171 ⟨rfl, rfl⟩ ⟨by decide, by decide⟩ rfl hl.1 rfl (Nat.le_of_ble_eq_true rfl) dX6_supplier_51 ⟨by decide, by decide⟩ (fun u H2 locs hu hW hz1 hz2 hk hS => ?_)
          subst hu
          have hHk : Hp G B σ H2 := hH.keep (fun k i hi => (hk _ (hlt k i hi)).trans (h2 _ (hlt k i hi)))
          have hv : va_at G.1 clsz (q, .inr (4, [.ref (q + 1), .ref (q + 2), .int 0, .int 0, .int 0])) H2 := (hW.1 57 0 (Nat.le_of_ble_eq_true rfl)).2
          refine n_aast hx hb hK hHk hS (k0 := 46) (gi := 4) (bc hC 46) (fun _ _ => rfl) rfl hv rfl (nS σ) (by omega) (by decide) dX6_supplier_54 (fun H locs h45 hk3 hS => ?_)
          have hH := grow_U hC hI.D.2.2.2.1 hHk hlt hGq hW h45 hk3
          refine lv_aload_n hx hb dX6_supplier_55 rfl (lv_at hl 0 rfl) ?_
          refine lv_dup hx hb dX6_supplier_56 rfl ?_
          refine gf_X6_168 hx hb hown hK hH (bc hC 40) dX6_supplier_57 ?_
          refine m_toi (nS σ) (hI.D.2.2.1) ?_
          refine lv_iconst (v := nI 1) hx hb dX6_supplier_60 (by decide) ?_
          refine m_iaddN hx hb dX6_supplier_61 ?_
          refine pf_X6_168 hx hb hown hK hH hS (bc hC 40) dX6_supplier_62 (fun H locs hH hS => ?_)
          refine lv_aload_n hx hb dX6_supplier_65 rfl (lv_at hl 0 rfl) ?_
          refine gf_X6_168 hx hb hown hK hH (bc hC 40) dX6_supplier_66 ?_
          refine m_toi (nS σ + 1) (by rw [sI_at, if_pos ⟨rfl, rfl, rfl⟩]) ?_
          refine lv_iconst (v := nI 1) hx hb dX6_supplier_69 (by decide) ?_
          refine m_isubN (by omega) hx hb dX6_supplier_70 ?_
          exact o_iret hx hb hr hlk hH hS dX6_supplier_71 (by rw [if_pos (show suOK σ x y z = true by unfold suOK; rw [b_2, b_10, b_18, decide_eq_true (by omega)]; rfl)]; exact ⟨by rw [show nS σ + 1 - 1 = nS σ by omega], q, rfl⟩) (by decide) (by decide)
        · refine lv_bipush (v := (-2)) hx hb dX6_supplier_33 (by decide) ?_
          exact o_iret hx hb hr hlk hH hS dX6_supplier_35 (by rw [if_neg (fun z9 => by unfold suOK at z9; rw [Bool.and_eq_true, Bool.and_eq_true, Bool.and_eq_true] at z9; first | exact b_2 z9.1.1.1 | exact b_10 z9.1.1.2 | exact b_18 z9.1.2 | (have z8 := of_decide_eq_true z9.2; omega))]; exact ⟨rfl, rfl⟩) (by decide) (by decide)
      · rw [if_neg b_18] at hr1
        subst hr1
        refine lv_ifnullN (tgt := 33) hx hb dX6_supplier_21 (by decide) ?_
        refine lv_bipush (v := (-2)) hx hb dX6_supplier_33 (by decide) ?_
        exact o_iret hx hb hr hlk hH hS dX6_supplier_35 (by rw [if_neg (fun z9 => by unfold suOK at z9; rw [Bool.and_eq_true, Bool.and_eq_true, Bool.and_eq_true] at z9; first | exact b_2 z9.1.1.1 | exact b_10 z9.1.1.2 | exact b_18 z9.1.2 | (have z8 := of_decide_eq_true z9.2; omega))]; exact ⟨rfl, rfl⟩) (by decide) (by decide)
    · rw [if_neg b_10] at hr1
      subst hr1
      refine lv_ifnullN (tgt := 33) hx hb dX6_supplier_13 (by decide) ?_
      refine lv_bipush (v := (-2)) hx hb dX6_supplier_33 (by decide) ?_
      exact o_iret hx hb hr hlk hH hS dX6_supplier_35 (by rw [if_neg (fun z9 => by unfold suOK at z9; rw [Bool.and_eq_true, Bool.and_eq_true, Bool.and_eq_true] at z9; first | exact b_2 z9.1.1.1 | exact b_10 z9.1.1.2 | exact b_18 z9.1.2 | (have z8 := of_decide_eq_true z9.2; omega))]; exact ⟨rfl, rfl⟩) (by decide) (by decide)
  · rw [if_neg b_2] at hr1
    subst hr1
    refine lv_ifnullN (tgt := 33) hx hb dX6_supplier_5 (by decide) ?_
    refine lv_bipush (v := (-2)) hx hb dX6_supplier_33 (by decide) ?_
    exact o_iret hx hb hr hlk hH hS dX6_supplier_35 (by rw [if_neg (fun z9 => by unfold suOK at z9; rw [Bool.and_eq_true, Bool.and_eq_true, Bool.and_eq_true] at z9; first | exact b_2 z9.1.1.1 | exact b_10 z9.1.1.2 | exact b_18 z9.1.2 | (have z8 := of_decide_eq_true z9.2; omega))]; exact ⟨rfl, rfl⟩) (by decide) (by decide)
def hPc (G : gG) (B : gB) (σ : gS) (H0 : Heap) (av : List Value) : Array Value → State → Prop := va_Pc av (fun U => KI G U ∧ G.2.2 ≤ U.heap.size ∧ Hp G B σ U.heap ∧ U.heap = H0)
def hQi (G : gG) (H0 : Heap) (post : Int32 → Prop) : Array Value → State → Outcome → State → Prop := va_Qi (fun r (_ : Unit) => post r) (fun (_ : Unit) t => t.heap = H0) (mA G)
theorem hPc.blind {G : gG} {B : gB} {σ : gS} {H0 : Heap} {av : List Value} : FrameBlind (hPc G B σ H0 av) := fun a U g mk h => ⟨h.1, h.2.1.call g mk a, h.2.2⟩
set_option maxHeartbeats 4000000 in
theorem c_X4_planNowH (l : Launch) (G : gG) (B : gB) (σ : gS) (H0 : Heap) (hC : BkC B) (sn : Nat) (hsB : sn < B.2 57) (hC4 : CS σ sn) : Met l yX4_planNow [.code yX4_planNow cX4_planNow 1 (some .int)] ({ frames := 0, cells := 0, slots := 0, locals := 0 } : Room) (hPc G B σ H0 [.ref (B.1 57 sn)]) (hQi G H0 (fun r => r = σ.1 58 sn (crl σ sn))) 0 0 (mA G) := by
  refine Met.ofW (cc := cX4_planNow) (maxL := 1) (ret := some .int) (by decide) rfl ?_
  intro p e s m args below meth c s₁ Bd hml hv
  obtain ⟨rfl, hK, hz, hH, h0⟩ := hv
  have hl := lv_entry [.ref (B.1 57 sn)] (n := 1) (Nat.le_of_ble_eq_true rfl)
  rw [lg_entry_eq]
  generalize (lg_sl [.ref (B.1 57 sn)] ++ List.replicate (1 - (lg_sl [.ref (B.1 57 sn)]).length) Slot.unset).toArray = ls at hl ⊢
  have hl : lv_has ls 1 [(0, .ref (B.1 57 sn))] := hl
  have hx := Bd.exec
  have hb := Bd.bytes
  have hr := Bd.returns
  have hown := findClass_of_methodNamed Bd.named
  have hlk := Bd.notSynchronized
  have hS : va_S (mA G) s.heap s.heap [] := va_S.rf
  have hc2 := hC4.2.2.2
  refine lv_aload_n hx hb dX4_planNow_0 rfl (lv_at hl 0 rfl) ?_
  refine gf_X4_18 hx hb hown hK hH hsB dX4_planNow_1 ?_
  refine m_toi (crl σ sn) (hC4.2.2.1) ?_
  refine lv_if_lt (tgt := 27) hx hb dX4_planNow_4 (by decide) (fun c_4 => ?_) (fun c_4 => ?_)
  · exact absurd c_4 (nI_pos (by omega))
  · refine lv_aload_n hx hb dX4_planNow_7 rfl (lv_at hl 0 rfl) ?_
    refine gf_X4_18 hx hb hown hK hH hsB dX4_planNow_8 ?_
    refine m_toi (crl σ sn) (hC4.2.2.1) ?_
    refine lv_iconst (v := nI 3) hx hb dX4_planNow_11 (by decide) ?_
    refine m_icmp_geN (tgt := 27) (by omega) (by omega) hx hb dX4_planNow_12 (by decide) (fun c_12 => ?_) (fun c_12 => ?_)
    · exact absurd c_12 (by omega)
    · refine lv_aload_n hx hb dX4_planNow_15 rfl (lv_at hl 0 rfl) ?_
      refine gf_X4_9 hx hb hown hK hH hsB dX4_planNow_16 ?_
      refine lv_aload_n hx hb dX4_planNow_19 rfl (lv_at hl 0 rfl) ?_
      refine gf_X4_18 hx hb hown hK hH hsB dX4_planNow_20 ?_
      refine m_toi (crl σ sn) (hC4.2.2.1) ?_
      refine m_iald hx hb hK hH (n := 3) (bs hC 58 hsB) (fun _ _ => rfl) (crl σ sn) (rfl) (by omega) (by decide) dX4_planNow_23 ?_
      refine lv_goto (tgt := 28) hx hb dX4_planNow_24 (by decide) ?_
      exact W.iret hx hb hr (fun t ht _ => ⟨⟨_, (), rfl, rfl, ht.trans h0⟩, hS.F ht⟩) hS.2.2 dX4_planNow_28 hlk
section NX
variable {p : Program} {l : Launch} {e : Env} {R : Room} {s : State} {m : MethodId} {args : Array Value} {below : List Frame} {meth : Method} {c : Code} {H : Heap} {locs : List Loc} {cells slots : Nat} {Q : State → Prop}
variable {cc : ByteArray} {pc : Nat} {ls : Array Slot} {rest : List Value} {G : gG} {B : gB} {σ : gS}
variable {y : MethodName} {bytes : ByteArray} {maxL nL n index mc ms : Nat} {ret : Option FieldType} {rm : Room} {own : String} {As : List Value} {st0 : List Value}
/-- a call that leaves the heap as it is -/
theorem m_callH {own : String} {post : Int32 → Prop} (C0 : p.tables.exec = Jvm.exec ∧ c.code = cc ∧ c.maxLocals = nL ∧ s.vm.findClass own = some m.cls ∧ G.2.2 ≤ s.heap.size) (hK : KI G s) (hH : Hp G B σ H) (hS : va_S (mA G) s.heap H locs) {k i ci : Nat} {T : u_T} {N : Nat} {fs : List Value} (hi : i < B.2 k) (hlay : lay G B k i (σ.1 k i) (σ.2 k i) = .inr (ci, fs)) (hc : clsz[ci]? = some (y.cls, T, N))
    (hM : Met l y [.code y bytes maxL ret] rm (hPc G B σ H (.ref (B.1 k i) :: As)) (hQi G H post) 0 0 (mA G)) (hw : mWv y bytes maxL ret n) (hl : Cond.methodLink own index y ∈ lw_tbl) (hrc : rm.cells = 0 ∧ rm.slots = 0) (hR : rm.frames + 1 ≤ R.frames ∧ 8 + (maxL + 11) + rm.locals ≤ R.locals) (hn : As.length = n) (hsize : ls.size = nL) (hst : st0 = As.reverse ++ .ref (B.1 k i) :: rest) (hrest : (rest.map fun v => v.category).sum ≤ 8) (hdg : decode cc pc = .ok (.invokevirtual index, 3)) (hf : cells ≤ R.cells ∧ slots ≤ R.slots)
    (kk : ∀ (r : Int32) (locs1 : List Loc), post r → va_S (mA G) s.heap H locs1 → W p l e R s m args below meth c H locs1 cells slots Q (F0 m (pc + 3) ls (.int r :: rest))) : W p l e R s m args below meth c H locs cells slots Q (F0 m pc ls st0) := by
  obtain ⟨hx, hb, hml, hown, hz⟩ := C0
  have cb := m_cb (args := args) (index := index) (own := own) (rm := rm) (R := R) hK hw.1 hl hR
  rw [hrc.1, hrc.2] at cb
  refine va_calli (va_runV (Ts := []) (C := y.cls) ⟨hx, hb, hml, hown, fun w h => by cases h⟩ hM ⟨cb, hK.2 _ hw.2.1 rfl args, hK.2 _ hw.2.2 rfl args⟩ ⟨hPc.blind, m_recv hK hH hi hlay hc, fun U hU hW => ⟨rfl, hK.warm hW, by rw [hU]; exact Nat.le_trans hz hS.1, by rw [hU]; exact hH, hU⟩⟩ rfl hn hsize hst (lv_room hrest) hdg hf) hS (fun _ _ h => h) (fun _ h => h) (fun r u t H1 locs1 ht _ hp hB _ _ hS1 => ?_)
  have e1 : H1 = H := ht.symm.trans hB
  subst e1
  exact kk r locs1 hp hS1
end NX
set_option maxHeartbeats 4000000 in
set_option maxRecDepth 100000 in
theorem c_X6_lot (l : Launch) (G : gG) (B : gB) (σ : gS) (hI : RI B σ) (x z : Int32) : Met l yX6_lot [.code yX6_lot cX6_lot 5 (some .int)] ({ frames := 3, cells := 3, slots := 74, locals := 66 } : Room) (oPc G B σ [.ref (B.1 40 0), .int (x), .int (z)]) (oQ G (fun r u => if loOK σ x z = true then r = nI (nL σ) ∧ ∃ q, u = (gL B (nL σ) q, sI (sL σ (sI (sI (sI (sI z00 60 0 0 (x)) 60 0 1 z) 60 0 3 (nI (pO σ x.toNatClampNeg (rl σ x.toNatClampNeg)))) 60 0 4 (nI (rl σ x.toNatClampNeg))) (nL σ)) 40 0 9 (nI (nL σ + 1))) else r = -2 ∧ u = (B, σ))) 3 74 (mA G) := by
  refine o_start (by decide) (Nat.le_of_ble_eq_true rfl) ?_
  intro p e s m below meth c ⟨hx, hb, hr, hml, hown, hK, hlk, hz⟩ hAO hH hS ls hl
  have hl : lv_has ls 5 [(0, .ref (B.1 40 0)), (1, .int (x)), (2, .int (z))] := hl
  have hC := hI.C
  have h24 := hI.P.2.1
  have h8 := hI.S.2.1
  have h60 := hI.L.2.1
  refine lv_aload_n hx hb dX6_lot_0 rfl (lv_at hl 0 rfl) ?_
  refine lv_iload_n hx hb dX6_lot_1 rfl (lv_at hl 1 rfl) ?_
  refine m_kq (m_runV (k := 40) (i := 0) (ci := 6) ⟨hx, hb, hml, hown, hz⟩ hK hH hS (bc hC 40) rfl rfl (c_X6_supplierAt l G B σ hI.C hI.D hI.S.2.1 (x)) mw_X6_supplierAt wl_X6_173 ⟨rfl, rfl⟩ ⟨by decide, by decide⟩ rfl hl.1 rfl (Nat.le_of_ble_eq_true rfl) dX6_lot_2 ⟨Nat.zero_le _, Nat.zero_le _⟩) hS (fun r_2 σ_2 H locs hp hH hS => ?_)
  obtain ⟨hr1, hs1⟩ := hp
  rw [hs1] at hH
  by_cases b_2 : isSu σ x = true
  · rw [if_pos b_2] at hr1
    obtain ⟨sn, hsn, he⟩ := isSu_t b_2
    subst he
    rw [nI_clamp (by omega)] at hr1
    subst hr1
    have hB_sn : sn < B.2 57 := by rw [hI.D.2.2.2.1]; exact hsn
    have hSR := hI.sr hsn
    have hS1 := hI.S.2.2.1 sn hsn
    have hcs := hSR.cs hS1
    have hrl := hS1.2.1
    have hpo := hS1.2.2.1 (rl σ sn) (by omega)
    have hpl : σ.1 58 sn (crl σ sn) = nI (pO σ sn (rl σ sn)) := by rw [hcs.2.2, hSR.2.2.2.1 _ (by omega)]; exact hpo.1
    have hp24 : pO σ sn (rl σ sn) < 24 := by omega
    refine lv_astore_n (lv' := [(3, .ref (B.1 57 sn)), (0, .ref (B.1 40 0)), (1, .int (nI sn)), (2, .int (z))]) hx hb dX6_lot_5 rfl hl (by decide) rfl (fun ls hl => ?_)
    refine lv_aload_n hx hb dX6_lot_6 rfl (lv_at hl 0 rfl) ?_
    refine lv_ifnull hx hb dX6_lot_7 ?_
    refine lv_aload_n hx hb dX6_lot_10 rfl (lv_at hl 1 rfl) ?_
    refine gf_X6_177 hx hb hown hK hH (bc hC 40) dX6_lot_11 ?_
    refine m_toi (nL σ) (hI.D.2.2.2.2.1) ?_
    refine lv_bipush (v := nI 60) hx hb dX6_lot_14 (by decide) ?_
    refine m_icmp_ltN (tgt := 22) (by omega) (by omega) hx hb dX6_lot_16 (by decide) (fun c_16 => ?_) (fun c_16 => ?_)
    · refine lv_aload_n hx hb dX6_lot_22 rfl (lv_at hl 1 rfl) ?_
      refine lv_aload_n hx hb dX6_lot_23 rfl (lv_at hl 0 rfl) ?_
      refine m_ki (m_runV (k := 57) (i := sn) (ci := 4) ⟨hx, hb, hml, hown, hz⟩ hK hH hS hB_sn rfl rfl (c_X4_planNow l G B σ hC sn hB_sn hcs.1) mw_X4_planNow wl_X6_180 ⟨rfl, rfl⟩ ⟨by decide, by decide⟩ rfl hl.1 rfl (Nat.le_of_ble_eq_true rfl) dX6_lot_24 ⟨Nat.zero_le _, Nat.zero_le _⟩) hS (fun r_24 σ_24 H locs hp hH hS => ?_)
      obtain ⟨hr1, hs1⟩ := hp
      rw [hs1] at hH
      rw [hpl] at hr1
      subst hr1
      refine lv_iload_n hx hb dX6_lot_27 rfl (lv_at hl 3 rfl) ?_
      refine m_kq (m_runV (k := 40) (i := 0) (ci := 6) ⟨hx, hb, hml, hown, hz⟩ hK hH hS (bc hC 40) rfl rfl (c_X6_planForLot l G B σ hI (nI (pO σ sn (rl σ sn))) z) mw_X6_planForLot wl_X6_84 ⟨rfl, rfl⟩ ⟨by decide, by decide⟩ rfl hl.1 rfl (Nat.le_of_ble_eq_true rfl) dX6_lot_28 ⟨Nat.zero_le _, Nat.zero_le _⟩) hS (fun r_28 σ_28 H locs hp hH hS => ?_)
      obtain ⟨hr1, hs1⟩ := hp
      rw [hs1] at hH
      by_cases b_28 : fitb σ (nI (pO σ sn (rl σ sn))) z = true
      · rw [if_pos b_28, nI_clamp (by omega)] at hr1
        subst hr1
        refine lv_astore (lv' := [(4, .ref (B.1 50 (pO σ sn (rl σ sn)))), (3, .ref (B.1 57 sn)), (0, .ref (B.1 40 0)), (1, .int (nI sn)), (2, .int (z))]) hx hb dX6_lot_31 hl (by decide) rfl (fun ls hl => ?_)
        refine lv_aload hx hb dX6_lot_33 (lv_at hl 0 rfl) ?_
        refine lv_ifnonnull (tgt := 41) hx hb dX6_lot_35 (by decide) ?_
        refine lv_aload_n hx hb dX6_lot_41 rfl (lv_at hl 2 rfl) ?_
        refine gf_X6_47 hx hb hown hK hH (bc hC 40) dX6_lot_42 ?_
        refine lv_aload_n hx hb dX6_lot_45 rfl (lv_at hl 2 rfl) ?_
        refine gf_X6_177 hx hb hown hK hH (bc hC 40) dX6_lot_46 ?_
        refine m_toi (nL σ) (hI.D.2.2.2.2.1) ?_
        obtain ⟨q, hq⟩ : ∃ q, Array.size H = q := ⟨_, rfl⟩
        have hGq : G.2.2 ≤ q := by have := hS.1; omega
        have hlt : ∀ k i, i < B.2 k → B.1 k i < q := fun k i hi => by rw [← hq]; exact hH.lt hi
        refine n_new hx hb hown hK hq hS 0 [.int 0, .int 0, .null, .int 0, .int 0, .null, .null, .int 0, .int 0, .int 0] rfl tyX0 tyX0_ok wk_X6_45 wn_X0 (by decide) (by decide) (by decide) dX6_lot_49 (fun H1 h1 h2 h3 hS => ?_)
        refine lv_dup hx hb dX6_lot_52 rfl ?_
        refine lv_iload_n hx hb dX6_lot_53 rfl (lv_at hl 3 rfl) ?_
        refine lv_iload_n hx hb dX6_lot_54 rfl (lv_at hl 4 rfl) ?_
        refine lv_aload hx hb dX6_lot_55 (lv_at hl 0 rfl) ?_
        refine lv_aload_n hx hb dX6_lot_57 rfl (lv_at hl 1 rfl) ?_
        have hH1 : Hp G B σ H1 := hH.keep (fun k i hi => h2 _ (hlt k i hi))
        refine m_callH (k := 57) (i := sn) (ci := 4) ⟨hx, hb, hml, hown, hz⟩ hK hH1 hS hB_sn rfl rfl (c_X4_planNowH l G B σ H1 hC sn hB_sn hcs.1) mw_X4_planNow wl_X6_180 ⟨rfl, rfl⟩ ⟨by decide, by decide⟩ rfl hl.1 rfl (Nat.le_of_ble_eq_true rfl) dX6_lot_58 ⟨by decide, by decide⟩ (fun r locs hp hS => ?_)
        rw [hpl] at hp
        subst hp
        refine lv_aload_n hx hb dX6_lot_61 rfl (lv_at hl 1 rfl) ?_
        refine gf_X6_183 hx hb hown hK hH1 hB_sn dX6_lot_62 ?_
        refine m_toi (rl σ sn) (hSR.2.1.trans hS1.1) ?_
        refine n_call (q := q) (As := [.int (nI sn), .int z, .ref (B.1 50 (pO σ sn (rl σ sn))), .int (nI (pO σ sn (rl σ sn))), .int (nI (rl σ sn))]) ⟨hx, hb, hml, hown, hz⟩ hK hAO hS h1 hGq h3 (c_X0_init l (G.1, G.2.1, q) (aL B q) (nI sn) z (nI (pO σ sn (rl σ sn))) (nI (rl σ sn)) (B.1 50 (pO σ sn (rl σ sn))) (by show B.1 50 _ = _; rw [nI_clamp (by omega)]) rfl rfl rfl) mw_X0_init rfl wl_X6_186 ⟨rfl, rfl⟩ ⟨by decide, by decide⟩ rfl hl.1 rfl (Nat.le_of_ble_eq_true rfl) dX6_lot_65 ⟨by decide, by decide⟩ (fun u H2 locs hu hW hz1 hz2 hk hS => ?_)
        subst hu
        have hHk : Hp G B σ H2 := hH.keep (fun k i hi => (hk _ (hlt k i hi)).trans (h2 _ (hlt k i hi)))
        have hv := (hW.1 60 0 (Nat.le_of_ble_eq_true rfl)).2
        refine n_aast (v := q) (ci := 0) hx hb hK hHk hS (k0 := 47) (gi := 5) (bc hC 47) (fun _ _ => rfl) rfl hv rfl (nL σ) (by omega) (by decide) dX6_lot_68 (fun H locs h45 hk3 hS => ?_)
        have hH := grow_L hC hI.D.2.2.2.2.2 hHk hlt hGq hW h45 hk3
        refine lv_aload_n hx hb dX6_lot_69 rfl (lv_at hl 2 rfl) ?_
        refine lv_dup hx hb dX6_lot_70 rfl ?_
        refine gf_X6_177 hx hb hown hK hH (bc hC 40) dX6_lot_71 ?_
        refine m_toi (nL σ) (hI.D.2.2.2.2.1) ?_
        refine lv_iconst (v := nI 1) hx hb dX6_lot_74 (by decide) ?_
        refine m_iaddN hx hb dX6_lot_75 ?_
        refine pf_X6_177 hx hb hown hK hH hS (bc hC 40) dX6_lot_76 (fun H locs hH hS => ?_)
        refine lv_aload_n hx hb dX6_lot_79 rfl (lv_at hl 2 rfl) ?_
        refine gf_X6_177 hx hb hown hK hH (bc hC 40) dX6_lot_80 ?_
        refine m_toi (nL σ + 1) (by rw [sI_at, if_pos ⟨rfl, rfl, rfl⟩]) ?_
        refine lv_iconst (v := nI 1) hx hb dX6_lot_83 (by decide) ?_
        refine m_isubN (by omega) hx hb dX6_lot_84 ?_
        exact o_iret hx hb hr hlk hH hS dX6_lot_85 (by rw [if_pos (show loOK σ (nI sn) z = true by unfold loOK; rw [fitb_nI hpo.2.1 h24, hpo.2.2] at b_28; have z8 := of_decide_eq_true b_28; rw [b_2, nI_clamp (by omega), decide_eq_true ⟨⟨z8.1, z8.2.1⟩, z8.2.2, by omega⟩]; rfl), nI_clamp (by omega)]; exact ⟨by rw [show nL σ + 1 - 1 = nL σ by omega], q, rfl⟩) (by decide) (by decide)
      · rw [if_neg b_28] at hr1
        subst hr1
        refine lv_astoreN (lv' := [(4, .null), (3, .ref (B.1 57 sn)), (0, .ref (B.1 40 0)), (1, .int (nI sn)), (2, .int (z))]) hx hb dX6_lot_31 hl (by decide) rfl (fun ls hl => ?_)
        refine lv_aloadN hx hb dX6_lot_33 (lv_at hl 0 rfl) ?_
        refine lv_ifnonnullN hx hb dX6_lot_35 ?_
        refine lv_bipush (v := (-2)) hx hb dX6_lot_38 (by decide) ?_
        exact o_iret hx hb hr hlk hH hS dX6_lot_40 (by rw [if_neg (fun z9 => by unfold loOK at z9; rw [Bool.and_eq_true] at z9; first | exact b_2 z9.1 | (have z8 := of_decide_eq_true z9.2; rw [nI_clamp (by omega)] at z8; first | omega | exact b_28 (by rw [fitb_nI hpo.2.1 h24, hpo.2.2]; exact decide_eq_true ⟨z8.1.1, z8.1.2, z8.2.1⟩)))]; exact ⟨rfl, rfl⟩) (by decide) (by decide)
    · refine lv_bipush (v := (-2)) hx hb dX6_lot_19 (by decide) ?_
      exact o_iret hx hb hr hlk hH hS dX6_lot_21 (by rw [if_neg (fun z9 => by unfold loOK at z9; rw [Bool.and_eq_true] at z9; first | exact b_2 z9.1 | (have z8 := of_decide_eq_true z9.2; rw [nI_clamp (by omega)] at z8; first | omega | exact b_28 (by rw [fitb_nI hpo.2.1 h24, hpo.2.2]; exact decide_eq_true ⟨z8.1.1, z8.1.2, z8.2.1⟩)))]; exact ⟨rfl, rfl⟩) (by decide) (by decide)
  · rw [if_neg b_2] at hr1
    subst hr1
    refine lv_astore_nN (lv' := [(3, .null), (0, .ref (B.1 40 0)), (1, .int (x)), (2, .int (z))]) hx hb dX6_lot_5 rfl hl (by decide) rfl (fun ls hl => ?_)
    refine lv_aload_nN hx hb dX6_lot_6 rfl (lv_at hl 0 rfl) ?_
    refine lv_ifnullN (tgt := 19) hx hb dX6_lot_7 (by decide) ?_
    refine lv_bipush (v := (-2)) hx hb dX6_lot_19 (by decide) ?_
    exact o_iret hx hb hr hlk hH hS dX6_lot_21 (by rw [if_neg (fun z9 => by unfold loOK at z9; rw [Bool.and_eq_true] at z9; first | exact b_2 z9.1 | (have z8 := of_decide_eq_true z9.2; rw [nI_clamp (by omega)] at z8; first | omega | exact b_28 (by rw [fitb_nI hpo.2.1 h24, hpo.2.2]; exact decide_eq_true ⟨z8.1.1, z8.1.2, z8.2.1⟩)))]; exact ⟨rfl, rfl⟩) (by decide) (by decide)
