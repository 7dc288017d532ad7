set_option maxHeartbeats 4000000 in
set_option maxRecDepth 100000 in
theorem c_X7_run (l : Launch) (G : gG) (B : gB) (σ : gS) (hM : BkM B) (hW : WfS σ) (x k : Int32) : Met l yX7_run [.code yX7_run cX7_run 3 (some .int)] ({ frames := 2, cells := 0, slots := 0, locals := 43 } : Room) (mPc G B σ [.ref (B.1 0 0), .int (x), .int (k)]) (mQi G B (fun v σ' => v = (if isSu σ x = true ∧ 0 ≤ k.toInt then rv σ x.toNatClampNeg k.toNatClampNeg else -2) ∧ σ' = σ)) 0 0 (mA G) := by
  refine m_start (by decide) (Nat.le_of_ble_eq_true rfl) ?_
  intro p e s m below meth c ⟨hx, hb, hr, hml, hown, hK, hlk, hz⟩ hH hS ls hl
  have hl : lv_has ls 3 [(0, .ref (B.1 0 0)), (1, .int (x)), (2, .int (k))] := hl
  refine lv_aload_n hx hb dX7_run_0 rfl (lv_at hl 0 rfl) ?_
  refine lv_iload_n hx hb dX7_run_1 rfl (lv_at hl 1 rfl) ?_
  refine m_ki (m_runV (k := 0) (i := 0) (ci := 7) ⟨hx, hb, hml, hown, hz⟩ hK hH hS (bm hM 0) rfl rfl (c_X7_isSupplier l G B σ hM hW x) mw_X7_isSupplier wl_X7_174 ⟨rfl, rfl⟩ ⟨by decide, by decide⟩ rfl hl.1 rfl (Nat.le_of_ble_eq_true rfl) dX7_run_2 ⟨Nat.zero_le _, Nat.zero_le _⟩) hS (fun r_2 σ_2 H locs hp hH hS => ?_)
  obtain ⟨hr1, hs1⟩ := hp
  subst hr1
  rw [hs1] at hH
  refine m_ifeqB (tgt := 12) hx hb dX7_run_5 (by decide) (fun c_5 => ?_) (fun c_5 => ?_)
  · refine lv_bipush (v := (-2)) hx hb dX7_run_12 (by decide) ?_
    exact m_iret hx hb hr hlk hH hS dX7_run_14 (by first | exact ⟨(if_neg (fun h => by rw [c_5] at h; exact absurd h.1 (by decide))).symm, rfl⟩ | exact ⟨(if_neg (fun h => c_9 (by rw [i_le, i0]; exact h.2))).symm, rfl⟩)
  · refine lv_iload_n hx hb dX7_run_8 rfl (lv_at hl 2 rfl) ?_
    refine lv_if_ge (tgt := 15) hx hb dX7_run_9 (by decide) (fun c_9 => ?_) (fun c_9 => ?_)
    · rw [i_le, i0] at c_9
      obtain ⟨k1, k2⟩ := i_nat c_9
      have k3 := i_rng k
      obtain ⟨kn, hq⟩ : ∃ q : Nat, q = k.toInt.toNat := ⟨_, rfl⟩
      rw [← hq] at k1 k2
      have hkn : kn < 2147483648 := by omega
      clear c_9 hq k2 k3
      subst k1
      obtain ⟨sn, hsn, he⟩ := isSu_t c_5
      subst he
      have h8 := hW.2.1
      have hS1 := hW.2.2.1 sn hsn
      have hS5 := hS1.2.2.2.2
      have hif : isSu σ (nI sn) = true ∧ 0 ≤ (nI kn).toInt := ⟨c_5, by rw [nI_I (by omega)]; omega⟩
      refine lv_iload_n hx hb dX7_run_15 rfl (lv_at hl 2 rfl) ?_
      refine lv_aload_n hx hb dX7_run_16 rfl (lv_at hl 0 rfl) ?_
      refine gf_X7_52 hx hb hown hK hH (bm hM 0) dX7_run_17 ?_
      refine lv_iload_n hx hb dX7_run_20 rfl (lv_at hl 1 rfl) ?_
      refine m_iald hx hb hK hH (n := 8) (bm hM 17) (fun _ _ => rfl) (sn) (rfl) (by omega) (by decide) dX7_run_21 ?_
      refine m_toi (rn σ sn) (hS1.2.2.2.1) ?_
      refine m_icmp_geN (tgt := 48) (by omega) (by omega) hx hb dX7_run_22 (by decide) (fun c_22 => ?_) (fun c_22 => ?_)
      · refine lv_iconst (v := nI 0) hx hb dX7_run_48 (by decide) ?_
        exact m_iret hx hb hr hlk hH hS dX7_run_49 (⟨by rw [if_pos hif, nI_clamp (by omega), nI_clamp (by omega)]; unfold rv; exact (if_neg (by omega)).symm, rfl⟩)
      · refine lv_aload_n hx hb dX7_run_25 rfl (lv_at hl 0 rfl) ?_
        refine gf_X7_55 hx hb hown hK hH (bm hM 0) dX7_run_26 ?_
        refine lv_bipush (v := nI 60) hx hb dX7_run_29 (by decide) ?_
        refine lv_iload_n hx hb dX7_run_31 rfl (lv_at hl 1 rfl) ?_
        refine m_imulN hx hb dX7_run_32 ?_
        refine lv_aload_n hx hb dX7_run_33 rfl (lv_at hl 0 rfl) ?_
        refine gf_X7_52 hx hb hown hK hH (bm hM 0) dX7_run_34 ?_
        refine lv_iload_n hx hb dX7_run_37 rfl (lv_at hl 1 rfl) ?_
        refine m_iald hx hb hK hH (n := 8) (bm hM 17) (fun _ _ => rfl) (sn) (rfl) (by omega) (by decide) dX7_run_38 ?_
        refine m_toi (rn σ sn) (hS1.2.2.2.1) ?_
        refine m_iaddN hx hb dX7_run_39 ?_
        refine lv_iconst (v := nI 1) hx hb dX7_run_40 (by decide) ?_
        refine m_isubN (by omega) hx hb dX7_run_41 ?_
        refine lv_iload_n hx hb dX7_run_42 rfl (lv_at hl 2 rfl) ?_
        refine m_isubN (by omega) hx hb dX7_run_43 ?_
        refine m_iald hx hb hK hH (n := 480) (bm hM 18) (fun _ _ => rfl) (((60 * sn + (rn σ sn)) - 1) - kn) (rfl) (by omega) (by decide) dX7_run_44 ?_
        refine lv_goto (tgt := 49) hx hb dX7_run_45 (by decide) ?_
        exact m_iret hx hb hr hlk hH hS dX7_run_49 (⟨by rw [if_pos hif, nI_clamp (by omega), nI_clamp (by omega)]; unfold rv; exact (if_pos c_22).symm, rfl⟩)
    · refine lv_bipush (v := (-2)) hx hb dX7_run_12 (by decide) ?_
      exact m_iret hx hb hr hlk hH hS dX7_run_14 (by first | exact ⟨(if_neg (fun h => by rw [c_5] at h; exact absurd h.1 (by decide))).symm, rfl⟩ | exact ⟨(if_neg (fun h => c_9 (by rw [i_le, i0]; exact h.2))).symm, rfl⟩)
def suOK (σ : gS) (x y z : Int32) : Bool := isCl σ x && isCl σ y && isCl σ z && decide (nS σ ≠ 8)
def suUp (σ : gS) (x y z : Int32) : gS := sI (sI (sI (sI (sI σ 14 0 (3 * nS σ) x) 14 0 (3 * nS σ + 1) y) 14 0 (3 * nS σ + 2) z) 15 0 (nS σ) (nI 0)) 0 0 1 (nI (nS σ + 1))
set_option maxHeartbeats 4000000 in
set_option maxRecDepth 100000 in
theorem c_X7_supplier (l : Launch) (G : gG) (B : gB) (σ : gS) (hM : BkM B) (hP : WfP σ) (hW : WfS σ) (x y z : Int32) : Met l yX7_supplier [.code yX7_supplier cX7_supplier 4 (some .int)] ({ frames := 3, cells := 0, slots := 0, locals := 64 } : Room) (mPc G B σ [.ref (B.1 0 0), .int (x), .int (y), .int (z)]) (mQi G B (fun v σ' => if suOK σ x y z = true then v = nI (nS σ) ∧ σ' = suUp σ x y z else v = -2 ∧ σ' = σ)) 0 0 (mA G) := by
  refine m_start (by decide) (Nat.le_of_ble_eq_true rfl) ?_
  intro p e s m below meth c ⟨hx, hb, hr, hml, hown, hK, hlk, hz⟩ hH hS ls hl
  have hl : lv_has ls 4 [(0, .ref (B.1 0 0)), (1, .int (x)), (2, .int (y)), (3, .int (z))] := hl
  refine lv_aload_n hx hb dX7_supplier_0 rfl (lv_at hl 0 rfl) ?_
  refine lv_iload_n hx hb dX7_supplier_1 rfl (lv_at hl 1 rfl) ?_
  refine m_ki (m_runV (k := 0) (i := 0) (ci := 7) ⟨hx, hb, hml, hown, hz⟩ hK hH hS (bm hM 0) rfl rfl (c_X7_isClosed l G B σ hM hP x) mw_X7_isClosed wl_X7_107 ⟨rfl, rfl⟩ ⟨by decide, by decide⟩ rfl hl.1 rfl (Nat.le_of_ble_eq_true rfl) dX7_supplier_2 ⟨Nat.zero_le _, Nat.zero_le _⟩) hS (fun r_2 σ_2 H locs hp hH hS => ?_)
  obtain ⟨hr1, hs1⟩ := hp
  subst hr1
  rw [hs1] at hH
  refine m_ifeqB (tgt := 33) hx hb dX7_supplier_5 (by decide) (fun c_5 => ?_) (fun c_5 => ?_)
  · have hno : suOK σ x y z = false := by
      unfold suOK
      first
        | (rw [c_5]; rfl)
        | (rw [c_13, Bool.and_false]; rfl)
        | (rw [c_21, Bool.and_false]; rfl)
        | (rw [decide_eq_false (fun h => h c_30), Bool.and_false])
    refine lv_bipush (v := (-2)) hx hb dX7_supplier_33 (by decide) ?_
    exact m_iret hx hb hr hlk hH hS dX7_supplier_35 (by rw [hno]; exact ⟨rfl, rfl⟩)
  · refine lv_aload_n hx hb dX7_supplier_8 rfl (lv_at hl 0 rfl) ?_
    refine lv_iload_n hx hb dX7_supplier_9 rfl (lv_at hl 2 rfl) ?_
    refine m_ki (m_runV (k := 0) (i := 0) (ci := 7) ⟨hx, hb, hml, hown, hz⟩ hK hH hS (bm hM 0) rfl rfl (c_X7_isClosed l G B σ hM hP y) mw_X7_isClosed wl_X7_107 ⟨rfl, rfl⟩ ⟨by decide, by decide⟩ rfl hl.1 rfl (Nat.le_of_ble_eq_true rfl) dX7_supplier_10 ⟨Nat.zero_le _, Nat.zero_le _⟩) hS (fun r_10 σ_10 H locs hp hH hS => ?_)
    obtain ⟨hr1, hs1⟩ := hp
    subst hr1
    rw [hs1] at hH
    refine m_ifeqB (tgt := 33) hx hb dX7_supplier_13 (by decide) (fun c_13 => ?_) (fun c_13 => ?_)
    · have hno : suOK σ x y z = false := by
        unfold suOK
        first
          | (rw [c_5]; rfl)
          | (rw [c_13, Bool.and_false]; rfl)
          | (rw [c_21, Bool.and_false]; rfl)
          | (rw [decide_eq_false (fun h => h c_30), Bool.and_false])
      refine lv_bipush (v := (-2)) hx hb dX7_supplier_33 (by decide) ?_
      exact m_iret hx hb hr hlk hH hS dX7_supplier_35 (by rw [hno]; exact ⟨rfl, rfl⟩)
    · refine lv_aload_n hx hb dX7_supplier_16 rfl (lv_at hl 0 rfl) ?_
      refine lv_iload_n hx hb dX7_supplier_17 rfl (lv_at hl 3 rfl) ?_
      refine m_ki (m_runV (k := 0) (i := 0) (ci := 7) ⟨hx, hb, hml, hown, hz⟩ hK hH hS (bm hM 0) rfl rfl (c_X7_isClosed l G B σ hM hP z) mw_X7_isClosed wl_X7_107 ⟨rfl, rfl⟩ ⟨by decide, by decide⟩ rfl hl.1 rfl (Nat.le_of_ble_eq_true rfl) dX7_supplier_18 ⟨Nat.zero_le _, Nat.zero_le _⟩) hS (fun r_18 σ_18 H locs hp hH hS => ?_)
      obtain ⟨hr1, hs1⟩ := hp
      subst hr1
      rw [hs1] at hH
      refine m_ifeqB (tgt := 33) hx hb dX7_supplier_21 (by decide) (fun c_21 => ?_) (fun c_21 => ?_)
      · have hno : suOK σ x y z = false := by
          unfold suOK
          first
            | (rw [c_5]; rfl)
            | (rw [c_13, Bool.and_false]; rfl)
            | (rw [c_21, Bool.and_false]; rfl)
            | (rw [decide_eq_false (fun h => h c_30), Bool.and_false])
        refine lv_bipush (v := (-2)) hx hb dX7_supplier_33 (by decide) ?_
        exact m_iret hx hb hr hlk hH hS dX7_supplier_35 (by rw [hno]; exact ⟨rfl, rfl⟩)
      · refine lv_aload_n hx hb dX7_supplier_24 rfl (lv_at hl 0 rfl) ?_
        have h8 := hW.2.1
        refine gf_X7_168 hx hb hown hK hH (bm hM 0) dX7_supplier_25 ?_
        refine m_toi (nS σ) (hW.1) ?_
        refine lv_bipush (v := nI 8) hx hb dX7_supplier_28 (by decide) ?_
        refine m_icmp_neN (tgt := 36) (by omega) (by omega) hx hb dX7_supplier_30 (by decide) (fun c_30 => ?_) (fun c_30 => ?_)
        · have hyes : suOK σ x y z = true := by
            unfold suOK
            rw [c_5, c_13, c_21, decide_eq_true c_30]
            rfl
          refine lv_aload_n hx hb dX7_supplier_36 rfl (lv_at hl 0 rfl) ?_
          refine gf_X7_43 hx hb hown hK hH (bm hM 0) dX7_supplier_37 ?_
          refine lv_iconst (v := nI 3) hx hb dX7_supplier_40 (by decide) ?_
          refine lv_aload_n hx hb dX7_supplier_41 rfl (lv_at hl 0 rfl) ?_
          refine gf_X7_168 hx hb hown hK hH (bm hM 0) dX7_supplier_42 ?_
          refine m_toi (nS σ) (hW.1) ?_
          refine m_imulN hx hb dX7_supplier_45 ?_
          refine lv_iload_n hx hb dX7_supplier_46 rfl (lv_at hl 1 rfl) ?_
          refine m_iast hx hb hK hH hS (n := 24) (bm hM 14) (fun _ _ => rfl) (3 * (nS σ)) (rfl) (by omega) (by decide) dX7_supplier_47 (fun H locs hH hS => ?_)
          refine lv_aload_n hx hb dX7_supplier_48 rfl (lv_at hl 0 rfl) ?_
          refine gf_X7_43 hx hb hown hK hH (bm hM 0) dX7_supplier_49 ?_
          refine lv_iconst (v := nI 3) hx hb dX7_supplier_52 (by decide) ?_
          refine lv_aload_n hx hb dX7_supplier_53 rfl (lv_at hl 0 rfl) ?_
          refine gf_X7_168 hx hb hown hK hH (bm hM 0) dX7_supplier_54 ?_
          refine m_toi (nS σ) (by rw [sI_at, if_neg (by omega)]; exact hW.1) ?_
          refine m_imulN hx hb dX7_supplier_57 ?_
          refine lv_iconst (v := nI 1) hx hb dX7_supplier_58 (by decide) ?_
          refine m_iaddN hx hb dX7_supplier_59 ?_
          refine lv_iload_n hx hb dX7_supplier_60 rfl (lv_at hl 2 rfl) ?_
          refine m_iast hx hb hK hH hS (n := 24) (bm hM 14) (fun _ _ => rfl) (3 * (nS σ) + 1) (rfl) (by omega) (by decide) dX7_supplier_61 (fun H locs hH hS => ?_)
          refine lv_aload_n hx hb dX7_supplier_62 rfl (lv_at hl 0 rfl) ?_
          refine gf_X7_43 hx hb hown hK hH (bm hM 0) dX7_supplier_63 ?_
          refine lv_iconst (v := nI 3) hx hb dX7_supplier_66 (by decide) ?_
          refine lv_aload_n hx hb dX7_supplier_67 rfl (lv_at hl 0 rfl) ?_
          refine gf_X7_168 hx hb hown hK hH (bm hM 0) dX7_supplier_68 ?_
          refine m_toi (nS σ) (by rw [sI_at, if_neg (by omega), sI_at, if_neg (by omega)]; exact hW.1) ?_
          refine m_imulN hx hb dX7_supplier_71 ?_
          refine lv_iconst (v := nI 2) hx hb dX7_supplier_72 (by decide) ?_
          refine m_iaddN hx hb dX7_supplier_73 ?_
          refine lv_iload_n hx hb dX7_supplier_74 rfl (lv_at hl 3 rfl) ?_
          refine m_iast hx hb hK hH hS (n := 24) (bm hM 14) (fun _ _ => rfl) (3 * (nS σ) + 2) (rfl) (by omega) (by decide) dX7_supplier_75 (fun H locs hH hS => ?_)
          refine lv_aload_n hx hb dX7_supplier_76 rfl (lv_at hl 0 rfl) ?_
          refine gf_X7_46 hx hb hown hK hH (bm hM 0) dX7_supplier_77 ?_
          refine lv_aload_n hx hb dX7_supplier_80 rfl (lv_at hl 0 rfl) ?_
          refine gf_X7_168 hx hb hown hK hH (bm hM 0) dX7_supplier_81 ?_
          refine m_toi (nS σ) (by rw [sI_at, if_neg (by omega), sI_at, if_neg (by omega), sI_at, if_neg (by omega)]; exact hW.1) ?_
          refine lv_iconst (v := nI 0) hx hb dX7_supplier_84 (by decide) ?_
          refine m_iast hx hb hK hH hS (n := 8) (bm hM 15) (fun _ _ => rfl) (nS σ) (rfl) (by omega) (by decide) dX7_supplier_85 (fun H locs hH hS => ?_)
          refine lv_aload_n hx hb dX7_supplier_86 rfl (lv_at hl 0 rfl) ?_
          refine lv_dup hx hb dX7_supplier_87 rfl ?_
          refine gf_X7_168 hx hb hown hK hH (bm hM 0) dX7_supplier_88 ?_
          refine m_toi (nS σ) (by rw [sI_at, if_neg (by omega), sI_at, if_neg (by omega), sI_at, if_neg (by omega), sI_at, if_neg (by omega)]; exact hW.1) ?_
          refine lv_iconst (v := nI 1) hx hb dX7_supplier_91 (by decide) ?_
          refine m_iaddN hx hb dX7_supplier_92 ?_
          refine pf_X7_168 hx hb hown hK hH hS (bm hM 0) dX7_supplier_93 (fun H locs hH hS => ?_)
          refine lv_aload_n hx hb dX7_supplier_96 rfl (lv_at hl 0 rfl) ?_
          refine gf_X7_168 hx hb hown hK hH (bm hM 0) dX7_supplier_97 ?_
          refine m_toi (nS σ + 1) (by rw [sI_at, if_pos ⟨rfl, rfl, rfl⟩]) ?_
          refine lv_iconst (v := nI 1) hx hb dX7_supplier_100 (by decide) ?_
          refine m_isubN (by omega) hx hb dX7_supplier_101 ?_
          exact m_iret hx hb hr hlk hH hS dX7_supplier_102 (by rw [hyes]; exact ⟨by congr 1, rfl⟩)
        · have hno : suOK σ x y z = false := by
            unfold suOK
            first
              | (rw [c_5]; rfl)
              | (rw [c_13, Bool.and_false]; rfl)
              | (rw [c_21, Bool.and_false]; rfl)
              | (rw [decide_eq_false (fun h => h c_30), Bool.and_false])
          refine lv_bipush (v := (-2)) hx hb dX7_supplier_33 (by decide) ?_
          exact m_iret hx hb hr hlk hH hS dX7_supplier_35 (by rw [hno]; exact ⟨rfl, rfl⟩)
def loOK (σ : gS) (x z : Int32) : Bool := isSu σ x && decide ((1 ≤ z.toInt ∧ z.toInt ≤ 60) ∧ (tot σ (pO σ x.toNatClampNeg (rl σ x.toNatClampNeg)) (stN σ (pO σ x.toNatClampNeg (rl σ x.toNatClampNeg))) : Int) ≤ z.toInt ∧ nL σ ≠ 60)
theorem loOK_nI {σ : gS} {s : Nat} {z : Int32} (hs : s < nS σ) (h8 : nS σ ≤ 8) : loOK σ (nI s) z = decide ((1 ≤ z.toInt ∧ z.toInt ≤ 60) ∧ (tot σ (pO σ s (rl σ s)) (stN σ (pO σ s (rl σ s))) : Int) ≤ z.toInt ∧ nL σ ≠ 60) := by
  unfold loOK
  rw [isSu_nI hs h8, nI_clamp (by omega)]
  rfl
def loUp (σ : gS) (s : Nat) (z : Int32) : gS := sI (sI (sI (sI (sI (sI σ 19 0 (nL σ) (nI s)) 20 0 (nL σ) z) 22 0 (nL σ) (nI (rl σ s))) 21 0 (nL σ) (nI (pO σ s (rl σ s)))) 23 0 (nL σ) (nI 0)) 0 0 2 (nI (nL σ + 1))
set_option maxHeartbeats 4000000 in
set_option maxRecDepth 100000 in
theorem c_X7_lot (l : Launch) (G : gG) (B : gB) (σ : gS) (hM : BkM B) (hP : WfP σ) (hW : WfS σ) (hL : σ.1 0 0 2 = nI (nL σ) ∧ nL σ ≤ 60) (x z : Int32) : Met l yX7_lot [.code yX7_lot cX7_lot 3 (some .int)] ({ frames := 2, cells := 0, slots := 0, locals := 45 } : Room) (mPc G B σ [.ref (B.1 0 0), .int (x), .int (z)]) (mQi G B (fun v σ' => if loOK σ x z = true then ∃ sn : Nat, sn < nS σ ∧ x = nI sn ∧ v = nI (nL σ) ∧ σ' = loUp σ sn z else v = -2 ∧ σ' = σ)) 0 0 (mA G) := by
  refine m_start (by decide) (Nat.le_of_ble_eq_true rfl) ?_
  intro p e s m below meth c ⟨hx, hb, hr, hml, hown, hK, hlk, hz⟩ hH hS ls hl
  have hl : lv_has ls 3 [(0, .ref (B.1 0 0)), (1, .int (x)), (2, .int (z))] := hl
  refine lv_aload_n hx hb dX7_lot_0 rfl (lv_at hl 0 rfl) ?_
  refine lv_iload_n hx hb dX7_lot_1 rfl (lv_at hl 1 rfl) ?_
  refine m_ki (m_runV (k := 0) (i := 0) (ci := 7) ⟨hx, hb, hml, hown, hz⟩ hK hH hS (bm hM 0) rfl rfl (c_X7_isSupplier l G B σ hM hW x) mw_X7_isSupplier wl_X7_174 ⟨rfl, rfl⟩ ⟨by decide, by decide⟩ rfl hl.1 rfl (Nat.le_of_ble_eq_true rfl) dX7_lot_2 ⟨Nat.zero_le _, Nat.zero_le _⟩) hS (fun r_2 σ_2 H locs hp hH hS => ?_)
  obtain ⟨hr1, hs1⟩ := hp
  subst hr1
  rw [hs1] at hH
  refine m_ifeqB (tgt := 50) hx hb dX7_lot_5 (by decide) (fun c_5 => ?_) (fun c_5 => ?_)
  · have hno : loOK σ (x) z = false := by
      first
        | (unfold loOK; rw [c_5]; rfl)
        | (rw [loOK_nI hsn h8]; have h9 := inR_f c_15; rw [n1I, n60I] at h9; exact decide_eq_false (fun hh => h9 hh.1))
        | (rw [loOK_nI hsn h8]; rw [i_lt, et] at c_38; exact decide_eq_false (fun hh => by omega))
        | (rw [loOK_nI hsn h8]; exact decide_eq_false (fun hh => hh.2.2 c_47))
    refine lv_bipush (v := (-2)) hx hb dX7_lot_50 (by decide) ?_
    exact m_iret hx hb hr hlk hH hS dX7_lot_52 (by rw [hno]; exact ⟨rfl, rfl⟩)
  · obtain ⟨sn, hsn, he⟩ := isSu_t c_5
    subst he
    have h8 := hW.2.1
    have hS1 := hW.2.2.1 sn hsn
    have hr2 := hS1.2.1
    have hp3 := hS1.2.2.1 (rl σ sn) (by omega)
    have h24 := hP.2.1
    have hP1 := hP.2.2 _ hp3.2.1
    have ht := tot_le hP1 (Nat.le_refl _)
    have et := nI_I (n := tot σ (pO σ sn (rl σ sn)) (stN σ (pO σ sn (rl σ sn)))) (by omega)
    have hl60 := hL.2
    refine lv_iload_n hx hb dX7_lot_8 rfl (lv_at hl 2 rfl) ?_
    refine lv_iconst (v := nI 1) hx hb dX7_lot_9 (by decide) ?_
    refine lv_bipush (v := nI 60) hx hb dX7_lot_10 (by decide) ?_
    refine m_ki (m_runS ⟨hx, hb, hml, hown, hz⟩ hK hH hS (c_X7_in l G B σ z (nI 1) (nI 60)) mw_X7_in wl_X7_95 ⟨rfl, rfl⟩ ⟨by decide, by decide⟩ rfl hl.1 rfl (Nat.le_of_ble_eq_true rfl) dX7_lot_12 ⟨Nat.zero_le _, Nat.zero_le _⟩) hS (fun r_12 σ_12 H locs hp hH hS => ?_)
    obtain ⟨hr1, hs1⟩ := hp
    subst hr1
    rw [hs1] at hH
    refine m_ifeqB (tgt := 50) hx hb dX7_lot_15 (by decide) (fun c_15 => ?_) (fun c_15 => ?_)
    · have hno : loOK σ (nI sn) z = false := by
        first
          | (unfold loOK; rw [c_5]; rfl)
          | (rw [loOK_nI hsn h8]; have h9 := inR_f c_15; rw [n1I, n60I] at h9; exact decide_eq_false (fun hh => h9 hh.1))
          | (rw [loOK_nI hsn h8]; rw [i_lt, et] at c_38; exact decide_eq_false (fun hh => by omega))
          | (rw [loOK_nI hsn h8]; exact decide_eq_false (fun hh => hh.2.2 c_47))
      refine lv_bipush (v := (-2)) hx hb dX7_lot_50 (by decide) ?_
      exact m_iret hx hb hr hlk hH hS dX7_lot_52 (by rw [hno]; exact ⟨rfl, rfl⟩)
    · refine lv_iload_n hx hb dX7_lot_18 rfl (lv_at hl 2 rfl) ?_
      refine lv_aload_n hx hb dX7_lot_19 rfl (lv_at hl 0 rfl) ?_
      refine lv_aload_n hx hb dX7_lot_20 rfl (lv_at hl 0 rfl) ?_
      refine gf_X7_43 hx hb hown hK hH (bm hM 0) dX7_lot_21 ?_
      refine lv_iconst (v := nI 3) hx hb dX7_lot_24 (by decide) ?_
      refine lv_iload_n hx hb dX7_lot_25 rfl (lv_at hl 1 rfl) ?_
      refine m_imulN hx hb dX7_lot_26 ?_
      refine lv_aload_n hx hb dX7_lot_27 rfl (lv_at hl 0 rfl) ?_
      refine gf_X7_46 hx hb hown hK hH (bm hM 0) dX7_lot_28 ?_
      refine lv_iload_n hx hb dX7_lot_31 rfl (lv_at hl 1 rfl) ?_
      refine m_iald hx hb hK hH (n := 8) (bm hM 15) (fun _ _ => rfl) (sn) (rfl) (by omega) (by decide) dX7_lot_32 ?_
      refine m_toi (rl σ sn) (hS1.1) ?_
      refine m_iaddN hx hb dX7_lot_33 ?_
      refine m_iald hx hb hK hH (n := 24) (bm hM 14) (fun _ _ => rfl) (3 * sn + (rl σ sn)) (rfl) (by omega) (by decide) dX7_lot_34 ?_
      refine m_toi (pO σ sn (rl σ sn)) (hp3.1) ?_
      refine m_ki (m_runV (k := 0) (i := 0) (ci := 7) ⟨hx, hb, hml, hown, hz⟩ hK hH hS (bm hM 0) rfl rfl (c_X7_all l G B σ hM (pO σ sn (rl σ sn)) (by omega) hP1) mw_X7_all wl_X7_110 ⟨rfl, rfl⟩ ⟨by decide, by decide⟩ rfl hl.1 rfl (Nat.le_of_ble_eq_true rfl) dX7_lot_35 ⟨Nat.zero_le _, Nat.zero_le _⟩) hS (fun r_35 σ_35 H locs hp hH hS => ?_)
      obtain ⟨hr1, hs1⟩ := hp
      subst hr1
      rw [hs1] at hH
      refine lv_icmp_lt (tgt := 50) hx hb dX7_lot_38 (by decide) (fun c_38 => ?_) (fun c_38 => ?_)
      · have hno : loOK σ (nI sn) z = false := by
          first
            | (unfold loOK; rw [c_5]; rfl)
            | (rw [loOK_nI hsn h8]; have h9 := inR_f c_15; rw [n1I, n60I] at h9; exact decide_eq_false (fun hh => h9 hh.1))
            | (rw [loOK_nI hsn h8]; rw [i_lt, et] at c_38; exact decide_eq_false (fun hh => by omega))
            | (rw [loOK_nI hsn h8]; exact decide_eq_false (fun hh => hh.2.2 c_47))
        refine lv_bipush (v := (-2)) hx hb dX7_lot_50 (by decide) ?_
        exact m_iret hx hb hr hlk hH hS dX7_lot_52 (by rw [hno]; exact ⟨rfl, rfl⟩)
      · refine lv_aload_n hx hb dX7_lot_41 rfl (lv_at hl 0 rfl) ?_
        refine gf_X7_171 hx hb hown hK hH (bm hM 0) dX7_lot_42 ?_
        refine m_toi (nL σ) (hL.1) ?_
        refine lv_bipush (v := nI 60) hx hb dX7_lot_45 (by decide) ?_
        refine m_icmp_neN (tgt := 53) (by omega) (by omega) hx hb dX7_lot_47 (by decide) (fun c_47 => ?_) (fun c_47 => ?_)
        · have hyes : loOK σ (nI sn) z = true := by
            rw [loOK_nI hsn h8]
            have h9 := inR_t c_15; rw [n1I, n60I] at h9
            rw [i_lt, et] at c_38
            exact decide_eq_true ⟨h9, by omega, c_47⟩
          refine lv_aload_n hx hb dX7_lot_53 rfl (lv_at hl 0 rfl) ?_
          refine gf_X7_58 hx hb hown hK hH (bm hM 0) dX7_lot_54 ?_
          refine lv_aload_n hx hb dX7_lot_57 rfl (lv_at hl 0 rfl) ?_
          refine gf_X7_171 hx hb hown hK hH (bm hM 0) dX7_lot_58 ?_
          refine m_toi (nL σ) (hL.1) ?_
          refine lv_iload_n hx hb dX7_lot_61 rfl (lv_at hl 1 rfl) ?_
          refine m_iast hx hb hK hH hS (n := 60) (bm hM 19) (fun _ _ => rfl) (nL σ) (rfl) (by omega) (by decide) dX7_lot_62 (fun H locs hH hS => ?_)
          refine lv_aload_n hx hb dX7_lot_63 rfl (lv_at hl 0 rfl) ?_
          refine gf_X7_61 hx hb hown hK hH (bm hM 0) dX7_lot_64 ?_
          refine lv_aload_n hx hb dX7_lot_67 rfl (lv_at hl 0 rfl) ?_
          refine gf_X7_171 hx hb hown hK hH (bm hM 0) dX7_lot_68 ?_
          refine m_toi (nL σ) (by rw [sI_at, if_neg (by omega)]; exact hL.1) ?_
          refine lv_iload_n hx hb dX7_lot_71 rfl (lv_at hl 2 rfl) ?_
          refine m_iast hx hb hK hH hS (n := 60) (bm hM 20) (fun _ _ => rfl) (nL σ) (rfl) (by omega) (by decide) dX7_lot_72 (fun H locs hH hS => ?_)
          refine lv_aload_n hx hb dX7_lot_73 rfl (lv_at hl 0 rfl) ?_
          refine gf_X7_67 hx hb hown hK hH (bm hM 0) dX7_lot_74 ?_
          refine lv_aload_n hx hb dX7_lot_77 rfl (lv_at hl 0 rfl) ?_
          refine gf_X7_171 hx hb hown hK hH (bm hM 0) dX7_lot_78 ?_
          refine m_toi (nL σ) (by rw [sI_at, if_neg (by omega), sI_at, if_neg (by omega)]; exact hL.1) ?_
          refine lv_aload_n hx hb dX7_lot_81 rfl (lv_at hl 0 rfl) ?_
          refine gf_X7_46 hx hb hown hK hH (bm hM 0) dX7_lot_82 ?_
          refine lv_iload_n hx hb dX7_lot_85 rfl (lv_at hl 1 rfl) ?_
          refine m_iald hx hb hK hH (n := 8) (bm hM 15) (fun _ _ => rfl) (sn) (rfl) (by omega) (by decide) dX7_lot_86 ?_
          refine m_toi (rl σ sn) (by rw [sI_at, if_neg (by omega), sI_at, if_neg (by omega)]; exact hS1.1) ?_
          refine m_iast hx hb hK hH hS (n := 60) (bm hM 22) (fun _ _ => rfl) (nL σ) (rfl) (by omega) (by decide) dX7_lot_87 (fun H locs hH hS => ?_)
          refine lv_aload_n hx hb dX7_lot_88 rfl (lv_at hl 0 rfl) ?_
          refine gf_X7_64 hx hb hown hK hH (bm hM 0) dX7_lot_89 ?_
          refine lv_aload_n hx hb dX7_lot_92 rfl (lv_at hl 0 rfl) ?_
          refine gf_X7_171 hx hb hown hK hH (bm hM 0) dX7_lot_93 ?_
          refine m_toi (nL σ) (by rw [sI_at, if_neg (by omega), sI_at, if_neg (by omega), sI_at, if_neg (by omega)]; exact hL.1) ?_
          refine lv_aload_n hx hb dX7_lot_96 rfl (lv_at hl 0 rfl) ?_
          refine gf_X7_43 hx hb hown hK hH (bm hM 0) dX7_lot_97 ?_
          refine lv_iconst (v := nI 3) hx hb dX7_lot_100 (by decide) ?_
          refine lv_iload_n hx hb dX7_lot_101 rfl (lv_at hl 1 rfl) ?_
          refine m_imulN hx hb dX7_lot_102 ?_
          refine lv_aload_n hx hb dX7_lot_103 rfl (lv_at hl 0 rfl) ?_
          refine gf_X7_46 hx hb hown hK hH (bm hM 0) dX7_lot_104 ?_
          refine lv_iload_n hx hb dX7_lot_107 rfl (lv_at hl 1 rfl) ?_
          refine m_iald hx hb hK hH (n := 8) (bm hM 15) (fun _ _ => rfl) (sn) (rfl) (by omega) (by decide) dX7_lot_108 ?_
          refine m_toi (rl σ sn) (by rw [sI_at, if_neg (by omega), sI_at, if_neg (by omega), sI_at, if_neg (by omega)]; exact hS1.1) ?_
          refine m_iaddN hx hb dX7_lot_109 ?_
          refine m_iald hx hb hK hH (n := 24) (bm hM 14) (fun _ _ => rfl) (3 * sn + (rl σ sn)) (rfl) (by omega) (by decide) dX7_lot_110 ?_
          refine m_toi (pO σ sn (rl σ sn)) (by rw [sI_at, if_neg (by omega), sI_at, if_neg (by omega), sI_at, if_neg (by omega)]; exact hp3.1) ?_
          refine m_iast hx hb hK hH hS (n := 60) (bm hM 21) (fun _ _ => rfl) (nL σ) (rfl) (by omega) (by decide) dX7_lot_111 (fun H locs hH hS => ?_)
          refine lv_aload_n hx hb dX7_lot_112 rfl (lv_at hl 0 rfl) ?_
          refine gf_X7_70 hx hb hown hK hH (bm hM 0) dX7_lot_113 ?_
          refine lv_aload_n hx hb dX7_lot_116 rfl (lv_at hl 0 rfl) ?_
          refine gf_X7_171 hx hb hown hK hH (bm hM 0) dX7_lot_117 ?_
          refine m_toi (nL σ) (by rw [sI_at, if_neg (by omega), sI_at, if_neg (by omega), sI_at, if_neg (by omega), sI_at, if_neg (by omega)]; exact hL.1) ?_
          refine lv_iconst (v := nI 0) hx hb dX7_lot_120 (by decide) ?_
          refine m_iast hx hb hK hH hS (n := 60) (bm hM 23) (fun _ _ => rfl) (nL σ) (rfl) (by omega) (by decide) dX7_lot_121 (fun H locs hH hS => ?_)
          refine lv_aload_n hx hb dX7_lot_122 rfl (lv_at hl 0 rfl) ?_
          refine lv_dup hx hb dX7_lot_123 rfl ?_
          refine gf_X7_171 hx hb hown hK hH (bm hM 0) dX7_lot_124 ?_
          refine m_toi (nL σ) (by rw [sI_at, if_neg (by omega), sI_at, if_neg (by omega), sI_at, if_neg (by omega), sI_at, if_neg (by omega), sI_at, if_neg (by omega)]; exact hL.1) ?_
          refine lv_iconst (v := nI 1) hx hb dX7_lot_127 (by decide) ?_
          refine m_iaddN hx hb dX7_lot_128 ?_
          refine pf_X7_171 hx hb hown hK hH hS (bm hM 0) dX7_lot_129 (fun H locs hH hS => ?_)
          refine lv_aload_n hx hb dX7_lot_132 rfl (lv_at hl 0 rfl) ?_
          refine gf_X7_171 hx hb hown hK hH (bm hM 0) dX7_lot_133 ?_
          refine m_toi (nL σ + 1) (by rw [sI_at, if_pos ⟨rfl, rfl, rfl⟩]) ?_
          refine lv_iconst (v := nI 1) hx hb dX7_lot_136 (by decide) ?_
          refine m_isubN (by omega) hx hb dX7_lot_137 ?_
          exact m_iret hx hb hr hlk hH hS dX7_lot_138 (by rw [hyes]; exact ⟨sn, hsn, rfl, by congr 1, rfl⟩)
        · have hno : loOK σ (nI sn) z = false := by
            first
              | (unfold loOK; rw [c_5]; rfl)
              | (rw [loOK_nI hsn h8]; have h9 := inR_f c_15; rw [n1I, n60I] at h9; exact decide_eq_false (fun hh => h9 hh.1))
              | (rw [loOK_nI hsn h8]; rw [i_lt, et] at c_38; exact decide_eq_false (fun hh => by omega))
              | (rw [loOK_nI hsn h8]; exact decide_eq_false (fun hh => hh.2.2 c_47))
          refine lv_bipush (v := (-2)) hx hb dX7_lot_50 (by decide) ?_
          exact m_iret hx hb hr hlk hH hS dX7_lot_52 (by rw [hno]; exact ⟨rfl, rfl⟩)
set_option maxHeartbeats 4000000 in
set_option maxRecDepth 100000 in
theorem c_X7_isOpen (l : Launch) (G : gG) (B : gB) (σ : gS) (hM : BkM B) (hP : WfP σ) (hL : WfL σ) (x : Int32) : Met l yX7_isOpen [.code yX7_isOpen cX7_isOpen 2 (some .boolean)] ({ frames := 2, cells := 0, slots := 0, locals := 49 } : Room) (mPc G B σ [.ref (B.1 0 0), .int (x)]) (mQi G B (fun v τ => v = bI (opn σ x) ∧ Sm σ τ)) 0 0 (mA G) := by
  refine m_start (by decide) (Nat.le_of_ble_eq_true rfl) ?_
  intro p e s m below meth c ⟨hx, hb, hr, hml, hown, hK, hlk, hz⟩ hH hS ls hl
  have hl : lv_has ls 2 [(0, .ref (B.1 0 0)), (1, .int (x))] := hl
  refine lv_aload_n hx hb dX7_isOpen_0 rfl (lv_at hl 0 rfl) ?_
  refine lv_iload_n hx hb dX7_isOpen_1 rfl (lv_at hl 1 rfl) ?_
  refine m_ki (m_runV (k := 0) (i := 0) (ci := 7) ⟨hx, hb, hml, hown, hz⟩ hK hH hS (bm hM 0) rfl rfl (c_X7_isLot l G B σ hM ⟨hL.1, hL.2.1⟩ x) mw_X7_isLot wl_X7_189 ⟨rfl, rfl⟩ ⟨by decide, by decide⟩ rfl hl.1 rfl (Nat.le_of_ble_eq_true rfl) dX7_isOpen_2 ⟨Nat.zero_le _, Nat.zero_le _⟩) hS (fun r_2 σ_2 H locs hp hH hS => ?_)
  obtain ⟨hr1, hs1⟩ := hp
  subst hr1
  rw [hs1] at hH
  refine m_ifneB (tgt := 10) hx hb dX7_isOpen_5 (by decide) (fun c_5 => ?_) (fun c_5 => ?_)
  · obtain ⟨qn, hqn, he⟩ := isLo_t c_5
    subst he
    have hl60 := hL.2.1
    have hL1 := hL.2.2 qn hqn
    refine lv_aload_n hx hb dX7_isOpen_10 rfl (lv_at hl 0 rfl) ?_
    refine lv_iload_n hx hb dX7_isOpen_11 rfl (lv_at hl 1 rfl) ?_
    refine m_kv (m_runV (k := 0) (i := 0) (ci := 7) ⟨hx, hb, hml, hown, hz⟩ hK hH hS (bm hM 0) rfl rfl (c_X7_judge l G B σ hM qn (lPl σ qn) (lSn σ qn) (hL1.jh hP (by omega))) mw_X7_judge wl_X7_192 ⟨rfl, rfl⟩ ⟨by decide, by decide⟩ rfl hl.1 rfl (Nat.le_of_ble_eq_true rfl) dX7_isOpen_12 ⟨Nat.zero_le _, Nat.zero_le _⟩) hS (fun σ_12 H locs hp hH hS => ?_)
    have hp : JP σ σ_12 (jq σ qn) := hp
    have hb1 : (jq σ qn).1 ≤ 2 := jd_now σ qn (lPl σ qn) (lSn σ qn)
    refine lv_aload_n hx hb dX7_isOpen_15 rfl (lv_at hl 0 rfl) ?_
    refine gf_X7_177 hx hb hown hK hH (bm hM 0) dX7_isOpen_16 ?_
    refine m_toi ((jq σ qn).1) (hp.2.2.1) ?_
    refine m_ifneN (tgt := 26) (by omega) hx hb dX7_isOpen_19 (by decide) (fun c_19 => ?_) (fun c_19 => ?_)
    · refine lv_iconst (v := nI 0) hx hb dX7_isOpen_26 (by decide) ?_
      exact m_zret hx hb hr hlk hH hS dX7_isOpen_27 (by first | exact Or.inl rfl | exact Or.inr rfl | exact bI_01 _) (⟨bI_f (by rw [opn_nI hqn hl60]; exact decide_eq_false (by omega)), hp.sm⟩)
    · refine lv_iconst (v := nI 1) hx hb dX7_isOpen_22 (by decide) ?_
      refine lv_goto (tgt := 27) hx hb dX7_isOpen_23 (by decide) ?_
      exact m_zret hx hb hr hlk hH hS dX7_isOpen_27 (by first | exact Or.inl rfl | exact Or.inr rfl | exact bI_01 _) (⟨bI_t (by rw [opn_nI hqn hl60]; exact decide_eq_true c_19), hp.sm⟩)
  · refine lv_iconst (v := nI 0) hx hb dX7_isOpen_8 (by decide) ?_
    exact m_zret hx hb hr hlk hH hS dX7_isOpen_9 (by first | exact Or.inl rfl | exact Or.inr rfl | exact bI_01 _) (⟨bI_f (by unfold opn; rw [c_5]; rfl), Sm.rf σ⟩)
