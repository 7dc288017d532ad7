def crOK (σ : gS) (x y n k : Int32) : Bool := fitb σ x n && fitb σ y n && decide (0 ≤ k.toInt)
set_option maxHeartbeats 4000000 in
set_option maxRecDepth 100000 in
theorem c_X7_crossing (l : Launch) (G : gG) (B : gB) (σ : gS) (hM : BkM B) (hP : WfP σ) (hW : WfCh σ) (x y n k : Int32) : Met l yX7_crossing [.code yX7_crossing cX7_crossing 7 (some .int)] ({ frames := 4, cells := 0, slots := 0, locals := 103 } : Room) (mPc G B σ [.ref (B.1 0 0), .int (x), .int (y), .int (n), .int (k)]) (mQi G B (fun v τ => if crOK σ x y n k = true then ∃ aq bq nq kq : Nat, aq < nP σ ∧ bq < nP σ ∧ clo σ aq = true ∧ clo σ bq = true ∧ 1 ≤ nq ∧ nq ≤ 60 ∧ tot σ aq (stN σ aq) ≤ nq ∧ tot σ bq (stN σ bq) ≤ nq ∧ x = nI aq ∧ y = nI bq ∧ n = nI nq ∧ k = nI kq ∧ v = crA σ aq bq nq kq ∧ Sm σ τ else v = -2 ∧ Sm σ τ)) 0 0 (mA G) := by
  refine m_start (by decide) (Nat.le_of_ble_eq_true rfl) ?_
  intro p e s m below meth c ⟨hx, hb, hr, hml, hown, hK, hlk, hz⟩ hH hS ls hl
  have hl : lv_has ls 7 [(0, .ref (B.1 0 0)), (1, .int (x)), (2, .int (y)), (3, .int (n)), (4, .int (k))] := hl
  refine lv_aload_n hx hb dX7_crossing_0 rfl (lv_at hl 0 rfl) ?_
  refine lv_iload_n hx hb dX7_crossing_1 rfl (lv_at hl 1 rfl) ?_
  refine lv_iload_n hx hb dX7_crossing_2 rfl (lv_at hl 3 rfl) ?_
  refine m_ki (m_runV (k := 0) (i := 0) (ci := 7) ⟨hx, hb, hml, hown, hz⟩ hK hH hS (bm hM 0) rfl rfl (c_X7_fits l G B σ hM hP x n) mw_X7_fits wl_X7_127 ⟨rfl, rfl⟩ ⟨by decide, by decide⟩ rfl hl.1 rfl (Nat.le_of_ble_eq_true rfl) dX7_crossing_3 ⟨Nat.zero_le _, Nat.zero_le _⟩) hS (fun r_3 σ_3 H locs hp hH hS => ?_)
  obtain ⟨hr1, hs1⟩ := hp
  subst hr1
  rw [hs1] at hH
  refine m_ifeqB (tgt := 23) hx hb dX7_crossing_6 (by decide) (fun c_6 => ?_) (fun c_6 => ?_)
  · have hno : crOK σ x y n k = false := by
      unfold crOK
      first
        | (rw [c_6]; rfl)
        | (rw [c_15, Bool.and_false]; rfl)
        | (rw [decide_eq_false (fun z => c_20 (by rw [i_le, i0]; exact z)), Bool.and_false])
    refine lv_bipush (v := (-2)) hx hb dX7_crossing_23 (by decide) ?_
    exact m_iret hx hb hr hlk hH hS dX7_crossing_25 (by rw [hno]; exact ⟨rfl, Sm.rf σ⟩)
  · refine lv_aload_n hx hb dX7_crossing_9 rfl (lv_at hl 0 rfl) ?_
    refine lv_iload_n hx hb dX7_crossing_10 rfl (lv_at hl 2 rfl) ?_
    refine lv_iload_n hx hb dX7_crossing_11 rfl (lv_at hl 3 rfl) ?_
    refine m_ki (m_runV (k := 0) (i := 0) (ci := 7) ⟨hx, hb, hml, hown, hz⟩ hK hH hS (bm hM 0) rfl rfl (c_X7_fits l G B σ hM hP y n) mw_X7_fits wl_X7_127 ⟨rfl, rfl⟩ ⟨by decide, by decide⟩ rfl hl.1 rfl (Nat.le_of_ble_eq_true rfl) dX7_crossing_12 ⟨Nat.zero_le _, Nat.zero_le _⟩) hS (fun r_12 σ_12 H locs hp hH hS => ?_)
    obtain ⟨hr1, hs1⟩ := hp
    subst hr1
    rw [hs1] at hH
    refine m_ifeqB (tgt := 23) hx hb dX7_crossing_15 (by decide) (fun c_15 => ?_) (fun c_15 => ?_)
    · have hno : crOK σ x y n k = false := by
        unfold crOK
        first
          | (rw [c_6]; rfl)
          | (rw [c_15, Bool.and_false]; rfl)
          | (rw [decide_eq_false (fun z => c_20 (by rw [i_le, i0]; exact z)), Bool.and_false])
      refine lv_bipush (v := (-2)) hx hb dX7_crossing_23 (by decide) ?_
      exact m_iret hx hb hr hlk hH hS dX7_crossing_25 (by rw [hno]; exact ⟨rfl, Sm.rf σ⟩)
    · refine lv_iload hx hb dX7_crossing_18 (lv_at hl 4 rfl) ?_
      refine lv_if_ge (tgt := 26) hx hb dX7_crossing_20 (by decide) (fun c_20 => ?_) (fun c_20 => ?_)
      · rw [i_le, i0] at c_20
        have hyes : crOK σ x y n k = true := by
          unfold crOK
          rw [c_6, c_15, decide_eq_true c_20]
          rfl
        obtain ⟨a, nn, hpn, he1, he2, hcl, hn1, hn60, htn⟩ := fitb_t hP.2.1 c_6
        subst he1 he2
        obtain ⟨b, hpb, he1, hcb, htb⟩ := fitb_p hP.2.1 (by omega) c_15
        subst he1
        have h24 := hP.2.1
        obtain ⟨k1, k2⟩ := i_nat c_20
        have k3 := i_rng k
        obtain ⟨kn, hkn⟩ : ∃ z : Nat, z = k.toInt.toNat := ⟨_, rfl⟩
        rw [← hkn] at k1 k2
        have hk31 : kn < 2147483648 := by omega
        clear c_20 hkn k2 k3
        subst k1
        refine lv_iconst (v := nI 0) hx hb dX7_crossing_26 (by decide) ?_
        refine lv_istore (lv' := [(5, .int (nI 0)), (0, .ref (B.1 0 0)), (1, .int (nI a)), (2, .int (nI b)), (3, .int (nI nn)), (4, .int (nI kn))]) hx hb dX7_crossing_27 hl (by decide) rfl (fun ls hl => ?_)
        refine lv_iconst (v := nI 0) hx hb dX7_crossing_29 (by decide) ?_
        refine lv_istore (lv' := [(6, .int (nI 0)), (5, .int (nI 0)), (0, .ref (B.1 0 0)), (1, .int (nI a)), (2, .int (nI b)), (3, .int (nI nn)), (4, .int (nI kn))]) hx hb dX7_crossing_30 hl (by decide) rfl (fun ls hl => ?_)
        have loop : ∀ (z : Nat) (q : Nat), q ≤ nn ∧ nn < q + z ∧ fnd (fun q => crH σ a b nn q && decide (cnt (crH σ a b nn) q = kn)) q = none → ∀ (τ : gS) (H : Heap) (locs : List Loc), Sm σ τ → Hp G B τ H → va_S (mA G) s.heap H locs → ∀ (ls : Array Slot), lv_has ls 7 [(0, .ref (B.1 0 0)), (1, .int (nI a)), (2, .int (nI b)), (3, .int (nI nn)), (4, .int (nI kn)), (5, .int (nI (cnt (crH σ a b nn) q))), (6, .int (nI q))] → W p l e ({ frames := 4, cells := 0, slots := 0, locals := 103 } : Room) s m ([.ref (B.1 0 0), .int ((nI a)), .int ((nI b)), .int ((nI nn)), .int ((nI kn))] : List Value).toArray below meth c H locs 0 0 (MQ below (mQi G B (fun v τ => if crOK σ (nI a) (nI b) (nI nn) (nI kn) = true then ∃ aq bq nq kq : Nat, aq < nP σ ∧ bq < nP σ ∧ clo σ aq = true ∧ clo σ bq = true ∧ 1 ≤ nq ∧ nq ≤ 60 ∧ tot σ aq (stN σ aq) ≤ nq ∧ tot σ bq (stN σ bq) ≤ nq ∧ (nI a) = nI aq ∧ (nI b) = nI bq ∧ (nI nn) = nI nq ∧ (nI kn) = nI kq ∧ v = crA σ aq bq nq kq ∧ Sm σ τ else v = -2 ∧ Sm σ τ)) ([.ref (B.1 0 0), .int ((nI a)), .int ((nI b)), .int ((nI nn)), .int ((nI kn))] : List Value).toArray s 0 0 (mA G)) (F0 m 32 ls []) := by
          intro z
          induction z with
          | zero => intro q hh; exfalso; omega
          | succ z ih =>
            intro q hh τ H locs hJ hH hS ls hl
            have hcq := cnt_le (crH σ a b nn) q
            refine lv_iload hx hb dX7_crossing_32 (lv_at hl 6 rfl) ?_
            refine lv_iload_n hx hb dX7_crossing_34 rfl (lv_at hl 3 rfl) ?_
            refine m_icmp_geN (tgt := 85) (by omega) (by omega) hx hb dX7_crossing_35 (by decide) (fun c_35 => ?_) (fun c_35 => ?_)
            · refine lv_iconst (v := (-1)) hx hb dX7_crossing_85 (by decide) ?_
              exact m_iret hx hb hr hlk hH hS dX7_crossing_86 (by rw [hyes]; exact ⟨a, b, nn, kn, hpn, hpb, hcl, hcb, hn1, hn60, htn, htb, rfl, rfl, rfl, rfl, (crA_none (by have h9 := hh.2.2; rwa [show q = nn by omega] at h9)).symm, hJ⟩)
            · refine lv_aload_n hx hb dX7_crossing_38 rfl (lv_at hl 0 rfl) ?_
              refine lv_iload_n hx hb dX7_crossing_39 rfl (lv_at hl 1 rfl) ?_
              refine lv_iload_n hx hb dX7_crossing_40 rfl (lv_at hl 2 rfl) ?_
              refine lv_iload_n hx hb dX7_crossing_41 rfl (lv_at hl 3 rfl) ?_
              refine lv_iload hx hb dX7_crossing_42 (lv_at hl 6 rfl) ?_
              refine m_ki (m_runV (k := 0) (i := 0) (ci := 7) ⟨hx, hb, hml, hown, hz⟩ hK hH hS (bm hM 0) rfl rfl (c_X7_compared l G B τ hM (hJ.wfCh hW) a b nn q (by omega) (by omega) (hJ.eqP.wf (hP.2.2 a hpn)) (hJ.eqP.wf (hP.2.2 b hpb)) hn60 (by rw [eqP_tot hJ.eqP]; exact htn) (by rw [eqP_tot hJ.eqP]; exact htb) (by omega)) mw_X7_compared wl_X7_148 ⟨rfl, rfl⟩ ⟨by decide, by decide⟩ rfl hl.1 rfl (Nat.le_of_ble_eq_true rfl) dX7_crossing_44 ⟨Nat.zero_le _, Nat.zero_le _⟩) hS (fun r_44 σ_44 H locs hp hH hS => ?_)
              obtain ⟨hr1, hs9⟩ := hp
              rw [ccN_eq hJ.eqP] at hr1
              have hsA := hJ.tr hs9
              subst hr1
              refine lv_aload_n hx hb dX7_crossing_47 rfl (lv_at hl 0 rfl) ?_
              refine lv_iload_n hx hb dX7_crossing_48 rfl (lv_at hl 1 rfl) ?_
              refine lv_iload_n hx hb dX7_crossing_49 rfl (lv_at hl 2 rfl) ?_
              refine lv_iload_n hx hb dX7_crossing_50 rfl (lv_at hl 3 rfl) ?_
              refine lv_iload hx hb dX7_crossing_51 (lv_at hl 6 rfl) ?_
              refine lv_iconst (v := nI 1) hx hb dX7_crossing_53 (by decide) ?_
              refine m_iaddN hx hb dX7_crossing_54 ?_
              refine m_ki (m_runV (k := 0) (i := 0) (ci := 7) ⟨hx, hb, hml, hown, hz⟩ hK hH hS (bm hM 0) rfl rfl (c_X7_compared l G B σ_44 hM (hsA.wfCh hW) a b nn (q + 1) (by omega) (by omega) (hsA.eqP.wf (hP.2.2 a hpn)) (hsA.eqP.wf (hP.2.2 b hpb)) hn60 (by rw [eqP_tot hsA.eqP]; exact htn) (by rw [eqP_tot hsA.eqP]; exact htb) (by omega)) mw_X7_compared wl_X7_148 ⟨rfl, rfl⟩ ⟨by decide, by decide⟩ rfl hl.1 rfl (Nat.le_of_ble_eq_true rfl) dX7_crossing_55 ⟨Nat.zero_le _, Nat.zero_le _⟩) hS (fun r_55 σ_55 H locs hp hH hS => ?_)
              obtain ⟨hr1, hs8⟩ := hp
              rw [ccN_eq hsA.eqP] at hr1
              have hsB := hsA.tr hs8
              subst hr1
              refine lv_imul hx hb dX7_crossing_58 ?_
              refine lv_iconst (v := (-1)) hx hb dX7_crossing_59 (by decide) ?_
              refine lv_icmp_eq (tgt := 66) hx hb dX7_crossing_60 (by decide) (fun c_60 => ?_) (fun c_60 => ?_)
              · refine lv_iload hx hb dX7_crossing_66 (lv_at hl 5 rfl) ?_
                refine lv_iload hx hb dX7_crossing_68 (lv_at hl 4 rfl) ?_
                refine m_icmp_neN (tgt := 76) (by omega) (by omega) hx hb dX7_crossing_70 (by decide) (fun c_70 => ?_) (fun c_70 => ?_)
                · refine lv_iinc (v := nI (cnt (crH σ a b nn) q + 1)) (lv' := [(5, .int (nI (cnt (crH σ a b nn) q + 1))), (0, .ref (B.1 0 0)), (1, .int (nI a)), (2, .int (nI b)), (3, .int (nI nn)), (4, .int (nI kn)), (6, .int (nI q))]) hx hb dX7_crossing_76 hl (k := 5) rfl (nI_1 _) (by decide) rfl (fun ls hl => ?_)
                  refine lv_iinc (v := nI (q + 1)) (lv' := [(6, .int (nI (q + 1))), (5, .int (nI (cnt (crH σ a b nn) q + 1))), (0, .ref (B.1 0 0)), (1, .int (nI a)), (2, .int (nI b)), (3, .int (nI nn)), (4, .int (nI kn))]) hx hb dX7_crossing_79 hl (k := 6) rfl (nI_1 _) (by decide) rfl (fun ls hl => ?_)
                  refine lv_goto (tgt := 32) hx hb dX7_crossing_82 (by decide) ?_
                  exact ih (q + 1) ⟨by omega, by omega, fnd_miss hh.2.2 (by show (crH σ a b nn q && _) = false; rw [decide_eq_false c_70, Bool.and_false])⟩ _ H locs hsB hH hS ls (by rw [show cnt (crH σ a b nn) (q + 1) = cnt (crH σ a b nn) q + 1 from (by show _ + (if crH σ a b nn q then 1 else 0) = _; rw [show crH σ a b nn q = true from decide_eq_true c_60]; rfl)]; exact lv_sub hl [2, 3, 4, 5, 6, 1, 0] rfl)
                · refine lv_iload hx hb dX7_crossing_73 (lv_at hl 6 rfl) ?_
                  exact m_iret hx hb hr hlk hH hS dX7_crossing_75 (by rw [hyes]; exact ⟨a, b, nn, kn, hpn, hpb, hcl, hcb, hn1, hn60, htn, htb, rfl, rfl, rfl, rfl, (crA_some hh.2.2 (by omega) (decide_eq_true c_60) c_70).symm, hsB⟩)
              · refine lv_goto (tgt := 79) hx hb dX7_crossing_63 (by decide) ?_
                refine lv_iinc (v := nI (q + 1)) (lv' := [(6, .int (nI (q + 1))), (0, .ref (B.1 0 0)), (1, .int (nI a)), (2, .int (nI b)), (3, .int (nI nn)), (4, .int (nI kn)), (5, .int (nI (cnt (crH σ a b nn) q)))]) hx hb dX7_crossing_79 hl (k := 6) rfl (nI_1 _) (by decide) rfl (fun ls hl => ?_)
                refine lv_goto (tgt := 32) hx hb dX7_crossing_82 (by decide) ?_
                exact ih (q + 1) ⟨by omega, by omega, fnd_miss hh.2.2 (by show (crH σ a b nn q && _) = false; rw [show crH σ a b nn q = false from decide_eq_false c_60]; rfl)⟩ _ H locs hsB hH hS ls (by rw [show cnt (crH σ a b nn) (q + 1) = cnt (crH σ a b nn) q from (by show _ + (if crH σ a b nn q then 1 else 0) = _; rw [show crH σ a b nn q = false from decide_eq_false c_60]; rfl)]; exact lv_sub hl [1, 2, 3, 4, 5, 6, 0] rfl)
        exact loop (nn + 1) 0 ⟨by omega, by omega, rfl⟩ σ _ _ (Sm.rf σ) hH hS ls (lv_sub hl [2, 3, 4, 5, 6, 1, 0] rfl)
      · have hno : crOK σ x y n k = false := by
          unfold crOK
          first
            | (rw [c_6]; rfl)
            | (rw [c_15, Bool.and_false]; rfl)
            | (rw [decide_eq_false (fun z => c_20 (by rw [i_le, i0]; exact z)), Bool.and_false])
        refine lv_bipush (v := (-2)) hx hb dX7_crossing_23 (by decide) ?_
        exact m_iret hx hb hr hlk hH hS dX7_crossing_25 (by rw [hno]; exact ⟨rfl, Sm.rf σ⟩)
