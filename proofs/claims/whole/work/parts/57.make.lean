/-! plan, supplier, lot of the desk -/
set_option maxHeartbeats 4000000 in
set_option maxRecDepth 100000 in
theorem c_X6_plan (l : Launch) (G : gG) (B : gB) (σ : gS) (hC : BkC B) (hD : DK B σ) (h24 : nP σ ≤ 24) (h60 : ∀ i, i < B.2 60 → (σ.1 60 i 3).toNatClampNeg < nP σ) : Met l yX6_plan [.code yX6_plan cX6_plan 1 (some .int)] ({ frames := 2, cells := 10, slots := 271, locals := 40 } : Room) (oPc G B σ [.ref (B.1 40 0)]) (oQ G (fun r u => if nP σ = 24 then r = -2 ∧ u = (B, σ) else r = nI (nP σ) ∧ ∃ q, u = (gP B (nP σ) q, sI (sP σ (nP σ)) 40 0 3 (nI (nP σ + 1))))) 10 271 (mA G) := by
  refine o_start (by decide) (Nat.le_of_ble_eq_true rfl) ?_
  intro p e s m below meth c ⟨hx, hb, hr, hml, hown, hK, hlk, hz⟩ hAO hH hS ls hl
  have hl : lv_has ls 1 [(0, .ref (B.1 40 0))] := hl
  refine lv_aload_n hx hb dX6_plan_0 rfl (lv_at hl 0 rfl) ?_
  refine gf_X6_55 hx hb hown hK hH (bc hC 40) dX6_plan_1 ?_
  refine m_toi (nP σ) (hD.1) ?_
  refine lv_bipush (v := nI 24) hx hb dX6_plan_4 (by decide) ?_
  refine m_icmp_ltN (tgt := 12) (by omega) (by omega) hx hb dX6_plan_6 (by decide) (fun c_6 => ?_) (fun c_6 => ?_)
  · refine lv_aload_n hx hb dX6_plan_12 rfl (lv_at hl 0 rfl) ?_
    refine gf_X6_25 hx hb hown hK hH (bc hC 40) dX6_plan_13 ?_
    refine lv_aload_n hx hb dX6_plan_16 rfl (lv_at hl 0 rfl) ?_
    refine gf_X6_55 hx hb hown hK hH (bc hC 40) dX6_plan_17 ?_
    refine m_toi (nP σ) (hD.1) ?_
    obtain ⟨q, hq⟩ : ∃ q, Array.size s.heap = q := ⟨_, rfl⟩
    have hGq : G.2.2 ≤ q := by omega
    have hlt : ∀ k i, i < B.2 k → B.1 k i < q := fun k i hi => by rw [← hq]; exact hH.lt hi
    refine n_new hx hb hown hK hq hS 2 [.null, .null, .null, .null, .null, .int 0, .int 0] rfl tyX2 tyX2_ok wk_X6_23 wn_X2 (by decide) (by decide) (by decide) dX6_plan_20 (fun H1 h1 h2 h3 hS => ?_)
    refine lv_dup hx hb dX6_plan_23 rfl ?_
    refine n_callN (q := q) (As := []) ⟨hx, hb, hml, hown, hz⟩ hK hAO hS h1 hGq h3 (c_X2_init l (G.1, G.2.1, q) (aP q) rfl rfl rfl rfl rfl rfl (fun _ _ => rfl)) mw_X2_init rfl wl_X6_59 ⟨rfl, rfl⟩ ⟨by decide, by decide⟩ rfl hl.1 rfl (Nat.le_of_ble_eq_true rfl) dX6_plan_24 ⟨by decide, by decide⟩ (fun u H2 locs hu hW hz1 hz2 hk hS => ?_)
    subst hu
    have hHk : Hp G B σ H2 := hH.keep (fun k i hi => (hk _ (hlt k i hi)).trans (h2 _ (hlt k i hi)))
    have hv : va_at G.1 clsz (q, .inr (2, [.ref (q + 1), .ref (q + 2), .ref (q + 3), .ref (q + 4), .ref (q + 5), .int 0, .int 0])) H2 := (hW.1 50 0 (Nat.le_of_ble_eq_true rfl)).2
    refine n_aast hx hb hK hHk hS (k0 := 45) (gi := 3) (bc hC 45) (fun _ _ => rfl) rfl hv rfl (nP σ) (by omega) (by decide) dX6_plan_27 (fun H locs h45 hk3 hS => ?_)
    have hH := grow_plan hC hD.2.1 hHk hlt hGq hW h60 (by omega) h45 hk3
    refine lv_aload_n hx hb dX6_plan_28 rfl (lv_at hl 0 rfl) ?_
    refine lv_dup hx hb dX6_plan_29 rfl ?_
    refine gf_X6_55 hx hb hown hK hH (bc hC 40) dX6_plan_30 ?_
    refine m_toi (nP σ) (hD.1) ?_
    refine lv_iconst (v := nI 1) hx hb dX6_plan_33 (by decide) ?_
    refine m_iaddN hx hb dX6_plan_34 ?_
    refine pf_X6_55 hx hb hown hK hH hS (bc hC 40) dX6_plan_35 (fun H locs hH hS => ?_)
    refine lv_aload_n hx hb dX6_plan_38 rfl (lv_at hl 0 rfl) ?_
    refine gf_X6_55 hx hb hown hK hH (bc hC 40) dX6_plan_39 ?_
    refine m_toi (nP σ + 1) (by rw [sI_at, if_pos ⟨rfl, rfl, rfl⟩]) ?_
    refine lv_iconst (v := nI 1) hx hb dX6_plan_42 (by decide) ?_
    refine m_isubN (by omega) hx hb dX6_plan_43 ?_
    exact o_iret hx hb hr hlk hH hS dX6_plan_44 (by rw [if_neg (by omega)]; exact ⟨by rw [show nP σ + 1 - 1 = nP σ by omega], q, rfl⟩) (by decide) (by decide)
  · refine lv_bipush (v := (-2)) hx hb dX6_plan_9 (by decide) ?_
    exact o_iret hx hb hr hlk hH hS dX6_plan_11 (by rw [if_pos (by omega)]; exact ⟨rfl, rfl⟩) (by decide) (by decide)
