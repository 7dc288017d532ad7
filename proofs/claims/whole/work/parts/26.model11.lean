def GZ (σ τ : gS) (i : Nat) : Prop := G0 σ τ ∧ (∀ s, s < i → τ.2 26 0 s = lN 0) ∧ τ.2 0 0 28 = lN 0 ∧ τ.2 0 0 29 = lN 0 ∧ τ.2 0 0 30 = lN 0
theorem GZ_0 (σ : gS) : GZ σ (sJ (sJ (sJ σ 0 0 28 (lN 0)) 0 0 29 (lN 0)) 0 0 30 (lN 0)) 0 := ⟨(((G0.rf σ).put rfl).put rfl).put rfl, fun s hs => absurd hs (by omega), by simp [sJ_at], by simp [sJ_at], by simp [sJ_at]⟩
theorem GZ_put {σ τ : gS} {i : Nat} (h : GZ σ τ i) : GZ σ (sJ τ 26 0 i (lN 0)) (i + 1) := by
  refine ⟨h.1.put rfl, fun s hs => ?_, ?_, ?_, ?_⟩
  · rw [sJ_at]
    by_cases e : s = i
    · rw [if_pos ⟨rfl, rfl, e⟩]
    · rw [if_neg (fun z => e z.2.2)]; exact h.2.1 s (by omega)
  · rw [sJ_at, if_neg (by omega)]; exact h.2.2.1
  · rw [sJ_at, if_neg (by omega)]; exact h.2.2.2.1
  · rw [sJ_at, if_neg (by omega)]; exact h.2.2.2.2
theorem GZ_A {σ τ : gS} (p n d : Nat) (h : GZ σ τ 62) : GA σ (sJ τ 26 0 0 (lN 1)) (gs σ p n d 0).2.1 0 0 0 0 := by
  refine ⟨h.1.put rfl, fun s hs => ?_, ?_, ?_, ?_, fun s hs => absurd hs (by omega)⟩
  · show _ = lN (if s = 0 then 1 else 0)
    rw [sJ_at]
    by_cases e : s = 0
    · rw [if_pos ⟨rfl, rfl, e⟩, if_pos e]
    · rw [if_neg (fun z => e z.2.2), if_neg e]; exact h.2.1 s (by omega)
  · rw [sJ_at, if_neg (by omega)]; exact h.2.2.1
  · rw [sJ_at, if_neg (by omega)]; exact h.2.2.2.1
  · rw [sJ_at, if_neg (by omega)]; exact h.2.2.2.2
/-- what go() leaves -/
def goP (σ τ : gS) (p n d : Nat) : Prop := Sm σ τ ∧ τ.2 0 0 28 = lN (gs σ p n d (tot σ p (stN σ p))).2.2.1 ∧ τ.2 0 0 29 = lN (gs σ p n d (tot σ p (stN σ p))).2.2.2.1 ∧ τ.2 0 0 30 = lN (gs σ p n d (tot σ p (stN σ p))).2.2.2.2
theorem go_end {σ τ : gS} {p n d m : Nat} (h : GA σ τ (gs σ p n d m).2.1 (gs σ p n d m).2.2.1 (gs σ p n d m).2.2.2.1 (gs σ p n d m).2.2.2.2 0) (e : m = tot σ p (stN σ p)) : goP σ τ p n d := by
  subst e
  exact ⟨h.1.sm, h.2.2.1, h.2.2.2.1, h.2.2.2.2.1⟩
set_option maxHeartbeats 4000000 in
set_option maxRecDepth 100000 in
theorem c_X7_go (l : Launch) (G : gG) (B : gB) (σ : gS) (hM : BkM B) (hW : WfCh σ) (pn nn dn : Nat) (hp24 : pn < 24) (hP1 : WfP1 σ pn) (hn60 : nn ≤ 60) (htn : tot σ pn (stN σ pn) ≤ nn) (hdn : dn ≤ 60) : Met l yX7_go [.code yX7_go cX7_go 13 none] ({ frames := 2, cells := 0, slots := 0, locals := 45 } : Room) (mPc G B σ [.ref (B.1 0 0), .int (nI pn), .int (nI nn), .int (nI dn)]) (mQv G B (fun τ => goP σ τ pn nn dn)) 0 0 (mA G) := by
  refine m_start (by decide) (Nat.le_of_ble_eq_true rfl) ?_
  intro p e s m below meth c ⟨hx, hb, hr, hml, hown, hK, hlk, hz⟩ hH hS ls hl
  have hl : lv_has ls 13 [(0, .ref (B.1 0 0)), (1, .int (nI pn)), (2, .int (nI nn)), (3, .int (nI dn))] := hl
  have htl := tot_le hP1 (Nat.le_refl _)
  have loop0 : ∀ (n : Nat) (i : Nat), i ≤ 62 ∧ 62 < i + n → ∀ (τ : gS) (H : Heap) (locs : List Loc), GZ σ τ i → Hp G B τ H → va_S (mA G) s.heap H locs → ∀ (ls : Array Slot), lv_has ls 13 [(0, .ref (B.1 0 0)), (1, .int (nI pn)), (2, .int (nI nn)), (3, .int (nI dn)), (4, .int (nI i))] → W p l e ({ frames := 2, cells := 0, slots := 0, locals := 45 } : Room) s m ([.ref (B.1 0 0), .int (nI pn), .int (nI nn), .int (nI dn)] : List Value).toArray below meth c H locs 0 0 (MQ below (mQv G B (fun τ => goP σ τ pn nn dn)) ([.ref (B.1 0 0), .int (nI pn), .int (nI nn), .int (nI dn)] : List Value).toArray s 0 0 (mA G)) (F0 m 18 ls []) := by
    intro n
    induction n with
    | zero => intro i hi; exfalso; omega
    | succ n ih =>
      intro i hi τ H locs hJ hH hS ls hl
      refine lv_iload hx hb dX7_go_18 (lv_at hl 4 rfl) ?_
      refine lv_bipush (v := nI 62) hx hb dX7_go_20 (by decide) ?_
      refine m_icmp_geN (tgt := 39) (by omega) (by omega) hx hb dX7_go_22 (by decide) (fun c_22 => ?_) (fun c_22 => ?_)
      · have hi : i = 62 := by omega
        subst hi
        refine lv_aload_n hx hb dX7_go_39 rfl (lv_at hl 0 rfl) ?_
        refine gf_X7_79 hx hb hown hK hH (bm hM 0) dX7_go_40 ?_
        refine lv_iconst (v := nI 0) hx hb dX7_go_43 (by decide) ?_
        refine lv_lconst (v := lN 1) hx hb dX7_go_44 rfl ?_
        refine m_last hx hb hK hH hS (n := 62) (bm hM 26) (fun _ _ => rfl) (0) (rfl) (by omega) (by decide) dX7_go_45 (fun H locs hH hS => ?_)
        have hGA := GZ_A pn nn dn hJ
        have hE := hGA.1.eqP
        refine lv_iconst (v := nI 0) hx hb dX7_go_46 (by decide) ?_
        refine lv_istore (lv' := [(4, .int (nI 0)), (0, .ref (B.1 0 0)), (1, .int (nI pn)), (2, .int (nI nn)), (3, .int (nI dn))]) hx hb dX7_go_47 hl (by decide) rfl (fun ls hl => ?_)
        refine lv_aload_n hx hb dX7_go_49 rfl (lv_at hl 1 rfl) ?_
        refine lv_iload_n hx hb dX7_go_50 rfl (lv_at hl 2 rfl) ?_
        refine m_ki (m_runV (k := 0) (i := 0) (ci := 7) ⟨hx, hb, hml, hown, hz⟩ hK hH hS (bm hM 0) rfl rfl (c_X7_all l G B (sJ τ 26 0 0 (lN 1)) hM pn hp24 (hE.wf hP1)) mw_X7_all wl_X7_110 ⟨rfl, rfl⟩ ⟨by decide, by decide⟩ rfl hl.1 rfl (Nat.le_of_ble_eq_true rfl) dX7_go_51 ⟨Nat.zero_le _, Nat.zero_le _⟩) hS (fun r_51 σ_51 H locs hp hH hS => ?_)
        obtain ⟨hr1, hs1⟩ := hp
        rw [hs1] at hH
        rw [hE.to, hE.st] at hr1
        subst hr1
        refine lv_istore (lv' := [(5, .int (nI (tot σ pn (stN σ pn)))), (4, .int (nI 0)), (0, .ref (B.1 0 0)), (1, .int (nI pn)), (2, .int (nI nn)), (3, .int (nI dn))]) hx hb dX7_go_54 hl (by decide) rfl (fun ls hl => ?_)
        refine lv_iconst (v := nI 1) hx hb dX7_go_56 (by decide) ?_
        refine lv_istore (lv' := [(6, .int (nI 1)), (5, .int (nI (tot σ pn (stN σ pn)))), (4, .int (nI 0)), (0, .ref (B.1 0 0)), (1, .int (nI pn)), (2, .int (nI nn)), (3, .int (nI dn))]) hx hb dX7_go_57 hl (by decide) rfl (fun ls hl => ?_)
        have loop1 : ∀ (n1 : Nat) (mm : Nat), mm ≤ tot σ pn (stN σ pn) ∧ tot σ pn (stN σ pn) < mm + n1 → ∀ (τ : gS) (H : Heap) (locs : List Loc), GA σ τ ((gs σ pn nn dn mm).2.1) ((gs σ pn nn dn mm).2.2.1) ((gs σ pn nn dn mm).2.2.2.1) ((gs σ pn nn dn mm).2.2.2.2) 0 → Hp G B τ H → va_S (mA G) s.heap H locs → ∀ (ls : Array Slot), lv_has ls 13 [(0, .ref (B.1 0 0)), (1, .int (nI pn)), (2, .int (nI nn)), (3, .int (nI dn)), (4, .int (nI ((gs σ pn nn dn mm).1))), (5, .int (nI (tot σ pn (stN σ pn)))), (6, .int (nI (mm + 1)))] → W p l e ({ frames := 2, cells := 0, slots := 0, locals := 45 } : Room) s m ([.ref (B.1 0 0), .int (nI pn), .int (nI nn), .int (nI dn)] : List Value).toArray below meth c H locs 0 0 (MQ below (mQv G B (fun τ => goP σ τ pn nn dn)) ([.ref (B.1 0 0), .int (nI pn), .int (nI nn), .int (nI dn)] : List Value).toArray s 0 0 (mA G)) (F0 m 59 ls []) := by
          intro n1
          induction n1 with
          | zero => intro mm hh; exfalso; omega
          | succ n1 ih =>
            intro mm hh τ H locs hJ hH hS ls hl
            refine lv_iload hx hb dX7_go_59 (lv_at hl 6 rfl) ?_
            refine lv_iload hx hb dX7_go_61 (lv_at hl 5 rfl) ?_
            refine m_icmp_gtN (tgt := 347) (by omega) (by omega) hx hb dX7_go_63 (by decide) (fun c_63 => ?_) (fun c_63 => ?_)
            · exact m_vret hx hb hr hlk hH hS dX7_go_347 (go_end hJ (by omega))
            · obtain ⟨hk1, hk2, hk3⟩ := gs_stg (n := nn) (d := dn) hP1 (m := mm) (by omega)
              have hs4 := hP1.2.1
              have hend := tot_le hP1 (show (gs σ pn nn dn mm).1 + 1 ≤ stN σ pn by omega)
              refine lv_iconst (v := nI 0) hx hb dX7_go_66 (by decide) ?_
              refine lv_istore (lv' := [(7, .int (nI 0)), (0, .ref (B.1 0 0)), (1, .int (nI pn)), (2, .int (nI nn)), (3, .int (nI dn)), (4, .int (nI ((gs σ pn nn dn mm).1))), (5, .int (nI (tot σ pn (stN σ pn)))), (6, .int (nI (mm + 1)))]) hx hb dX7_go_67 hl (by decide) rfl (fun ls hl => ?_)
              have loop2 : ∀ (n2 : Nat) (i : Nat), i ≤ 62 ∧ 62 < i + n2 → ∀ (τ2 : gS) (H : Heap) (locs : List Loc), GA σ τ2 ((gs σ pn nn dn mm).2.1) ((gs σ pn nn dn mm).2.2.1) ((gs σ pn nn dn mm).2.2.2.1) ((gs σ pn nn dn mm).2.2.2.2) i → Hp G B τ2 H → va_S (mA G) s.heap H locs → ∀ (ls : Array Slot), lv_has ls 13 [(0, .ref (B.1 0 0)), (1, .int (nI pn)), (2, .int (nI nn)), (3, .int (nI dn)), (4, .int (nI ((gs σ pn nn dn mm).1))), (5, .int (nI (tot σ pn (stN σ pn)))), (6, .int (nI (mm + 1))), (7, .int (nI i))] → W p l e ({ frames := 2, cells := 0, slots := 0, locals := 45 } : Room) s m ([.ref (B.1 0 0), .int (nI pn), .int (nI nn), .int (nI dn)] : List Value).toArray below meth c H locs 0 0 (MQ below (mQv G B (fun τ => goP σ τ pn nn dn)) ([.ref (B.1 0 0), .int (nI pn), .int (nI nn), .int (nI dn)] : List Value).toArray s 0 0 (mA G)) (F0 m 69 ls []) := by
                intro n2
                induction n2 with
                | zero => intro i hi; exfalso; omega
                | succ n2 ih2 =>
                  intro i hi τ2 H locs hJ hH hS ls hl
                  refine lv_iload hx hb dX7_go_69 (lv_at hl 7 rfl) ?_
                  refine lv_bipush (v := nI 62) hx hb dX7_go_71 (by decide) ?_
                  refine m_icmp_geN (tgt := 115) (by omega) (by omega) hx hb dX7_go_73 (by decide) (fun c_73 => ?_) (fun c_73 => ?_)
                  · have hi62 : i = 62 := by omega
                    subst hi62
                    have hE := hJ.1.eqP
                    refine lv_aload_n hx hb dX7_go_115 rfl (lv_at hl 0 rfl) ?_
                    refine lv_iload_n hx hb dX7_go_116 rfl (lv_at hl 1 rfl) ?_
                    refine lv_iload hx hb dX7_go_117 (lv_at hl 4 rfl) ?_
                    refine m_toe (nI ((gs σ pn nn dn mm).1 + 1) - 1) (by rw [nI_pred]) ?_
                    refine m_ki (m_runV (k := 0) (i := 0) (ci := 7) ⟨hx, hb, hml, hown, hz⟩ hK hH hS (bm hM 0) rfl rfl (c_X7_upTo l G B τ2 hM pn ((gs σ pn nn dn mm).1 + 1) hp24 (hE.wf hP1) (by rw [hE.st]; omega)) mw_X7_upTo wl_X7_103 ⟨rfl, rfl⟩ ⟨by decide, by decide⟩ rfl hl.1 rfl (Nat.le_of_ble_eq_true rfl) dX7_go_119 ⟨Nat.zero_le _, Nat.zero_le _⟩) hS (fun r_119 σ_119 H locs hp hH hS => ?_)
                    obtain ⟨hr1, hs1⟩ := hp
                    rw [hs1] at hH
                    rw [hE.to] at hr1
                    subst hr1
                    refine lv_istore (lv' := [(7, .int (nI (tot σ pn ((gs σ pn nn dn mm).1 + 1)))), (0, .ref (B.1 0 0)), (1, .int (nI pn)), (2, .int (nI nn)), (3, .int (nI dn)), (4, .int (nI ((gs σ pn nn dn mm).1))), (5, .int (nI (tot σ pn (stN σ pn)))), (6, .int (nI (mm + 1)))]) hx hb dX7_go_122 hl (by decide) rfl (fun ls hl => ?_)
                    refine lv_iconst (v := nI 0) hx hb dX7_go_124 (by decide) ?_
                    refine lv_istore (lv' := [(8, .int (nI 0)), (7, .int (nI (tot σ pn ((gs σ pn nn dn mm).1 + 1)))), (0, .ref (B.1 0 0)), (1, .int (nI pn)), (2, .int (nI nn)), (3, .int (nI dn)), (4, .int (nI ((gs σ pn nn dn mm).1))), (5, .int (nI (tot σ pn (stN σ pn)))), (6, .int (nI (mm + 1)))]) hx hb dX7_go_125 hl (by decide) rfl (fun ls hl => ?_)
                    have loop3 : ∀ (n3 : Nat) (i : Nat), i ≤ 62 ∧ 62 < i + n3 → ∀ (τ3 : gS) (H : Heap) (locs : List Loc), GL σ τ3 pn ((gs σ pn nn dn mm).1) (mm + 1) nn dn ((gs σ pn nn dn mm).2.1) ((gs σ pn nn dn mm).2.2.1) ((gs σ pn nn dn mm).2.2.2.1) ((gs σ pn nn dn mm).2.2.2.2) i → Hp G B τ3 H → va_S (mA G) s.heap H locs → ∀ (ls : Array Slot), lv_has ls 13 [(0, .ref (B.1 0 0)), (1, .int (nI pn)), (2, .int (nI nn)), (3, .int (nI dn)), (4, .int (nI ((gs σ pn nn dn mm).1))), (5, .int (nI (tot σ pn (stN σ pn)))), (6, .int (nI (mm + 1))), (7, .int (nI (tot σ pn ((gs σ pn nn dn mm).1 + 1)))), (8, .int (nI i))] → W p l e ({ frames := 2, cells := 0, slots := 0, locals := 45 } : Room) s m ([.ref (B.1 0 0), .int (nI pn), .int (nI nn), .int (nI dn)] : List Value).toArray below meth c H locs 0 0 (MQ below (mQv G B (fun τ => goP σ τ pn nn dn)) ([.ref (B.1 0 0), .int (nI pn), .int (nI nn), .int (nI dn)] : List Value).toArray s 0 0 (mA G)) (F0 m 127 ls []) := by
                      intro n3
                      induction n3 with
                      | zero => intro i hi; exfalso; omega
                      | succ n3 ih3 =>
                        intro i hi τ3 H locs hJ hH hS ls hl
                        refine lv_iload hx hb dX7_go_127 (lv_at hl 8 rfl) ?_
                        refine lv_bipush (v := nI 62) hx hb dX7_go_129 (by decide) ?_
                        refine m_icmp_geN (tgt := 331) (by omega) (by omega) hx hb dX7_go_131 (by decide) (fun c_131 => ?_) (fun c_131 => ?_)
                        · have hi62 : i = 62 := by omega
                          subst hi62
                          refine lv_iload hx hb dX7_go_331 (lv_at hl 6 rfl) ?_
                          refine lv_iload hx hb dX7_go_333 (lv_at hl 7 rfl) ?_
                          refine m_icmp_neN (tgt := 341) (by omega) (by omega) hx hb dX7_go_335 (by decide) (fun c_335 => ?_) (fun c_335 => ?_)
                          · refine lv_iinc (v := nI (mm + 1 + 1)) (lv' := [(6, .int (nI (mm + 1 + 1))), (0, .ref (B.1 0 0)), (1, .int (nI pn)), (2, .int (nI nn)), (3, .int (nI dn)), (4, .int (nI ((gs σ pn nn dn mm).1))), (5, .int (nI (tot σ pn (stN σ pn)))), (7, .int (nI (tot σ pn ((gs σ pn nn dn mm).1 + 1)))), (8, .int (nI 62))]) hx hb dX7_go_341 hl (k := 6) rfl (nI_1 _) (by decide) rfl (fun ls hl => ?_)
                            refine lv_goto (tgt := 59) hx hb dX7_go_344 (by decide) ?_
                            exact ih (mm + 1) (by omega) _ H locs (GL_A hJ) hH hS ls (by rw [show (gs σ pn nn dn (mm + 1)).1 = (gs σ pn nn dn mm).1 from if_neg c_335]; exact lv_sub hl [1, 2, 3, 4, 5, 6, 0] rfl)
                          · refine lv_iinc (v := nI ((gs σ pn nn dn mm).1 + 1)) (lv' := [(4, .int (nI ((gs σ pn nn dn mm).1 + 1))), (0, .ref (B.1 0 0)), (1, .int (nI pn)), (2, .int (nI nn)), (3, .int (nI dn)), (5, .int (nI (tot σ pn (stN σ pn)))), (6, .int (nI (mm + 1))), (7, .int (nI (tot σ pn ((gs σ pn nn dn mm).1 + 1)))), (8, .int (nI 62))]) hx hb dX7_go_338 hl (k := 4) rfl (nI_1 _) (by decide) rfl (fun ls hl => ?_)
                            refine lv_iinc (v := nI (mm + 1 + 1)) (lv' := [(6, .int (nI (mm + 1 + 1))), (4, .int (nI ((gs σ pn nn dn mm).1 + 1))), (0, .ref (B.1 0 0)), (1, .int (nI pn)), (2, .int (nI nn)), (3, .int (nI dn)), (5, .int (nI (tot σ pn (stN σ pn)))), (7, .int (nI (tot σ pn ((gs σ pn nn dn mm).1 + 1)))), (8, .int (nI 62))]) hx hb dX7_go_341 hl (k := 6) rfl (nI_1 _) (by decide) rfl (fun ls hl => ?_)
                            refine lv_goto (tgt := 59) hx hb dX7_go_344 (by decide) ?_
                            exact ih (mm + 1) (by omega) _ H locs (GL_A hJ) hH hS ls (by rw [show (gs σ pn nn dn (mm + 1)).1 = (gs σ pn nn dn mm).1 + 1 from if_pos c_335]; exact lv_sub hl [2, 3, 4, 5, 1, 6, 0] rfl)
                        · refine lv_aload_n hx hb dX7_go_134 rfl (lv_at hl 0 rfl) ?_
                          refine gf_X7_79 hx hb hown hK hH (bm hM 0) dX7_go_135 ?_
                          refine lv_iload hx hb dX7_go_138 (lv_at hl 8 rfl) ?_
                          refine lv_aload_n hx hb dX7_go_140 rfl (lv_at hl 0 rfl) ?_
                          refine gf_X7_82 hx hb hown hK hH (bm hM 0) dX7_go_141 ?_
                          refine lv_iload hx hb dX7_go_144 (lv_at hl 8 rfl) ?_
                          refine m_lald hx hb hK hH (n := 62) (bm hM 27) (fun _ _ => rfl) (i) (rfl) (by omega) (by decide) dX7_go_146 ?_
                          refine m_toj (lN (gAft ((gs σ pn nn dn mm).2.1) i)) (hJ.2.1 i (by omega)) ?_
                          refine m_last hx hb hK hH hS (n := 62) (bm hM 26) (fun _ _ => rfl) (i) (rfl) (by omega) (by decide) dX7_go_147 (fun H locs hH hS => ?_)
                          refine lv_aload_n hx hb dX7_go_148 rfl (lv_at hl 0 rfl) ?_
                          refine gf_X7_82 hx hb hown hK hH (bm hM 0) dX7_go_149 ?_
                          refine lv_iload hx hb dX7_go_152 (lv_at hl 8 rfl) ?_
                          refine m_lald hx hb hK hH (n := 62) (bm hM 27) (fun _ _ => rfl) (i) (rfl) (by omega) (by decide) dX7_go_154 ?_
                          refine m_toj (lN (gAft ((gs σ pn nn dn mm).2.1) i)) (by rw [sJ_at, if_neg (by omega)]; exact hJ.2.1 i (by omega)) ?_
                          refine lv_lconst (v := lN 0) hx hb dX7_go_155 rfl ?_
                          refine m_lc_ne (tgt := 163) hx hb dX7_go_156 dX7_go_157 (by decide) (fun c_156 => ?_) (fun c_156 => ?_)
                          · refine lv_iload hx hb dX7_go_163 (lv_at hl 8 rfl) ?_
                            refine lv_aload_n hx hb dX7_go_165 rfl (lv_at hl 0 rfl) ?_
                            refine gf_X7_19 hx hb hown hK hH (bm hM 0) dX7_go_166 ?_
                            refine lv_iconst (v := nI 4) hx hb dX7_go_169 (by decide) ?_
                            refine lv_iload_n hx hb dX7_go_170 rfl (lv_at hl 1 rfl) ?_
                            refine m_imulN hx hb dX7_go_171 ?_
                            refine lv_iload hx hb dX7_go_172 (lv_at hl 4 rfl) ?_
                            refine m_iaddN hx hb dX7_go_174 ?_
                            refine m_iald hx hb hK hH (n := 96) (bm hM 6) (fun _ _ => rfl) (4 * pn + ((gs σ pn nn dn mm).1)) (rfl) (by omega) (by decide) dX7_go_175 ?_
                            refine m_toe (σ.1 6 0 (4 * pn + (gs σ pn nn dn mm).1)) (by rw [sJ_I, hJ.1.1]) ?_
                            have J_176 : ∀ (ls : Array Slot), lv_has ls 13 [(0, .ref (B.1 0 0)), (1, .int (nI pn)), (2, .int (nI nn)), (3, .int (nI dn)), (4, .int (nI ((gs σ pn nn dn mm).1))), (5, .int (nI (tot σ pn (stN σ pn)))), (6, .int (nI (mm + 1))), (7, .int (nI (tot σ pn ((gs σ pn nn dn mm).1 + 1)))), (8, .int (nI i))] → W p l e ({ frames := 2, cells := 0, slots := 0, locals := 45 } : Room) s m ([.ref (B.1 0 0), .int (nI pn), .int (nI nn), .int (nI dn)] : List Value).toArray below meth c H locs 0 0 (MQ below (mQv G B (fun τ => goP σ τ pn nn dn)) ([.ref (B.1 0 0), .int (nI pn), .int (nI nn), .int (nI dn)] : List Value).toArray s 0 0 (mA G)) (F0 m 184 ls [.int (bI (gRf σ pn ((gs σ pn nn dn mm).1) i))]) := by
                              intro ls hl
                              refine lv_istore (lv' := [(9, .int (bI (gRf σ pn ((gs σ pn nn dn mm).1) i))), (0, .ref (B.1 0 0)), (1, .int (nI pn)), (2, .int (nI nn)), (3, .int (nI dn)), (4, .int (nI ((gs σ pn nn dn mm).1))), (5, .int (nI (tot σ pn (stN σ pn)))), (6, .int (nI (mm + 1))), (7, .int (nI (tot σ pn ((gs σ pn nn dn mm).1 + 1)))), (8, .int (nI i))]) hx hb dX7_go_184 hl (by decide) rfl (fun ls hl => ?_)
                              refine lv_iload hx hb dX7_go_186 (lv_at hl 0 rfl) ?_
                              have J_188 : ∀ (ls : Array Slot), lv_has ls 13 [(9, .int (bI (gRf σ pn ((gs σ pn nn dn mm).1) i))), (0, .ref (B.1 0 0)), (1, .int (nI pn)), (2, .int (nI nn)), (3, .int (nI dn)), (4, .int (nI ((gs σ pn nn dn mm).1))), (5, .int (nI (tot σ pn (stN σ pn)))), (6, .int (nI (mm + 1))), (7, .int (nI (tot σ pn ((gs σ pn nn dn mm).1 + 1)))), (8, .int (nI i))] → W p l e ({ frames := 2, cells := 0, slots := 0, locals := 45 } : Room) s m ([.ref (B.1 0 0), .int (nI pn), .int (nI nn), .int (nI dn)] : List Value).toArray below meth c H locs 0 0 (MQ below (mQv G B (fun τ => goP σ τ pn nn dn)) ([.ref (B.1 0 0), .int (nI pn), .int (nI nn), .int (nI dn)] : List Value).toArray s 0 0 (mA G)) (F0 m 219 ls [.int (bI (gTk σ pn ((gs σ pn nn dn mm).1) (mm + 1) i))]) := by
                                intro ls hl
                                refine lv_istore (lv' := [(10, .int (bI (gTk σ pn ((gs σ pn nn dn mm).1) (mm + 1) i))), (9, .int (bI (gRf σ pn ((gs σ pn nn dn mm).1) i))), (0, .ref (B.1 0 0)), (1, .int (nI pn)), (2, .int (nI nn)), (3, .int (nI dn)), (4, .int (nI ((gs σ pn nn dn mm).1))), (5, .int (nI (tot σ pn (stN σ pn)))), (6, .int (nI (mm + 1))), (7, .int (nI (tot σ pn ((gs σ pn nn dn mm).1 + 1)))), (8, .int (nI i))]) hx hb dX7_go_219 hl (by decide) rfl (fun ls hl => ?_)
                                refine lv_iload hx hb dX7_go_221 (lv_at hl 1 rfl) ?_
                                refine m_ifneB (tgt := 234) hx hb dX7_go_223 (by decide) (fun c_223 => ?_) (fun c_223 => ?_)
                                · refine lv_aload_n hx hb dX7_go_234 rfl (lv_at hl 2 rfl) ?_
                                  refine gf_X7_82 hx hb hown hK hH (bm hM 0) dX7_go_235 ?_
                                  refine lv_iload hx hb dX7_go_238 (lv_at hl 10 rfl) ?_
                                  refine m_lald hx hb hK hH (n := 62) (bm hM 27) (fun _ _ => rfl) (i) (rfl) (by omega) (by decide) dX7_go_240 ?_
                                  refine m_toj (lN (gAft ((gs σ pn nn dn mm).2.1) i)) (by rw [sJ_at, if_neg (by omega)]; exact hJ.2.1 i (by omega)) ?_
                                  refine lv_aload_n hx hb dX7_go_241 rfl (lv_at hl 2 rfl) ?_
                                  refine lv_iload_n hx hb dX7_go_242 rfl (lv_at hl 4 rfl) ?_
                                  refine lv_iload hx hb dX7_go_243 (lv_at hl 8 rfl) ?_
                                  refine m_isubN (by omega) hx hb dX7_go_245 ?_
                                  refine lv_iload_n hx hb dX7_go_246 rfl (lv_at hl 5 rfl) ?_
                                  refine lv_iload hx hb dX7_go_247 (lv_at hl 10 rfl) ?_
                                  refine lv_isub hx hb dX7_go_249 ?_
                                  refine m_kl (m_runV (k := 0) (i := 0) (ci := 7) ⟨hx, hb, hml, hown, hz⟩ hK hH hS (bm hM 0) rfl rfl (c_X7_ways l G B (sJ τ3 26 0 i (lN (gAft ((gs σ pn nn dn mm).2.1) i))) hM (nn - (mm + 1)) (nI dn - nI i) (by omega) ((hJ.1.put rfl).sm.wfCh hW)) mw_X7_ways wl_X7_123 ⟨rfl, rfl⟩ ⟨by decide, by decide⟩ rfl hl.1 rfl (Nat.le_of_ble_eq_true rfl) dX7_go_250 ⟨Nat.zero_le _, Nat.zero_le _⟩) hS (fun r_250 σ_250 H locs hp hH hS => ?_)
                                  obtain ⟨hr1, hs1⟩ := hp
                                  rw [hs1] at hH
                                  rw [i_subN (by omega) (by omega)] at hr1
                                  subst hr1
                                  refine m_lmulN hx hb dX7_go_253 ?_
                                  refine lv_lstore (lv' := [(11, .long (lN ((gAft ((gs σ pn nn dn mm).2.1) i) * (chZ (nn - (mm + 1)) ((dn : Int) - (i : Int)))))), (10, .int (bI (gTk σ pn ((gs σ pn nn dn mm).1) (mm + 1) i))), (9, .int (bI (gRf σ pn ((gs σ pn nn dn mm).1) i))), (0, .ref (B.1 0 0)), (1, .int (nI pn)), (2, .int (nI nn)), (3, .int (nI dn)), (4, .int (nI ((gs σ pn nn dn mm).1))), (5, .int (nI (tot σ pn (stN σ pn)))), (6, .int (nI (mm + 1))), (7, .int (nI (tot σ pn ((gs σ pn nn dn mm).1 + 1)))), (8, .int (nI i))]) hx hb dX7_go_254 hl (by decide) rfl (fun ls hl => ?_)
                                  refine lv_aload_n hx hb dX7_go_256 rfl (lv_at hl 3 rfl) ?_
                                  refine lv_dup hx hb dX7_go_257 rfl ?_
                                  refine gf_X7_117 hx hb hown hK hH (bm hM 0) dX7_go_258 ?_
                                  refine m_toj (lN ((gs σ pn nn dn mm).2.2.2.1 + rsum (fA σ pn ((gs σ pn nn dn mm).1) (mm + 1) nn dn ((gs σ pn nn dn mm).2.1)) i)) (by rw [sJ_at, if_neg (by omega)]; exact hJ.2.2.2.2.1) ?_
                                  refine lv_lload hx hb dX7_go_261 (lv_at hl 0 rfl) ?_
                                  refine lv_iload hx hb dX7_go_263 (lv_at hl 10 rfl) ?_
                                  refine m_i2lN (by omega) hx hb dX7_go_265 ?_
                                  refine m_lmulN hx hb dX7_go_266 ?_
                                  refine m_laddN hx hb dX7_go_267 ?_
                                  refine pf_X7_117 hx hb hown hK hH hS (bm hM 0) dX7_go_268 (fun H locs hH hS => ?_)
                                  refine lv_aload_n hx hb dX7_go_271 rfl (lv_at hl 3 rfl) ?_
                                  refine lv_dup hx hb dX7_go_272 rfl ?_
                                  refine gf_X7_114 hx hb hown hK hH (bm hM 0) dX7_go_273 ?_
                                  refine m_toj (lN ((gs σ pn nn dn mm).2.2.1 + rsum (fT σ pn ((gs σ pn nn dn mm).1) (mm + 1) nn dn ((gs σ pn nn dn mm).2.1)) i)) (by rw [sJ_at, if_neg (by omega), sJ_at, if_neg (by omega)]; exact hJ.2.2.2.1) ?_
                                  refine lv_iload hx hb dX7_go_276 (lv_at hl 1 rfl) ?_
                                  have J_278 : ∀ (ls : Array Slot), lv_has ls 13 [(11, .long (lN ((gAft ((gs σ pn nn dn mm).2.1) i) * (chZ (nn - (mm + 1)) ((dn : Int) - (i : Int)))))), (10, .int (bI (gTk σ pn ((gs σ pn nn dn mm).1) (mm + 1) i))), (9, .int (bI (gRf σ pn ((gs σ pn nn dn mm).1) i))), (0, .ref (B.1 0 0)), (1, .int (nI pn)), (2, .int (nI nn)), (3, .int (nI dn)), (4, .int (nI ((gs σ pn nn dn mm).1))), (5, .int (nI (tot σ pn (stN σ pn)))), (6, .int (nI (mm + 1))), (7, .int (nI (tot σ pn ((gs σ pn nn dn mm).1 + 1)))), (8, .int (nI i))] → W p l e ({ frames := 2, cells := 0, slots := 0, locals := 45 } : Room) s m ([.ref (B.1 0 0), .int (nI pn), .int (nI nn), .int (nI dn)] : List Value).toArray below meth c H locs 0 0 (MQ below (mQv G B (fun τ => goP σ τ pn nn dn)) ([.ref (B.1 0 0), .int (nI pn), .int (nI nn), .int (nI dn)] : List Value).toArray s 0 0 (mA G)) (F0 m 287 ls [.long (lN (fT σ pn ((gs σ pn nn dn mm).1) (mm + 1) nn dn ((gs σ pn nn dn mm).2.1) i)), .long (lN ((gs σ pn nn dn mm).2.2.1 + rsum (fT σ pn ((gs σ pn nn dn mm).1) (mm + 1) nn dn ((gs σ pn nn dn mm).2.1)) i)), .ref (B.1 0 0)]) := by
                                    intro ls hl
                                    refine m_laddN hx hb dX7_go_287 ?_
                                    refine pf_X7_114 hx hb hown hK hH hS (bm hM 0) dX7_go_288 (fun H locs hH hS => ?_)
                                    refine lv_aload_n hx hb dX7_go_291 rfl (lv_at hl 3 rfl) ?_
                                    refine lv_dup hx hb dX7_go_292 rfl ?_
                                    refine gf_X7_120 hx hb hown hK hH (bm hM 0) dX7_go_293 ?_
                                    refine m_toj (lN ((gs σ pn nn dn mm).2.2.2.2 + rsum (fO σ pn ((gs σ pn nn dn mm).1) (mm + 1) nn dn ((gs σ pn nn dn mm).2.1)) i)) (by rw [sJ_at, if_neg (by omega), sJ_at, if_neg (by omega), sJ_at, if_neg (by omega)]; exact hJ.2.2.2.2.2) ?_
                                    refine lv_iload hx hb dX7_go_296 (lv_at hl 1 rfl) ?_
                                    have J_298 : ∀ (ls : Array Slot), lv_has ls 13 [(11, .long (lN ((gAft ((gs σ pn nn dn mm).2.1) i) * (chZ (nn - (mm + 1)) ((dn : Int) - (i : Int)))))), (10, .int (bI (gTk σ pn ((gs σ pn nn dn mm).1) (mm + 1) i))), (9, .int (bI (gRf σ pn ((gs σ pn nn dn mm).1) i))), (0, .ref (B.1 0 0)), (1, .int (nI pn)), (2, .int (nI nn)), (3, .int (nI dn)), (4, .int (nI ((gs σ pn nn dn mm).1))), (5, .int (nI (tot σ pn (stN σ pn)))), (6, .int (nI (mm + 1))), (7, .int (nI (tot σ pn ((gs σ pn nn dn mm).1 + 1)))), (8, .int (nI i))] → W p l e ({ frames := 2, cells := 0, slots := 0, locals := 45 } : Room) s m ([.ref (B.1 0 0), .int (nI pn), .int (nI nn), .int (nI dn)] : List Value).toArray below meth c H locs 0 0 (MQ below (mQv G B (fun τ => goP σ τ pn nn dn)) ([.ref (B.1 0 0), .int (nI pn), .int (nI nn), .int (nI dn)] : List Value).toArray s 0 0 (mA G)) (F0 m 313 ls [.long (lN (fO σ pn ((gs σ pn nn dn mm).1) (mm + 1) nn dn ((gs σ pn nn dn mm).2.1) i)), .long (lN ((gs σ pn nn dn mm).2.2.2.2 + rsum (fO σ pn ((gs σ pn nn dn mm).1) (mm + 1) nn dn ((gs σ pn nn dn mm).2.1)) i)), .ref (B.1 0 0)]) := by
                                      intro ls hl
                                      refine m_laddN hx hb dX7_go_313 ?_
                                      refine pf_X7_120 hx hb hown hK hH hS (bm hM 0) dX7_go_314 (fun H locs hH hS => ?_)
                                      refine lv_aload_n hx hb dX7_go_317 rfl (lv_at hl 3 rfl) ?_
                                      refine gf_X7_79 hx hb hown hK hH (bm hM 0) dX7_go_318 ?_
                                      refine lv_iload hx hb dX7_go_321 (lv_at hl 11 rfl) ?_
                                      refine lv_lconst (v := lN 0) hx hb dX7_go_323 rfl ?_
                                      refine m_last hx hb hK hH hS (n := 62) (bm hM 26) (fun _ _ => rfl) (i) (rfl) (by omega) (by decide) dX7_go_324 (fun H locs hH hS => ?_)
                                      refine lv_iinc (v := nI (i + 1)) (lv' := [(8, .int (nI (i + 1))), (11, .long (lN ((gAft ((gs σ pn nn dn mm).2.1) i) * (chZ (nn - (mm + 1)) ((dn : Int) - (i : Int)))))), (10, .int (bI (gTk σ pn ((gs σ pn nn dn mm).1) (mm + 1) i))), (9, .int (bI (gRf σ pn ((gs σ pn nn dn mm).1) i))), (0, .ref (B.1 0 0)), (1, .int (nI pn)), (2, .int (nI nn)), (3, .int (nI dn)), (4, .int (nI ((gs σ pn nn dn mm).1))), (5, .int (nI (tot σ pn (stN σ pn)))), (6, .int (nI (mm + 1))), (7, .int (nI (tot σ pn ((gs σ pn nn dn mm).1 + 1))))]) hx hb dX7_go_325 hl (k := 11) rfl (nI_1 _) (by decide) rfl (fun ls hl => ?_)
                                      refine lv_goto (tgt := 127) hx hb dX7_go_328 (by decide) ?_
                                      exact ih3 (i + 1) (by omega) _ H locs (GL_dec hJ (by unfold gDc; first | (rw [c_223]; rfl) | (rw [c_228, Bool.or_true])) rfl rfl rfl) hH hS ls (lv_sub hl [4, 5, 6, 7, 8, 9, 10, 11, 0] rfl)
                                    refine m_ifeqB (tgt := 312) hx hb dX7_go_298 (by decide) (fun c_298 => ?_) (fun c_298 => ?_)
                                    · refine lv_lconst (v := lN 0) hx hb dX7_go_312 rfl ?_
                                      refine m_toj (lN (fO σ pn ((gs σ pn nn dn mm).1) (mm + 1) nn dn ((gs σ pn nn dn mm).2.1) i)) (by unfold fO; rw [c_298]; rfl) ?_
                                      exact J_298 ls (lv_sub hl [0, 1, 2, 3, 4, 5, 6, 7, 8, 9, 10, 11] rfl)
                                    · refine lv_lload hx hb dX7_go_301 (lv_at hl 0 rfl) ?_
                                      refine lv_iload_n hx hb dX7_go_303 rfl (lv_at hl 6 rfl) ?_
                                      refine lv_iload hx hb dX7_go_304 (lv_at hl 11 rfl) ?_
                                      refine lv_isub hx hb dX7_go_306 ?_
                                      refine lv_i2l hx hb dX7_go_307 rfl ?_
                                      refine lv_lmul hx hb dX7_go_308 ?_
                                      refine lv_goto (tgt := 313) hx hb dX7_go_309 (by decide) ?_
                                      refine m_toj (lN (fO σ pn ((gs σ pn nn dn mm).1) (mm + 1) nn dn ((gs σ pn nn dn mm).2.1) i)) (by unfold fO; rw [c_298]; exact go_st _ _ _ _ (by omega) (by omega)) ?_
                                      exact J_298 ls (lv_sub hl [0, 1, 2, 3, 4, 5, 6, 7, 8, 9, 10, 11] rfl)
                                  refine m_ifeqB (tgt := 286) hx hb dX7_go_278 (by decide) (fun c_278 => ?_) (fun c_278 => ?_)
                                  · refine lv_lconst (v := lN 0) hx hb dX7_go_286 rfl ?_
                                    refine m_toj (lN (fT σ pn ((gs σ pn nn dn mm).1) (mm + 1) nn dn ((gs σ pn nn dn mm).2.1) i)) (by unfold fT; rw [c_278]; rfl) ?_
                                    exact J_278 ls (lv_sub hl [0, 1, 2, 3, 4, 5, 6, 7, 8, 9, 10, 11] rfl)
                                  · refine lv_lload hx hb dX7_go_281 (lv_at hl 0 rfl) ?_
                                    refine lv_goto (tgt := 287) hx hb dX7_go_283 (by decide) ?_
                                    refine m_toj (lN (fT σ pn ((gs σ pn nn dn mm).1) (mm + 1) nn dn ((gs σ pn nn dn mm).2.1) i)) (by unfold fT; rw [c_278]; rfl) ?_
                                    exact J_278 ls (lv_sub hl [0, 1, 2, 3, 4, 5, 6, 7, 8, 9, 10, 11] rfl)
                                · refine lv_iload hx hb dX7_go_226 (lv_at hl 0 rfl) ?_
                                  refine m_ifneB (tgt := 234) hx hb dX7_go_228 (by decide) (fun c_228 => ?_) (fun c_228 => ?_)
                                  · refine lv_aload_n hx hb dX7_go_234 rfl (lv_at hl 2 rfl) ?_
                                    refine gf_X7_82 hx hb hown hK hH (bm hM 0) dX7_go_235 ?_
                                    refine lv_iload hx hb dX7_go_238 (lv_at hl 10 rfl) ?_
                                    refine m_lald hx hb hK hH (n := 62) (bm hM 27) (fun _ _ => rfl) (i) (rfl) (by omega) (by decide) dX7_go_240 ?_
                                    refine m_toj (lN (gAft ((gs σ pn nn dn mm).2.1) i)) (by rw [sJ_at, if_neg (by omega)]; exact hJ.2.1 i (by omega)) ?_
                                    refine lv_aload_n hx hb dX7_go_241 rfl (lv_at hl 2 rfl) ?_
                                    refine lv_iload_n hx hb dX7_go_242 rfl (lv_at hl 4 rfl) ?_
                                    refine lv_iload hx hb dX7_go_243 (lv_at hl 8 rfl) ?_
                                    refine m_isubN (by omega) hx hb dX7_go_245 ?_
                                    refine lv_iload_n hx hb dX7_go_246 rfl (lv_at hl 5 rfl) ?_
                                    refine lv_iload hx hb dX7_go_247 (lv_at hl 10 rfl) ?_
                                    refine lv_isub hx hb dX7_go_249 ?_
                                    refine m_kl (m_runV (k := 0) (i := 0) (ci := 7) ⟨hx, hb, hml, hown, hz⟩ hK hH hS (bm hM 0) rfl rfl (c_X7_ways l G B (sJ τ3 26 0 i (lN (gAft ((gs σ pn nn dn mm).2.1) i))) hM (nn - (mm + 1)) (nI dn - nI i) (by omega) ((hJ.1.put rfl).sm.wfCh hW)) mw_X7_ways wl_X7_123 ⟨rfl, rfl⟩ ⟨by decide, by decide⟩ rfl hl.1 rfl (Nat.le_of_ble_eq_true rfl) dX7_go_250 ⟨Nat.zero_le _, Nat.zero_le _⟩) hS (fun r_250 σ_250 H locs hp hH hS => ?_)
                                    obtain ⟨hr1, hs1⟩ := hp
                                    rw [hs1] at hH
                                    rw [i_subN (by omega) (by omega)] at hr1
                                    subst hr1
                                    refine m_lmulN hx hb dX7_go_253 ?_
                                    refine lv_lstore (lv' := [(11, .long (lN ((gAft ((gs σ pn nn dn mm).2.1) i) * (chZ (nn - (mm + 1)) ((dn : Int) - (i : Int)))))), (10, .int (bI (gTk σ pn ((gs σ pn nn dn mm).1) (mm + 1) i))), (9, .int (bI (gRf σ pn ((gs σ pn nn dn mm).1) i))), (0, .ref (B.1 0 0)), (1, .int (nI pn)), (2, .int (nI nn)), (3, .int (nI dn)), (4, .int (nI ((gs σ pn nn dn mm).1))), (5, .int (nI (tot σ pn (stN σ pn)))), (6, .int (nI (mm + 1))), (7, .int (nI (tot σ pn ((gs σ pn nn dn mm).1 + 1)))), (8, .int (nI i))]) hx hb dX7_go_254 hl (by decide) rfl (fun ls hl => ?_)
                                    refine lv_aload_n hx hb dX7_go_256 rfl (lv_at hl 3 rfl) ?_
                                    refine lv_dup hx hb dX7_go_257 rfl ?_
                                    refine gf_X7_117 hx hb hown hK hH (bm hM 0) dX7_go_258 ?_
                                    refine m_toj (lN ((gs σ pn nn dn mm).2.2.2.1 + rsum (fA σ pn ((gs σ pn nn dn mm).1) (mm + 1) nn dn ((gs σ pn nn dn mm).2.1)) i)) (by rw [sJ_at, if_neg (by omega)]; exact hJ.2.2.2.2.1) ?_
                                    refine lv_lload hx hb dX7_go_261 (lv_at hl 0 rfl) ?_
                                    refine lv_iload hx hb dX7_go_263 (lv_at hl 10 rfl) ?_
                                    refine m_i2lN (by omega) hx hb dX7_go_265 ?_
                                    refine m_lmulN hx hb dX7_go_266 ?_
                                    refine m_laddN hx hb dX7_go_267 ?_
                                    refine pf_X7_117 hx hb hown hK hH hS (bm hM 0) dX7_go_268 (fun H locs hH hS => ?_)
                                    refine lv_aload_n hx hb dX7_go_271 rfl (lv_at hl 3 rfl) ?_
                                    refine lv_dup hx hb dX7_go_272 rfl ?_
                                    refine gf_X7_114 hx hb hown hK hH (bm hM 0) dX7_go_273 ?_
                                    refine m_toj (lN ((gs σ pn nn dn mm).2.2.1 + rsum (fT σ pn ((gs σ pn nn dn mm).1) (mm + 1) nn dn ((gs σ pn nn dn mm).2.1)) i)) (by rw [sJ_at, if_neg (by omega), sJ_at, if_neg (by omega)]; exact hJ.2.2.2.1) ?_
                                    refine lv_iload hx hb dX7_go_276 (lv_at hl 1 rfl) ?_
                                    have J_278 : ∀ (ls : Array Slot), lv_has ls 13 [(11, .long (lN ((gAft ((gs σ pn nn dn mm).2.1) i) * (chZ (nn - (mm + 1)) ((dn : Int) - (i : Int)))))), (10, .int (bI (gTk σ pn ((gs σ pn nn dn mm).1) (mm + 1) i))), (9, .int (bI (gRf σ pn ((gs σ pn nn dn mm).1) i))), (0, .ref (B.1 0 0)), (1, .int (nI pn)), (2, .int (nI nn)), (3, .int (nI dn)), (4, .int (nI ((gs σ pn nn dn mm).1))), (5, .int (nI (tot σ pn (stN σ pn)))), (6, .int (nI (mm + 1))), (7, .int (nI (tot σ pn ((gs σ pn nn dn mm).1 + 1)))), (8, .int (nI i))] → W p l e ({ frames := 2, cells := 0, slots := 0, locals := 45 } : Room) s m ([.ref (B.1 0 0), .int (nI pn), .int (nI nn), .int (nI dn)] : List Value).toArray below meth c H locs 0 0 (MQ below (mQv G B (fun τ => goP σ τ pn nn dn)) ([.ref (B.1 0 0), .int (nI pn), .int (nI nn), .int (nI dn)] : List Value).toArray s 0 0 (mA G)) (F0 m 287 ls [.long (lN (fT σ pn ((gs σ pn nn dn mm).1) (mm + 1) nn dn ((gs σ pn nn dn mm).2.1) i)), .long (lN ((gs σ pn nn dn mm).2.2.1 + rsum (fT σ pn ((gs σ pn nn dn mm).1) (mm + 1) nn dn ((gs σ pn nn dn mm).2.1)) i)), .ref (B.1 0 0)]) := by
                                      intro ls hl
                                      refine m_laddN hx hb dX7_go_287 ?_
                                      refine pf_X7_114 hx hb hown hK hH hS (bm hM 0) dX7_go_288 (fun H locs hH hS => ?_)
                                      refine lv_aload_n hx hb dX7_go_291 rfl (lv_at hl 3 rfl) ?_
                                      refine lv_dup hx hb dX7_go_292 rfl ?_
                                      refine gf_X7_120 hx hb hown hK hH (bm hM 0) dX7_go_293 ?_
                                      refine m_toj (lN ((gs σ pn nn dn mm).2.2.2.2 + rsum (fO σ pn ((gs σ pn nn dn mm).1) (mm + 1) nn dn ((gs σ pn nn dn mm).2.1)) i)) (by rw [sJ_at, if_neg (by omega), sJ_at, if_neg (by omega), sJ_at, if_neg (by omega)]; exact hJ.2.2.2.2.2) ?_
                                      refine lv_iload hx hb dX7_go_296 (lv_at hl 1 rfl) ?_
                                      have J_298 : ∀ (ls : Array Slot), lv_has ls 13 [(11, .long (lN ((gAft ((gs σ pn nn dn mm).2.1) i) * (chZ (nn - (mm + 1)) ((dn : Int) - (i : Int)))))), (10, .int (bI (gTk σ pn ((gs σ pn nn dn mm).1) (mm + 1) i))), (9, .int (bI (gRf σ pn ((gs σ pn nn dn mm).1) i))), (0, .ref (B.1 0 0)), (1, .int (nI pn)), (2, .int (nI nn)), (3, .int (nI dn)), (4, .int (nI ((gs σ pn nn dn mm).1))), (5, .int (nI (tot σ pn (stN σ pn)))), (6, .int (nI (mm + 1))), (7, .int (nI (tot σ pn ((gs σ pn nn dn mm).1 + 1)))), (8, .int (nI i))] → W p l e ({ frames := 2, cells := 0, slots := 0, locals := 45 } : Room) s m ([.ref (B.1 0 0), .int (nI pn), .int (nI nn), .int (nI dn)] : List Value).toArray below meth c H locs 0 0 (MQ below (mQv G B (fun τ => goP σ τ pn nn dn)) ([.ref (B.1 0 0), .int (nI pn), .int (nI nn), .int (nI dn)] : List Value).toArray s 0 0 (mA G)) (F0 m 313 ls [.long (lN (fO σ pn ((gs σ pn nn dn mm).1) (mm + 1) nn dn ((gs σ pn nn dn mm).2.1) i)), .long (lN ((gs σ pn nn dn mm).2.2.2.2 + rsum (fO σ pn ((gs σ pn nn dn mm).1) (mm + 1) nn dn ((gs σ pn nn dn mm).2.1)) i)), .ref (B.1 0 0)]) := by
                                        intro ls hl
                                        refine m_laddN hx hb dX7_go_313 ?_
                                        refine pf_X7_120 hx hb hown hK hH hS (bm hM 0) dX7_go_314 (fun H locs hH hS => ?_)
                                        refine lv_aload_n hx hb dX7_go_317 rfl (lv_at hl 3 rfl) ?_
                                        refine gf_X7_79 hx hb hown hK hH (bm hM 0) dX7_go_318 ?_
                                        refine lv_iload hx hb dX7_go_321 (lv_at hl 11 rfl) ?_
                                        refine lv_lconst (v := lN 0) hx hb dX7_go_323 rfl ?_
                                        refine m_last hx hb hK hH hS (n := 62) (bm hM 26) (fun _ _ => rfl) (i) (rfl) (by omega) (by decide) dX7_go_324 (fun H locs hH hS => ?_)
                                        refine lv_iinc (v := nI (i + 1)) (lv' := [(8, .int (nI (i + 1))), (11, .long (lN ((gAft ((gs σ pn nn dn mm).2.1) i) * (chZ (nn - (mm + 1)) ((dn : Int) - (i : Int)))))), (10, .int (bI (gTk σ pn ((gs σ pn nn dn mm).1) (mm + 1) i))), (9, .int (bI (gRf σ pn ((gs σ pn nn dn mm).1) i))), (0, .ref (B.1 0 0)), (1, .int (nI pn)), (2, .int (nI nn)), (3, .int (nI dn)), (4, .int (nI ((gs σ pn nn dn mm).1))), (5, .int (nI (tot σ pn (stN σ pn)))), (6, .int (nI (mm + 1))), (7, .int (nI (tot σ pn ((gs σ pn nn dn mm).1 + 1))))]) hx hb dX7_go_325 hl (k := 11) rfl (nI_1 _) (by decide) rfl (fun ls hl => ?_)
                                        refine lv_goto (tgt := 127) hx hb dX7_go_328 (by decide) ?_
                                        exact ih3 (i + 1) (by omega) _ H locs (GL_dec hJ (by unfold gDc; first | (rw [c_223]; rfl) | (rw [c_228, Bool.or_true])) rfl rfl rfl) hH hS ls (lv_sub hl [4, 5, 6, 7, 8, 9, 10, 11, 0] rfl)
                                      refine m_ifeqB (tgt := 312) hx hb dX7_go_298 (by decide) (fun c_298 => ?_) (fun c_298 => ?_)
                                      · refine lv_lconst (v := lN 0) hx hb dX7_go_312 rfl ?_
                                        refine m_toj (lN (fO σ pn ((gs σ pn nn dn mm).1) (mm + 1) nn dn ((gs σ pn nn dn mm).2.1) i)) (by unfold fO; rw [c_298]; rfl) ?_
                                        exact J_298 ls (lv_sub hl [0, 1, 2, 3, 4, 5, 6, 7, 8, 9, 10, 11] rfl)
                                      · refine lv_lload hx hb dX7_go_301 (lv_at hl 0 rfl) ?_
                                        refine lv_iload_n hx hb dX7_go_303 rfl (lv_at hl 6 rfl) ?_
                                        refine lv_iload hx hb dX7_go_304 (lv_at hl 11 rfl) ?_
                                        refine lv_isub hx hb dX7_go_306 ?_
                                        refine lv_i2l hx hb dX7_go_307 rfl ?_
                                        refine lv_lmul hx hb dX7_go_308 ?_
                                        refine lv_goto (tgt := 313) hx hb dX7_go_309 (by decide) ?_
                                        refine m_toj (lN (fO σ pn ((gs σ pn nn dn mm).1) (mm + 1) nn dn ((gs σ pn nn dn mm).2.1) i)) (by unfold fO; rw [c_298]; exact go_st _ _ _ _ (by omega) (by omega)) ?_
                                        exact J_298 ls (lv_sub hl [0, 1, 2, 3, 4, 5, 6, 7, 8, 9, 10, 11] rfl)
                                    refine m_ifeqB (tgt := 286) hx hb dX7_go_278 (by decide) (fun c_278 => ?_) (fun c_278 => ?_)
                                    · refine lv_lconst (v := lN 0) hx hb dX7_go_286 rfl ?_
                                      refine m_toj (lN (fT σ pn ((gs σ pn nn dn mm).1) (mm + 1) nn dn ((gs σ pn nn dn mm).2.1) i)) (by unfold fT; rw [c_278]; rfl) ?_
                                      exact J_278 ls (lv_sub hl [0, 1, 2, 3, 4, 5, 6, 7, 8, 9, 10, 11] rfl)
                                    · refine lv_lload hx hb dX7_go_281 (lv_at hl 0 rfl) ?_
                                      refine lv_goto (tgt := 287) hx hb dX7_go_283 (by decide) ?_
                                      refine m_toj (lN (fT σ pn ((gs σ pn nn dn mm).1) (mm + 1) nn dn ((gs σ pn nn dn mm).2.1) i)) (by unfold fT; rw [c_278]; rfl) ?_
                                      exact J_278 ls (lv_sub hl [0, 1, 2, 3, 4, 5, 6, 7, 8, 9, 10, 11] rfl)
                                  · refine lv_goto (tgt := 325) hx hb dX7_go_231 (by decide) ?_
                                    refine lv_iinc (v := nI (i + 1)) (lv' := [(8, .int (nI (i + 1))), (10, .int (bI (gTk σ pn ((gs σ pn nn dn mm).1) (mm + 1) i))), (9, .int (bI (gRf σ pn ((gs σ pn nn dn mm).1) i))), (0, .ref (B.1 0 0)), (1, .int (nI pn)), (2, .int (nI nn)), (3, .int (nI dn)), (4, .int (nI ((gs σ pn nn dn mm).1))), (5, .int (nI (tot σ pn (stN σ pn)))), (6, .int (nI (mm + 1))), (7, .int (nI (tot σ pn ((gs σ pn nn dn mm).1 + 1))))]) hx hb dX7_go_325 hl (k := 10) rfl (nI_1 _) (by decide) rfl (fun ls hl => ?_)
                                    refine lv_goto (tgt := 127) hx hb dX7_go_328 (by decide) ?_
                                    exact ih3 (i + 1) (by omega) _ H locs (GL_skip hJ (by first | exact Or.inr c_156 | exact Or.inl (by unfold gDc; rw [c_223, c_228]; rfl))) hH hS ls (lv_sub hl [3, 4, 5, 6, 7, 8, 9, 10, 0] rfl)
                              refine m_ifneB (tgt := 218) hx hb dX7_go_188 (by decide) (fun c_188 => ?_) (fun c_188 => ?_)
                              · refine lv_iconst (v := nI 0) hx hb dX7_go_218 (by decide) ?_
                                refine m_toe (bI (gTk σ pn ((gs σ pn nn dn mm).1) (mm + 1) i)) (bI_f (by unfold gTk; first | (rw [c_188]; rfl) | (rw [c_188, decide_eq_false c_195]; rfl) | (rw [c_188, decide_eq_true c_195, decide_eq_false (by rw [i_lt, nI_I (by omega)] at c_211; unfold acI; omega)]; rfl))) ?_
                                exact J_188 ls (lv_sub hl [0, 1, 2, 3, 4, 5, 6, 7, 8, 9] rfl)
                              · refine lv_iload hx hb dX7_go_191 (lv_at hl 7 rfl) ?_
                                refine lv_iload hx hb dX7_go_193 (lv_at hl 8 rfl) ?_
                                refine m_icmp_neN (tgt := 218) (by omega) (by omega) hx hb dX7_go_195 (by decide) (fun c_195 => ?_) (fun c_195 => ?_)
                                · refine lv_iconst (v := nI 0) hx hb dX7_go_218 (by decide) ?_
                                  refine m_toe (bI (gTk σ pn ((gs σ pn nn dn mm).1) (mm + 1) i)) (bI_f (by unfold gTk; first | (rw [c_188]; rfl) | (rw [c_188, decide_eq_false c_195]; rfl) | (rw [c_188, decide_eq_true c_195, decide_eq_false (by rw [i_lt, nI_I (by omega)] at c_211; unfold acI; omega)]; rfl))) ?_
                                  exact J_188 ls (lv_sub hl [0, 1, 2, 3, 4, 5, 6, 7, 8, 9] rfl)
                                · refine lv_iload hx hb dX7_go_198 (lv_at hl 9 rfl) ?_
                                  refine lv_aload_n hx hb dX7_go_200 rfl (lv_at hl 1 rfl) ?_
                                  refine gf_X7_16 hx hb hown hK hH (bm hM 0) dX7_go_201 ?_
                                  refine lv_iconst (v := nI 4) hx hb dX7_go_204 (by decide) ?_
                                  refine lv_iload_n hx hb dX7_go_205 rfl (lv_at hl 2 rfl) ?_
                                  refine m_imulN hx hb dX7_go_206 ?_
                                  refine lv_iload hx hb dX7_go_207 (lv_at hl 5 rfl) ?_
                                  refine m_iaddN hx hb dX7_go_209 ?_
                                  refine m_iald hx hb hK hH (n := 96) (bm hM 5) (fun _ _ => rfl) (4 * pn + ((gs σ pn nn dn mm).1)) (rfl) (by omega) (by decide) dX7_go_210 ?_
                                  refine m_toe (σ.1 5 0 (4 * pn + (gs σ pn nn dn mm).1)) (by rw [sJ_I, hJ.1.1]) ?_
                                  refine lv_icmp_gt (tgt := 218) hx hb dX7_go_211 (by decide) (fun c_211 => ?_) (fun c_211 => ?_)
                                  · refine lv_iconst (v := nI 0) hx hb dX7_go_218 (by decide) ?_
                                    refine m_toe (bI (gTk σ pn ((gs σ pn nn dn mm).1) (mm + 1) i)) (bI_f (by unfold gTk; first | (rw [c_188]; rfl) | (rw [c_188, decide_eq_false c_195]; rfl) | (rw [c_188, decide_eq_true c_195, decide_eq_false (by rw [i_lt, nI_I (by omega)] at c_211; unfold acI; omega)]; rfl))) ?_
                                    exact J_188 ls (lv_sub hl [0, 1, 2, 3, 4, 5, 6, 7, 8, 9] rfl)
                                  · refine lv_iconst (v := nI 1) hx hb dX7_go_214 (by decide) ?_
                                    refine lv_goto (tgt := 219) hx hb dX7_go_215 (by decide) ?_
                                    refine m_toe (bI (gTk σ pn ((gs σ pn nn dn mm).1) (mm + 1) i)) (bI_t (by unfold gTk; rw [c_188, decide_eq_true c_195, decide_eq_true (by rw [i_lt, nI_I (by omega)] at c_211; unfold acI; omega)]; rfl)) ?_
                                    exact J_188 ls (lv_sub hl [0, 1, 2, 3, 4, 5, 6, 7, 8, 9] rfl)
                            refine lv_icmp_lt (tgt := 183) hx hb dX7_go_176 (by decide) (fun c_176 => ?_) (fun c_176 => ?_)
                            · refine lv_iconst (v := nI 0) hx hb dX7_go_183 (by decide) ?_
                              refine m_toe (bI (gRf σ pn ((gs σ pn nn dn mm).1) i)) (bI_f (decide_eq_false (by rw [i_lt, nI_I (by omega)] at c_176; unfold rfI; omega))) ?_
                              exact J_176 ls (lv_sub hl [0, 1, 2, 3, 4, 5, 6, 7, 8] rfl)
                            · refine lv_iconst (v := nI 1) hx hb dX7_go_179 (by decide) ?_
                              refine lv_goto (tgt := 184) hx hb dX7_go_180 (by decide) ?_
                              refine m_toe (bI (gRf σ pn ((gs σ pn nn dn mm).1) i)) (bI_t (decide_eq_true (by rw [i_lt, nI_I (by omega)] at c_176; unfold rfI; omega))) ?_
                              exact J_176 ls (lv_sub hl [0, 1, 2, 3, 4, 5, 6, 7, 8] rfl)
                          · refine lv_goto (tgt := 325) hx hb dX7_go_160 (by decide) ?_
                            refine lv_iinc (v := nI (i + 1)) (lv' := [(8, .int (nI (i + 1))), (0, .ref (B.1 0 0)), (1, .int (nI pn)), (2, .int (nI nn)), (3, .int (nI dn)), (4, .int (nI ((gs σ pn nn dn mm).1))), (5, .int (nI (tot σ pn (stN σ pn)))), (6, .int (nI (mm + 1))), (7, .int (nI (tot σ pn ((gs σ pn nn dn mm).1 + 1))))]) hx hb dX7_go_325 hl (k := 8) rfl (nI_1 _) (by decide) rfl (fun ls hl => ?_)
                            refine lv_goto (tgt := 127) hx hb dX7_go_328 (by decide) ?_
                            exact ih3 (i + 1) (by omega) _ H locs (GL_skip hJ (by first | exact Or.inr c_156 | exact Or.inl (by unfold gDc; rw [c_223, c_228]; rfl))) hH hS ls (lv_sub hl [1, 2, 3, 4, 5, 6, 7, 8, 0] rfl)
                    exact loop3 63 0 (by omega) τ2 H locs (GA_L pn ((gs σ pn nn dn mm).1) (mm + 1) nn dn hJ) hH hS ls (lv_sub hl [2, 3, 4, 5, 6, 7, 8, 1, 0] rfl)
                  · refine lv_aload_n hx hb dX7_go_76 rfl (lv_at hl 0 rfl) ?_
                    refine gf_X7_82 hx hb hown hK hH (bm hM 0) dX7_go_77 ?_
                    refine lv_iload hx hb dX7_go_80 (lv_at hl 7 rfl) ?_
                    refine lv_aload_n hx hb dX7_go_82 rfl (lv_at hl 0 rfl) ?_
                    refine gf_X7_79 hx hb hown hK hH (bm hM 0) dX7_go_83 ?_
                    refine lv_iload hx hb dX7_go_86 (lv_at hl 7 rfl) ?_
                    refine m_lald hx hb hK hH (n := 62) (bm hM 26) (fun _ _ => rfl) (i) (rfl) (by omega) (by decide) dX7_go_88 ?_
                    refine m_toj (lN ((gs σ pn nn dn mm).2.1 i)) (hJ.2.1 i (by omega)) ?_
                    refine lv_iload hx hb dX7_go_89 (lv_at hl 7 rfl) ?_
                    have J_91 : ∀ (ls : Array Slot), lv_has ls 13 [(0, .ref (B.1 0 0)), (1, .int (nI pn)), (2, .int (nI nn)), (3, .int (nI dn)), (4, .int (nI ((gs σ pn nn dn mm).1))), (5, .int (nI (tot σ pn (stN σ pn)))), (6, .int (nI (mm + 1))), (7, .int (nI i))] → W p l e ({ frames := 2, cells := 0, slots := 0, locals := 45 } : Room) s m ([.ref (B.1 0 0), .int (nI pn), .int (nI nn), .int (nI dn)] : List Value).toArray below meth c H locs 0 0 (MQ below (mQv G B (fun τ => goP σ τ pn nn dn)) ([.ref (B.1 0 0), .int (nI pn), .int (nI nn), .int (nI dn)] : List Value).toArray s 0 0 (mA G)) (F0 m 107 ls [.long (lN (if i = 0 then 0 else (gs σ pn nn dn mm).2.1 (i - 1))), .long (lN ((gs σ pn nn dn mm).2.1 i)), .int (nI i), .ref (B.1 27 0)]) := by
                      intro ls hl
                      refine m_laddN hx hb dX7_go_107 ?_
                      refine m_last hx hb hK hH hS (n := 62) (bm hM 27) (fun _ _ => rfl) (i) (rfl) (by omega) (by decide) dX7_go_108 (fun H locs hH hS => ?_)
                      refine lv_iinc (v := nI (i + 1)) (lv' := [(7, .int (nI (i + 1))), (0, .ref (B.1 0 0)), (1, .int (nI pn)), (2, .int (nI nn)), (3, .int (nI dn)), (4, .int (nI ((gs σ pn nn dn mm).1))), (5, .int (nI (tot σ pn (stN σ pn)))), (6, .int (nI (mm + 1)))]) hx hb dX7_go_109 hl (k := 7) rfl (nI_1 _) (by decide) rfl (fun ls hl => ?_)
                      refine lv_goto (tgt := 69) hx hb dX7_go_112 (by decide) ?_
                      exact ih2 (i + 1) (by omega) _ H locs (GA_put hJ _ rfl) hH hS ls (lv_sub hl [1, 2, 3, 4, 5, 6, 7, 0] rfl)
                    refine lv_if_le (tgt := 106) hx hb dX7_go_91 (by decide) (fun c_91 => ?_) (fun c_91 => ?_)
                    · refine lv_lconst (v := lN 0) hx hb dX7_go_106 rfl ?_
                      refine m_toj (lN (if i = 0 then 0 else (gs σ pn nn dn mm).2.1 (i - 1))) (by rw [if_pos (by rw [i_le, i0, nI_I (by omega)] at c_91; omega)]) ?_
                      exact J_91 ls (lv_sub hl [0, 1, 2, 3, 4, 5, 6, 7] rfl)
                    · have hi0 : 0 < i := by rw [i_le, i0, nI_I (by omega)] at c_91; omega
                      refine lv_aload_n hx hb dX7_go_94 rfl (lv_at hl 0 rfl) ?_
                      refine gf_X7_79 hx hb hown hK hH (bm hM 0) dX7_go_95 ?_
                      refine lv_iload hx hb dX7_go_98 (lv_at hl 7 rfl) ?_
                      refine lv_iconst (v := nI 1) hx hb dX7_go_100 (by decide) ?_
                      refine m_isubN (by omega) hx hb dX7_go_101 ?_
                      refine m_lald hx hb hK hH (n := 62) (bm hM 26) (fun _ _ => rfl) (i - 1) (rfl) (by omega) (by decide) dX7_go_102 ?_
                      refine m_toj (lN ((gs σ pn nn dn mm).2.1 (i - 1))) (hJ.2.1 (i - 1) (by omega)) ?_
                      refine lv_goto (tgt := 107) hx hb dX7_go_103 (by decide) ?_
                      refine m_toj (lN (if i = 0 then 0 else (gs σ pn nn dn mm).2.1 (i - 1))) (by rw [if_neg (by omega)]) ?_
                      exact J_91 ls (lv_sub hl [0, 1, 2, 3, 4, 5, 6, 7] rfl)
              exact loop2 63 0 (by omega) τ H locs hJ hH hS ls (lv_sub hl [1, 2, 3, 4, 5, 6, 7, 0] rfl)
        exact loop1 (tot σ pn (stN σ pn) + 1) 0 (by omega) _ H locs hGA hH hS ls (lv_sub hl [3, 4, 5, 6, 2, 1, 0] rfl)
      · refine lv_aload_n hx hb dX7_go_25 rfl (lv_at hl 0 rfl) ?_
        refine gf_X7_79 hx hb hown hK hH (bm hM 0) dX7_go_26 ?_
        refine lv_iload hx hb dX7_go_29 (lv_at hl 4 rfl) ?_
        refine lv_lconst (v := lN 0) hx hb dX7_go_31 rfl ?_
        refine m_last hx hb hK hH hS (n := 62) (bm hM 26) (fun _ _ => rfl) (i) (rfl) (by omega) (by decide) dX7_go_32 (fun H locs hH hS => ?_)
        refine lv_iinc (v := nI (i + 1)) (lv' := [(4, .int (nI (i + 1))), (0, .ref (B.1 0 0)), (1, .int (nI pn)), (2, .int (nI nn)), (3, .int (nI dn))]) hx hb dX7_go_33 hl (k := 4) rfl (nI_1 _) (by decide) rfl (fun ls hl => ?_)
        refine lv_goto (tgt := 18) hx hb dX7_go_36 (by decide) ?_
        exact ih (i + 1) (by omega) _ H locs (GZ_put hJ) hH hS ls (lv_sub hl [1, 2, 3, 4, 0] rfl)
  refine lv_aload_n hx hb dX7_go_0 rfl (lv_at hl 0 rfl) ?_
  refine lv_lconst (v := lN 0) hx hb dX7_go_1 rfl ?_
  refine pf_X7_114 hx hb hown hK hH hS (bm hM 0) dX7_go_2 (fun H locs hH hS => ?_)
  refine lv_aload_n hx hb dX7_go_5 rfl (lv_at hl 0 rfl) ?_
  refine lv_lconst (v := lN 0) hx hb dX7_go_6 rfl ?_
  refine pf_X7_117 hx hb hown hK hH hS (bm hM 0) dX7_go_7 (fun H locs hH hS => ?_)
  refine lv_aload_n hx hb dX7_go_10 rfl (lv_at hl 0 rfl) ?_
  refine lv_lconst (v := lN 0) hx hb dX7_go_11 rfl ?_
  refine pf_X7_120 hx hb hown hK hH hS (bm hM 0) dX7_go_12 (fun H locs hH hS => ?_)
  refine lv_iconst (v := nI 0) hx hb dX7_go_15 (by decide) ?_
  refine lv_istore (lv' := [(4, .int (nI 0)), (0, .ref (B.1 0 0)), (1, .int (nI pn)), (2, .int (nI nn)), (3, .int (nI dn))]) hx hb dX7_go_16 hl (by decide) rfl (fun ls hl => ?_)
  exact loop0 63 0 (by omega) _ H locs (GZ_0 σ) hH hS ls (lv_sub hl [1, 2, 3, 4, 0] rfl)
