theorem sg3_l (a b : Nat) : sg3 a b < 0 ↔ a < b := by
  unfold sg3
  by_cases h : a < b
  · rw [if_pos h]; exact ⟨fun _ => h, fun _ => by decide⟩
  · rw [if_neg h]
    by_cases h2 : b < a
    · rw [if_pos h2]; exact ⟨fun q => absurd q (by decide), fun q => absurd q h⟩
    · rw [if_neg h2]; exact ⟨fun q => absurd q (by decide), fun q => absurd q h⟩
theorem sg3_g (a b : Nat) : 0 < sg3 a b ↔ b < a := by
  unfold sg3
  by_cases h : a < b
  · rw [if_pos h]; exact ⟨fun q => absurd q (by decide), fun q => by omega⟩
  · rw [if_neg h]
    by_cases h2 : b < a
    · rw [if_pos h2]; exact ⟨fun _ => h2, fun _ => by decide⟩
    · rw [if_neg h2]; exact ⟨fun q => absurd q (by decide), fun q => absurd q h2⟩
theorem i_subN {a b : Nat} (ha : a < 2147483648) (hb : b < 2147483648) : (nI a - nI b).toInt = (a : Int) - b := by
  rw [i_sub (by rw [nI_I ha, nI_I hb]; omega) (by rw [nI_I ha, nI_I hb]; omega), nI_I ha, nI_I hb]
/-- does a single plan hold for one RISK, for both -/
def hl1 (σ : gS) (nn cn lt r : Nat) : Bool := !(isRk σ r) || (if r = 0 then decide (ch lt (rAt σ r) * rUp σ r ≤ hs nn lt (rAt σ r) (cn + 1) * rDn σ r) else decide (hs nn lt (rAt σ r) (cn + 1) * rDn σ r ≤ ch lt (rAt σ r) * rUp σ r))
def hac (σ : gS) (nn cn lt : Nat) : Nat → Bool
  | 0 => true
  | r + 1 => hac σ nn cn lt r && hl1 σ nn cn lt r
def hld (σ : gS) (nn cn lt : Nat) : Bool := hac σ nn cn lt 2
theorem hac_off {σ : gS} {nn cn lt r : Nat} (h : isRk σ r = false) : hac σ nn cn lt (r + 1) = hac σ nn cn lt r := by
  show (hac σ nn cn lt r && hl1 σ nn cn lt r) = _
  unfold hl1
  rw [h]; simp
theorem hac_f {σ : gS} {nn cn lt r : Nat} (h : hac σ nn cn lt r = false) : nI 0 = bI (hac σ nn cn lt (r + 1)) := by
  show _ = bI (hac σ nn cn lt r && hl1 σ nn cn lt r)
  rw [h]; rfl
theorem hac_0 {σ : gS} {nn cn lt r : Nat} (h : hac σ nn cn lt r = true) (hk : isRk σ r = true) (hr : r = 0) : hac σ nn cn lt (r + 1) = decide (¬ sg3 (hs nn lt (rAt σ r) (cn + 1) * rDn σ r) (ch lt (rAt σ r) * rUp σ r) < 0) := by
  show (hac σ nn cn lt r && hl1 σ nn cn lt r) = _
  unfold hl1
  rw [h, hk, if_pos hr]
  simp only [sg3_l, Nat.not_lt]
  rfl
theorem hac_1 {σ : gS} {nn cn lt r : Nat} (h : hac σ nn cn lt r = true) (hk : isRk σ r = true) (hr : 0 < r) : hac σ nn cn lt (r + 1) = decide (¬ 0 < sg3 (hs nn lt (rAt σ r) (cn + 1) * rDn σ r) (ch lt (rAt σ r) * rUp σ r)) := by
  show (hac σ nn cn lt r && hl1 σ nn cn lt r) = _
  unfold hl1
  rw [h, hk, if_neg (by omega)]
  simp only [sg3_g, Nat.not_lt]
  rfl
set_option maxHeartbeats 4000000 in
set_option maxRecDepth 100000 in
theorem c_X7_holds (l : Launch) (G : gG) (B : gB) (σ : gS) (hM : BkM B) (hR : WfR σ) (hW : WfCh σ) (nn cn lt : Nat) (hnl : nn ≤ lt) (h60 : lt ≤ 60) (hcn : cn ≤ nn) : Met l yX7_holds [.code yX7_holds cX7_holds 10 (some .boolean)] ({ frames := 1, cells := 0, slots := 0, locals := 37 } : Room) (mPc G B σ [.ref (B.1 0 0), .int (nI nn), .int (nI cn), .int (nI lt)]) (mQi G B (fun r σ' => r = bI (hld σ nn cn lt) ∧ σ' = σ)) 0 0 (mA G) := by
  refine m_start (by decide) (Nat.le_of_ble_eq_true rfl) ?_
  intro p e s m below meth c ⟨hx, hb, hr, hml, hown, hK, hlk, hz⟩ hH hS ls hl
  have hl : lv_has ls 10 [(0, .ref (B.1 0 0)), (1, .int (nI nn)), (2, .int (nI cn)), (3, .int (nI lt))] := hl
  have loop : ∀ (n : Nat) (j : Nat), j ≤ 2 ∧ 2 < j + n → ∀ (H : Heap) (locs : List Loc), Hp G B σ H → va_S (mA G) s.heap H locs → ∀ (ls : Array Slot), lv_has ls 10 [(0, .ref (B.1 0 0)), (1, .int (nI nn)), (2, .int (nI cn)), (3, .int (nI lt)), (4, .int (bI (hac σ nn cn lt j))), (5, .int (nI j))] → W p l e ({ frames := 1, cells := 0, slots := 0, locals := 37 } : Room) s m ([.ref (B.1 0 0), .int (nI nn), .int (nI cn), .int (nI lt)] : List Value).toArray below meth c H locs 0 0 (MQ below (mQi G B (fun r σ' => r = bI (hld σ nn cn lt) ∧ σ' = σ)) ([.ref (B.1 0 0), .int (nI nn), .int (nI cn), .int (nI lt)] : List Value).toArray s 0 0 (mA G)) (F0 m 6 ls []) := by
    intro n
    induction n with
    | zero => intro j hh; exfalso; omega
    | succ n ih =>
      intro j hh H locs hH hS ls hl
      refine lv_iload hx hb dX7_holds_6 (lv_at hl 5 rfl) ?_
      refine lv_iconst (v := nI 2) hx hb dX7_holds_8 (by decide) ?_
      refine m_icmp_geN (tgt := 141) (by omega) (by omega) hx hb dX7_holds_9 (by decide) (fun c_9 => ?_) (fun c_9 => ?_)
      · have hj : j = 2 := by omega
        subst hj
        refine lv_iload hx hb dX7_holds_141 (lv_at hl 4 rfl) ?_
        exact m_zret hx hb hr hlk hH hS dX7_holds_143 (by first | exact Or.inl rfl | exact Or.inr rfl | exact bI_01 _) (⟨rfl, rfl⟩)
      · refine lv_aload_n hx hb dX7_holds_12 rfl (lv_at hl 0 rfl) ?_
        refine gf_X7_39 hx hb hown hK hH (bm hM 0) dX7_holds_13 ?_
        refine lv_iload hx hb dX7_holds_16 (lv_at hl 5 rfl) ?_
        refine m_zald hx hb hK hH (n := 2) (bm hM 13) (fun _ _ => rfl) (j) (rfl) (by omega) (by decide) dX7_holds_18 ?_
        refine m_toe (bI (isRk σ j)) ((hR j (by omega)).1) ?_
        refine m_ifneB (tgt := 25) hx hb dX7_holds_19 (by decide) (fun c_19 => ?_) (fun c_19 => ?_)
        · have hk := (hR j (by omega)).2 c_19
          refine lv_aload_n hx hb dX7_holds_25 rfl (lv_at hl 0 rfl) ?_
          refine gf_X7_30 hx hb hown hK hH (bm hM 0) dX7_holds_26 ?_
          refine lv_iload hx hb dX7_holds_29 (lv_at hl 5 rfl) ?_
          refine m_iald hx hb hK hH (n := 2) (bm hM 10) (fun _ _ => rfl) (j) (rfl) (by omega) (by decide) dX7_holds_31 ?_
          refine m_toi (rAt σ j) (hk.1) ?_
          refine lv_istore (lv' := [(6, .int (nI (rAt σ j))), (0, .ref (B.1 0 0)), (1, .int (nI nn)), (2, .int (nI cn)), (3, .int (nI lt)), (4, .int (bI (hac σ nn cn lt j))), (5, .int (nI j))]) hx hb dX7_holds_32 hl (by decide) rfl (fun ls hl => ?_)
          refine lv_lconst (v := lN 0) hx hb dX7_holds_34 rfl ?_
          refine lv_lstore (lv' := [(7, .long (lN 0)), (6, .int (nI (rAt σ j))), (0, .ref (B.1 0 0)), (1, .int (nI nn)), (2, .int (nI cn)), (3, .int (nI lt)), (4, .int (bI (hac σ nn cn lt j))), (5, .int (nI j))]) hx hb dX7_holds_35 hl (by decide) rfl (fun ls hl => ?_)
          refine lv_iconst (v := nI 0) hx hb dX7_holds_37 (by decide) ?_
          refine lv_istore (lv' := [(9, .int (nI 0)), (7, .long (lN 0)), (6, .int (nI (rAt σ j))), (0, .ref (B.1 0 0)), (1, .int (nI nn)), (2, .int (nI cn)), (3, .int (nI lt)), (4, .int (bI (hac σ nn cn lt j))), (5, .int (nI j))]) hx hb dX7_holds_38 hl (by decide) rfl (fun ls hl => ?_)
          have loopi : ∀ (n2 : Nat) (i : Nat), i ≤ cn + 1 ∧ cn + 1 < i + n2 → ∀ (H : Heap) (locs : List Loc), Hp G B σ H → va_S (mA G) s.heap H locs → ∀ (ls : Array Slot), lv_has ls 10 [(0, .ref (B.1 0 0)), (1, .int (nI nn)), (2, .int (nI cn)), (3, .int (nI lt)), (4, .int (bI (hac σ nn cn lt j))), (5, .int (nI j)), (6, .int (nI (rAt σ j))), (7, .long (lN (hs nn lt (rAt σ j) i))), (9, .int (nI i))] → W p l e ({ frames := 1, cells := 0, slots := 0, locals := 37 } : Room) s m ([.ref (B.1 0 0), .int (nI nn), .int (nI cn), .int (nI lt)] : List Value).toArray below meth c H locs 0 0 (MQ below (mQi G B (fun r σ' => r = bI (hld σ nn cn lt) ∧ σ' = σ)) ([.ref (B.1 0 0), .int (nI nn), .int (nI cn), .int (nI lt)] : List Value).toArray s 0 0 (mA G)) (F0 m 40 ls []) := by
            intro n2
            induction n2 with
            | zero => intro i hhi; exfalso; omega
            | succ n2 ihi =>
              intro i hhi H locs hH hS ls hl
              refine lv_iload hx hb dX7_holds_40 (lv_at hl 8 rfl) ?_
              refine lv_iload_n hx hb dX7_holds_42 rfl (lv_at hl 2 rfl) ?_
              refine m_icmp_gtN (tgt := 77) (by omega) (by omega) hx hb dX7_holds_43 (by decide) (fun c_43 => ?_) (fun c_43 => ?_)
              · have hi : i = cn + 1 := by omega
                subst hi
                have hsl := hs_le (n := nn) (lot := lt) (d := rAt σ j) (c := cn + 1) hnl
                have hcl := ch_lt (k := rAt σ j) h60
                refine lv_lload hx hb dX7_holds_77 (lv_at hl 7 rfl) ?_
                refine lv_aload_n hx hb dX7_holds_79 rfl (lv_at hl 0 rfl) ?_
                refine gf_X7_36 hx hb hown hK hH (bm hM 0) dX7_holds_80 ?_
                refine lv_iload hx hb dX7_holds_83 (lv_at hl 5 rfl) ?_
                refine m_iald hx hb hK hH (n := 2) (bm hM 12) (fun _ _ => rfl) (j) (rfl) (by omega) (by decide) dX7_holds_85 ?_
                refine m_toi (rDn σ j) (hk.2.2.2.1) ?_
                refine lv_aload_n hx hb dX7_holds_86 rfl (lv_at hl 0 rfl) ?_
                refine lv_iload_n hx hb dX7_holds_87 rfl (lv_at hl 3 rfl) ?_
                refine lv_iload hx hb dX7_holds_88 (lv_at hl 6 rfl) ?_
                refine m_kl (m_runV (k := 0) (i := 0) (ci := 7) ⟨hx, hb, hml, hown, hz⟩ hK hH hS (bm hM 0) rfl rfl (c_X7_ways l G B σ hM lt (nI (rAt σ j)) h60 hW) mw_X7_ways wl_X7_123 ⟨rfl, rfl⟩ ⟨by decide, by decide⟩ rfl hl.1 rfl (Nat.le_of_ble_eq_true rfl) dX7_holds_90 ⟨Nat.zero_le _, Nat.zero_le _⟩) hS (fun r_90 σ_90 H locs hp hH hS => ?_)
                obtain ⟨hr1, hs1⟩ := hp
                rw [hs1] at hH
                rw [nI_I (by omega), chZ_nat] at hr1
                subst hr1
                refine lv_aload_n hx hb dX7_holds_93 rfl (lv_at hl 0 rfl) ?_
                refine gf_X7_33 hx hb hown hK hH (bm hM 0) dX7_holds_94 ?_
                refine lv_iload hx hb dX7_holds_97 (lv_at hl 5 rfl) ?_
                refine m_iald hx hb hK hH (n := 2) (bm hM 11) (fun _ _ => rfl) (j) (rfl) (by omega) (by decide) dX7_holds_99 ?_
                refine m_toi (rUp σ j) (hk.2.2.1) ?_
                refine m_ki (m_runS ⟨hx, hb, hml, hown, hz⟩ hK hH hS (c_X7_against l G B σ (hs nn lt (rAt σ j) (cn + 1)) (rDn σ j) (ch lt (rAt σ j)) (rUp σ j) (by omega) (by omega) (by omega) (by omega)) mw_X7_against wl_X7_158 ⟨rfl, rfl⟩ ⟨by decide, by decide⟩ rfl hl.1 rfl (Nat.le_of_ble_eq_true rfl) dX7_holds_100 ⟨Nat.zero_le _, Nat.zero_le _⟩) hS (fun r_100 σ_100 H locs hp hH hS => ?_)
                obtain ⟨hr1, hs1⟩ := hp
                subst hr1
                rw [hs1] at hH
                refine lv_istore (lv' := [(9, .int (sg3 (hs nn lt (rAt σ j) (cn + 1) * rDn σ j) (ch lt (rAt σ j) * rUp σ j))), (0, .ref (B.1 0 0)), (1, .int (nI nn)), (2, .int (nI cn)), (3, .int (nI lt)), (4, .int (bI (hac σ nn cn lt j))), (5, .int (nI j)), (6, .int (nI (rAt σ j))), (7, .long (lN (hs nn lt (rAt σ j) (cn + 1))))]) hx hb dX7_holds_103 hl (by decide) rfl (fun ls hl => ?_)
                refine lv_iload hx hb dX7_holds_105 (lv_at hl 5 rfl) ?_
                refine m_ifeqB (tgt := 132) hx hb dX7_holds_107 (by decide) (fun c_107 => ?_) (fun c_107 => ?_)
                · refine lv_iconst (v := nI 0) hx hb dX7_holds_132 (by decide) ?_
                  refine m_toe (bI (hac σ nn cn lt (j + 1))) (by first | exact hac_f c_107 | exact bI_f (by rw [hac_0 c_107 c_19 c_112]; exact decide_eq_false (fun q => q c_117)) | exact bI_f (by rw [hac_1 c_107 c_19 c_112]; exact decide_eq_false (fun q => q c_125))) ?_
                  refine lv_istore (lv' := [(4, .int (bI (hac σ nn cn lt (j + 1)))), (9, .int (sg3 (hs nn lt (rAt σ j) (cn + 1) * rDn σ j) (ch lt (rAt σ j) * rUp σ j))), (0, .ref (B.1 0 0)), (1, .int (nI nn)), (2, .int (nI cn)), (3, .int (nI lt)), (5, .int (nI j)), (6, .int (nI (rAt σ j))), (7, .long (lN (hs nn lt (rAt σ j) (cn + 1))))]) hx hb dX7_holds_133 hl (by decide) rfl (fun ls hl => ?_)
                  refine lv_iinc (v := nI (j + 1)) (lv' := [(5, .int (nI (j + 1))), (4, .int (bI (hac σ nn cn lt (j + 1)))), (9, .int (sg3 (hs nn lt (rAt σ j) (cn + 1) * rDn σ j) (ch lt (rAt σ j) * rUp σ j))), (0, .ref (B.1 0 0)), (1, .int (nI nn)), (2, .int (nI cn)), (3, .int (nI lt)), (6, .int (nI (rAt σ j))), (7, .long (lN (hs nn lt (rAt σ j) (cn + 1))))]) hx hb dX7_holds_135 hl (k := 6) rfl (nI_1 _) (by decide) rfl (fun ls hl => ?_)
                  refine lv_goto (tgt := 6) hx hb dX7_holds_138 (by decide) ?_
                  exact ih (j + 1) (by omega) H locs hH hS ls (lv_sub hl [3, 4, 5, 6, 1, 0] rfl)
                · refine lv_iload hx hb dX7_holds_110 (lv_at hl 6 rfl) ?_
                  refine m_ifneN (tgt := 123) (by omega) hx hb dX7_holds_112 (by decide) (fun c_112 => ?_) (fun c_112 => ?_)
                  · refine lv_iload hx hb dX7_holds_123 (lv_at hl 0 rfl) ?_
                    refine lv_if_gt (tgt := 132) hx hb dX7_holds_125 (by decide) (fun c_125 => ?_) (fun c_125 => ?_)
                    · refine lv_iconst (v := nI 0) hx hb dX7_holds_132 (by decide) ?_
                      refine m_toe (bI (hac σ nn cn lt (j + 1))) (by first | exact hac_f c_107 | exact bI_f (by rw [hac_0 c_107 c_19 c_112]; exact decide_eq_false (fun q => q c_117)) | exact bI_f (by rw [hac_1 c_107 c_19 c_112]; exact decide_eq_false (fun q => q c_125))) ?_
                      refine lv_istore (lv' := [(4, .int (bI (hac σ nn cn lt (j + 1)))), (9, .int (sg3 (hs nn lt (rAt σ j) (cn + 1) * rDn σ j) (ch lt (rAt σ j) * rUp σ j))), (0, .ref (B.1 0 0)), (1, .int (nI nn)), (2, .int (nI cn)), (3, .int (nI lt)), (5, .int (nI j)), (6, .int (nI (rAt σ j))), (7, .long (lN (hs nn lt (rAt σ j) (cn + 1))))]) hx hb dX7_holds_133 hl (by decide) rfl (fun ls hl => ?_)
                      refine lv_iinc (v := nI (j + 1)) (lv' := [(5, .int (nI (j + 1))), (4, .int (bI (hac σ nn cn lt (j + 1)))), (9, .int (sg3 (hs nn lt (rAt σ j) (cn + 1) * rDn σ j) (ch lt (rAt σ j) * rUp σ j))), (0, .ref (B.1 0 0)), (1, .int (nI nn)), (2, .int (nI cn)), (3, .int (nI lt)), (6, .int (nI (rAt σ j))), (7, .long (lN (hs nn lt (rAt σ j) (cn + 1))))]) hx hb dX7_holds_135 hl (k := 6) rfl (nI_1 _) (by decide) rfl (fun ls hl => ?_)
                      refine lv_goto (tgt := 6) hx hb dX7_holds_138 (by decide) ?_
                      exact ih (j + 1) (by omega) H locs hH hS ls (lv_sub hl [3, 4, 5, 6, 1, 0] rfl)
                    · refine lv_iconst (v := nI 1) hx hb dX7_holds_128 (by decide) ?_
                      refine lv_goto (tgt := 133) hx hb dX7_holds_129 (by decide) ?_
                      refine m_toe (bI (hac σ nn cn lt (j + 1))) (by first | exact bI_t (by rw [hac_0 c_107 c_19 c_112]; exact decide_eq_true c_117) | exact bI_t (by rw [hac_1 c_107 c_19 c_112]; exact decide_eq_true c_125)) ?_
                      refine lv_istore (lv' := [(4, .int (bI (hac σ nn cn lt (j + 1)))), (9, .int (sg3 (hs nn lt (rAt σ j) (cn + 1) * rDn σ j) (ch lt (rAt σ j) * rUp σ j))), (0, .ref (B.1 0 0)), (1, .int (nI nn)), (2, .int (nI cn)), (3, .int (nI lt)), (5, .int (nI j)), (6, .int (nI (rAt σ j))), (7, .long (lN (hs nn lt (rAt σ j) (cn + 1))))]) hx hb dX7_holds_133 hl (by decide) rfl (fun ls hl => ?_)
                      refine lv_iinc (v := nI (j + 1)) (lv' := [(5, .int (nI (j + 1))), (4, .int (bI (hac σ nn cn lt (j + 1)))), (9, .int (sg3 (hs nn lt (rAt σ j) (cn + 1) * rDn σ j) (ch lt (rAt σ j) * rUp σ j))), (0, .ref (B.1 0 0)), (1, .int (nI nn)), (2, .int (nI cn)), (3, .int (nI lt)), (6, .int (nI (rAt σ j))), (7, .long (lN (hs nn lt (rAt σ j) (cn + 1))))]) hx hb dX7_holds_135 hl (k := 6) rfl (nI_1 _) (by decide) rfl (fun ls hl => ?_)
                      refine lv_goto (tgt := 6) hx hb dX7_holds_138 (by decide) ?_
                      exact ih (j + 1) (by omega) H locs hH hS ls (lv_sub hl [3, 4, 5, 6, 1, 0] rfl)
                  · refine lv_iload hx hb dX7_holds_115 (lv_at hl 0 rfl) ?_
                    refine lv_if_lt (tgt := 132) hx hb dX7_holds_117 (by decide) (fun c_117 => ?_) (fun c_117 => ?_)
                    · refine lv_iconst (v := nI 0) hx hb dX7_holds_132 (by decide) ?_
                      refine m_toe (bI (hac σ nn cn lt (j + 1))) (by first | exact hac_f c_107 | exact bI_f (by rw [hac_0 c_107 c_19 c_112]; exact decide_eq_false (fun q => q c_117)) | exact bI_f (by rw [hac_1 c_107 c_19 c_112]; exact decide_eq_false (fun q => q c_125))) ?_
                      refine lv_istore (lv' := [(4, .int (bI (hac σ nn cn lt (j + 1)))), (9, .int (sg3 (hs nn lt (rAt σ j) (cn + 1) * rDn σ j) (ch lt (rAt σ j) * rUp σ j))), (0, .ref (B.1 0 0)), (1, .int (nI nn)), (2, .int (nI cn)), (3, .int (nI lt)), (5, .int (nI j)), (6, .int (nI (rAt σ j))), (7, .long (lN (hs nn lt (rAt σ j) (cn + 1))))]) hx hb dX7_holds_133 hl (by decide) rfl (fun ls hl => ?_)
                      refine lv_iinc (v := nI (j + 1)) (lv' := [(5, .int (nI (j + 1))), (4, .int (bI (hac σ nn cn lt (j + 1)))), (9, .int (sg3 (hs nn lt (rAt σ j) (cn + 1) * rDn σ j) (ch lt (rAt σ j) * rUp σ j))), (0, .ref (B.1 0 0)), (1, .int (nI nn)), (2, .int (nI cn)), (3, .int (nI lt)), (6, .int (nI (rAt σ j))), (7, .long (lN (hs nn lt (rAt σ j) (cn + 1))))]) hx hb dX7_holds_135 hl (k := 6) rfl (nI_1 _) (by decide) rfl (fun ls hl => ?_)
                      refine lv_goto (tgt := 6) hx hb dX7_holds_138 (by decide) ?_
                      exact ih (j + 1) (by omega) H locs hH hS ls (lv_sub hl [3, 4, 5, 6, 1, 0] rfl)
                    · refine lv_goto (tgt := 128) hx hb dX7_holds_120 (by decide) ?_
                      refine lv_iconst (v := nI 1) hx hb dX7_holds_128 (by decide) ?_
                      refine lv_goto (tgt := 133) hx hb dX7_holds_129 (by decide) ?_
                      refine m_toe (bI (hac σ nn cn lt (j + 1))) (by first | exact bI_t (by rw [hac_0 c_107 c_19 c_112]; exact decide_eq_true c_117) | exact bI_t (by rw [hac_1 c_107 c_19 c_112]; exact decide_eq_true c_125)) ?_
                      refine lv_istore (lv' := [(4, .int (bI (hac σ nn cn lt (j + 1)))), (9, .int (sg3 (hs nn lt (rAt σ j) (cn + 1) * rDn σ j) (ch lt (rAt σ j) * rUp σ j))), (0, .ref (B.1 0 0)), (1, .int (nI nn)), (2, .int (nI cn)), (3, .int (nI lt)), (5, .int (nI j)), (6, .int (nI (rAt σ j))), (7, .long (lN (hs nn lt (rAt σ j) (cn + 1))))]) hx hb dX7_holds_133 hl (by decide) rfl (fun ls hl => ?_)
                      refine lv_iinc (v := nI (j + 1)) (lv' := [(5, .int (nI (j + 1))), (4, .int (bI (hac σ nn cn lt (j + 1)))), (9, .int (sg3 (hs nn lt (rAt σ j) (cn + 1) * rDn σ j) (ch lt (rAt σ j) * rUp σ j))), (0, .ref (B.1 0 0)), (1, .int (nI nn)), (2, .int (nI cn)), (3, .int (nI lt)), (6, .int (nI (rAt σ j))), (7, .long (lN (hs nn lt (rAt σ j) (cn + 1))))]) hx hb dX7_holds_135 hl (k := 6) rfl (nI_1 _) (by decide) rfl (fun ls hl => ?_)
                      refine lv_goto (tgt := 6) hx hb dX7_holds_138 (by decide) ?_
                      exact ih (j + 1) (by omega) H locs hH hS ls (lv_sub hl [3, 4, 5, 6, 1, 0] rfl)
              · refine lv_lload hx hb dX7_holds_46 (lv_at hl 7 rfl) ?_
                refine lv_aload_n hx hb dX7_holds_48 rfl (lv_at hl 0 rfl) ?_
                refine lv_iload_n hx hb dX7_holds_49 rfl (lv_at hl 1 rfl) ?_
                refine lv_iload hx hb dX7_holds_50 (lv_at hl 8 rfl) ?_
                refine m_kl (m_runV (k := 0) (i := 0) (ci := 7) ⟨hx, hb, hml, hown, hz⟩ hK hH hS (bm hM 0) rfl rfl (c_X7_ways l G B σ hM nn (nI i) (by omega) hW) mw_X7_ways wl_X7_123 ⟨rfl, rfl⟩ ⟨by decide, by decide⟩ rfl hl.1 rfl (Nat.le_of_ble_eq_true rfl) dX7_holds_52 ⟨Nat.zero_le _, Nat.zero_le _⟩) hS (fun r_52 σ_52 H locs hp hH hS => ?_)
                obtain ⟨hr1, hs1⟩ := hp
                rw [hs1] at hH
                rw [nI_I (by omega), chZ_nat] at hr1
                subst hr1
                refine lv_aload_n hx hb dX7_holds_55 rfl (lv_at hl 0 rfl) ?_
                refine lv_iload_n hx hb dX7_holds_56 rfl (lv_at hl 3 rfl) ?_
                refine lv_iload_n hx hb dX7_holds_57 rfl (lv_at hl 1 rfl) ?_
                refine m_isubN (by omega) hx hb dX7_holds_58 ?_
                refine lv_iload hx hb dX7_holds_59 (lv_at hl 6 rfl) ?_
                refine lv_iload hx hb dX7_holds_61 (lv_at hl 8 rfl) ?_
                refine lv_isub hx hb dX7_holds_63 ?_
                refine m_kl (m_runV (k := 0) (i := 0) (ci := 7) ⟨hx, hb, hml, hown, hz⟩ hK hH hS (bm hM 0) rfl rfl (c_X7_ways l G B σ hM (lt - nn) (nI (rAt σ j) - nI i) (by omega) hW) mw_X7_ways wl_X7_123 ⟨rfl, rfl⟩ ⟨by decide, by decide⟩ rfl hl.1 rfl (Nat.le_of_ble_eq_true rfl) dX7_holds_64 ⟨Nat.zero_le _, Nat.zero_le _⟩) hS (fun r_64 σ_64 H locs hp hH hS => ?_)
                obtain ⟨hr1, hs1⟩ := hp
                rw [hs1] at hH
                rw [i_subN (by omega) (by omega)] at hr1
                subst hr1
                refine m_lmulN hx hb dX7_holds_67 ?_
                refine m_laddN hx hb dX7_holds_68 ?_
                refine lv_lstore (lv' := [(7, .long (lN ((hs nn lt (rAt σ j) i) + ((ch nn i) * (chZ (lt - nn) ((rAt σ j : Int) - (i : Int))))))), (0, .ref (B.1 0 0)), (1, .int (nI nn)), (2, .int (nI cn)), (3, .int (nI lt)), (4, .int (bI (hac σ nn cn lt j))), (5, .int (nI j)), (6, .int (nI (rAt σ j))), (9, .int (nI i))]) hx hb dX7_holds_69 hl (by decide) rfl (fun ls hl => ?_)
                refine lv_iinc (v := nI (i + 1)) (lv' := [(9, .int (nI (i + 1))), (7, .long (lN ((hs nn lt (rAt σ j) i) + ((ch nn i) * (chZ (lt - nn) ((rAt σ j : Int) - (i : Int))))))), (0, .ref (B.1 0 0)), (1, .int (nI nn)), (2, .int (nI cn)), (3, .int (nI lt)), (4, .int (bI (hac σ nn cn lt j))), (5, .int (nI j)), (6, .int (nI (rAt σ j)))]) hx hb dX7_holds_71 hl (k := 8) rfl (nI_1 _) (by decide) rfl (fun ls hl => ?_)
                refine lv_goto (tgt := 40) hx hb dX7_holds_74 (by decide) ?_
                exact ihi (i + 1) (by omega) H locs hH hS ls (lv_sub hl [2, 3, 4, 5, 6, 7, 8, 1, 0] rfl)
          exact loopi (cn + 2) 0 (by omega) H locs hH hS ls (lv_sub hl [3, 4, 5, 6, 7, 8, 2, 1, 0] rfl)
        · refine lv_goto (tgt := 135) hx hb dX7_holds_22 (by decide) ?_
          refine lv_iinc (v := nI (j + 1)) (lv' := [(5, .int (nI (j + 1))), (0, .ref (B.1 0 0)), (1, .int (nI nn)), (2, .int (nI cn)), (3, .int (nI lt)), (4, .int (bI (hac σ nn cn lt j)))]) hx hb dX7_holds_135 hl (k := 5) rfl (nI_1 _) (by decide) rfl (fun ls hl => ?_)
          refine lv_goto (tgt := 6) hx hb dX7_holds_138 (by decide) ?_
          exact ih (j + 1) (by omega) H locs hH hS ls (by rw [hac_off c_19]; exact lv_sub hl [1, 2, 3, 4, 5, 0] rfl)
  refine lv_iconst (v := nI 1) hx hb dX7_holds_0 (by decide) ?_
  refine m_toe (bI (hac σ nn cn lt 0)) rfl ?_
  refine lv_istore (lv' := [(4, .int (bI (hac σ nn cn lt 0))), (0, .ref (B.1 0 0)), (1, .int (nI nn)), (2, .int (nI cn)), (3, .int (nI lt))]) hx hb dX7_holds_1 hl (by decide) rfl (fun ls hl => ?_)
  refine lv_iconst (v := nI 0) hx hb dX7_holds_3 (by decide) ?_
  refine lv_istore (lv' := [(5, .int (nI 0)), (4, .int (bI (hac σ nn cn lt 0))), (0, .ref (B.1 0 0)), (1, .int (nI nn)), (2, .int (nI cn)), (3, .int (nI lt))]) hx hb dX7_holds_4 hl (by decide) rfl (fun ls hl => ?_)
  exact loop 3 0 (by omega) s.heap [] hH hS ls (lv_sub hl [2, 3, 4, 5, 1, 0] rfl)
/-- the first number below k at which P is so -/
def fnd (P : Nat → Bool) : Nat → Option Nat
  | 0 => none
  | k + 1 => match fnd P k with
    | some j => some j
    | none => if P k then some k else none
theorem fnd_up {P : Nat → Bool} {k k2 j : Nat} (h : fnd P k = some j) (hk : k ≤ k2) : fnd P k2 = some j := by
  induction k2 with
  | zero => rw [Nat.le_zero.mp hk] at h; exact h
  | succ k2 ih =>
    rcases Nat.lt_or_ge k (k2 + 1) with q | q
    · unfold fnd; rw [ih (by omega)]
    · rw [show k = k2 + 1 by omega] at h; exact h
theorem fnd_hit {P : Nat → Bool} {k : Nat} (h : fnd P k = none) (hp : P k = true) : fnd P (k + 1) = some k := by unfold fnd; rw [h]; simp [hp]
theorem fnd_miss {P : Nat → Bool} {k : Nat} (h : fnd P k = none) (hp : P k = false) : fnd P (k + 1) = none := by unfold fnd; rw [h]; simp [hp]
theorem fnd_lt {P : Nat → Bool} {k j : Nat} (h : fnd P k = some j) : j < k ∧ P j = true := by
  induction k with
  | zero => exact absurd h (by simp [fnd])
  | succ k ih =>
    unfold fnd at h
    cases e : fnd P k with
    | some i => rw [e] at h; cases h; exact ⟨by have := (ih e).1; omega, (ih e).2⟩
    | none =>
      rw [e] at h
      by_cases q : P k = true
      · simp [q] at h; subst h; exact ⟨by omega, q⟩
      · simp [q] at h
/-- the least accept with which a plan of size m holds -/
def lc (σ : gS) (lt m : Nat) : Option Nat := fnd (fun q => hld σ m q lt) (m + 1)
def srA (σ : gS) (lt : Nat) : Int32 := match fnd (fun m => (lc σ lt (m + 1)).isSome) lt with
  | none => -1
  | some m => match lc σ lt (m + 1) with
    | none => -1
    | some q => nI (100 * (m + 1) + q)
theorem srA_none {σ : gS} {lt : Nat} (h : fnd (fun m => (lc σ lt (m + 1)).isSome) lt = none) : srA σ lt = -1 := by unfold srA; rw [h]
theorem srA_some {σ : gS} {lt m q : Nat} (h : fnd (fun m => (lc σ lt (m + 1)).isSome) m = none) (hm : m < lt) (hq : lc σ lt (m + 1) = some q) : srA σ lt = nI (100 * (m + 1) + q) := by
  have h2 := fnd_up (fnd_hit h (by rw [hq]; rfl)) (show m + 1 ≤ lt by omega)
  unfold srA
  rw [h2]
  show (match lc σ lt (m + 1) with | none => -1 | some q => nI (100 * (m + 1) + q)) = _
  rw [hq]
theorem maS_nI {σ : gS} {n : Int32} (h : maS σ n = true) : ∃ lt : Nat, n = nI lt ∧ 1 ≤ lt ∧ lt ≤ 60 := by
  have h1 := (of_decide_eq_true h).1
  obtain ⟨a, b⟩ := i_nat (x := n) (by omega)
  exact ⟨n.toInt.toNat, a, by omega, by omega⟩
set_option maxHeartbeats 4000000 in
set_option maxRecDepth 100000 in
theorem c_X7_search (l : Launch) (G : gG) (B : gB) (σ : gS) (hM : BkM B) (hR : WfR σ) (hW : WfCh σ) (x : Int32) : Met l yX7_search [.code yX7_search cX7_search 4 (some .int)] ({ frames := 2, cells := 0, slots := 0, locals := 66 } : Room) (mPc G B σ [.ref (B.1 0 0), .int (x)]) (mQi G B (fun r σ' => r = (if maS σ x = true then srA σ x.toNatClampNeg else -2) ∧ σ' = σ)) 0 0 (mA G) := by
  refine m_start (by decide) (Nat.le_of_ble_eq_true rfl) ?_
  intro p e s m below meth c ⟨hx, hb, hr, hml, hown, hK, hlk, hz⟩ hH hS ls hl
  have hl : lv_has ls 4 [(0, .ref (B.1 0 0)), (1, .int (x))] := hl
  refine lv_aload_n hx hb dX7_search_0 rfl (lv_at hl 0 rfl) ?_
  refine lv_iload_n hx hb dX7_search_1 rfl (lv_at hl 1 rfl) ?_
  refine m_ki (m_runV (k := 0) (i := 0) (ci := 7) ⟨hx, hb, hml, hown, hz⟩ hK hH hS (bm hM 0) rfl rfl (c_X7_maySearch l G B σ hM hR x) mw_X7_maySearch wl_X7_162 ⟨rfl, rfl⟩ ⟨by decide, by decide⟩ rfl hl.1 rfl (Nat.le_of_ble_eq_true rfl) dX7_search_2 ⟨Nat.zero_le _, Nat.zero_le _⟩) hS (fun r_2 σ_2 H locs hp hH hS => ?_)
  obtain ⟨hr1, hs1⟩ := hp
  subst hr1
  rw [hs1] at hH
  refine m_ifneB (tgt := 11) hx hb dX7_search_5 (by decide) (fun c_5 => ?_) (fun c_5 => ?_)
  · obtain ⟨lt, he, h1, h60⟩ := maS_nI c_5
    subst he
    refine lv_iconst (v := nI 1) hx hb dX7_search_11 (by decide) ?_
    refine lv_istore_n (lv' := [(2, .int (nI 1)), (0, .ref (B.1 0 0)), (1, .int (nI lt))]) hx hb dX7_search_12 rfl hl (by decide) rfl (fun ls hl => ?_)
    have loop : ∀ (n : Nat) (m1 : Nat), m1 ≤ lt ∧ lt < m1 + n ∧ fnd (fun m => (lc σ lt (m + 1)).isSome) m1 = none → ∀ (H : Heap) (locs : List Loc), Hp G B σ H → va_S (mA G) s.heap H locs → ∀ (ls : Array Slot), lv_has ls 4 [(0, .ref (B.1 0 0)), (1, .int (nI lt)), (2, .int (nI (m1 + 1)))] → W p l e ({ frames := 2, cells := 0, slots := 0, locals := 66 } : Room) s m ([.ref (B.1 0 0), .int (nI lt)] : List Value).toArray below meth c H locs 0 0 (MQ below (mQi G B (fun r σ' => r = (if maS σ (nI lt) = true then srA σ (nI lt).toNatClampNeg else -2) ∧ σ' = σ)) ([.ref (B.1 0 0), .int (nI lt)] : List Value).toArray s 0 0 (mA G)) (F0 m 13 ls []) := by
      intro n
      induction n with
      | zero => intro m1 hh; exfalso; omega
      | succ n ih =>
        intro m1 hh H locs hH hS ls hl
        refine lv_iload_n hx hb dX7_search_13 rfl (lv_at hl 2 rfl) ?_
        refine lv_iload_n hx hb dX7_search_14 rfl (lv_at hl 1 rfl) ?_
        refine m_icmp_gtN (tgt := 54) (by omega) (by omega) hx hb dX7_search_15 (by decide) (fun c_15 => ?_) (fun c_15 => ?_)
        · refine lv_iconst (v := (-1)) hx hb dX7_search_54 (by decide) ?_
          exact m_iret hx hb hr hlk hH hS dX7_search_55 (⟨by rw [c_5]; rw [nI_clamp (by omega)]; exact (srA_none (by have h9 := hh.2.2; rwa [show m1 = lt by omega] at h9)).symm, rfl⟩)
        · refine lv_iconst (v := nI 0) hx hb dX7_search_18 (by decide) ?_
          refine lv_istore_n (lv' := [(3, .int (nI 0)), (0, .ref (B.1 0 0)), (1, .int (nI lt)), (2, .int (nI (m1 + 1)))]) hx hb dX7_search_19 rfl hl (by decide) rfl (fun ls hl => ?_)
          have loopi : ∀ (n2 : Nat) (i : Nat), i ≤ m1 + 2 ∧ m1 + 2 < i + n2 ∧ fnd (fun q => hld σ (m1 + 1) q lt) i = none → ∀ (H : Heap) (locs : List Loc), Hp G B σ H → va_S (mA G) s.heap H locs → ∀ (ls : Array Slot), lv_has ls 4 [(0, .ref (B.1 0 0)), (1, .int (nI lt)), (2, .int (nI (m1 + 1))), (3, .int (nI i))] → W p l e ({ frames := 2, cells := 0, slots := 0, locals := 66 } : Room) s m ([.ref (B.1 0 0), .int (nI lt)] : List Value).toArray below meth c H locs 0 0 (MQ below (mQi G B (fun r σ' => r = (if maS σ (nI lt) = true then srA σ (nI lt).toNatClampNeg else -2) ∧ σ' = σ)) ([.ref (B.1 0 0), .int (nI lt)] : List Value).toArray s 0 0 (mA G)) (F0 m 20 ls []) := by
            intro n2
            induction n2 with
            | zero => intro i hhi; exfalso; omega
            | succ n2 ihi =>
              intro i hhi H locs hH hS ls hl
              refine lv_iload_n hx hb dX7_search_20 rfl (lv_at hl 3 rfl) ?_
              refine lv_iload_n hx hb dX7_search_21 rfl (lv_at hl 2 rfl) ?_
              refine m_icmp_gtN (tgt := 48) (by omega) (by omega) hx hb dX7_search_22 (by decide) (fun c_22 => ?_) (fun c_22 => ?_)
              · refine lv_iinc (v := nI (m1 + 1 + 1)) (lv' := [(2, .int (nI (m1 + 1 + 1))), (0, .ref (B.1 0 0)), (1, .int (nI lt)), (3, .int (nI i))]) hx hb dX7_search_48 hl (k := 2) rfl (nI_1 _) (by decide) rfl (fun ls hl => ?_)
                refine lv_goto (tgt := 13) hx hb dX7_search_51 (by decide) ?_
                exact ih (m1 + 1) ⟨by omega, by omega, fnd_miss hh.2.2 (by rw [show lc σ lt (m1 + 1) = none by rw [show i = m1 + 1 + 1 by omega] at hhi; exact hhi.2.2]; rfl)⟩ H locs hH hS ls (lv_sub hl [1, 2, 0] rfl)
              · refine lv_aload_n hx hb dX7_search_25 rfl (lv_at hl 0 rfl) ?_
                refine lv_iload_n hx hb dX7_search_26 rfl (lv_at hl 2 rfl) ?_
                refine lv_iload_n hx hb dX7_search_27 rfl (lv_at hl 3 rfl) ?_
                refine lv_iload_n hx hb dX7_search_28 rfl (lv_at hl 1 rfl) ?_
                refine m_ki (m_runV (k := 0) (i := 0) (ci := 7) ⟨hx, hb, hml, hown, hz⟩ hK hH hS (bm hM 0) rfl rfl (c_X7_holds l G B σ hM hR hW (m1 + 1) i lt (by omega) h60 (by omega)) mw_X7_holds wl_X7_165 ⟨rfl, rfl⟩ ⟨by decide, by decide⟩ rfl hl.1 rfl (Nat.le_of_ble_eq_true rfl) dX7_search_29 ⟨Nat.zero_le _, Nat.zero_le _⟩) hS (fun r_29 σ_29 H locs hp hH hS => ?_)
                obtain ⟨hr1, hs1⟩ := hp
                subst hr1
                rw [hs1] at hH
                refine m_ifeqB (tgt := 42) hx hb dX7_search_32 (by decide) (fun c_32 => ?_) (fun c_32 => ?_)
                · refine lv_iinc (v := nI (i + 1)) (lv' := [(3, .int (nI (i + 1))), (0, .ref (B.1 0 0)), (1, .int (nI lt)), (2, .int (nI (m1 + 1)))]) hx hb dX7_search_42 hl (k := 3) rfl (nI_1 _) (by decide) rfl (fun ls hl => ?_)
                  refine lv_goto (tgt := 20) hx hb dX7_search_45 (by decide) ?_
                  exact ihi (i + 1) ⟨by omega, by omega, fnd_miss hhi.2.2 c_32⟩ H locs hH hS ls (lv_sub hl [1, 2, 3, 0] rfl)
                · refine lv_bipush (v := nI 100) hx hb dX7_search_35 (by decide) ?_
                  refine lv_iload_n hx hb dX7_search_37 rfl (lv_at hl 2 rfl) ?_
                  refine m_imulN hx hb dX7_search_38 ?_
                  refine lv_iload_n hx hb dX7_search_39 rfl (lv_at hl 3 rfl) ?_
                  refine m_iaddN hx hb dX7_search_40 ?_
                  exact m_iret hx hb hr hlk hH hS dX7_search_41 (⟨by rw [c_5]; rw [nI_clamp (by omega)]; exact (srA_some hh.2.2 (by omega) (fnd_up (fnd_hit hhi.2.2 c_32) (by omega))).symm, rfl⟩)
          exact loopi (m1 + 3) 0 ⟨by omega, by omega, rfl⟩ H locs hH hS ls (lv_sub hl [1, 2, 3, 0] rfl)
    exact loop (lt + 1) 0 ⟨by omega, by omega, rfl⟩ H locs hH hS ls (lv_sub hl [1, 2, 0] rfl)
  · refine lv_bipush (v := (-2)) hx hb dX7_search_8 (by decide) ?_
    exact m_iret hx hb hr hlk hH hS dX7_search_10 (⟨by rw [c_5]; rfl, rfl⟩)
def lsI (o : Option Nat) : Int32 := match o with
  | none => -1
  | some j => nI j
def mst (σ : gS) (lt : Nat) : Nat → Nat × Nat
  | 0 => (0, 1000)
  | m + 1 => match lc σ lt (m + 1) with
    | none => mst σ lt m
    | some q => if q < (mst σ lt m).2 then ((mst σ lt m).1 + 1, q) else mst σ lt m
def mhit (σ : gS) (lt kn m : Nat) : Bool := match lc σ lt (m + 1) with
  | none => false
  | some q => decide (q < (mst σ lt m).2 ∧ (mst σ lt m).1 = kn)
def mnA (σ : gS) (lt kn : Nat) : Int32 := match fnd (mhit σ lt kn) lt with
  | none => -1
  | some m => match lc σ lt (m + 1) with
    | none => -1
    | some q => nI (100 * (m + 1) + q)
theorem mst_le (σ : gS) (lt m : Nat) : (mst σ lt m).1 ≤ m ∧ (mst σ lt m).2 ≤ 1000 := by
  induction m with
  | zero => exact ⟨Nat.le_refl 0, Nat.le_refl 1000⟩
  | succ m ih =>
    unfold mst
    cases e : lc σ lt (m + 1) with
    | none => exact ⟨by show (mst σ lt m).1 ≤ _; omega, ih.2⟩
    | some q =>
      show (if q < (mst σ lt m).2 then ((mst σ lt m).1 + 1, q) else mst σ lt m).1 ≤ m + 1 ∧ (if q < (mst σ lt m).2 then ((mst σ lt m).1 + 1, q) else mst σ lt m).2 ≤ 1000
      by_cases h : q < (mst σ lt m).2
      · rw [if_pos h]; exact ⟨by show _ + 1 ≤ _; omega, by show q ≤ _; omega⟩
      · rw [if_neg h]; exact ⟨by omega, ih.2⟩
theorem mst_n {σ : gS} {lt m : Nat} (h : lc σ lt (m + 1) = none) : mst σ lt (m + 1) = mst σ lt m := by
  show (match lc σ lt (m + 1) with | none => mst σ lt m | some q => if q < (mst σ lt m).2 then ((mst σ lt m).1 + 1, q) else mst σ lt m) = _
  rw [h]
theorem mst_s {σ : gS} {lt m q : Nat} (h : lc σ lt (m + 1) = some q) : mst σ lt (m + 1) = if q < (mst σ lt m).2 then ((mst σ lt m).1 + 1, q) else mst σ lt m := by
  show (match lc σ lt (m + 1) with | none => mst σ lt m | some q => if q < (mst σ lt m).2 then ((mst σ lt m).1 + 1, q) else mst σ lt m) = _
  rw [h]
theorem mhit_n {σ : gS} {lt kn m : Nat} (h : lc σ lt (m + 1) = none) : mhit σ lt kn m = false := by unfold mhit; rw [h]
theorem mhit_s {σ : gS} {lt kn m q : Nat} (h : lc σ lt (m + 1) = some q) : mhit σ lt kn m = decide (q < (mst σ lt m).2 ∧ (mst σ lt m).1 = kn) := by unfold mhit; rw [h]
theorem mnA_none {σ : gS} {lt kn : Nat} (h : fnd (mhit σ lt kn) lt = none) : mnA σ lt kn = -1 := by unfold mnA; rw [h]
theorem mnA_some {σ : gS} {lt kn m q : Nat} (h : fnd (mhit σ lt kn) m = none) (hm : m < lt) (hq : lc σ lt (m + 1) = some q) (h1 : q < (mst σ lt m).2) (h2 : (mst σ lt m).1 = kn) : mnA σ lt kn = nI (100 * (m + 1) + q) := by
  have h3 := fnd_up (fnd_hit h (by rw [mhit_s hq]; exact decide_eq_true ⟨h1, h2⟩)) (show m + 1 ≤ lt by omega)
  unfold mnA
  rw [h3]
  show (match lc σ lt (m + 1) with | none => -1 | some q => nI (100 * (m + 1) + q)) = _
  rw [hq]
set_option maxHeartbeats 4000000 in
set_option maxRecDepth 100000 in
theorem c_X7_minimal (l : Launch) (G : gG) (B : gB) (σ : gS) (hM : BkM B) (hR : WfR σ) (hW : WfCh σ) (x k : Int32) : Met l yX7_minimal [.code yX7_minimal cX7_minimal 8 (some .int)] ({ frames := 2, cells := 0, slots := 0, locals := 66 } : Room) (mPc G B σ [.ref (B.1 0 0), .int (x), .int (k)]) (mQi G B (fun r σ' => r = (if maS σ x = true ∧ 0 ≤ k.toInt then mnA σ x.toNatClampNeg k.toNatClampNeg else -2) ∧ σ' = σ)) 0 0 (mA G) := by
  refine m_start (by decide) (Nat.le_of_ble_eq_true rfl) ?_
  intro p e s m below meth c ⟨hx, hb, hr, hml, hown, hK, hlk, hz⟩ hH hS ls hl
  have hl : lv_has ls 8 [(0, .ref (B.1 0 0)), (1, .int (x)), (2, .int (k))] := hl
  refine lv_aload_n hx hb dX7_minimal_0 rfl (lv_at hl 0 rfl) ?_
  refine lv_iload_n hx hb dX7_minimal_1 rfl (lv_at hl 1 rfl) ?_
  refine m_ki (m_runV (k := 0) (i := 0) (ci := 7) ⟨hx, hb, hml, hown, hz⟩ hK hH hS (bm hM 0) rfl rfl (c_X7_maySearch l G B σ hM hR x) mw_X7_maySearch wl_X7_162 ⟨rfl, rfl⟩ ⟨by decide, by decide⟩ rfl hl.1 rfl (Nat.le_of_ble_eq_true rfl) dX7_minimal_2 ⟨Nat.zero_le _, Nat.zero_le _⟩) hS (fun r_2 σ_2 H locs hp hH hS => ?_)
  obtain ⟨hr1, hs1⟩ := hp
  subst hr1
  rw [hs1] at hH
  refine m_ifeqB (tgt := 12) hx hb dX7_minimal_5 (by decide) (fun c_5 => ?_) (fun c_5 => ?_)
  · refine lv_bipush (v := (-2)) hx hb dX7_minimal_12 (by decide) ?_
    exact m_iret hx hb hr hlk hH hS dX7_minimal_14 (by first | exact ⟨(if_neg (fun h => by rw [c_5] at h; exact absurd h.1 (by decide))).symm, rfl⟩ | exact ⟨(if_neg (fun h => c_9 (by rw [i_le, i0]; exact h.2))).symm, rfl⟩)
  · refine lv_iload_n hx hb dX7_minimal_8 rfl (lv_at hl 2 rfl) ?_
    refine lv_if_ge (tgt := 15) hx hb dX7_minimal_9 (by decide) (fun c_9 => ?_) (fun c_9 => ?_)
    · obtain ⟨lt, he, h1, h60⟩ := maS_nI c_5
      subst he
      rw [i_le, i0] at c_9
      obtain ⟨k1, k2⟩ := i_nat c_9
      have k3 := i_rng k
      obtain ⟨kn, hq⟩ : ∃ q : Nat, q = k.toInt.toNat := ⟨_, rfl⟩
      rw [← hq] at k1 k2
      have hkn : kn < 2147483648 := by omega
      clear c_9 hq k2 k3
      subst k1
      refine lv_iconst (v := nI 0) hx hb dX7_minimal_15 (by decide) ?_
      refine lv_istore_n (lv' := [(3, .int (nI 0)), (0, .ref (B.1 0 0)), (1, .int (nI lt)), (2, .int (nI kn))]) hx hb dX7_minimal_16 rfl hl (by decide) rfl (fun ls hl => ?_)
      refine lv_sipush (v := nI 1000) hx hb dX7_minimal_17 (by decide) ?_
      refine lv_istore (lv' := [(4, .int (nI 1000)), (3, .int (nI 0)), (0, .ref (B.1 0 0)), (1, .int (nI lt)), (2, .int (nI kn))]) hx hb dX7_minimal_20 hl (by decide) rfl (fun ls hl => ?_)
      refine lv_iconst (v := nI 1) hx hb dX7_minimal_22 (by decide) ?_
      refine lv_istore (lv' := [(5, .int (nI 1)), (4, .int (nI 1000)), (3, .int (nI 0)), (0, .ref (B.1 0 0)), (1, .int (nI lt)), (2, .int (nI kn))]) hx hb dX7_minimal_23 hl (by decide) rfl (fun ls hl => ?_)
      have loop : ∀ (n : Nat) (m1 : Nat), m1 ≤ lt ∧ lt < m1 + n ∧ fnd (mhit σ lt kn) m1 = none → ∀ (H : Heap) (locs : List Loc), Hp G B σ H → va_S (mA G) s.heap H locs → ∀ (ls : Array Slot), lv_has ls 8 [(0, .ref (B.1 0 0)), (1, .int (nI lt)), (2, .int (nI kn)), (3, .int (nI ((mst σ lt m1).1))), (4, .int (nI ((mst σ lt m1).2))), (5, .int (nI (m1 + 1)))] → W p l e ({ frames := 2, cells := 0, slots := 0, locals := 66 } : Room) s m ([.ref (B.1 0 0), .int (nI lt), .int (nI kn)] : List Value).toArray below meth c H locs 0 0 (MQ below (mQi G B (fun r σ' => r = (if maS σ (nI lt) = true ∧ 0 ≤ (nI kn).toInt then mnA σ (nI lt).toNatClampNeg (nI kn).toNatClampNeg else -2) ∧ σ' = σ)) ([.ref (B.1 0 0), .int (nI lt), .int (nI kn)] : List Value).toArray s 0 0 (mA G)) (F0 m 25 ls []) := by
        intro n
        induction n with
        | zero => intro m1 hh; exfalso; omega
        | succ n ih =>
          intro m1 hh H locs hH hS ls hl
          have hmL := mst_le σ lt m1
          refine lv_iload hx hb dX7_minimal_25 (lv_at hl 5 rfl) ?_
          refine lv_iload_n hx hb dX7_minimal_27 rfl (lv_at hl 1 rfl) ?_
          refine m_icmp_gtN (tgt := 113) (by omega) (by omega) hx hb dX7_minimal_28 (by decide) (fun c_28 => ?_) (fun c_28 => ?_)
          · refine lv_iconst (v := (-1)) hx hb dX7_minimal_113 (by decide) ?_
            exact m_iret hx hb hr hlk hH hS dX7_minimal_114 (⟨by rw [if_pos ⟨c_5, by rw [nI_I (by omega)]; omega⟩, nI_clamp (by omega), nI_clamp (by omega)]; exact (mnA_none (by have h9 := hh.2.2; rwa [show m1 = lt by omega] at h9)).symm, rfl⟩)
          · refine lv_iconst (v := (-1)) hx hb dX7_minimal_31 (by decide) ?_
            refine m_toe (lsI (fnd (fun q => hld σ (m1 + 1) q lt) 0)) rfl ?_
            refine lv_istore (lv' := [(6, .int (lsI (fnd (fun q => hld σ (m1 + 1) q lt) 0))), (0, .ref (B.1 0 0)), (1, .int (nI lt)), (2, .int (nI kn)), (3, .int (nI ((mst σ lt m1).1))), (4, .int (nI ((mst σ lt m1).2))), (5, .int (nI (m1 + 1)))]) hx hb dX7_minimal_32 hl (by decide) rfl (fun ls hl => ?_)
            refine lv_iconst (v := nI 0) hx hb dX7_minimal_34 (by decide) ?_
            refine lv_istore (lv' := [(7, .int (nI 0)), (6, .int (lsI (fnd (fun q => hld σ (m1 + 1) q lt) 0))), (0, .ref (B.1 0 0)), (1, .int (nI lt)), (2, .int (nI kn)), (3, .int (nI ((mst σ lt m1).1))), (4, .int (nI ((mst σ lt m1).2))), (5, .int (nI (m1 + 1)))]) hx hb dX7_minimal_35 hl (by decide) rfl (fun ls hl => ?_)
            have loopi : ∀ (n2 : Nat) (i : Nat), i ≤ m1 + 2 ∧ m1 + 2 < i + n2 → ∀ (H : Heap) (locs : List Loc), Hp G B σ H → va_S (mA G) s.heap H locs → ∀ (ls : Array Slot), lv_has ls 8 [(0, .ref (B.1 0 0)), (1, .int (nI lt)), (2, .int (nI kn)), (3, .int (nI ((mst σ lt m1).1))), (4, .int (nI ((mst σ lt m1).2))), (5, .int (nI (m1 + 1))), (6, .int (lsI (fnd (fun q => hld σ (m1 + 1) q lt) i))), (7, .int (nI i))] → W p l e ({ frames := 2, cells := 0, slots := 0, locals := 66 } : Room) s m ([.ref (B.1 0 0), .int (nI lt), .int (nI kn)] : List Value).toArray below meth c H locs 0 0 (MQ below (mQi G B (fun r σ' => r = (if maS σ (nI lt) = true ∧ 0 ≤ (nI kn).toInt then mnA σ (nI lt).toNatClampNeg (nI kn).toNatClampNeg else -2) ∧ σ' = σ)) ([.ref (B.1 0 0), .int (nI lt), .int (nI kn)] : List Value).toArray s 0 0 (mA G)) (F0 m 37 ls []) := by
              intro n2
              induction n2 with
              | zero => intro i hhi; exfalso; omega
              | succ n2 ihi =>
                intro i hhi H locs hH hS ls hl
                refine lv_iload hx hb dX7_minimal_37 (lv_at hl 7 rfl) ?_
                refine lv_iload hx hb dX7_minimal_39 (lv_at hl 5 rfl) ?_
                refine m_icmp_gtN (tgt := 71) (by omega) (by omega) hx hb dX7_minimal_41 (by decide) (fun c_41 => ?_) (fun c_41 => ?_)
                · have hlc : lc σ lt (m1 + 1) = fnd (fun q => hld σ (m1 + 1) q lt) i := by
                    first
                      | (rw [show i = m1 + 1 + 1 by omega]; rfl)
                      | (cases e : fnd (fun q => hld σ (m1 + 1) q lt) i with
                         | none => exact absurd c_46 (by rw [e]; decide)
                         | some j => exact fnd_up e (by omega))
                  refine lv_iload hx hb dX7_minimal_71 (lv_at hl 6 rfl) ?_
                  refine lv_if_lt (tgt := 107) hx hb dX7_minimal_73 (by decide) (fun c_73 => ?_) (fun c_73 => ?_)
                  · have hlz : lc σ lt (m1 + 1) = none := by
                      rw [hlc]
                      cases e : fnd (fun q => hld σ (m1 + 1) q lt) i with
                      | none => rfl
                      | some j => rw [e] at c_73; have := (fnd_lt e).1; exact absurd c_73 (nI_pos (by omega))
                    refine lv_iinc (v := nI (m1 + 1 + 1)) (lv' := [(5, .int (nI (m1 + 1 + 1))), (0, .ref (B.1 0 0)), (1, .int (nI lt)), (2, .int (nI kn)), (3, .int (nI ((mst σ lt m1).1))), (4, .int (nI ((mst σ lt m1).2))), (6, .int (lsI (fnd (fun q => hld σ (m1 + 1) q lt) i))), (7, .int (nI i))]) hx hb dX7_minimal_107 hl (k := 5) rfl (nI_1 _) (by decide) rfl (fun ls hl => ?_)
                    refine lv_goto (tgt := 25) hx hb dX7_minimal_110 (by decide) ?_
                    first | exact ih (m1 + 1) ⟨by omega, by omega, fnd_miss hh.2.2 (mhit_n hlz)⟩ H locs hH hS ls (by rw [mst_n hlz]; exact lv_sub hl [1, 2, 3, 4, 5, 0] rfl) | exact ih (m1 + 1) ⟨by omega, by omega, fnd_miss hh.2.2 (by rw [mhit_s hlq]; exact decide_eq_false (fun q => by omega))⟩ H locs hH hS ls (by rw [mst_s hlq, if_neg (by omega)]; exact lv_sub hl [1, 2, 3, 4, 5, 0] rfl)
                  · obtain ⟨jq, hj⟩ : ∃ j, fnd (fun q => hld σ (m1 + 1) q lt) i = some j := by
                      cases e : fnd (fun q => hld σ (m1 + 1) q lt) i with
                      | none => exact absurd (show lsI (fnd (fun q => hld σ (m1 + 1) q lt) i) < 0 by rw [e]; decide) c_73
                      | some j => exact ⟨j, rfl⟩
                    have hlq := hlc.trans hj
                    have hjl := (fnd_lt hj).1
                    rw [hj] at hl
                    have hl : lv_has ls 8 [(0, .ref (B.1 0 0)), (1, .int (nI lt)), (2, .int (nI kn)), (3, .int (nI ((mst σ lt m1).1))), (4, .int (nI ((mst σ lt m1).2))), (5, .int (nI (m1 + 1))), (6, .int (nI jq)), (7, .int (nI i))] := hl
                    refine lv_iload hx hb dX7_minimal_76 (lv_at hl 6 rfl) ?_
                    refine lv_iload hx hb dX7_minimal_78 (lv_at hl 4 rfl) ?_
                    refine m_icmp_ltN (tgt := 86) (by omega) (by omega) hx hb dX7_minimal_80 (by decide) (fun c_80 => ?_) (fun c_80 => ?_)
                    · refine lv_iload hx hb dX7_minimal_86 (lv_at hl 6 rfl) ?_
                      refine lv_istore (lv' := [(4, .int (nI jq)), (0, .ref (B.1 0 0)), (1, .int (nI lt)), (2, .int (nI kn)), (3, .int (nI ((mst σ lt m1).1))), (5, .int (nI (m1 + 1))), (6, .int (nI jq)), (7, .int (nI i))]) hx hb dX7_minimal_88 hl (by decide) rfl (fun ls hl => ?_)
                      refine lv_iload_n hx hb dX7_minimal_90 rfl (lv_at hl 4 rfl) ?_
                      refine lv_iload_n hx hb dX7_minimal_91 rfl (lv_at hl 3 rfl) ?_
                      refine m_icmp_neN (tgt := 104) (by omega) (by omega) hx hb dX7_minimal_92 (by decide) (fun c_92 => ?_) (fun c_92 => ?_)
                      · refine lv_iinc (v := nI ((mst σ lt m1).1 + 1)) (lv' := [(3, .int (nI ((mst σ lt m1).1 + 1))), (4, .int (nI jq)), (0, .ref (B.1 0 0)), (1, .int (nI lt)), (2, .int (nI kn)), (5, .int (nI (m1 + 1))), (6, .int (nI jq)), (7, .int (nI i))]) hx hb dX7_minimal_104 hl (k := 4) rfl (nI_1 _) (by decide) rfl (fun ls hl => ?_)
                        refine lv_iinc (v := nI (m1 + 1 + 1)) (lv' := [(5, .int (nI (m1 + 1 + 1))), (3, .int (nI ((mst σ lt m1).1 + 1))), (4, .int (nI jq)), (0, .ref (B.1 0 0)), (1, .int (nI lt)), (2, .int (nI kn)), (6, .int (nI jq)), (7, .int (nI i))]) hx hb dX7_minimal_107 hl (k := 5) rfl (nI_1 _) (by decide) rfl (fun ls hl => ?_)
                        refine lv_goto (tgt := 25) hx hb dX7_minimal_110 (by decide) ?_
                        exact ih (m1 + 1) ⟨by omega, by omega, fnd_miss hh.2.2 (by rw [mhit_s hlq]; exact decide_eq_false (fun q => c_92 q.2))⟩ H locs hH hS ls (by rw [mst_s hlq, if_pos c_80]; exact lv_sub hl [3, 4, 5, 1, 2, 0] rfl)
                      · refine lv_bipush (v := nI 100) hx hb dX7_minimal_95 (by decide) ?_
                        refine lv_iload hx hb dX7_minimal_97 (lv_at hl 5 rfl) ?_
                        refine m_imulN hx hb dX7_minimal_99 ?_
                        refine lv_iload hx hb dX7_minimal_100 (lv_at hl 6 rfl) ?_
                        refine m_iaddN hx hb dX7_minimal_102 ?_
                        exact m_iret hx hb hr hlk hH hS dX7_minimal_103 (⟨by rw [if_pos ⟨c_5, by rw [nI_I (by omega)]; omega⟩, nI_clamp (by omega), nI_clamp (by omega)]; exact (mnA_some hh.2.2 (by omega) hlq c_80 c_92).symm, rfl⟩)
                    · refine lv_goto (tgt := 107) hx hb dX7_minimal_83 (by decide) ?_
                      refine lv_iinc (v := nI (m1 + 1 + 1)) (lv' := [(5, .int (nI (m1 + 1 + 1))), (0, .ref (B.1 0 0)), (1, .int (nI lt)), (2, .int (nI kn)), (3, .int (nI ((mst σ lt m1).1))), (4, .int (nI ((mst σ lt m1).2))), (6, .int (nI jq)), (7, .int (nI i))]) hx hb dX7_minimal_107 hl (k := 5) rfl (nI_1 _) (by decide) rfl (fun ls hl => ?_)
                      refine lv_goto (tgt := 25) hx hb dX7_minimal_110 (by decide) ?_
                      first | exact ih (m1 + 1) ⟨by omega, by omega, fnd_miss hh.2.2 (mhit_n hlz)⟩ H locs hH hS ls (by rw [mst_n hlz]; exact lv_sub hl [1, 2, 3, 4, 5, 0] rfl) | exact ih (m1 + 1) ⟨by omega, by omega, fnd_miss hh.2.2 (by rw [mhit_s hlq]; exact decide_eq_false (fun q => by omega))⟩ H locs hH hS ls (by rw [mst_s hlq, if_neg (by omega)]; exact lv_sub hl [1, 2, 3, 4, 5, 0] rfl)
                · refine lv_iload hx hb dX7_minimal_44 (lv_at hl 6 rfl) ?_
                  refine lv_if_ge (tgt := 71) hx hb dX7_minimal_46 (by decide) (fun c_46 => ?_) (fun c_46 => ?_)
                  · have hlc : lc σ lt (m1 + 1) = fnd (fun q => hld σ (m1 + 1) q lt) i := by
                      first
                        | (rw [show i = m1 + 1 + 1 by omega]; rfl)
                        | (cases e : fnd (fun q => hld σ (m1 + 1) q lt) i with
                           | none => exact absurd c_46 (by rw [e]; decide)
                           | some j => exact fnd_up e (by omega))
                    refine lv_iload hx hb dX7_minimal_71 (lv_at hl 6 rfl) ?_
                    refine lv_if_lt (tgt := 107) hx hb dX7_minimal_73 (by decide) (fun c_73 => ?_) (fun c_73 => ?_)
                    · have hlz : lc σ lt (m1 + 1) = none := by
                        rw [hlc]
                        cases e : fnd (fun q => hld σ (m1 + 1) q lt) i with
                        | none => rfl
                        | some j => rw [e] at c_73; have := (fnd_lt e).1; exact absurd c_73 (nI_pos (by omega))
                      refine lv_iinc (v := nI (m1 + 1 + 1)) (lv' := [(5, .int (nI (m1 + 1 + 1))), (0, .ref (B.1 0 0)), (1, .int (nI lt)), (2, .int (nI kn)), (3, .int (nI ((mst σ lt m1).1))), (4, .int (nI ((mst σ lt m1).2))), (6, .int (lsI (fnd (fun q => hld σ (m1 + 1) q lt) i))), (7, .int (nI i))]) hx hb dX7_minimal_107 hl (k := 5) rfl (nI_1 _) (by decide) rfl (fun ls hl => ?_)
                      refine lv_goto (tgt := 25) hx hb dX7_minimal_110 (by decide) ?_
                      first | exact ih (m1 + 1) ⟨by omega, by omega, fnd_miss hh.2.2 (mhit_n hlz)⟩ H locs hH hS ls (by rw [mst_n hlz]; exact lv_sub hl [1, 2, 3, 4, 5, 0] rfl) | exact ih (m1 + 1) ⟨by omega, by omega, fnd_miss hh.2.2 (by rw [mhit_s hlq]; exact decide_eq_false (fun q => by omega))⟩ H locs hH hS ls (by rw [mst_s hlq, if_neg (by omega)]; exact lv_sub hl [1, 2, 3, 4, 5, 0] rfl)
                    · obtain ⟨jq, hj⟩ : ∃ j, fnd (fun q => hld σ (m1 + 1) q lt) i = some j := by
                        cases e : fnd (fun q => hld σ (m1 + 1) q lt) i with
                        | none => exact absurd (show lsI (fnd (fun q => hld σ (m1 + 1) q lt) i) < 0 by rw [e]; decide) c_73
                        | some j => exact ⟨j, rfl⟩
                      have hlq := hlc.trans hj
                      have hjl := (fnd_lt hj).1
                      rw [hj] at hl
                      have hl : lv_has ls 8 [(0, .ref (B.1 0 0)), (1, .int (nI lt)), (2, .int (nI kn)), (3, .int (nI ((mst σ lt m1).1))), (4, .int (nI ((mst σ lt m1).2))), (5, .int (nI (m1 + 1))), (6, .int (nI jq)), (7, .int (nI i))] := hl
                      refine lv_iload hx hb dX7_minimal_76 (lv_at hl 6 rfl) ?_
                      refine lv_iload hx hb dX7_minimal_78 (lv_at hl 4 rfl) ?_
                      refine m_icmp_ltN (tgt := 86) (by omega) (by omega) hx hb dX7_minimal_80 (by decide) (fun c_80 => ?_) (fun c_80 => ?_)
                      · refine lv_iload hx hb dX7_minimal_86 (lv_at hl 6 rfl) ?_
                        refine lv_istore (lv' := [(4, .int (nI jq)), (0, .ref (B.1 0 0)), (1, .int (nI lt)), (2, .int (nI kn)), (3, .int (nI ((mst σ lt m1).1))), (5, .int (nI (m1 + 1))), (6, .int (nI jq)), (7, .int (nI i))]) hx hb dX7_minimal_88 hl (by decide) rfl (fun ls hl => ?_)
                        refine lv_iload_n hx hb dX7_minimal_90 rfl (lv_at hl 4 rfl) ?_
                        refine lv_iload_n hx hb dX7_minimal_91 rfl (lv_at hl 3 rfl) ?_
                        refine m_icmp_neN (tgt := 104) (by omega) (by omega) hx hb dX7_minimal_92 (by decide) (fun c_92 => ?_) (fun c_92 => ?_)
                        · refine lv_iinc (v := nI ((mst σ lt m1).1 + 1)) (lv' := [(3, .int (nI ((mst σ lt m1).1 + 1))), (4, .int (nI jq)), (0, .ref (B.1 0 0)), (1, .int (nI lt)), (2, .int (nI kn)), (5, .int (nI (m1 + 1))), (6, .int (nI jq)), (7, .int (nI i))]) hx hb dX7_minimal_104 hl (k := 4) rfl (nI_1 _) (by decide) rfl (fun ls hl => ?_)
                          refine lv_iinc (v := nI (m1 + 1 + 1)) (lv' := [(5, .int (nI (m1 + 1 + 1))), (3, .int (nI ((mst σ lt m1).1 + 1))), (4, .int (nI jq)), (0, .ref (B.1 0 0)), (1, .int (nI lt)), (2, .int (nI kn)), (6, .int (nI jq)), (7, .int (nI i))]) hx hb dX7_minimal_107 hl (k := 5) rfl (nI_1 _) (by decide) rfl (fun ls hl => ?_)
                          refine lv_goto (tgt := 25) hx hb dX7_minimal_110 (by decide) ?_
                          exact ih (m1 + 1) ⟨by omega, by omega, fnd_miss hh.2.2 (by rw [mhit_s hlq]; exact decide_eq_false (fun q => c_92 q.2))⟩ H locs hH hS ls (by rw [mst_s hlq, if_pos c_80]; exact lv_sub hl [3, 4, 5, 1, 2, 0] rfl)
                        · refine lv_bipush (v := nI 100) hx hb dX7_minimal_95 (by decide) ?_
                          refine lv_iload hx hb dX7_minimal_97 (lv_at hl 5 rfl) ?_
                          refine m_imulN hx hb dX7_minimal_99 ?_
                          refine lv_iload hx hb dX7_minimal_100 (lv_at hl 6 rfl) ?_
                          refine m_iaddN hx hb dX7_minimal_102 ?_
                          exact m_iret hx hb hr hlk hH hS dX7_minimal_103 (⟨by rw [if_pos ⟨c_5, by rw [nI_I (by omega)]; omega⟩, nI_clamp (by omega), nI_clamp (by omega)]; exact (mnA_some hh.2.2 (by omega) hlq c_80 c_92).symm, rfl⟩)
                      · refine lv_goto (tgt := 107) hx hb dX7_minimal_83 (by decide) ?_
                        refine lv_iinc (v := nI (m1 + 1 + 1)) (lv' := [(5, .int (nI (m1 + 1 + 1))), (0, .ref (B.1 0 0)), (1, .int (nI lt)), (2, .int (nI kn)), (3, .int (nI ((mst σ lt m1).1))), (4, .int (nI ((mst σ lt m1).2))), (6, .int (nI jq)), (7, .int (nI i))]) hx hb dX7_minimal_107 hl (k := 5) rfl (nI_1 _) (by decide) rfl (fun ls hl => ?_)
                        refine lv_goto (tgt := 25) hx hb dX7_minimal_110 (by decide) ?_
                        first | exact ih (m1 + 1) ⟨by omega, by omega, fnd_miss hh.2.2 (mhit_n hlz)⟩ H locs hH hS ls (by rw [mst_n hlz]; exact lv_sub hl [1, 2, 3, 4, 5, 0] rfl) | exact ih (m1 + 1) ⟨by omega, by omega, fnd_miss hh.2.2 (by rw [mhit_s hlq]; exact decide_eq_false (fun q => by omega))⟩ H locs hH hS ls (by rw [mst_s hlq, if_neg (by omega)]; exact lv_sub hl [1, 2, 3, 4, 5, 0] rfl)
                  · have hno : fnd (fun q => hld σ (m1 + 1) q lt) i = none := by
                      cases e : fnd (fun q => hld σ (m1 + 1) q lt) i with
                      | none => rfl
                      | some j =>
                        rw [e] at c_46
                        have := (fnd_lt e).1
                        exact absurd (show (0 : Int32) ≤ nI j by rw [i_le, i0, nI_I (by omega)]; omega) c_46
                    refine lv_aload_n hx hb dX7_minimal_49 rfl (lv_at hl 0 rfl) ?_
                    refine lv_iload hx hb dX7_minimal_50 (lv_at hl 5 rfl) ?_
                    refine lv_iload hx hb dX7_minimal_52 (lv_at hl 7 rfl) ?_
                    refine lv_iload_n hx hb dX7_minimal_54 rfl (lv_at hl 1 rfl) ?_
                    refine m_ki (m_runV (k := 0) (i := 0) (ci := 7) ⟨hx, hb, hml, hown, hz⟩ hK hH hS (bm hM 0) rfl rfl (c_X7_holds l G B σ hM hR hW (m1 + 1) i lt (by omega) h60 (by omega)) mw_X7_holds wl_X7_165 ⟨rfl, rfl⟩ ⟨by decide, by decide⟩ rfl hl.1 rfl (Nat.le_of_ble_eq_true rfl) dX7_minimal_55 ⟨Nat.zero_le _, Nat.zero_le _⟩) hS (fun r_55 σ_55 H locs hp hH hS => ?_)
                    obtain ⟨hr1, hs1⟩ := hp
                    subst hr1
                    rw [hs1] at hH
                    refine m_ifeqB (tgt := 65) hx hb dX7_minimal_58 (by decide) (fun c_58 => ?_) (fun c_58 => ?_)
                    · refine lv_iinc (v := nI (i + 1)) (lv' := [(7, .int (nI (i + 1))), (0, .ref (B.1 0 0)), (1, .int (nI lt)), (2, .int (nI kn)), (3, .int (nI ((mst σ lt m1).1))), (4, .int (nI ((mst σ lt m1).2))), (5, .int (nI (m1 + 1))), (6, .int (lsI (fnd (fun q => hld σ (m1 + 1) q lt) i)))]) hx hb dX7_minimal_65 hl (k := 7) rfl (nI_1 _) (by decide) rfl (fun ls hl => ?_)
                      refine lv_goto (tgt := 37) hx hb dX7_minimal_68 (by decide) ?_
                      exact ihi (i + 1) (by omega) H locs hH hS ls (by rw [fnd_miss hno c_58]; rw [hno] at hl; exact lv_sub hl [1, 2, 3, 4, 5, 6, 7, 0] rfl)
                    · refine lv_iload hx hb dX7_minimal_61 (lv_at hl 7 rfl) ?_
                      refine lv_istore (lv' := [(6, .int (nI i)), (0, .ref (B.1 0 0)), (1, .int (nI lt)), (2, .int (nI kn)), (3, .int (nI ((mst σ lt m1).1))), (4, .int (nI ((mst σ lt m1).2))), (5, .int (nI (m1 + 1))), (7, .int (nI i))]) hx hb dX7_minimal_63 hl (by decide) rfl (fun ls hl => ?_)
                      refine lv_iinc (v := nI (i + 1)) (lv' := [(7, .int (nI (i + 1))), (6, .int (nI i)), (0, .ref (B.1 0 0)), (1, .int (nI lt)), (2, .int (nI kn)), (3, .int (nI ((mst σ lt m1).1))), (4, .int (nI ((mst σ lt m1).2))), (5, .int (nI (m1 + 1)))]) hx hb dX7_minimal_65 hl (k := 7) rfl (nI_1 _) (by decide) rfl (fun ls hl => ?_)
                      refine lv_goto (tgt := 37) hx hb dX7_minimal_68 (by decide) ?_
                      exact ihi (i + 1) (by omega) H locs hH hS ls (by rw [fnd_hit hno c_58]; exact lv_sub hl [2, 3, 4, 5, 6, 7, 1, 0] rfl)
            exact loopi (m1 + 3) 0 (by omega) H locs hH hS ls (lv_sub hl [2, 3, 4, 5, 6, 7, 1, 0] rfl)
      exact loop (lt + 1) 0 ⟨by omega, by omega, rfl⟩ H locs hH hS ls (lv_sub hl [3, 4, 5, 2, 1, 0] rfl)
    · refine lv_bipush (v := (-2)) hx hb dX7_minimal_12 (by decide) ?_
      exact m_iret hx hb hr hlk hH hS dX7_minimal_14 (by first | exact ⟨(if_neg (fun h => by rw [c_5] at h; exact absurd h.1 (by decide))).symm, rfl⟩ | exact ⟨(if_neg (fun h => c_9 (by rw [i_le, i0]; exact h.2))).symm, rfl⟩)
