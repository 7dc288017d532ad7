set_option maxHeartbeats 4000000 in
set_option maxRecDepth 100000 in
theorem c_X7_common (l : Launch) (G : gG) (B : gB) (σ : gS) (x y : Nat) (h1 : x < 9223372036854775808) (h2 : y < 9223372036854775808) : Met l yX7_common [.code yX7_common cX7_common 10 (some .long)] ({ frames := 0, cells := 0, slots := 0, locals := 0 } : Room) (mPc G B σ [.long (lN x), .long (lN y)]) (mQl G B (fun r σ' => r = lN (Nat.gcd x y) ∧ σ' = σ)) 0 0 (mA G) := by
  refine m_start (by decide) (Nat.le_of_ble_eq_true rfl) ?_
  intro p e s m below meth c ⟨hx, hb, hr, hml, hown, hK, hlk, hz⟩ hH hS ls hl
  have hl : lv_has ls 10 [(0, .long (lN x)), (2, .long (lN y))] := hl
  have loop : ∀ (n : Nat) (u v : Nat), Nat.gcd u v = Nat.gcd x y ∧ u < 9223372036854775808 ∧ v < 9223372036854775808 ∧ v < n → ∀ (ls : Array Slot), lv_has ls 10 [(0, .long (lN x)), (2, .long (lN y)), (4, .long (lN u)), (6, .long (lN v))] → W p l e ({ frames := 0, cells := 0, slots := 0, locals := 0 } : Room) s m ([.long (lN x), .long (lN y)] : List Value).toArray below meth c s.heap [] 0 0 (MQ below (mQl G B (fun r σ' => r = lN (Nat.gcd x y) ∧ σ' = σ)) ([.long (lN x), .long (lN y)] : List Value).toArray s 0 0 (mA G)) (F0 m 6 ls []) := by
    intro n
    induction n with
    | zero => intro u v hh; exfalso; omega
    | succ n ih =>
      intro u v hh ls hl
      refine lv_lload hx hb dX7_common_6 (lv_at hl 3 rfl) ?_
      refine lv_lconst (v := lN 0) hx hb dX7_common_8 rfl ?_
      refine m_lc_eqN (tgt := 31) (by omega) (by omega) hx hb dX7_common_9 dX7_common_10 (by decide) (fun c_9 => ?_) (fun c_9 => ?_)
      · refine lv_lload hx hb dX7_common_31 (lv_at hl 2 rfl) ?_
        exact m_lret hx hb hr hlk hH hS dX7_common_33 (⟨by rw [← hh.1, c_9, Nat.gcd_zero_right], rfl⟩)
      · refine lv_lload hx hb dX7_common_13 (lv_at hl 2 rfl) ?_
        refine lv_lload hx hb dX7_common_15 (lv_at hl 3 rfl) ?_
        refine m_lremN (by omega) (by omega) (by omega) hx hb dX7_common_17 ?_
        refine lv_lstore (lv' := [(8, .long (lN (u % v))), (0, .long (lN x)), (2, .long (lN y)), (4, .long (lN u)), (6, .long (lN v))]) hx hb dX7_common_18 hl (by decide) rfl (fun ls hl => ?_)
        refine lv_lload hx hb dX7_common_20 (lv_at hl 4 rfl) ?_
        refine lv_lstore (lv' := [(4, .long (lN v)), (8, .long (lN (u % v))), (0, .long (lN x)), (2, .long (lN y)), (6, .long (lN v))]) hx hb dX7_common_22 hl (by decide) rfl (fun ls hl => ?_)
        refine lv_lload hx hb dX7_common_24 (lv_at hl 1 rfl) ?_
        refine lv_lstore (lv' := [(6, .long (lN (u % v))), (4, .long (lN v)), (8, .long (lN (u % v))), (0, .long (lN x)), (2, .long (lN y))]) hx hb dX7_common_26 hl (by decide) rfl (fun ls hl => ?_)
        refine lv_goto (tgt := 6) hx hb dX7_common_28 (by decide) ?_
        exact ih v (u % v) (by have := Nat.mod_lt u (show 0 < v by omega); refine ⟨?_, by omega, by omega, by omega⟩; rw [← hh.1, Nat.gcd_comm v, ← Nat.gcd_rec, Nat.gcd_comm]) ls (lv_sub hl [3, 4, 1, 0] rfl)
  refine lv_lload_n hx hb dX7_common_0 rfl (lv_at hl 0 rfl) ?_
  refine lv_lstore (lv' := [(4, .long (lN x)), (0, .long (lN x)), (2, .long (lN y))]) hx hb dX7_common_1 hl (by decide) rfl (fun ls hl => ?_)
  refine lv_lload_n hx hb dX7_common_3 rfl (lv_at hl 2 rfl) ?_
  refine lv_lstore (lv' := [(6, .long (lN y)), (4, .long (lN x)), (0, .long (lN x)), (2, .long (lN y))]) hx hb dX7_common_4 hl (by decide) rfl (fun ls hl => ?_)
  exact loop (y + 1) x y ⟨rfl, h1, h2, by omega⟩ ls (lv_sub hl [2, 3, 1, 0] rfl)
set_option maxHeartbeats 4000000 in
set_option maxRecDepth 100000 in
theorem c_X7_against (l : Launch) (G : gG) (B : gB) (σ : gS) (x y z w : Nat) (h1 : x < 9223372036854775808) (h2 : z < 9223372036854775808) (hy : y ≤ 1000) (hw : w ≤ 1000) : Met l yX7_against [.code yX7_against cX7_against 18 (some .int)] ({ frames := 0, cells := 0, slots := 0, locals := 0 } : Room) (mPc G B σ [.long (lN x), .int (nI y), .long (lN z), .int (nI w)]) (mQi G B (fun r σ' => r = sg3 (x * y) (z * w) ∧ σ' = σ)) 0 0 (mA G) := by
  refine m_start (by decide) (Nat.le_of_ble_eq_true rfl) ?_
  intro p e s m below meth c ⟨hx, hb, hr, hml, hown, hK, hlk, hz⟩ hH hS ls hl
  have hl : lv_has ls 18 [(0, .long (lN x)), (2, .int (nI y)), (3, .long (lN z)), (5, .int (nI w))] := hl
  have b1 : x % 1000000000 * y ≤ 1000000000 * 1000 := Nat.mul_le_mul (by have := Nat.mod_lt x (show 0 < 1000000000 by decide); omega) hy
  have b2 : z % 1000000000 * w ≤ 1000000000 * 1000 := Nat.mul_le_mul (by have := Nat.mod_lt z (show 0 < 1000000000 by decide); omega) hw
  have b3 : x / 1000000000 * y ≤ 9223372037 * 1000 := Nat.mul_le_mul (by omega) hy
  have b4 : z / 1000000000 * w ≤ 9223372037 * 1000 := Nat.mul_le_mul (by omega) hw
  have b5 : x % 1000000000 * y / 1000000000 ≤ x % 1000000000 * y := Nat.div_le_self _ _
  have b6 : z % 1000000000 * w / 1000000000 ≤ z % 1000000000 * w := Nat.div_le_self _ _
  have b7 := Nat.mod_lt (x % 1000000000 * y) (show 0 < 1000000000 by decide)
  have b8 := Nat.mod_lt (z % 1000000000 * w) (show 0 < 1000000000 by decide)
  refine lv_lload_n hx hb dX7_against_0 rfl (lv_at hl 0 rfl) ?_
  refine lv_ldc2 hx hb hown (hK.2 _ wc_X7_156 rfl _) dX7_against_1 ?_
  refine m_toj (lN 1000000000) rfl ?_
  refine m_lremN (by omega) (by omega) (by omega) hx hb dX7_against_4 ?_
  refine lv_iload_n hx hb dX7_against_5 rfl (lv_at hl 1 rfl) ?_
  refine m_i2lN (by omega) hx hb dX7_against_6 ?_
  refine m_lmulN hx hb dX7_against_7 ?_
  refine lv_lstore (lv' := [(6, .long (lN ((x % 1000000000) * y))), (0, .long (lN x)), (2, .int (nI y)), (3, .long (lN z)), (5, .int (nI w))]) hx hb dX7_against_8 hl (by decide) rfl (fun ls hl => ?_)
  refine lv_lload_n hx hb dX7_against_10 rfl (lv_at hl 1 rfl) ?_
  refine lv_ldc2 hx hb hown (hK.2 _ wc_X7_156 rfl _) dX7_against_11 ?_
  refine m_toj (lN 1000000000) rfl ?_
  refine m_ldivN (by omega) (by omega) (by omega) hx hb dX7_against_14 ?_
  refine lv_iload_n hx hb dX7_against_15 rfl (lv_at hl 2 rfl) ?_
  refine m_i2lN (by omega) hx hb dX7_against_16 ?_
  refine m_lmulN hx hb dX7_against_17 ?_
  refine lv_lload hx hb dX7_against_18 (lv_at hl 0 rfl) ?_
  refine lv_ldc2 hx hb hown (hK.2 _ wc_X7_156 rfl _) dX7_against_20 ?_
  refine m_toj (lN 1000000000) rfl ?_
  refine m_ldivN (by omega) (by omega) (by omega) hx hb dX7_against_23 ?_
  refine m_laddN hx hb dX7_against_24 ?_
  refine lv_lstore (lv' := [(8, .long (lN (((x / 1000000000) * y) + (((x % 1000000000) * y) / 1000000000)))), (6, .long (lN ((x % 1000000000) * y))), (0, .long (lN x)), (2, .int (nI y)), (3, .long (lN z)), (5, .int (nI w))]) hx hb dX7_against_25 hl (by decide) rfl (fun ls hl => ?_)
  refine lv_lload_n hx hb dX7_against_27 rfl (lv_at hl 4 rfl) ?_
  refine lv_ldc2 hx hb hown (hK.2 _ wc_X7_156 rfl _) dX7_against_28 ?_
  refine m_toj (lN 1000000000) rfl ?_
  refine m_lremN (by omega) (by omega) (by omega) hx hb dX7_against_31 ?_
  refine lv_iload hx hb dX7_against_32 (lv_at hl 5 rfl) ?_
  refine m_i2lN (by omega) hx hb dX7_against_34 ?_
  refine m_lmulN hx hb dX7_against_35 ?_
  refine lv_lstore (lv' := [(10, .long (lN ((z % 1000000000) * w))), (8, .long (lN (((x / 1000000000) * y) + (((x % 1000000000) * y) / 1000000000)))), (6, .long (lN ((x % 1000000000) * y))), (0, .long (lN x)), (2, .int (nI y)), (3, .long (lN z)), (5, .int (nI w))]) hx hb dX7_against_36 hl (by decide) rfl (fun ls hl => ?_)
  refine lv_lload_n hx hb dX7_against_38 rfl (lv_at hl 5 rfl) ?_
  refine lv_ldc2 hx hb hown (hK.2 _ wc_X7_156 rfl _) dX7_against_39 ?_
  refine m_toj (lN 1000000000) rfl ?_
  refine m_ldivN (by omega) (by omega) (by omega) hx hb dX7_against_42 ?_
  refine lv_iload hx hb dX7_against_43 (lv_at hl 6 rfl) ?_
  refine m_i2lN (by omega) hx hb dX7_against_45 ?_
  refine m_lmulN hx hb dX7_against_46 ?_
  refine lv_lload hx hb dX7_against_47 (lv_at hl 0 rfl) ?_
  refine lv_ldc2 hx hb hown (hK.2 _ wc_X7_156 rfl _) dX7_against_49 ?_
  refine m_toj (lN 1000000000) rfl ?_
  refine m_ldivN (by omega) (by omega) (by omega) hx hb dX7_against_52 ?_
  refine m_laddN hx hb dX7_against_53 ?_
  refine lv_lstore (lv' := [(12, .long (lN (((z / 1000000000) * w) + (((z % 1000000000) * w) / 1000000000)))), (10, .long (lN ((z % 1000000000) * w))), (8, .long (lN (((x / 1000000000) * y) + (((x % 1000000000) * y) / 1000000000)))), (6, .long (lN ((x % 1000000000) * y))), (0, .long (lN x)), (2, .int (nI y)), (3, .long (lN z)), (5, .int (nI w))]) hx hb dX7_against_54 hl (by decide) rfl (fun ls hl => ?_)
  refine lv_lload hx hb dX7_against_56 (lv_at hl 2 rfl) ?_
  refine lv_lload hx hb dX7_against_58 (lv_at hl 0 rfl) ?_
  refine m_lc_eqN (tgt := 78) (by omega) (by omega) hx hb dX7_against_60 dX7_against_61 (by decide) (fun c_60 => ?_) (fun c_60 => ?_)
  · refine lv_lload hx hb dX7_against_78 (lv_at hl 3 rfl) ?_
    refine lv_ldc2 hx hb hown (hK.2 _ wc_X7_156 rfl _) dX7_against_80 ?_
    refine m_toj (lN 1000000000) rfl ?_
    refine m_lremN (by omega) (by omega) (by omega) hx hb dX7_against_83 ?_
    refine lv_lstore (lv' := [(14, .long (lN (((x % 1000000000) * y) % 1000000000))), (12, .long (lN (((z / 1000000000) * w) + (((z % 1000000000) * w) / 1000000000)))), (10, .long (lN ((z % 1000000000) * w))), (8, .long (lN (((x / 1000000000) * y) + (((x % 1000000000) * y) / 1000000000)))), (6, .long (lN ((x % 1000000000) * y))), (0, .long (lN x)), (2, .int (nI y)), (3, .long (lN z)), (5, .int (nI w))]) hx hb dX7_against_84 hl (by decide) rfl (fun ls hl => ?_)
    refine lv_lload hx hb dX7_against_86 (lv_at hl 2 rfl) ?_
    refine lv_ldc2 hx hb hown (hK.2 _ wc_X7_156 rfl _) dX7_against_88 ?_
    refine m_toj (lN 1000000000) rfl ?_
    refine m_lremN (by omega) (by omega) (by omega) hx hb dX7_against_91 ?_
    refine lv_lstore (lv' := [(16, .long (lN (((z % 1000000000) * w) % 1000000000))), (14, .long (lN (((x % 1000000000) * y) % 1000000000))), (12, .long (lN (((z / 1000000000) * w) + (((z % 1000000000) * w) / 1000000000)))), (10, .long (lN ((z % 1000000000) * w))), (8, .long (lN (((x / 1000000000) * y) + (((x % 1000000000) * y) / 1000000000)))), (6, .long (lN ((x % 1000000000) * y))), (0, .long (lN x)), (2, .int (nI y)), (3, .long (lN z)), (5, .int (nI w))]) hx hb dX7_against_92 hl (by decide) rfl (fun ls hl => ?_)
    refine lv_lload hx hb dX7_against_94 (lv_at hl 1 rfl) ?_
    refine lv_lload hx hb dX7_against_96 (lv_at hl 0 rfl) ?_
    refine m_lc_geN (tgt := 106) (by omega) (by omega) hx hb dX7_against_98 dX7_against_99 (by decide) (fun c_98 => ?_) (fun c_98 => ?_)
    · refine lv_lload hx hb dX7_against_106 (lv_at hl 1 rfl) ?_
      refine lv_lload hx hb dX7_against_108 (lv_at hl 0 rfl) ?_
      refine m_lc_leN (tgt := 118) (by omega) (by omega) hx hb dX7_against_110 dX7_against_111 (by decide) (fun c_110 => ?_) (fun c_110 => ?_)
      · refine lv_iconst (v := nI 0) hx hb dX7_against_118 (by decide) ?_
        exact m_iret hx hb hr hlk hH hS dX7_against_119 (⟨by rw [sg_split, if_neg (by omega)]; first | (rw [if_pos c_98]; done) | (rw [if_neg (by omega), if_pos c_110]; rfl) | (rw [if_neg (by omega), if_neg (by omega)]; rfl), rfl⟩)
      · refine lv_iconst (v := nI 1) hx hb dX7_against_114 (by decide) ?_
        refine lv_goto (tgt := 119) hx hb dX7_against_115 (by decide) ?_
        exact m_iret hx hb hr hlk hH hS dX7_against_119 (⟨by rw [sg_split, if_neg (by omega)]; first | (rw [if_pos c_98]; done) | (rw [if_neg (by omega), if_pos c_110]; rfl) | (rw [if_neg (by omega), if_neg (by omega)]; rfl), rfl⟩)
    · refine lv_iconst (v := (-1)) hx hb dX7_against_102 (by decide) ?_
      refine lv_goto (tgt := 119) hx hb dX7_against_103 (by decide) ?_
      exact m_iret hx hb hr hlk hH hS dX7_against_119 (⟨by rw [sg_split, if_neg (by omega)]; first | (rw [if_pos c_98]; done) | (rw [if_neg (by omega), if_pos c_110]; rfl) | (rw [if_neg (by omega), if_neg (by omega)]; rfl), rfl⟩)
  · refine lv_lload hx hb dX7_against_64 (lv_at hl 2 rfl) ?_
    refine lv_lload hx hb dX7_against_66 (lv_at hl 0 rfl) ?_
    refine m_lc_geN (tgt := 76) (by omega) (by omega) hx hb dX7_against_68 dX7_against_69 (by decide) (fun c_68 => ?_) (fun c_68 => ?_)
    · refine lv_iconst (v := nI 1) hx hb dX7_against_76 (by decide) ?_
      exact m_iret hx hb hr hlk hH hS dX7_against_77 (⟨by rw [sg_split, if_pos c_60]; first | rw [if_pos c_68] | rw [if_neg (by omega)]; rfl, rfl⟩)
    · refine lv_iconst (v := (-1)) hx hb dX7_against_72 (by decide) ?_
      refine lv_goto (tgt := 77) hx hb dX7_against_73 (by decide) ?_
      exact m_iret hx hb hr hlk hH hS dX7_against_77 (⟨by rw [sg_split, if_pos c_60]; first | rw [if_pos c_68] | rw [if_neg (by omega)]; rfl, rfl⟩)
set_option maxHeartbeats 4000000 in
set_option maxRecDepth 100000 in
theorem c_X7_rounded (l : Launch) (G : gG) (B : gB) (σ : gS) (hM : BkM B) (k : Int32) (u d : Nat) (hQ : WfQ σ u d) : Met l yX7_rounded [.code yX7_rounded cX7_rounded 11 (some .long)] ({ frames := 1, cells := 0, slots := 0, locals := 22 } : Room) (mPc G B σ [.ref (B.1 0 0), .int (k)]) (mQl G B (fun r σ' => r = (if 0 ≤ k.toInt ∧ k.toInt ≤ 6 then lN (rndV u d k.toNatClampNeg) else -2) ∧ σ' = σ)) 0 0 (mA G) := by
  refine m_start (by decide) (Nat.le_of_ble_eq_true rfl) ?_
  intro p e s m below meth c ⟨hx, hb, hr, hml, hown, hK, hlk, hz⟩ hH hS ls hl
  have hl : lv_has ls 11 [(0, .ref (B.1 0 0)), (1, .int (k))] := hl
  refine lv_iload_n hx hb dX7_rounded_0 rfl (lv_at hl 1 rfl) ?_
  refine lv_iconst (v := nI 0) hx hb dX7_rounded_1 (by decide) ?_
  refine lv_bipush (v := nI 6) hx hb dX7_rounded_2 (by decide) ?_
  refine m_ki (m_runS ⟨hx, hb, hml, hown, hz⟩ hK hH hS (c_X7_in l G B σ k (nI 0) (nI 6)) mw_X7_in wl_X7_95 ⟨rfl, rfl⟩ ⟨by decide, by decide⟩ rfl hl.1 rfl (Nat.le_of_ble_eq_true rfl) dX7_rounded_4 ⟨Nat.zero_le _, Nat.zero_le _⟩) hS (fun r_4 σ_4 H locs hp hH hS => ?_)
  obtain ⟨hr1, hs1⟩ := hp
  subst hr1
  rw [hs1] at hH
  refine m_ifneB (tgt := 14) hx hb dX7_rounded_7 (by decide) (fun c_7 => ?_) (fun c_7 => ?_)
  · have h6 := inR_t c_7; rw [n0I, n6I] at h6
    obtain ⟨k1, k2⟩ := i_nat h6.1
    obtain ⟨q, hq⟩ : ∃ q : Nat, q = k.toInt.toNat := ⟨_, rfl⟩
    rw [← hq] at k1 k2
    have hq6 : q ≤ 6 := by omega
    clear c_7 hq k2 h6
    subst k1
    have hd := hQ.2.2.1
    have hd2 := hQ.2.2.2.1
    have hu2 := hQ.2.2.2.2.1
    refine lv_aload_n hx hb dX7_rounded_14 rfl (lv_at hl 0 rfl) ?_
    refine gf_X7_139 hx hb hown hK hH (bm hM 0) dX7_rounded_15 ?_
    refine m_toj (lN (u)) (hQ.1) ?_
    refine lv_aload_n hx hb dX7_rounded_18 rfl (lv_at hl 0 rfl) ?_
    refine gf_X7_22 hx hb hown hK hH (bm hM 0) dX7_rounded_19 ?_
    refine m_toj (lN (d)) (hQ.2.1) ?_
    refine m_ldivN (hQ.2.2.2.2.1) (hQ.2.2.1) (hQ.2.2.2.1) hx hb dX7_rounded_22 ?_
    refine lv_lstore_n (lv' := [(2, .long (lN (u / d))), (0, .ref (B.1 0 0)), (1, .int (nI q))]) hx hb dX7_rounded_23 rfl hl (by decide) rfl (fun ls hl => ?_)
    refine lv_aload_n hx hb dX7_rounded_24 rfl (lv_at hl 1 rfl) ?_
    refine gf_X7_139 hx hb hown hK hH (bm hM 0) dX7_rounded_25 ?_
    refine m_toj (lN (u)) (hQ.1) ?_
    refine lv_aload_n hx hb dX7_rounded_28 rfl (lv_at hl 1 rfl) ?_
    refine gf_X7_22 hx hb hown hK hH (bm hM 0) dX7_rounded_29 ?_
    refine m_toj (lN (d)) (hQ.2.1) ?_
    refine m_lremN (hQ.2.2.2.2.1) (hQ.2.2.1) (hQ.2.2.2.1) hx hb dX7_rounded_32 ?_
    refine lv_lstore (lv' := [(4, .long (lN (u % d))), (2, .long (lN (u / d))), (0, .ref (B.1 0 0)), (1, .int (nI q))]) hx hb dX7_rounded_33 hl (by decide) rfl (fun ls hl => ?_)
    refine lv_iconst (v := nI 0) hx hb dX7_rounded_35 (by decide) ?_
    refine lv_istore (lv' := [(6, .int (nI 0)), (4, .long (lN (u % d))), (2, .long (lN (u / d))), (0, .ref (B.1 0 0)), (1, .int (nI q))]) hx hb dX7_rounded_36 hl (by decide) rfl (fun ls hl => ?_)
    have loop : ∀ (n : Nat) (j : Nat), j ≤ q ∧ q < j + n → ∀ (ls : Array Slot), lv_has ls 11 [(0, .ref (B.1 0 0)), (1, .int (nI q)), (2, .long (lN ((rnd u d j).1))), (4, .long (lN ((rnd u d j).2))), (6, .int (nI j))] → W p l e ({ frames := 1, cells := 0, slots := 0, locals := 22 } : Room) s m ([.ref (B.1 0 0), .int (nI q)] : List Value).toArray below meth c H locs 0 0 (MQ below (mQl G B (fun r σ' => r = (if 0 ≤ (nI q).toInt ∧ (nI q).toInt ≤ 6 then lN (rndV u d (nI q).toNatClampNeg) else -2) ∧ σ' = σ)) ([.ref (B.1 0 0), .int (nI q)] : List Value).toArray s 0 0 (mA G)) (F0 m 38 ls []) := by
      intro n
      induction n with
      | zero => intro j hh; exfalso; omega
      | succ n ih =>
        intro j hh ls hl
        refine lv_iload hx hb dX7_rounded_38 (lv_at hl 4 rfl) ?_
        refine lv_iload_n hx hb dX7_rounded_40 rfl (lv_at hl 1 rfl) ?_
        refine m_icmp_geN (tgt := 124) (by omega) (by omega) hx hb dX7_rounded_41 (by decide) (fun c_41 => ?_) (fun c_41 => ?_)
        · have hjl := rnd_lt hd hQ.2.2.2.2.2 j
          have hj : j = q := by omega
          have hpw := pw6 (show j ≤ 6 by omega)
          refine lv_aload_n hx hb dX7_rounded_124 rfl (lv_at hl 0 rfl) ?_
          refine gf_X7_22 hx hb hown hK hH (bm hM 0) dX7_rounded_125 ?_
          refine m_toj (lN (d)) (hQ.2.1) ?_
          refine lv_lload hx hb dX7_rounded_128 (lv_at hl 3 rfl) ?_
          refine m_lsubN (by omega) hx hb dX7_rounded_130 ?_
          refine lv_lstore (lv' := [(6, .long (lN (d - ((rnd u d j).2)))), (0, .ref (B.1 0 0)), (1, .int (nI q)), (2, .long (lN ((rnd u d j).1))), (4, .long (lN ((rnd u d j).2)))]) hx hb dX7_rounded_131 hl (by decide) rfl (fun ls hl => ?_)
          refine lv_lload hx hb dX7_rounded_133 (lv_at hl 4 rfl) ?_
          refine lv_lload hx hb dX7_rounded_135 (lv_at hl 0 rfl) ?_
          refine m_lc_gtN (tgt := 159) (by omega) (by omega) hx hb dX7_rounded_137 dX7_rounded_138 (by decide) (fun c_137 => ?_) (fun c_137 => ?_)
          · refine lv_lload_n hx hb dX7_rounded_159 rfl (lv_at hl 3 rfl) ?_
            refine lv_lconst (v := lN 1) hx hb dX7_rounded_160 rfl ?_
            refine m_laddN hx hb dX7_rounded_161 ?_
            refine lv_goto (tgt := 166) hx hb dX7_rounded_162 (by decide) ?_
            exact m_lret hx hb hr hlk hH hS dX7_rounded_166 (⟨by rw [if_pos (show 0 ≤ (nI q).toInt ∧ (nI q).toInt ≤ 6 by rw [nI_I (by omega)]; omega), nI_clamp (by omega), ← hj]; unfold rndV; first | rw [if_pos (by omega)] | rw [if_neg (by omega)], rfl⟩)
          · refine lv_lload hx hb dX7_rounded_141 (lv_at hl 4 rfl) ?_
            refine lv_lload hx hb dX7_rounded_143 (lv_at hl 0 rfl) ?_
            refine m_lc_neN (tgt := 165) (by omega) (by omega) hx hb dX7_rounded_145 dX7_rounded_146 (by decide) (fun c_145 => ?_) (fun c_145 => ?_)
            · refine lv_lload_n hx hb dX7_rounded_165 rfl (lv_at hl 3 rfl) ?_
              exact m_lret hx hb hr hlk hH hS dX7_rounded_166 (⟨by rw [if_pos (show 0 ≤ (nI q).toInt ∧ (nI q).toInt ≤ 6 by rw [nI_I (by omega)]; omega), nI_clamp (by omega), ← hj]; unfold rndV; first | rw [if_pos (by omega)] | rw [if_neg (by omega)], rfl⟩)
            · refine lv_lload_n hx hb dX7_rounded_149 rfl (lv_at hl 3 rfl) ?_
              refine lv_ldc2 hx hb hown (hK.2 _ wc_X7_146 rfl _) dX7_rounded_150 ?_
              refine m_toj (lN 2) rfl ?_
              refine m_lremN (by omega) (by omega) (by omega) hx hb dX7_rounded_153 ?_
              refine lv_lconst (v := lN 1) hx hb dX7_rounded_154 rfl ?_
              refine m_lc_neN (tgt := 165) (by omega) (by omega) hx hb dX7_rounded_155 dX7_rounded_156 (by decide) (fun c_155 => ?_) (fun c_155 => ?_)
              · refine lv_lload_n hx hb dX7_rounded_165 rfl (lv_at hl 3 rfl) ?_
                exact m_lret hx hb hr hlk hH hS dX7_rounded_166 (⟨by rw [if_pos (show 0 ≤ (nI q).toInt ∧ (nI q).toInt ≤ 6 by rw [nI_I (by omega)]; omega), nI_clamp (by omega), ← hj]; unfold rndV; first | rw [if_pos (by omega)] | rw [if_neg (by omega)], rfl⟩)
              · refine lv_lload_n hx hb dX7_rounded_159 rfl (lv_at hl 3 rfl) ?_
                refine lv_lconst (v := lN 1) hx hb dX7_rounded_160 rfl ?_
                refine m_laddN hx hb dX7_rounded_161 ?_
                refine lv_goto (tgt := 166) hx hb dX7_rounded_162 (by decide) ?_
                exact m_lret hx hb hr hlk hH hS dX7_rounded_166 (⟨by rw [if_pos (show 0 ≤ (nI q).toInt ∧ (nI q).toInt ≤ 6 by rw [nI_I (by omega)]; omega), nI_clamp (by omega), ← hj]; unfold rndV; first | rw [if_pos (by omega)] | rw [if_neg (by omega)], rfl⟩)
        · have hjl := rnd_lt hd hQ.2.2.2.2.2 j
          refine lv_lconst (v := lN 0) hx hb dX7_rounded_44 rfl ?_
          refine lv_lstore (lv' := [(7, .long (lN 0)), (0, .ref (B.1 0 0)), (1, .int (nI q)), (2, .long (lN ((rnd u d j).1))), (4, .long (lN ((rnd u d j).2))), (6, .int (nI j))]) hx hb dX7_rounded_45 hl (by decide) rfl (fun ls hl => ?_)
          refine lv_iconst (v := nI 0) hx hb dX7_rounded_47 (by decide) ?_
          refine lv_istore (lv' := [(9, .int (nI 0)), (7, .long (lN 0)), (0, .ref (B.1 0 0)), (1, .int (nI q)), (2, .long (lN ((rnd u d j).1))), (4, .long (lN ((rnd u d j).2))), (6, .int (nI j))]) hx hb dX7_rounded_48 hl (by decide) rfl (fun ls hl => ?_)
          refine lv_iconst (v := nI 0) hx hb dX7_rounded_50 (by decide) ?_
          refine lv_istore (lv' := [(10, .int (nI 0)), (9, .int (nI 0)), (7, .long (lN 0)), (0, .ref (B.1 0 0)), (1, .int (nI q)), (2, .long (lN ((rnd u d j).1))), (4, .long (lN ((rnd u d j).2))), (6, .int (nI j))]) hx hb dX7_rounded_51 hl (by decide) rfl (fun ls hl => ?_)
          have loopi : ∀ (n2 : Nat) (i : Nat), i ≤ 10 ∧ 10 < i + n2 → ∀ (ls : Array Slot), lv_has ls 11 [(0, .ref (B.1 0 0)), (1, .int (nI q)), (2, .long (lN ((rnd u d j).1))), (4, .long (lN ((rnd u d j).2))), (6, .int (nI j)), (7, .long (lN ((inn d (rnd u d j).2 i).1))), (9, .int (nI ((inn d (rnd u d j).2 i).2))), (10, .int (nI i))] → W p l e ({ frames := 1, cells := 0, slots := 0, locals := 22 } : Room) s m ([.ref (B.1 0 0), .int (nI q)] : List Value).toArray below meth c H locs 0 0 (MQ below (mQl G B (fun r σ' => r = (if 0 ≤ (nI q).toInt ∧ (nI q).toInt ≤ 6 then lN (rndV u d (nI q).toNatClampNeg) else -2) ∧ σ' = σ)) ([.ref (B.1 0 0), .int (nI q)] : List Value).toArray s 0 0 (mA G)) (F0 m 53 ls []) := by
            intro n2
            induction n2 with
            | zero => intro i hhi; exfalso; omega
            | succ n2 ihi =>
              intro i hhi ls hl
              refine lv_iload hx hb dX7_rounded_53 (lv_at hl 7 rfl) ?_
              refine lv_bipush (v := nI 10) hx hb dX7_rounded_55 (by decide) ?_
              refine m_icmp_geN (tgt := 104) (by omega) (by omega) hx hb dX7_rounded_57 (by decide) (fun c_57 => ?_) (fun c_57 => ?_)
              · have hil := inn_lt hjl.1 i
                refine lv_ldc2 hx hb hown (hK.2 _ wc_X7_144 rfl _) dX7_rounded_104 ?_
                refine m_toj (lN 10) rfl ?_
                refine lv_lload_n hx hb dX7_rounded_107 rfl (lv_at hl 2 rfl) ?_
                refine m_lmulN hx hb dX7_rounded_108 ?_
                refine lv_iload hx hb dX7_rounded_109 (lv_at hl 6 rfl) ?_
                refine m_i2lN (by omega) hx hb dX7_rounded_111 ?_
                refine m_laddN hx hb dX7_rounded_112 ?_
                refine lv_lstore_n (lv' := [(2, .long (lN ((10 * ((rnd u d j).1)) + ((inn d (rnd u d j).2 i).2)))), (0, .ref (B.1 0 0)), (1, .int (nI q)), (4, .long (lN ((rnd u d j).2))), (6, .int (nI j)), (7, .long (lN ((inn d (rnd u d j).2 i).1))), (9, .int (nI ((inn d (rnd u d j).2 i).2))), (10, .int (nI i))]) hx hb dX7_rounded_113 rfl hl (by decide) rfl (fun ls hl => ?_)
                refine lv_lload hx hb dX7_rounded_114 (lv_at hl 5 rfl) ?_
                refine lv_lstore (lv' := [(4, .long (lN ((inn d (rnd u d j).2 i).1))), (2, .long (lN ((10 * ((rnd u d j).1)) + ((inn d (rnd u d j).2 i).2)))), (0, .ref (B.1 0 0)), (1, .int (nI q)), (6, .int (nI j)), (7, .long (lN ((inn d (rnd u d j).2 i).1))), (9, .int (nI ((inn d (rnd u d j).2 i).2))), (10, .int (nI i))]) hx hb dX7_rounded_116 hl (by decide) rfl (fun ls hl => ?_)
                refine lv_iinc (v := nI (j + 1)) (lv' := [(6, .int (nI (j + 1))), (4, .long (lN ((inn d (rnd u d j).2 i).1))), (2, .long (lN ((10 * ((rnd u d j).1)) + ((inn d (rnd u d j).2 i).2)))), (0, .ref (B.1 0 0)), (1, .int (nI q)), (7, .long (lN ((inn d (rnd u d j).2 i).1))), (9, .int (nI ((inn d (rnd u d j).2 i).2))), (10, .int (nI i))]) hx hb dX7_rounded_118 hl (k := 4) rfl (nI_1 _) (by decide) rfl (fun ls hl => ?_)
                refine lv_goto (tgt := 38) hx hb dX7_rounded_121 (by decide) ?_
                have hi10 : i = 10 := by omega
                subst hi10
                exact ih (j + 1) (by omega) ls (lv_sub hl [3, 4, 2, 1, 0] rfl)
              · have hil := inn_lt hjl.1 i
                refine lv_lload hx hb dX7_rounded_60 (lv_at hl 5 rfl) ?_
                refine lv_aload_n hx hb dX7_rounded_62 rfl (lv_at hl 0 rfl) ?_
                refine gf_X7_22 hx hb hown hK hH (bm hM 0) dX7_rounded_63 ?_
                refine m_toj (lN (d)) (hQ.2.1) ?_
                refine lv_lload hx hb dX7_rounded_66 (lv_at hl 3 rfl) ?_
                refine m_lsubN (by omega) hx hb dX7_rounded_68 ?_
                refine m_lc_ltN (tgt := 91) (by omega) (by omega) hx hb dX7_rounded_69 dX7_rounded_70 (by decide) (fun c_69 => ?_) (fun c_69 => ?_)
                · refine lv_lload hx hb dX7_rounded_91 (lv_at hl 5 rfl) ?_
                  refine lv_lload hx hb dX7_rounded_93 (lv_at hl 3 rfl) ?_
                  refine m_laddN hx hb dX7_rounded_95 ?_
                  refine lv_lstore (lv' := [(7, .long (lN (((inn d (rnd u d j).2 i).1) + ((rnd u d j).2)))), (0, .ref (B.1 0 0)), (1, .int (nI q)), (2, .long (lN ((rnd u d j).1))), (4, .long (lN ((rnd u d j).2))), (6, .int (nI j)), (9, .int (nI ((inn d (rnd u d j).2 i).2))), (10, .int (nI i))]) hx hb dX7_rounded_96 hl (by decide) rfl (fun ls hl => ?_)
                  refine lv_iinc (v := nI (i + 1)) (lv' := [(10, .int (nI (i + 1))), (7, .long (lN (((inn d (rnd u d j).2 i).1) + ((rnd u d j).2)))), (0, .ref (B.1 0 0)), (1, .int (nI q)), (2, .long (lN ((rnd u d j).1))), (4, .long (lN ((rnd u d j).2))), (6, .int (nI j)), (9, .int (nI ((inn d (rnd u d j).2 i).2)))]) hx hb dX7_rounded_98 hl (k := 7) rfl (nI_1 _) (by decide) rfl (fun ls hl => ?_)
                  refine lv_goto (tgt := 53) hx hb dX7_rounded_101 (by decide) ?_
                  have hin : inn d (rnd u d j).2 (i + 1) = ((inn d (rnd u d j).2 i).1 + (rnd u d j).2, (inn d (rnd u d j).2 i).2) := by
                    show (if _ then _ else _) = _
                    rw [if_neg (by omega)]
                  exact ihi (i + 1) (by omega) ls (by rw [hin]; exact lv_sub hl [2, 3, 4, 5, 6, 1, 7, 0] rfl)
                · refine lv_lload hx hb dX7_rounded_73 (lv_at hl 5 rfl) ?_
                  refine lv_aload_n hx hb dX7_rounded_75 rfl (lv_at hl 0 rfl) ?_
                  refine gf_X7_22 hx hb hown hK hH (bm hM 0) dX7_rounded_76 ?_
                  refine m_toj (lN (d)) (hQ.2.1) ?_
                  refine lv_lload hx hb dX7_rounded_79 (lv_at hl 3 rfl) ?_
                  refine m_lsubN (by omega) hx hb dX7_rounded_81 ?_
                  refine m_lsubN (by omega) hx hb dX7_rounded_82 ?_
                  refine lv_lstore (lv' := [(7, .long (lN (((inn d (rnd u d j).2 i).1) - (d - ((rnd u d j).2))))), (0, .ref (B.1 0 0)), (1, .int (nI q)), (2, .long (lN ((rnd u d j).1))), (4, .long (lN ((rnd u d j).2))), (6, .int (nI j)), (9, .int (nI ((inn d (rnd u d j).2 i).2))), (10, .int (nI i))]) hx hb dX7_rounded_83 hl (by decide) rfl (fun ls hl => ?_)
                  refine lv_iinc (v := nI ((inn d (rnd u d j).2 i).2 + 1)) (lv' := [(9, .int (nI ((inn d (rnd u d j).2 i).2 + 1))), (7, .long (lN (((inn d (rnd u d j).2 i).1) - (d - ((rnd u d j).2))))), (0, .ref (B.1 0 0)), (1, .int (nI q)), (2, .long (lN ((rnd u d j).1))), (4, .long (lN ((rnd u d j).2))), (6, .int (nI j)), (10, .int (nI i))]) hx hb dX7_rounded_85 hl (k := 6) rfl (nI_1 _) (by decide) rfl (fun ls hl => ?_)
                  refine lv_goto (tgt := 98) hx hb dX7_rounded_88 (by decide) ?_
                  refine lv_iinc (v := nI (i + 1)) (lv' := [(10, .int (nI (i + 1))), (9, .int (nI ((inn d (rnd u d j).2 i).2 + 1))), (7, .long (lN (((inn d (rnd u d j).2 i).1) - (d - ((rnd u d j).2))))), (0, .ref (B.1 0 0)), (1, .int (nI q)), (2, .long (lN ((rnd u d j).1))), (4, .long (lN ((rnd u d j).2))), (6, .int (nI j))]) hx hb dX7_rounded_98 hl (k := 7) rfl (nI_1 _) (by decide) rfl (fun ls hl => ?_)
                  refine lv_goto (tgt := 53) hx hb dX7_rounded_101 (by decide) ?_
                  have hin : inn d (rnd u d j).2 (i + 1) = ((inn d (rnd u d j).2 i).1 - (d - (rnd u d j).2), (inn d (rnd u d j).2 i).2 + 1) := by
                    show (if _ then _ else _) = _
                    rw [if_pos (by omega)]
                  exact ihi (i + 1) (by omega) ls (by rw [hin]; exact lv_sub hl [3, 4, 5, 6, 7, 2, 1, 0] rfl)
          exact loopi 11 0 (by omega) ls (lv_sub hl [3, 4, 5, 6, 7, 2, 1, 0] rfl)
    exact loop (q + 1) 0 (by omega) ls (lv_sub hl [3, 4, 2, 1, 0] rfl)
  · refine lv_ldc2 hx hb hown (hK.2 _ wc_X7_142 rfl _) dX7_rounded_10 ?_
    exact m_lret hx hb hr hlk hH hS dX7_rounded_13 (⟨(if_neg (fun h => inR_f c_7 (by rw [n0I, n6I]; exact h))).symm, rfl⟩)
