set_option maxHeartbeats 4000000 in
set_option maxRecDepth 100000 in
theorem c_X1_commonDivisor (l : Launch) (G : gG) (B : gB) (σ : gS) (x y : Nat) (h1 : x < 9223372036854775808) (h2 : y < 9223372036854775808) : Met l yX1_commonDivisor [.code yX1_commonDivisor cX1_commonDivisor 11 (some .long)] ({ frames := 0, cells := 0, slots := 0, locals := 0 } : Room) (mPc G B σ [.long (lN x), .long (lN y)]) (mQl G B (fun r σ' => r = lN (Nat.gcd x y) ∧ σ' = σ)) 0 0 (mA G) := by
  refine m_start (by decide) (Nat.le_of_ble_eq_true rfl) ?_
  intro p e s m below meth c ⟨hx, hb, hr, hml, hown, hK, hlk, hz⟩ hH hS ls hl
  have hl : lv_has ls 11 [(0, .long (lN x)), (2, .long (lN y))] := hl
  have loop : ∀ (n : Nat) (i u v : Nat), Nat.gcd u v = Nat.gcd x y ∧ u < 9223372036854775808 ∧ v < 9223372036854775808 ∧ EU i u v ∧ i ≤ 200 ∧ 200 < i + n → ∀ (ls : Array Slot), lv_has ls 11 [(0, .long (lN x)), (2, .long (lN y)), (4, .long (lN u)), (6, .long (lN v)), (8, .int (nI i))] → W p l e ({ frames := 0, cells := 0, slots := 0, locals := 0 } : Room) s m ([.long (lN x), .long (lN y)] : List Value).toArray below meth c s.heap [] 0 0 (MQ below (mQl G B (fun r σ' => r = lN (Nat.gcd x y) ∧ σ' = σ)) ([.long (lN x), .long (lN y)] : List Value).toArray s 0 0 (mA G)) (F0 m 9 ls []) := by
    intro n
    induction n with
    | zero => intro i u v hh; exfalso; omega
    | succ n ih =>
      intro i u v hh ls hl
      refine lv_iload hx hb dX1_commonDivisor_9 (lv_at hl 4 rfl) ?_
      refine lv_sipush (v := nI 200) hx hb dX1_commonDivisor_11 (by decide) ?_
      refine m_icmp_geN (tgt := 45) (by omega) (by omega) hx hb dX1_commonDivisor_14 (by decide) (fun c_14 => ?_) (fun c_14 => ?_)
      · refine lv_lload hx hb dX1_commonDivisor_45 (lv_at hl 2 rfl) ?_
        exact m_lret hx hb hr hlk hH hS dX1_commonDivisor_47 (⟨by rw [← hh.1, show v = 0 from (by first | exact c_20 | exact EU_e hh.2.2.2.1 (by omega)), Nat.gcd_zero_right], rfl⟩)
      · refine lv_lload hx hb dX1_commonDivisor_17 (lv_at hl 3 rfl) ?_
        refine lv_lconst (v := lN 0) hx hb dX1_commonDivisor_19 rfl ?_
        refine m_lc_eqN (tgt := 45) (by omega) (by omega) hx hb dX1_commonDivisor_20 dX1_commonDivisor_21 (by decide) (fun c_20 => ?_) (fun c_20 => ?_)
        · refine lv_lload hx hb dX1_commonDivisor_45 (lv_at hl 2 rfl) ?_
          exact m_lret hx hb hr hlk hH hS dX1_commonDivisor_47 (⟨by rw [← hh.1, show v = 0 from (by first | exact c_20 | exact EU_e hh.2.2.2.1 (by omega)), Nat.gcd_zero_right], rfl⟩)
        · refine lv_lload hx hb dX1_commonDivisor_24 (lv_at hl 2 rfl) ?_
          refine lv_lload hx hb dX1_commonDivisor_26 (lv_at hl 3 rfl) ?_
          refine m_lremN (by omega) (by omega) (by omega) hx hb dX1_commonDivisor_28 ?_
          refine lv_lstore (lv' := [(9, .long (lN (u % v))), (0, .long (lN x)), (2, .long (lN y)), (4, .long (lN u)), (6, .long (lN v)), (8, .int (nI i))]) hx hb dX1_commonDivisor_29 hl (by decide) rfl (fun ls hl => ?_)
          refine lv_lload hx hb dX1_commonDivisor_31 (lv_at hl 4 rfl) ?_
          refine lv_lstore (lv' := [(4, .long (lN v)), (9, .long (lN (u % v))), (0, .long (lN x)), (2, .long (lN y)), (6, .long (lN v)), (8, .int (nI i))]) hx hb dX1_commonDivisor_33 hl (by decide) rfl (fun ls hl => ?_)
          refine lv_lload hx hb dX1_commonDivisor_35 (lv_at hl 1 rfl) ?_
          refine lv_lstore (lv' := [(6, .long (lN (u % v))), (4, .long (lN v)), (9, .long (lN (u % v))), (0, .long (lN x)), (2, .long (lN y)), (8, .int (nI i))]) hx hb dX1_commonDivisor_37 hl (by decide) rfl (fun ls hl => ?_)
          refine lv_iinc (v := nI (i + 1)) (lv' := [(8, .int (nI (i + 1))), (6, .long (lN (u % v))), (4, .long (lN v)), (9, .long (lN (u % v))), (0, .long (lN x)), (2, .long (lN y))]) hx hb dX1_commonDivisor_39 hl (k := 5) rfl (nI_1 _) (by decide) rfl (fun ls hl => ?_)
          refine lv_goto (tgt := 9) hx hb dX1_commonDivisor_42 (by decide) ?_
          exact ih (i + 1) v (u % v) (by have := Nat.mod_lt u (show 0 < v by omega); refine ⟨?_, by omega, by omega, EU_s (by omega) hh.2.2.2.1, by omega, by omega⟩; rw [← hh.1, Nat.gcd_comm v, ← Nat.gcd_rec, Nat.gcd_comm]) ls (lv_sub hl [4, 5, 2, 1, 0] rfl)
  refine lv_lload_n hx hb dX1_commonDivisor_0 rfl (lv_at hl 0 rfl) ?_
  refine lv_lstore (lv' := [(4, .long (lN x)), (0, .long (lN x)), (2, .long (lN y))]) hx hb dX1_commonDivisor_1 hl (by decide) rfl (fun ls hl => ?_)
  refine lv_lload_n hx hb dX1_commonDivisor_3 rfl (lv_at hl 2 rfl) ?_
  refine lv_lstore (lv' := [(6, .long (lN y)), (4, .long (lN x)), (0, .long (lN x)), (2, .long (lN y))]) hx hb dX1_commonDivisor_4 hl (by decide) rfl (fun ls hl => ?_)
  refine lv_iconst (v := nI 0) hx hb dX1_commonDivisor_6 (by decide) ?_
  refine lv_istore (lv' := [(8, .int (nI 0)), (6, .long (lN y)), (4, .long (lN x)), (0, .long (lN x)), (2, .long (lN y))]) hx hb dX1_commonDivisor_7 hl (by decide) rfl (fun ls hl => ?_)
  exact loop 201 0 x y ⟨rfl, h1, h2, EU_0 h1 h2, by omega, by omega⟩ ls (lv_sub hl [3, 4, 2, 1, 0] rfl)
set_option maxHeartbeats 4000000 in
set_option maxRecDepth 100000 in
theorem c_X1_become (l : Launch) (G : gG) (B : gB) (σ : gS) (hC : BkC B) (x y : Nat) (h1 : x < 9223372036854775808) (h2 : y < 9223372036854775808) (hy : 0 < y) : Met l yX1_become [.code yX1_become cX1_become 7 none] ({ frames := 1, cells := 0, slots := 0, locals := 30 } : Room) (mPc G B σ [.ref (B.1 44 0), .long (lN x), .long (lN y)]) (mQv G B (fun σ' => σ' = sJ (sJ σ 44 0 0 (lN (x / Nat.gcd x y))) 44 0 1 (lN (y / Nat.gcd x y)))) 0 0 (mA G) := by
  refine m_start (by decide) (Nat.le_of_ble_eq_true rfl) ?_
  intro p e s m below meth c ⟨hx, hb, hr, hml, hown, hK, hlk, hz⟩ hH hS ls hl
  have hl : lv_has ls 7 [(0, .ref (B.1 44 0)), (1, .long (lN x)), (3, .long (lN y))] := hl
  refine lv_lload_n hx hb dX1_become_0 rfl (lv_at hl 1 rfl) ?_
  refine lv_lload_n hx hb dX1_become_1 rfl (lv_at hl 2 rfl) ?_
  refine m_kl (m_runS ⟨hx, hb, hml, hown, hz⟩ hK hH hS (c_X1_commonDivisor l G B σ x y h1 h2) mw_X1_commonDivisor wl_X1_18 ⟨rfl, rfl⟩ ⟨by decide, by decide⟩ rfl hl.1 rfl (Nat.le_of_ble_eq_true rfl) dX1_become_2 ⟨Nat.zero_le _, Nat.zero_le _⟩) hS (fun r_2 σ_2 H locs hp hH hS => ?_)
  obtain ⟨hr1, hs1⟩ := hp
  subst hr1
  rw [hs1] at hH
  refine lv_lstore (lv' := [(5, .long (lN (Nat.gcd x y))), (0, .ref (B.1 44 0)), (1, .long (lN x)), (3, .long (lN y))]) hx hb dX1_become_5 hl (by decide) rfl (fun ls hl => ?_)
  have hg : 0 < Nat.gcd x y := Nat.gcd_pos_of_pos_right _ hy
  have hg2 : Nat.gcd x y ≤ y := Nat.gcd_le_right _ hy
  refine lv_lload hx hb dX1_become_7 (lv_at hl 0 rfl) ?_
  refine lv_lconst (v := lN 0) hx hb dX1_become_9 rfl ?_
  refine m_lc_gtN (tgt := 15) (by omega) (by omega) hx hb dX1_become_10 dX1_become_11 (by decide) (fun c_10 => ?_) (fun c_10 => ?_)
  · refine lv_aload_n hx hb dX1_become_15 rfl (lv_at hl 1 rfl) ?_
    refine lv_lload_n hx hb dX1_become_16 rfl (lv_at hl 2 rfl) ?_
    refine lv_lload hx hb dX1_become_17 (lv_at hl 0 rfl) ?_
    refine m_ldivN (by omega) (by omega) (by omega) hx hb dX1_become_19 ?_
    refine pf_X1_9 hx hb hown hK hH hS (bc hC 44) dX1_become_20 (fun H locs hH hS => ?_)
    refine lv_aload_n hx hb dX1_become_23 rfl (lv_at hl 1 rfl) ?_
    refine lv_lload_n hx hb dX1_become_24 rfl (lv_at hl 3 rfl) ?_
    refine lv_lload hx hb dX1_become_25 (lv_at hl 0 rfl) ?_
    refine m_ldivN (by omega) (by omega) (by omega) hx hb dX1_become_27 ?_
    refine pf_X1_15 hx hb hown hK hH hS (bc hC 44) dX1_become_28 (fun H locs hH hS => ?_)
    exact m_vret hx hb hr hlk hH hS dX1_become_31 (rfl)
  · exact absurd hg (by omega)
set_option maxHeartbeats 4000000 in
set_option maxRecDepth 100000 in
theorem c_X1_scaled (l : Launch) (G : gG) (B : gB) (σ : gS) (hC : BkC B) (q : Nat) (hq6 : q ≤ 6) (u d : Nat) (hQ : cQ σ u d) : Met l yX1_scaled [.code yX1_scaled cX1_scaled 10 (some .long)] ({ frames := 0, cells := 0, slots := 0, locals := 0 } : Room) (mPc G B σ [.ref (B.1 44 0), .int (nI q)]) (mQl G B (fun r σ' => r = lN (rndV u d q) ∧ σ' = σ)) 0 0 (mA G) := by
  refine m_start (by decide) (Nat.le_of_ble_eq_true rfl) ?_
  intro p e s m below meth c ⟨hx, hb, hr, hml, hown, hK, hlk, hz⟩ hH hS ls hl
  have hl : lv_has ls 10 [(0, .ref (B.1 44 0)), (1, .int (nI q))] := hl
  have hd := hQ.2.2.1
  have hd2 := hQ.2.2.2.1
  have hu2 := hQ.2.2.2.2.1
  refine lv_aload_n hx hb dX1_scaled_0 rfl (lv_at hl 0 rfl) ?_
  refine gf_X1_15 hx hb hown hK hH (bc hC 44) dX1_scaled_1 ?_
  refine m_toj (lN (d)) (hQ.2.1) ?_
  refine lv_lconst (v := lN 0) hx hb dX1_scaled_4 rfl ?_
  refine m_lc_gtN (tgt := 11) (by omega) (by omega) hx hb dX1_scaled_5 dX1_scaled_6 (by decide) (fun c_5 => ?_) (fun c_5 => ?_)
  · refine lv_aload_n hx hb dX1_scaled_11 rfl (lv_at hl 0 rfl) ?_
    refine gf_X1_9 hx hb hown hK hH (bc hC 44) dX1_scaled_12 ?_
    refine m_toj (lN (u)) (hQ.1) ?_
    refine lv_aload_n hx hb dX1_scaled_15 rfl (lv_at hl 0 rfl) ?_
    refine gf_X1_15 hx hb hown hK hH (bc hC 44) dX1_scaled_16 ?_
    refine m_toj (lN (d)) (hQ.2.1) ?_
    refine m_ldivN (by omega) (by omega) (by omega) hx hb dX1_scaled_19 ?_
    refine lv_lstore_n (lv' := [(2, .long (lN (u / d))), (0, .ref (B.1 44 0)), (1, .int (nI q))]) hx hb dX1_scaled_20 rfl hl (by decide) rfl (fun ls hl => ?_)
    refine lv_aload_n hx hb dX1_scaled_21 rfl (lv_at hl 1 rfl) ?_
    refine gf_X1_9 hx hb hown hK hH (bc hC 44) dX1_scaled_22 ?_
    refine m_toj (lN (u)) (hQ.1) ?_
    refine lv_aload_n hx hb dX1_scaled_25 rfl (lv_at hl 1 rfl) ?_
    refine gf_X1_15 hx hb hown hK hH (bc hC 44) dX1_scaled_26 ?_
    refine m_toj (lN (d)) (hQ.2.1) ?_
    refine m_lremN (by omega) (by omega) (by omega) hx hb dX1_scaled_29 ?_
    refine lv_lstore (lv' := [(4, .long (lN (u % d))), (2, .long (lN (u / d))), (0, .ref (B.1 44 0)), (1, .int (nI q))]) hx hb dX1_scaled_30 hl (by decide) rfl (fun ls hl => ?_)
    refine lv_iconst (v := nI 0) hx hb dX1_scaled_32 (by decide) ?_
    refine lv_istore (lv' := [(6, .int (nI 0)), (4, .long (lN (u % d))), (2, .long (lN (u / d))), (0, .ref (B.1 44 0)), (1, .int (nI q))]) hx hb dX1_scaled_33 hl (by decide) rfl (fun ls hl => ?_)
    have loop : ∀ (n : Nat) (j : Nat), j ≤ q ∧ q < j + n → ∀ (ls : Array Slot), lv_has ls 10 [(0, .ref (B.1 44 0)), (1, .int (nI q)), (2, .long (lN ((rnd u d j).1))), (4, .long (lN ((rnd u d j).2))), (6, .int (nI j))] → W p l e ({ frames := 0, cells := 0, slots := 0, locals := 0 } : Room) s m ([.ref (B.1 44 0), .int (nI q)] : List Value).toArray below meth c s.heap [] 0 0 (MQ below (mQl G B (fun r σ' => r = lN (rndV u d q) ∧ σ' = σ)) ([.ref (B.1 44 0), .int (nI q)] : List Value).toArray s 0 0 (mA G)) (F0 m 35 ls []) := by
      intro n
      induction n with
      | zero => intro j hh; exfalso; omega
      | succ n ih =>
        intro j hh ls hl
        refine lv_iload hx hb dX1_scaled_35 (lv_at hl 4 rfl) ?_
        refine lv_iload_n hx hb dX1_scaled_37 rfl (lv_at hl 1 rfl) ?_
        refine m_icmp_geN (tgt := 115) (by omega) (by omega) hx hb dX1_scaled_38 (by decide) (fun c_38 => ?_) (fun c_38 => ?_)
        · have hjl := rnd_lt hd hQ.2.2.2.2.2 j
          have hj : j = q := by omega
          have hpw := pw6 (show j ≤ 6 by omega)
          refine lv_aload_n hx hb dX1_scaled_115 rfl (lv_at hl 0 rfl) ?_
          refine gf_X1_15 hx hb hown hK hH (bc hC 44) dX1_scaled_116 ?_
          refine m_toj (lN (d)) (hQ.2.1) ?_
          refine lv_lload hx hb dX1_scaled_119 (lv_at hl 3 rfl) ?_
          refine m_lsubN (by omega) hx hb dX1_scaled_121 ?_
          refine lv_lstore (lv' := [(6, .long (lN (d - ((rnd u d j).2)))), (0, .ref (B.1 44 0)), (1, .int (nI q)), (2, .long (lN ((rnd u d j).1))), (4, .long (lN ((rnd u d j).2)))]) hx hb dX1_scaled_122 hl (by decide) rfl (fun ls hl => ?_)
          refine lv_lload hx hb dX1_scaled_124 (lv_at hl 4 rfl) ?_
          refine lv_lload hx hb dX1_scaled_126 (lv_at hl 0 rfl) ?_
          have J_128 : ∀ (ls : Array Slot), lv_has ls 10 [(6, .long (lN (d - ((rnd u d j).2)))), (0, .ref (B.1 44 0)), (1, .int (nI q)), (2, .long (lN ((rnd u d j).1))), (4, .long (lN ((rnd u d j).2)))] → W p l e ({ frames := 0, cells := 0, slots := 0, locals := 0 } : Room) s m ([.ref (B.1 44 0), .int (nI q)] : List Value).toArray below meth c s.heap [] 0 0 (MQ below (mQl G B (fun r σ' => r = lN (rndV u d q) ∧ σ' = σ)) ([.ref (B.1 44 0), .int (nI q)] : List Value).toArray s 0 0 (mA G)) (F0 m 155 ls [.int (bI (decide (d - (rnd u d j).2 < (rnd u d j).2 ∨ ((rnd u d j).2 = d - (rnd u d j).2 ∧ (rnd u d j).1 % 2 = 1))))]) := by
            intro ls hl
            refine lv_istore (lv' := [(8, .int (bI (decide (d - (rnd u d j).2 < (rnd u d j).2 ∨ ((rnd u d j).2 = d - (rnd u d j).2 ∧ (rnd u d j).1 % 2 = 1))))), (6, .long (lN (d - ((rnd u d j).2)))), (0, .ref (B.1 44 0)), (1, .int (nI q)), (2, .long (lN ((rnd u d j).1))), (4, .long (lN ((rnd u d j).2)))]) hx hb dX1_scaled_155 hl (by decide) rfl (fun ls hl => ?_)
            refine lv_iload hx hb dX1_scaled_157 (lv_at hl 0 rfl) ?_
            refine m_ifeqB (tgt := 168) hx hb dX1_scaled_159 (by decide) (fun c_159 => ?_) (fun c_159 => ?_)
            · refine lv_lload_n hx hb dX1_scaled_168 rfl (lv_at hl 4 rfl) ?_
              exact m_lret hx hb hr hlk hH hS dX1_scaled_169 (⟨by rw [← hj]; unfold rndV; rw [if_neg (of_decide_eq_false c_159)], rfl⟩)
            · refine lv_lload_n hx hb dX1_scaled_162 rfl (lv_at hl 4 rfl) ?_
              refine lv_lconst (v := lN 1) hx hb dX1_scaled_163 rfl ?_
              refine m_laddN hx hb dX1_scaled_164 ?_
              refine lv_goto (tgt := 169) hx hb dX1_scaled_165 (by decide) ?_
              exact m_lret hx hb hr hlk hH hS dX1_scaled_169 (⟨by rw [← hj]; unfold rndV; rw [if_pos (of_decide_eq_true c_159)], rfl⟩)
          refine m_lc_gtN (tgt := 150) (by omega) (by omega) hx hb dX1_scaled_128 dX1_scaled_129 (by decide) (fun c_128 => ?_) (fun c_128 => ?_)
          · refine lv_iconst (v := nI 1) hx hb dX1_scaled_150 (by decide) ?_
            refine lv_goto (tgt := 155) hx hb dX1_scaled_151 (by decide) ?_
            refine m_toe (bI (decide (d - (rnd u d j).2 < (rnd u d j).2 ∨ ((rnd u d j).2 = d - (rnd u d j).2 ∧ (rnd u d j).1 % 2 = 1)))) (bI_t (decide_eq_true (by omega))) ?_
            exact J_128 ls (lv_sub hl [0, 1, 2, 3, 4] rfl)
          · refine lv_lload hx hb dX1_scaled_132 (lv_at hl 4 rfl) ?_
            refine lv_lload hx hb dX1_scaled_134 (lv_at hl 0 rfl) ?_
            refine m_lc_neN (tgt := 154) (by omega) (by omega) hx hb dX1_scaled_136 dX1_scaled_137 (by decide) (fun c_136 => ?_) (fun c_136 => ?_)
            · refine lv_iconst (v := nI 0) hx hb dX1_scaled_154 (by decide) ?_
              refine m_toe (bI (decide (d - (rnd u d j).2 < (rnd u d j).2 ∨ ((rnd u d j).2 = d - (rnd u d j).2 ∧ (rnd u d j).1 % 2 = 1)))) (bI_f (decide_eq_false (by omega))) ?_
              exact J_128 ls (lv_sub hl [0, 1, 2, 3, 4] rfl)
            · refine lv_lload_n hx hb dX1_scaled_140 rfl (lv_at hl 3 rfl) ?_
              refine lv_ldc2 hx hb hown (hK.2 _ wc_X1_24 rfl _) dX1_scaled_141 ?_
              refine m_toj (lN 2) rfl ?_
              refine m_lremN (by omega) (by omega) (by omega) hx hb dX1_scaled_144 ?_
              refine lv_lconst (v := lN 0) hx hb dX1_scaled_145 rfl ?_
              refine m_lc_eqN (tgt := 154) (by omega) (by omega) hx hb dX1_scaled_146 dX1_scaled_147 (by decide) (fun c_146 => ?_) (fun c_146 => ?_)
              · refine lv_iconst (v := nI 0) hx hb dX1_scaled_154 (by decide) ?_
                refine m_toe (bI (decide (d - (rnd u d j).2 < (rnd u d j).2 ∨ ((rnd u d j).2 = d - (rnd u d j).2 ∧ (rnd u d j).1 % 2 = 1)))) (bI_f (decide_eq_false (by omega))) ?_
                exact J_128 ls (lv_sub hl [0, 1, 2, 3, 4] rfl)
              · refine lv_iconst (v := nI 1) hx hb dX1_scaled_150 (by decide) ?_
                refine lv_goto (tgt := 155) hx hb dX1_scaled_151 (by decide) ?_
                refine m_toe (bI (decide (d - (rnd u d j).2 < (rnd u d j).2 ∨ ((rnd u d j).2 = d - (rnd u d j).2 ∧ (rnd u d j).1 % 2 = 1)))) (bI_t (decide_eq_true (by omega))) ?_
                exact J_128 ls (lv_sub hl [0, 1, 2, 3, 4] rfl)
        · have hjl := rnd_lt hd hQ.2.2.2.2.2 j
          refine lv_lconst (v := lN 0) hx hb dX1_scaled_41 rfl ?_
          refine lv_lstore (lv' := [(7, .long (lN 0)), (0, .ref (B.1 44 0)), (1, .int (nI q)), (2, .long (lN ((rnd u d j).1))), (4, .long (lN ((rnd u d j).2))), (6, .int (nI j))]) hx hb dX1_scaled_42 hl (by decide) rfl (fun ls hl => ?_)
          refine lv_ldc2 hx hb hown (hK.2 _ wc_X1_22 rfl _) dX1_scaled_44 ?_
          refine m_toj (lN 10) rfl ?_
          refine lv_lload_n hx hb dX1_scaled_47 rfl (lv_at hl 3 rfl) ?_
          refine m_lmulN hx hb dX1_scaled_48 ?_
          refine lv_lstore_n (lv' := [(2, .long (lN (10 * ((rnd u d j).1)))), (7, .long (lN 0)), (0, .ref (B.1 44 0)), (1, .int (nI q)), (4, .long (lN ((rnd u d j).2))), (6, .int (nI j))]) hx hb dX1_scaled_49 rfl hl (by decide) rfl (fun ls hl => ?_)
          refine lv_iconst (v := nI 0) hx hb dX1_scaled_50 (by decide) ?_
          refine lv_istore (lv' := [(9, .int (nI 0)), (2, .long (lN (10 * ((rnd u d j).1)))), (7, .long (lN 0)), (0, .ref (B.1 44 0)), (1, .int (nI q)), (4, .long (lN ((rnd u d j).2))), (6, .int (nI j))]) hx hb dX1_scaled_51 hl (by decide) rfl (fun ls hl => ?_)
          have loopi : ∀ (n2 : Nat) (i : Nat), i ≤ 10 ∧ 10 < i + n2 → ∀ (ls : Array Slot), lv_has ls 10 [(0, .ref (B.1 44 0)), (1, .int (nI q)), (2, .long (lN (10 * (rnd u d j).1 + (inn d (rnd u d j).2 i).2))), (4, .long (lN ((rnd u d j).2))), (6, .int (nI j)), (7, .long (lN ((inn d (rnd u d j).2 i).1))), (9, .int (nI i))] → W p l e ({ frames := 0, cells := 0, slots := 0, locals := 0 } : Room) s m ([.ref (B.1 44 0), .int (nI q)] : List Value).toArray below meth c s.heap [] 0 0 (MQ below (mQl G B (fun r σ' => r = lN (rndV u d q) ∧ σ' = σ)) ([.ref (B.1 44 0), .int (nI q)] : List Value).toArray s 0 0 (mA G)) (F0 m 53 ls []) := by
            intro n2
            induction n2 with
            | zero => intro i hhi; exfalso; omega
            | succ n2 ihi =>
              intro i hhi ls hl
              refine lv_iload hx hb dX1_scaled_53 (lv_at hl 6 rfl) ?_
              refine lv_bipush (v := nI 10) hx hb dX1_scaled_55 (by decide) ?_
              refine m_icmp_geN (tgt := 105) (by omega) (by omega) hx hb dX1_scaled_57 (by decide) (fun c_57 => ?_) (fun c_57 => ?_)
              · refine lv_lload hx hb dX1_scaled_105 (lv_at hl 5 rfl) ?_
                refine lv_lstore (lv' := [(4, .long (lN ((inn d (rnd u d j).2 i).1))), (0, .ref (B.1 44 0)), (1, .int (nI q)), (2, .long (lN (10 * (rnd u d j).1 + (inn d (rnd u d j).2 i).2))), (6, .int (nI j)), (7, .long (lN ((inn d (rnd u d j).2 i).1))), (9, .int (nI i))]) hx hb dX1_scaled_107 hl (by decide) rfl (fun ls hl => ?_)
                refine lv_iinc (v := nI (j + 1)) (lv' := [(6, .int (nI (j + 1))), (4, .long (lN ((inn d (rnd u d j).2 i).1))), (0, .ref (B.1 44 0)), (1, .int (nI q)), (2, .long (lN (10 * (rnd u d j).1 + (inn d (rnd u d j).2 i).2))), (7, .long (lN ((inn d (rnd u d j).2 i).1))), (9, .int (nI i))]) hx hb dX1_scaled_109 hl (k := 4) rfl (nI_1 _) (by decide) rfl (fun ls hl => ?_)
                refine lv_goto (tgt := 35) hx hb dX1_scaled_112 (by decide) ?_
                have hi10 : i = 10 := by omega
                subst hi10
                exact ih (j + 1) (by omega) ls (lv_sub hl [2, 3, 4, 1, 0] rfl)
              · have hil := inn_lt hjl.1 i
                refine lv_lload hx hb dX1_scaled_60 (lv_at hl 5 rfl) ?_
                refine lv_aload_n hx hb dX1_scaled_62 rfl (lv_at hl 0 rfl) ?_
                refine gf_X1_15 hx hb hown hK hH (bc hC 44) dX1_scaled_63 ?_
                refine m_toj (lN (d)) (hQ.2.1) ?_
                refine lv_lload hx hb dX1_scaled_66 (lv_at hl 3 rfl) ?_
                refine m_lsubN (by omega) hx hb dX1_scaled_68 ?_
                refine m_lc_ltN (tgt := 92) (by omega) (by omega) hx hb dX1_scaled_69 dX1_scaled_70 (by decide) (fun c_69 => ?_) (fun c_69 => ?_)
                · refine lv_lload hx hb dX1_scaled_92 (lv_at hl 5 rfl) ?_
                  refine lv_lload hx hb dX1_scaled_94 (lv_at hl 3 rfl) ?_
                  refine m_laddN hx hb dX1_scaled_96 ?_
                  refine lv_lstore (lv' := [(7, .long (lN (((inn d (rnd u d j).2 i).1) + ((rnd u d j).2)))), (0, .ref (B.1 44 0)), (1, .int (nI q)), (2, .long (lN (10 * (rnd u d j).1 + (inn d (rnd u d j).2 i).2))), (4, .long (lN ((rnd u d j).2))), (6, .int (nI j)), (9, .int (nI i))]) hx hb dX1_scaled_97 hl (by decide) rfl (fun ls hl => ?_)
                  refine lv_iinc (v := nI (i + 1)) (lv' := [(9, .int (nI (i + 1))), (7, .long (lN (((inn d (rnd u d j).2 i).1) + ((rnd u d j).2)))), (0, .ref (B.1 44 0)), (1, .int (nI q)), (2, .long (lN (10 * (rnd u d j).1 + (inn d (rnd u d j).2 i).2))), (4, .long (lN ((rnd u d j).2))), (6, .int (nI j))]) hx hb dX1_scaled_99 hl (k := 6) rfl (nI_1 _) (by decide) rfl (fun ls hl => ?_)
                  refine lv_goto (tgt := 53) hx hb dX1_scaled_102 (by decide) ?_
                  have hin : inn d (rnd u d j).2 (i + 1) = ((inn d (rnd u d j).2 i).1 + (rnd u d j).2, (inn d (rnd u d j).2 i).2) := by
                    show (if _ then _ else _) = _
                    rw [if_neg (by omega)]
                  exact ihi (i + 1) (by omega) ls (by rw [hin]; exact lv_sub hl [2, 3, 4, 5, 6, 1, 0] rfl)
                · refine lv_lload hx hb dX1_scaled_73 (lv_at hl 5 rfl) ?_
                  refine lv_aload_n hx hb dX1_scaled_75 rfl (lv_at hl 0 rfl) ?_
                  refine gf_X1_15 hx hb hown hK hH (bc hC 44) dX1_scaled_76 ?_
                  refine m_toj (lN (d)) (hQ.2.1) ?_
                  refine lv_lload hx hb dX1_scaled_79 (lv_at hl 3 rfl) ?_
                  refine m_lsubN (by omega) hx hb dX1_scaled_81 ?_
                  refine m_lsubN (by omega) hx hb dX1_scaled_82 ?_
                  refine lv_lstore (lv' := [(7, .long (lN (((inn d (rnd u d j).2 i).1) - (d - ((rnd u d j).2))))), (0, .ref (B.1 44 0)), (1, .int (nI q)), (2, .long (lN (10 * (rnd u d j).1 + (inn d (rnd u d j).2 i).2))), (4, .long (lN ((rnd u d j).2))), (6, .int (nI j)), (9, .int (nI i))]) hx hb dX1_scaled_83 hl (by decide) rfl (fun ls hl => ?_)
                  refine lv_lload_n hx hb dX1_scaled_85 rfl (lv_at hl 3 rfl) ?_
                  refine lv_lconst (v := lN 1) hx hb dX1_scaled_86 rfl ?_
                  refine m_laddN hx hb dX1_scaled_87 ?_
                  refine lv_lstore_n (lv' := [(2, .long (lN ((10 * (rnd u d j).1 + (inn d (rnd u d j).2 i).2) + 1))), (7, .long (lN (((inn d (rnd u d j).2 i).1) - (d - ((rnd u d j).2))))), (0, .ref (B.1 44 0)), (1, .int (nI q)), (4, .long (lN ((rnd u d j).2))), (6, .int (nI j)), (9, .int (nI i))]) hx hb dX1_scaled_88 rfl hl (by decide) rfl (fun ls hl => ?_)
                  refine lv_goto (tgt := 99) hx hb dX1_scaled_89 (by decide) ?_
                  refine lv_iinc (v := nI (i + 1)) (lv' := [(9, .int (nI (i + 1))), (2, .long (lN ((10 * (rnd u d j).1 + (inn d (rnd u d j).2 i).2) + 1))), (7, .long (lN (((inn d (rnd u d j).2 i).1) - (d - ((rnd u d j).2))))), (0, .ref (B.1 44 0)), (1, .int (nI q)), (4, .long (lN ((rnd u d j).2))), (6, .int (nI j))]) hx hb dX1_scaled_99 hl (k := 6) rfl (nI_1 _) (by decide) rfl (fun ls hl => ?_)
                  refine lv_goto (tgt := 53) hx hb dX1_scaled_102 (by decide) ?_
                  have hin : inn d (rnd u d j).2 (i + 1) = ((inn d (rnd u d j).2 i).1 - (d - (rnd u d j).2), (inn d (rnd u d j).2 i).2 + 1) := by
                    show (if _ then _ else _) = _
                    rw [if_pos (by omega)]
                  exact ihi (i + 1) (by omega) ls (by rw [hin]; exact lv_sub hl [3, 4, 1, 5, 6, 2, 0] rfl)
          exact loopi 11 0 (by omega) ls (lv_sub hl [3, 4, 1, 5, 6, 2, 0] rfl)
    exact loop (q + 1) 0 (by omega) ls (lv_sub hl [3, 4, 2, 1, 0] rfl)
  · exact absurd hd (by omega)
set_option maxHeartbeats 4000000 in
set_option maxRecDepth 100000 in
theorem c_X3_tell (l : Launch) (G : gG) (B : gB) (σ : gS) (hC : BkC B) (rn9 : Nat) (hr2 : rn9 < 2) (d u n : Int32) : Met l yX3_tell [.code yX3_tell cX3_tell 4 none] ({ frames := 0, cells := 0, slots := 0, locals := 0 } : Room) (mPc G B σ [.ref (B.1 49 rn9), .int (d), .int (u), .int (n)]) (mQv G B (fun σ' => σ' = tlUp σ rn9 d u n)) 0 0 (mA G) := by
  refine m_start (by decide) (Nat.le_of_ble_eq_true rfl) ?_
  intro p e s m below meth c ⟨hx, hb, hr, hml, hown, hK, hlk, hz⟩ hH hS ls hl
  have hl : lv_has ls 4 [(0, .ref (B.1 49 rn9)), (1, .int (d)), (2, .int (u)), (3, .int (n))] := hl
  refine lv_aload_n hx hb dX3_tell_0 rfl (lv_at hl 0 rfl) ?_
  refine lv_iconst (v := nI 1) hx hb dX3_tell_1 (by decide) ?_
  refine pf_X3_13 hx hb hown hK hH hS (bc9 hC hr2) (by first | exact Or.inl rfl | exact Or.inr rfl) dX3_tell_2 (fun H locs hH hS => ?_)
  refine lv_aload_n hx hb dX3_tell_5 rfl (lv_at hl 0 rfl) ?_
  refine lv_iload_n hx hb dX3_tell_6 rfl (lv_at hl 1 rfl) ?_
  refine pf_X3_17 hx hb hown hK hH hS (bc9 hC hr2) dX3_tell_7 (fun H locs hH hS => ?_)
  refine lv_aload_n hx hb dX3_tell_10 rfl (lv_at hl 0 rfl) ?_
  refine lv_iload_n hx hb dX3_tell_11 rfl (lv_at hl 2 rfl) ?_
  refine pf_X3_20 hx hb hown hK hH hS (bc9 hC hr2) dX3_tell_12 (fun H locs hH hS => ?_)
  refine lv_aload_n hx hb dX3_tell_15 rfl (lv_at hl 0 rfl) ?_
  refine lv_iload_n hx hb dX3_tell_16 rfl (lv_at hl 3 rfl) ?_
  refine pf_X3_7 hx hb hown hK hH hS (bc9 hC hr2) dX3_tell_17 (fun H locs hH hS => ?_)
  exact m_vret hx hb hr hlk hH hS dX3_tell_20 (rfl)
set_option maxHeartbeats 4000000 in
set_option maxRecDepth 100000 in
theorem c_X3_fits (l : Launch) (G : gG) (B : gB) (σ : gS) (hC : BkC B) (rn9 : Nat) (hr2 : rn9 < 2) (hK9 : RK σ rn9) (n : Int32) : Met l yX3_fits [.code yX3_fits cX3_fits 2 (some .boolean)] ({ frames := 0, cells := 0, slots := 0, locals := 0 } : Room) (mPc G B σ [.ref (B.1 49 rn9), .int (n)]) (mQi G B (fun r σ' => r = bI (!(isRk σ rn9) || decide ((cRd σ rn9 : Int) ≤ n.toInt)) ∧ σ' = σ)) 0 0 (mA G) := by
  refine m_start (by decide) (Nat.le_of_ble_eq_true rfl) ?_
  intro p e s m below meth c ⟨hx, hb, hr, hml, hown, hK, hlk, hz⟩ hH hS ls hl
  have hl : lv_has ls 2 [(0, .ref (B.1 49 rn9)), (1, .int (n))] := hl
  have h60 := hK9.2.2.1
  have ed := nI_I (n := cRd σ rn9) (by omega)
  refine lv_aload_n hx hb dX3_fits_0 rfl (lv_at hl 0 rfl) ?_
  refine gf_X3_13 hx hb hown hK hH (bc9 hC hr2) dX3_fits_1 ?_
  refine m_toe (bI (isRk σ rn9)) (hK9.1) ?_
  refine m_ifeqB (tgt := 15) hx hb dX3_fits_4 (by decide) (fun c_4 => ?_) (fun c_4 => ?_)
  · refine lv_iconst (v := nI 1) hx hb dX3_fits_15 (by decide) ?_
    refine lv_goto (tgt := 20) hx hb dX3_fits_16 (by decide) ?_
    exact m_zret hx hb hr hlk hH hS dX3_fits_20 (by first | exact Or.inl rfl | exact Or.inr rfl | exact bI_01 _) (⟨bI_t (by first | (rw [c_4]; rfl) | (rw [decide_eq_true (by rw [i_lt, ed] at c_12; omega), Bool.or_true])), rfl⟩)
  · refine lv_aload_n hx hb dX3_fits_7 rfl (lv_at hl 0 rfl) ?_
    refine gf_X3_17 hx hb hown hK hH (bc9 hC hr2) dX3_fits_8 ?_
    refine m_toi (cRd σ rn9) (hK9.2.1) ?_
    refine lv_iload_n hx hb dX3_fits_11 rfl (lv_at hl 1 rfl) ?_
    refine lv_icmp_gt (tgt := 19) hx hb dX3_fits_12 (by decide) (fun c_12 => ?_) (fun c_12 => ?_)
    · refine lv_iconst (v := nI 0) hx hb dX3_fits_19 (by decide) ?_
      exact m_zret hx hb hr hlk hH hS dX3_fits_20 (by first | exact Or.inl rfl | exact Or.inr rfl | exact bI_01 _) (⟨bI_f (by rw [c_4, decide_eq_false (by rw [i_lt, ed] at c_12; omega)]; rfl), rfl⟩)
    · refine lv_iconst (v := nI 1) hx hb dX3_fits_15 (by decide) ?_
      refine lv_goto (tgt := 20) hx hb dX3_fits_16 (by decide) ?_
      exact m_zret hx hb hr hlk hH hS dX3_fits_20 (by first | exact Or.inl rfl | exact Or.inr rfl | exact bI_01 _) (⟨bI_t (by first | (rw [c_4]; rfl) | (rw [decide_eq_true (by rw [i_lt, ed] at c_12; omega), Bool.or_true])), rfl⟩)
theorem nI_pos2 {n : Nat} (h : 0 < n) (h2 : n < 2147483648) : (0 : Int32) < nI n := by rw [i_lt, nI_I h2, i0]; omega
set_option maxHeartbeats 4000000 in
set_option maxRecDepth 100000 in
theorem c_X3_against (l : Launch) (G : gG) (B : gB) (σ : gS) (hC : BkC B) (rn9 : Nat) (hr2 : rn9 < 2) (hK9 : RK σ rn9) (t o : Nat) (ht : t < 9223372036854775808) (ho : o < 9223372036854775808) : Met l yX3_against [.code yX3_against cX3_against 9 (some .int)] ({ frames := 0, cells := 0, slots := 0, locals := 0 } : Room) (mPc G B σ [.ref (B.1 49 rn9), .long (lN t), .long (lN o)]) (mQi G B (fun r σ' => r = sg3 (t * cRn σ rn9) (o * cRu σ rn9) ∧ σ' = σ)) 0 0 (mA G) := by
  refine m_start (by decide) (Nat.le_of_ble_eq_true rfl) ?_
  intro p e s m below meth c ⟨hx, hb, hr, hml, hown, hK, hlk, hz⟩ hH hS ls hl
  have hl : lv_has ls 9 [(0, .ref (B.1 49 rn9)), (1, .long (lN t)), (3, .long (lN o))] := hl
  have hn1 := hK9.2.2.2.2.2.1
  have hn2 := hK9.2.2.2.2.2.2.1
  have hun := hK9.2.2.2.2.2.2.2.1
  have hsh := sh_le (o := o) hn1 hun
  have b0 := Nat.mod_lt o hn1
  have b1 : o % cRn σ rn9 * cRu σ rn9 ≤ 1000 * 1000 := Nat.mul_le_mul (by omega) (by omega)
  have b2 := Nat.mod_lt (o % cRn σ rn9 * cRu σ rn9) hn1
  have hsg := sg_share (t := t) (o := o) (u := cRu σ rn9) hn1
  refine lv_aload_n hx hb dX3_against_0 rfl (lv_at hl 0 rfl) ?_
  refine gf_X3_7 hx hb hown hK hH (bc9 hC hr2) dX3_against_1 ?_
  refine m_toi (cRn σ rn9) (hK9.2.2.2.2.1) ?_
  refine lv_if_gt (tgt := 9) hx hb dX3_against_4 (by decide) (fun c_4 => ?_) (fun c_4 => ?_)
  · refine lv_lload_n hx hb dX3_against_9 rfl (lv_at hl 2 rfl) ?_
    refine lv_aload_n hx hb dX3_against_10 rfl (lv_at hl 0 rfl) ?_
    refine gf_X3_7 hx hb hown hK hH (bc9 hC hr2) dX3_against_11 ?_
    refine m_toi (cRn σ rn9) (hK9.2.2.2.2.1) ?_
    refine m_i2lN (by omega) hx hb dX3_against_14 ?_
    refine m_lremN (by omega) (by omega) (by omega) hx hb dX3_against_15 ?_
    refine lv_aload_n hx hb dX3_against_16 rfl (lv_at hl 0 rfl) ?_
    refine gf_X3_20 hx hb hown hK hH (bc9 hC hr2) dX3_against_17 ?_
    refine m_toi (cRu σ rn9) (hK9.2.2.2.1) ?_
    refine m_i2lN (by omega) hx hb dX3_against_20 ?_
    refine m_lmulN hx hb dX3_against_21 ?_
    refine lv_lstore (lv' := [(5, .long (lN ((o % (cRn σ rn9)) * (cRu σ rn9)))), (0, .ref (B.1 49 rn9)), (1, .long (lN t)), (3, .long (lN o))]) hx hb dX3_against_22 hl (by decide) rfl (fun ls hl => ?_)
    refine lv_lload_n hx hb dX3_against_24 rfl (lv_at hl 3 rfl) ?_
    refine lv_aload_n hx hb dX3_against_25 rfl (lv_at hl 1 rfl) ?_
    refine gf_X3_7 hx hb hown hK hH (bc9 hC hr2) dX3_against_26 ?_
    refine m_toi (cRn σ rn9) (hK9.2.2.2.2.1) ?_
    refine m_i2lN (by omega) hx hb dX3_against_29 ?_
    refine m_ldivN (by omega) (by omega) (by omega) hx hb dX3_against_30 ?_
    refine lv_aload_n hx hb dX3_against_31 rfl (lv_at hl 1 rfl) ?_
    refine gf_X3_20 hx hb hown hK hH (bc9 hC hr2) dX3_against_32 ?_
    refine m_toi (cRu σ rn9) (hK9.2.2.2.1) ?_
    refine m_i2lN (by omega) hx hb dX3_against_35 ?_
    refine m_lmulN hx hb dX3_against_36 ?_
    refine lv_lload hx hb dX3_against_37 (lv_at hl 0 rfl) ?_
    refine lv_aload_n hx hb dX3_against_39 rfl (lv_at hl 1 rfl) ?_
    refine gf_X3_7 hx hb hown hK hH (bc9 hC hr2) dX3_against_40 ?_
    refine m_toi (cRn σ rn9) (hK9.2.2.2.2.1) ?_
    refine m_i2lN (by omega) hx hb dX3_against_43 ?_
    refine m_ldivN (by omega) (by omega) (by omega) hx hb dX3_against_44 ?_
    refine m_laddN hx hb dX3_against_45 ?_
    refine lv_lstore (lv' := [(7, .long (lN (((o / (cRn σ rn9)) * (cRu σ rn9)) + (((o % (cRn σ rn9)) * (cRu σ rn9)) / (cRn σ rn9))))), (5, .long (lN ((o % (cRn σ rn9)) * (cRu σ rn9)))), (0, .ref (B.1 49 rn9)), (1, .long (lN t)), (3, .long (lN o))]) hx hb dX3_against_46 hl (by decide) rfl (fun ls hl => ?_)
    refine lv_lload_n hx hb dX3_against_48 rfl (lv_at hl 3 rfl) ?_
    refine lv_lload hx hb dX3_against_49 (lv_at hl 0 rfl) ?_
    refine m_lc_eqN (tgt := 68) (by omega) (by omega) hx hb dX3_against_51 dX3_against_52 (by decide) (fun c_51 => ?_) (fun c_51 => ?_)
    · refine lv_lload hx hb dX3_against_68 (lv_at hl 1 rfl) ?_
      refine lv_aload_n hx hb dX3_against_70 rfl (lv_at hl 2 rfl) ?_
      refine gf_X3_7 hx hb hown hK hH (bc9 hC hr2) dX3_against_71 ?_
      refine m_toi (cRn σ rn9) (hK9.2.2.2.2.1) ?_
      refine m_i2lN (by omega) hx hb dX3_against_74 ?_
      refine m_lremN (by omega) (by omega) (by omega) hx hb dX3_against_75 ?_
      refine lv_lconst (v := lN 0) hx hb dX3_against_76 rfl ?_
      refine m_lc_neN (tgt := 85) (by omega) (by omega) hx hb dX3_against_77 dX3_against_78 (by decide) (fun c_77 => ?_) (fun c_77 => ?_)
      · refine lv_iconst (v := (-1)) hx hb dX3_against_85 (by decide) ?_
        exact m_iret hx hb hr hlk hH hS dX3_against_86 (⟨by rw [hsg, if_pos c_51]; first | exact (if_pos c_77).symm | exact (if_neg c_77).symm, rfl⟩)
      · refine lv_iconst (v := nI 0) hx hb dX3_against_81 (by decide) ?_
        refine lv_goto (tgt := 86) hx hb dX3_against_82 (by decide) ?_
        exact m_iret hx hb hr hlk hH hS dX3_against_86 (⟨by rw [hsg, if_pos c_51]; first | exact (if_pos c_77).symm | exact (if_neg c_77).symm, rfl⟩)
    · refine lv_lload_n hx hb dX3_against_55 rfl (lv_at hl 3 rfl) ?_
      refine lv_lload hx hb dX3_against_56 (lv_at hl 0 rfl) ?_
      refine m_lc_leN (tgt := 66) (by omega) (by omega) hx hb dX3_against_58 dX3_against_59 (by decide) (fun c_58 => ?_) (fun c_58 => ?_)
      · refine lv_iconst (v := (-1)) hx hb dX3_against_66 (by decide) ?_
        exact m_iret hx hb hr hlk hH hS dX3_against_67 (⟨by rw [hsg, if_neg c_51]; first | exact (if_pos c_58).symm | exact (if_neg (by omega)).symm, rfl⟩)
      · refine lv_iconst (v := nI 1) hx hb dX3_against_62 (by decide) ?_
        refine lv_goto (tgt := 67) hx hb dX3_against_63 (by decide) ?_
        exact m_iret hx hb hr hlk hH hS dX3_against_67 (⟨by rw [hsg, if_neg c_51]; first | exact (if_pos c_58).symm | exact (if_neg (by omega)).symm, rfl⟩)
  · exact absurd (nI_pos2 (by omega) (by omega)) c_4
set_option maxHeartbeats 4000000 in
set_option maxRecDepth 100000 in
theorem c_X3_isReached (l : Launch) (G : gG) (B : gB) (σ : gS) (hC : BkC B) (rn9 : Nat) (hr2 : rn9 < 2) (hK9 : RK σ rn9) (t o : Nat) (ht : t < 9223372036854775808) (ho : o < 9223372036854775808) : Met l yX3_isReached [.code yX3_isReached cX3_isReached 5 (some .boolean)] ({ frames := 1, cells := 0, slots := 0, locals := 28 } : Room) (mPc G B σ [.ref (B.1 49 rn9), .long (lN t), .long (lN o)]) (mQi G B (fun r σ' => r = bI (!(isRk σ rn9) || decide (o * cRu σ rn9 ≤ t * cRn σ rn9)) ∧ σ' = σ)) 0 0 (mA G) := by
  refine m_start (by decide) (Nat.le_of_ble_eq_true rfl) ?_
  intro p e s m below meth c ⟨hx, hb, hr, hml, hown, hK, hlk, hz⟩ hH hS ls hl
  have hl : lv_has ls 5 [(0, .ref (B.1 49 rn9)), (1, .long (lN t)), (3, .long (lN o))] := hl
  refine lv_aload_n hx hb dX3_isReached_0 rfl (lv_at hl 0 rfl) ?_
  refine gf_X3_13 hx hb hown hK hH (bc9 hC hr2) dX3_isReached_1 ?_
  refine m_toe (bI (isRk σ rn9)) (hK9.1) ?_
  refine m_ifeqB (tgt := 16) hx hb dX3_isReached_4 (by decide) (fun c_4 => ?_) (fun c_4 => ?_)
  · refine lv_iconst (v := nI 1) hx hb dX3_isReached_16 (by decide) ?_
    refine lv_goto (tgt := 21) hx hb dX3_isReached_17 (by decide) ?_
    exact m_zret hx hb hr hlk hH hS dX3_isReached_21 (by first | exact Or.inl rfl | exact Or.inr rfl | exact bI_01 _) (⟨bI_t (by first | (rw [c_4]; rfl) | (rw [decide_eq_true (by rw [sg3_l] at c_13; omega), Bool.or_true])), rfl⟩)
  · refine lv_aload_n hx hb dX3_isReached_7 rfl (lv_at hl 0 rfl) ?_
    refine lv_lload_n hx hb dX3_isReached_8 rfl (lv_at hl 1 rfl) ?_
    refine lv_lload_n hx hb dX3_isReached_9 rfl (lv_at hl 2 rfl) ?_
    refine m_ki (m_runV (k := 49) (i := rn9) (ci := 3) ⟨hx, hb, hml, hown, hz⟩ hK hH hS (bc9 hC hr2) rfl rfl (c_X3_against l G B σ hC rn9 hr2 hK9 t o ht ho) mw_X3_against wl_X3_23 ⟨rfl, rfl⟩ ⟨by decide, by decide⟩ rfl hl.1 rfl (Nat.le_of_ble_eq_true rfl) dX3_isReached_10 ⟨Nat.zero_le _, Nat.zero_le _⟩) hS (fun r_10 σ_10 H locs hp hH hS => ?_)
    obtain ⟨hr1, hs1⟩ := hp
    subst hr1
    rw [hs1] at hH
    refine lv_if_lt (tgt := 20) hx hb dX3_isReached_13 (by decide) (fun c_13 => ?_) (fun c_13 => ?_)
    · refine lv_iconst (v := nI 0) hx hb dX3_isReached_20 (by decide) ?_
      exact m_zret hx hb hr hlk hH hS dX3_isReached_21 (by first | exact Or.inl rfl | exact Or.inr rfl | exact bI_01 _) (⟨bI_f (by rw [c_4, decide_eq_false (by rw [sg3_l] at c_13; omega)]; rfl), rfl⟩)
    · refine lv_iconst (v := nI 1) hx hb dX3_isReached_16 (by decide) ?_
      refine lv_goto (tgt := 21) hx hb dX3_isReached_17 (by decide) ?_
      exact m_zret hx hb hr hlk hH hS dX3_isReached_21 (by first | exact Or.inl rfl | exact Or.inr rfl | exact bI_01 _) (⟨bI_t (by first | (rw [c_4]; rfl) | (rw [decide_eq_true (by rw [sg3_l] at c_13; omega), Bool.or_true])), rfl⟩)
set_option maxHeartbeats 4000000 in
set_option maxRecDepth 100000 in
theorem c_X3_isKept (l : Launch) (G : gG) (B : gB) (σ : gS) (hC : BkC B) (rn9 : Nat) (hr2 : rn9 < 2) (hK9 : RK σ rn9) (t o : Nat) (ht : t < 9223372036854775808) (ho : o < 9223372036854775808) : Met l yX3_isKept [.code yX3_isKept cX3_isKept 5 (some .boolean)] ({ frames := 1, cells := 0, slots := 0, locals := 28 } : Room) (mPc G B σ [.ref (B.1 49 rn9), .long (lN t), .long (lN o)]) (mQi G B (fun r σ' => r = bI (!(isRk σ rn9) || decide (t * cRn σ rn9 ≤ o * cRu σ rn9)) ∧ σ' = σ)) 0 0 (mA G) := by
  refine m_start (by decide) (Nat.le_of_ble_eq_true rfl) ?_
  intro p e s m below meth c ⟨hx, hb, hr, hml, hown, hK, hlk, hz⟩ hH hS ls hl
  have hl : lv_has ls 5 [(0, .ref (B.1 49 rn9)), (1, .long (lN t)), (3, .long (lN o))] := hl
  refine lv_aload_n hx hb dX3_isKept_0 rfl (lv_at hl 0 rfl) ?_
  refine gf_X3_13 hx hb hown hK hH (bc9 hC hr2) dX3_isKept_1 ?_
  refine m_toe (bI (isRk σ rn9)) (hK9.1) ?_
  refine m_ifeqB (tgt := 16) hx hb dX3_isKept_4 (by decide) (fun c_4 => ?_) (fun c_4 => ?_)
  · refine lv_iconst (v := nI 1) hx hb dX3_isKept_16 (by decide) ?_
    refine lv_goto (tgt := 21) hx hb dX3_isKept_17 (by decide) ?_
    exact m_zret hx hb hr hlk hH hS dX3_isKept_21 (by first | exact Or.inl rfl | exact Or.inr rfl | exact bI_01 _) (⟨bI_t (by first | (rw [c_4]; rfl) | (rw [decide_eq_true (by rw [sg3_g] at c_13; omega), Bool.or_true])), rfl⟩)
  · refine lv_aload_n hx hb dX3_isKept_7 rfl (lv_at hl 0 rfl) ?_
    refine lv_lload_n hx hb dX3_isKept_8 rfl (lv_at hl 1 rfl) ?_
    refine lv_lload_n hx hb dX3_isKept_9 rfl (lv_at hl 2 rfl) ?_
    refine m_ki (m_runV (k := 49) (i := rn9) (ci := 3) ⟨hx, hb, hml, hown, hz⟩ hK hH hS (bc9 hC hr2) rfl rfl (c_X3_against l G B σ hC rn9 hr2 hK9 t o ht ho) mw_X3_against wl_X3_23 ⟨rfl, rfl⟩ ⟨by decide, by decide⟩ rfl hl.1 rfl (Nat.le_of_ble_eq_true rfl) dX3_isKept_10 ⟨Nat.zero_le _, Nat.zero_le _⟩) hS (fun r_10 σ_10 H locs hp hH hS => ?_)
    obtain ⟨hr1, hs1⟩ := hp
    subst hr1
    rw [hs1] at hH
    refine lv_if_gt (tgt := 20) hx hb dX3_isKept_13 (by decide) (fun c_13 => ?_) (fun c_13 => ?_)
    · refine lv_iconst (v := nI 0) hx hb dX3_isKept_20 (by decide) ?_
      exact m_zret hx hb hr hlk hH hS dX3_isKept_21 (by first | exact Or.inl rfl | exact Or.inr rfl | exact bI_01 _) (⟨bI_f (by rw [c_4, decide_eq_false (by rw [sg3_g] at c_13; omega)]; rfl), rfl⟩)
    · refine lv_iconst (v := nI 1) hx hb dX3_isKept_16 (by decide) ?_
      refine lv_goto (tgt := 21) hx hb dX3_isKept_17 (by decide) ?_
      exact m_zret hx hb hr hlk hH hS dX3_isKept_21 (by first | exact Or.inl rfl | exact Or.inr rfl | exact bI_01 _) (⟨bI_t (by first | (rw [c_4]; rfl) | (rw [decide_eq_true (by rw [sg3_g] at c_13; omega), Bool.or_true])), rfl⟩)
