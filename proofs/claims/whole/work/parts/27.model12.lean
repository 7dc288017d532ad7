/-- the sums over all orders, as the check has them -/
def TK (σ : gS) (p n d : Nat) : Nat := (gs σ p n d (tot σ p (stN σ p))).2.2.1
def AV (σ : gS) (p n d : Nat) : Nat := (gs σ p n d (tot σ p (stN σ p))).2.2.2.1
def OU (σ : gS) (p n d : Nat) : Nat := (gs σ p n d (tot σ p (stN σ p))).2.2.2.2
def paN (σ : gS) (p n d w : Nat) : Nat := if w = 0 then TK σ p n d else if w = 1 then AV σ p n d else OU σ p n d
def pbN (n d w : Nat) : Nat := if w = 2 then n * ch n d else ch n d
def paOK (σ : gS) (x n d w : Int32) : Bool := fitb σ x n && decide ((0 ≤ d.toInt ∧ d.toInt ≤ n.toInt) ∧ (0 ≤ w.toInt ∧ w.toInt ≤ 2))
def paUp (σ : gS) (p n d w : Nat) : gS := sJ (sJ σ 0 0 7 (lN (paN σ p n d w / Nat.gcd (paN σ p n d w) (pbN n d w)))) 0 0 8 (lN (pbN n d w / Nat.gcd (paN σ p n d w) (pbN n d w)))
def cmpJ (u v : Int64) : Int32 := if v < u then 1 else if u < v then -1 else 0
def ccN (σ : gS) (a b n d : Nat) : Int32 := cmpJ (lN (TK σ a n d)) (lN (TK σ b n d))
theorem goP.t {σ τ : gS} {p n d : Nat} (h : goP σ τ p n d) : τ.2 0 0 28 = lN (TK σ p n d) := h.2.1
theorem pbN_pos {n d w : Nat} (hn : n ≤ 60) (h1 : 1 ≤ n) (hd : d ≤ n) : 0 < pbN n d w ∧ pbN n d w < 9223372036854775808 := by
  have a := ch_pos hn hd
  have b := ch_lt (k := d) hn
  unfold pbN
  split
  · exact ⟨Nat.mul_pos h1 a, Nat.lt_of_le_of_lt (Nat.mul_le_mul_right _ hn) b⟩
  · exact ⟨a, by omega⟩
theorem gcd_pos' {a b : Nat} (h : 0 < b) : 0 < Nat.gcd a b ∧ Nat.gcd a b ≤ b := ⟨Nat.gcd_pos_of_pos_right a h, Nat.le_of_dvd h (Nat.gcd_dvd_right a b)⟩
theorem eqP_tot {σ τ : gS} (h : eqP σ τ) (p : Nat) : tot τ p (stN τ p) = tot σ p (stN σ p) := by rw [h.st, h.to]
theorem gs_eq {σ τ : gS} (h : eqP σ τ) (p n d : Nat) : ∀ m, gs τ p n d m = gs σ p n d m
  | 0 => rfl
  | m + 1 => by
    have e : ∀ k m og s, gNx τ p k m og s = gNx σ p k m og s := fun k m og s => by unfold gNx gDc gTk gRf; rw [h.rf, h.ac, h.to]
    have eT : ∀ k m og, fT τ p k m n d og = fT σ p k m n d og := fun k m og => by funext s; unfold fT gTk gRf; rw [h.rf, h.ac, h.to]
    have eA : ∀ k m og, fA τ p k m n d og = fA σ p k m n d og := fun k m og => by funext s; unfold fA gDc gTk gRf; rw [h.rf, h.ac, h.to]
    have eO : ∀ k m og, fO τ p k m n d og = fO σ p k m n d og := fun k m og => by funext s; unfold fO gTk gRf; rw [h.rf, h.ac, h.to]
    have eN : ∀ k m og, gNx τ p k m og = gNx σ p k m og := fun k m og => funext (e k m og)
    unfold gs
    rw [gs_eq h p n d m, h.to, eN, eT, eA, eO]
theorem TK_eq {σ τ : gS} (h : eqP σ τ) (p n d : Nat) : TK τ p n d = TK σ p n d := by unfold TK; rw [eqP_tot h, gs_eq h]
theorem fitb_eq {σ τ : gS} (h : Sm σ τ) (x n : Int32) : fitb τ x n = fitb σ x n := by
  unfold fitb
  rw [h.eqP.st, h.eqP.to, show isCl τ x = isCl σ x from Sm.cg (fun z => isCl z x) h]
set_option maxHeartbeats 4000000 in
set_option maxRecDepth 100000 in
theorem c_X7_part (l : Launch) (G : gG) (B : gB) (σ : gS) (hM : BkM B) (hP : WfP σ) (hW : WfCh σ) (hbd : ∀ p n d w : Nat, p < nP σ → clo σ p = true → n ≤ 60 → tot σ p (stN σ p) ≤ n → d ≤ n → paN σ p n d w < 9223372036854775808) (x n d w : Int32) : Met l yX7_part [.code yX7_part cX7_part 11 (some .int)] ({ frames := 4, cells := 0, slots := 0, locals := 86 } : Room) (mPc G B σ [.ref (B.1 0 0), .int (x), .int (n), .int (d), .int (w)]) (mQi G B (fun v τ => if paOK σ x n d w = true then ∃ pq nq dq wq : Nat, pq < nP σ ∧ clo σ pq = true ∧ 1 ≤ nq ∧ nq ≤ 60 ∧ tot σ pq (stN σ pq) ≤ nq ∧ dq ≤ nq ∧ wq ≤ 2 ∧ x = nI pq ∧ n = nI nq ∧ d = nI dq ∧ w = nI wq ∧ v = nI 1 ∧ Sm (paUp σ pq nq dq wq) τ else v = -2 ∧ Sm σ τ)) 0 0 (mA G) := by
  refine m_start (by decide) (Nat.le_of_ble_eq_true rfl) ?_
  intro p e s m below meth c ⟨hx, hb, hr, hml, hown, hK, hlk, hz⟩ hH hS ls hl
  have hl : lv_has ls 11 [(0, .ref (B.1 0 0)), (1, .int (x)), (2, .int (n)), (3, .int (d)), (4, .int (w))] := hl
  refine lv_aload_n hx hb dX7_part_0 rfl (lv_at hl 0 rfl) ?_
  refine lv_iload_n hx hb dX7_part_1 rfl (lv_at hl 1 rfl) ?_
  refine lv_iload_n hx hb dX7_part_2 rfl (lv_at hl 2 rfl) ?_
  refine m_ki (m_runV (k := 0) (i := 0) (ci := 7) ⟨hx, hb, hml, hown, hz⟩ hK hH hS (bm hM 0) rfl rfl (c_X7_fits l G B σ hM hP x n) mw_X7_fits wl_X7_127 ⟨rfl, rfl⟩ ⟨by decide, by decide⟩ rfl hl.1 rfl (Nat.le_of_ble_eq_true rfl) dX7_part_3 ⟨Nat.zero_le _, Nat.zero_le _⟩) hS (fun r_3 σ_3 H locs hp hH hS => ?_)
  obtain ⟨hr1, hs1⟩ := hp
  subst hr1
  rw [hs1] at hH
  refine m_ifeqB (tgt := 28) hx hb dX7_part_6 (by decide) (fun c_6 => ?_) (fun c_6 => ?_)
  · have hno : paOK σ x n d w = false := by
      unfold paOK
      first
        | (rw [c_6]; rfl)
        | (have h9 := inR_f c_15; rw [n0I] at h9; rw [decide_eq_false (fun z => h9 z.1), Bool.and_false])
        | (have h9 := inR_f c_25; rw [n0I, n2I] at h9; rw [decide_eq_false (fun z => h9 z.2), Bool.and_false])
    refine lv_bipush (v := (-2)) hx hb dX7_part_28 (by decide) ?_
    exact m_iret hx hb hr hlk hH hS dX7_part_30 (by rw [hno]; exact ⟨rfl, Sm.rf σ⟩)
  · refine lv_iload_n hx hb dX7_part_9 rfl (lv_at hl 3 rfl) ?_
    refine lv_iconst (v := nI 0) hx hb dX7_part_10 (by decide) ?_
    refine lv_iload_n hx hb dX7_part_11 rfl (lv_at hl 2 rfl) ?_
    refine m_ki (m_runS ⟨hx, hb, hml, hown, hz⟩ hK hH hS (c_X7_in l G B σ d (nI 0) n) mw_X7_in wl_X7_95 ⟨rfl, rfl⟩ ⟨by decide, by decide⟩ rfl hl.1 rfl (Nat.le_of_ble_eq_true rfl) dX7_part_12 ⟨Nat.zero_le _, Nat.zero_le _⟩) hS (fun r_12 σ_12 H locs hp hH hS => ?_)
    obtain ⟨hr1, hs1⟩ := hp
    subst hr1
    rw [hs1] at hH
    refine m_ifeqB (tgt := 28) hx hb dX7_part_15 (by decide) (fun c_15 => ?_) (fun c_15 => ?_)
    · have hno : paOK σ x n d w = false := by
        unfold paOK
        first
          | (rw [c_6]; rfl)
          | (have h9 := inR_f c_15; rw [n0I] at h9; rw [decide_eq_false (fun z => h9 z.1), Bool.and_false])
          | (have h9 := inR_f c_25; rw [n0I, n2I] at h9; rw [decide_eq_false (fun z => h9 z.2), Bool.and_false])
      refine lv_bipush (v := (-2)) hx hb dX7_part_28 (by decide) ?_
      exact m_iret hx hb hr hlk hH hS dX7_part_30 (by rw [hno]; exact ⟨rfl, Sm.rf σ⟩)
    · refine lv_iload hx hb dX7_part_18 (lv_at hl 4 rfl) ?_
      refine lv_iconst (v := nI 0) hx hb dX7_part_20 (by decide) ?_
      refine lv_iconst (v := nI 2) hx hb dX7_part_21 (by decide) ?_
      refine m_ki (m_runS ⟨hx, hb, hml, hown, hz⟩ hK hH hS (c_X7_in l G B σ w (nI 0) (nI 2)) mw_X7_in wl_X7_95 ⟨rfl, rfl⟩ ⟨by decide, by decide⟩ rfl hl.1 rfl (Nat.le_of_ble_eq_true rfl) dX7_part_22 ⟨Nat.zero_le _, Nat.zero_le _⟩) hS (fun r_22 σ_22 H locs hp hH hS => ?_)
      obtain ⟨hr1, hs1⟩ := hp
      subst hr1
      rw [hs1] at hH
      refine m_ifneB (tgt := 31) hx hb dX7_part_25 (by decide) (fun c_25 => ?_) (fun c_25 => ?_)
      · have h8 := inR_t c_15; rw [n0I] at h8
        have h9 := inR_t c_25; rw [n0I, n2I] at h9
        have hyes : paOK σ x n d w = true := by
          unfold paOK
          rw [c_6, decide_eq_true ⟨h8, h9⟩]
          rfl
        obtain ⟨pn, nn, hpn, he1, he2, hcl, hn1, hn60, htn⟩ := fitb_t hP.2.1 c_6
        subst he1 he2
        have h24 := hP.2.1
        have hP1 := hP.2.2 pn hpn
        rw [nI_I (by omega)] at h8
        obtain ⟨d1, d2⟩ := i_nat h8.1
        obtain ⟨dn, hdn⟩ : ∃ z : Nat, z = d.toInt.toNat := ⟨_, rfl⟩
        rw [← hdn] at d1 d2
        have hd3 : dn ≤ nn := by omega
        obtain ⟨v1, v2⟩ := i_nat h9.1
        obtain ⟨wn, hwn⟩ : ∃ z : Nat, z = w.toInt.toNat := ⟨_, rfl⟩
        rw [← hwn] at v1 v2
        have hw2 : wn ≤ 2 := by omega
        clear c_15 c_25 h8 h9 hdn hwn d2 v2
        subst d1
        subst v1
        refine lv_aload_n hx hb dX7_part_31 rfl (lv_at hl 0 rfl) ?_
        refine lv_iload_n hx hb dX7_part_32 rfl (lv_at hl 1 rfl) ?_
        refine lv_iload_n hx hb dX7_part_33 rfl (lv_at hl 2 rfl) ?_
        refine lv_iload_n hx hb dX7_part_34 rfl (lv_at hl 3 rfl) ?_
        refine m_kv (m_runV (k := 0) (i := 0) (ci := 7) ⟨hx, hb, hml, hown, hz⟩ hK hH hS (bm hM 0) rfl rfl (c_X7_go l G B σ hM hW pn nn dn (by omega) hP1 hn60 htn (by omega)) mw_X7_go wl_X7_131 ⟨rfl, rfl⟩ ⟨by decide, by decide⟩ rfl hl.1 rfl (Nat.le_of_ble_eq_true rfl) dX7_part_35 ⟨Nat.zero_le _, Nat.zero_le _⟩) hS (fun σ_35 H locs hp hH hS => ?_)
        have hbb := pbN_pos (w := wn) hn60 hn1 hd3
        have haa := hbd pn nn dn wn hpn hcl hn60 htn hd3
        have hgg := gcd_pos' (a := paN σ pn nn dn wn) hbb.1
        refine lv_iload hx hb dX7_part_38 (lv_at hl 4 rfl) ?_
        have J_40 : ∀ (ls : Array Slot), lv_has ls 11 [(0, .ref (B.1 0 0)), (1, .int (nI pn)), (2, .int (nI nn)), (3, .int (nI dn)), (4, .int (nI wn))] → W p l e ({ frames := 4, cells := 0, slots := 0, locals := 86 } : Room) s m ([.ref (B.1 0 0), .int ((nI pn)), .int ((nI nn)), .int ((nI dn)), .int ((nI wn))] : List Value).toArray below meth c H locs 0 0 (MQ below (mQi G B (fun v τ => if paOK σ (nI pn) (nI nn) (nI dn) (nI wn) = true then ∃ pq nq dq wq : Nat, pq < nP σ ∧ clo σ pq = true ∧ 1 ≤ nq ∧ nq ≤ 60 ∧ tot σ pq (stN σ pq) ≤ nq ∧ dq ≤ nq ∧ wq ≤ 2 ∧ (nI pn) = nI pq ∧ (nI nn) = nI nq ∧ (nI dn) = nI dq ∧ (nI wn) = nI wq ∧ v = nI 1 ∧ Sm (paUp σ pq nq dq wq) τ else v = -2 ∧ Sm σ τ)) ([.ref (B.1 0 0), .int ((nI pn)), .int ((nI nn)), .int ((nI dn)), .int ((nI wn))] : List Value).toArray s 0 0 (mA G)) (F0 m 67 ls [.long (lN (paN σ pn nn dn wn))]) := by
          intro ls hl
          refine lv_lstore (lv' := [(5, .long (lN (paN σ pn nn dn wn))), (0, .ref (B.1 0 0)), (1, .int (nI pn)), (2, .int (nI nn)), (3, .int (nI dn)), (4, .int (nI wn))]) hx hb dX7_part_67 hl (by decide) rfl (fun ls hl => ?_)
          refine lv_iload hx hb dX7_part_69 (lv_at hl 5 rfl) ?_
          refine lv_iconst (v := nI 2) hx hb dX7_part_71 (by decide) ?_
          have J_72 : ∀ (H : Heap) (locs : List Loc), Hp G B σ_35 H → va_S (mA G) s.heap H locs → ∀ (ls : Array Slot), lv_has ls 11 [(5, .long (lN (paN σ pn nn dn wn))), (0, .ref (B.1 0 0)), (1, .int (nI pn)), (2, .int (nI nn)), (3, .int (nI dn)), (4, .int (nI wn))] → W p l e ({ frames := 4, cells := 0, slots := 0, locals := 86 } : Room) s m ([.ref (B.1 0 0), .int ((nI pn)), .int ((nI nn)), .int ((nI dn)), .int ((nI wn))] : List Value).toArray below meth c H locs 0 0 (MQ below (mQi G B (fun v τ => if paOK σ (nI pn) (nI nn) (nI dn) (nI wn) = true then ∃ pq nq dq wq : Nat, pq < nP σ ∧ clo σ pq = true ∧ 1 ≤ nq ∧ nq ≤ 60 ∧ tot σ pq (stN σ pq) ≤ nq ∧ dq ≤ nq ∧ wq ≤ 2 ∧ (nI pn) = nI pq ∧ (nI nn) = nI nq ∧ (nI dn) = nI dq ∧ (nI wn) = nI wq ∧ v = nI 1 ∧ Sm (paUp σ pq nq dq wq) τ else v = -2 ∧ Sm σ τ)) ([.ref (B.1 0 0), .int ((nI pn)), .int ((nI nn)), .int ((nI dn)), .int ((nI wn))] : List Value).toArray s 0 0 (mA G)) (F0 m 93 ls [.long (lN (pbN nn dn wn))]) := by
            intro H locs hH hS ls hl
            refine lv_lstore (lv' := [(7, .long (lN (pbN nn dn wn))), (5, .long (lN (paN σ pn nn dn wn))), (0, .ref (B.1 0 0)), (1, .int (nI pn)), (2, .int (nI nn)), (3, .int (nI dn)), (4, .int (nI wn))]) hx hb dX7_part_93 hl (by decide) rfl (fun ls hl => ?_)
            refine lv_lload hx hb dX7_part_95 (lv_at hl 1 rfl) ?_
            refine lv_lload hx hb dX7_part_97 (lv_at hl 0 rfl) ?_
            refine m_kl (m_runS ⟨hx, hb, hml, hown, hz⟩ hK hH hS (c_X7_common l G B σ_35 (paN σ pn nn dn wn) (pbN nn dn wn) haa hbb.2) mw_X7_common wl_X7_135 ⟨rfl, rfl⟩ ⟨by decide, by decide⟩ rfl hl.1 rfl (Nat.le_of_ble_eq_true rfl) dX7_part_99 ⟨Nat.zero_le _, Nat.zero_le _⟩) hS (fun r_99 σ_99 H locs hp9 hH hS => ?_)
            obtain ⟨hr1, hs1⟩ := hp9
            rw [hs1] at hH
            subst hr1
            refine lv_lstore (lv' := [(9, .long (lN (Nat.gcd (paN σ pn nn dn wn) (pbN nn dn wn)))), (7, .long (lN (pbN nn dn wn))), (5, .long (lN (paN σ pn nn dn wn))), (0, .ref (B.1 0 0)), (1, .int (nI pn)), (2, .int (nI nn)), (3, .int (nI dn)), (4, .int (nI wn))]) hx hb dX7_part_102 hl (by decide) rfl (fun ls hl => ?_)
            refine lv_aload_n hx hb dX7_part_104 rfl (lv_at hl 3 rfl) ?_
            refine lv_lload hx hb dX7_part_105 (lv_at hl 2 rfl) ?_
            refine lv_lload hx hb dX7_part_107 (lv_at hl 0 rfl) ?_
            refine m_ldivN (haa) (hgg.1) (by omega) hx hb dX7_part_109 ?_
            refine pf_X7_139 hx hb hown hK hH hS (bm hM 0) dX7_part_110 (fun H locs hH hS => ?_)
            refine lv_aload_n hx hb dX7_part_113 rfl (lv_at hl 3 rfl) ?_
            refine lv_lload hx hb dX7_part_114 (lv_at hl 1 rfl) ?_
            refine lv_lload hx hb dX7_part_116 (lv_at hl 0 rfl) ?_
            refine m_ldivN (hbb.2) (hgg.1) (by omega) hx hb dX7_part_118 ?_
            refine pf_X7_22 hx hb hown hK hH hS (bm hM 0) dX7_part_119 (fun H locs hH hS => ?_)
            refine lv_iconst (v := nI 1) hx hb dX7_part_122 (by decide) ?_
            exact m_iret hx hb hr hlk hH hS dX7_part_123 (by rw [hyes]; exact ⟨pn, nn, dn, wn, hpn, hcl, hn1, hn60, htn, hd3, hw2, rfl, rfl, rfl, rfl, rfl, (hp.1.putJ 0 0 7 _).putJ 0 0 8 _⟩)
          refine m_icmp_neN (tgt := 87) (by omega) (by omega) hx hb dX7_part_72 (by decide) (fun c_72 => ?_) (fun c_72 => ?_)
          · refine lv_aload_n hx hb dX7_part_87 rfl (lv_at hl 1 rfl) ?_
            refine lv_iload_n hx hb dX7_part_88 rfl (lv_at hl 3 rfl) ?_
            refine lv_iload_n hx hb dX7_part_89 rfl (lv_at hl 4 rfl) ?_
            refine m_kl (m_runV (k := 0) (i := 0) (ci := 7) ⟨hx, hb, hml, hown, hz⟩ hK hH hS (bm hM 0) rfl rfl (c_X7_ways l G B σ_35 hM nn (nI dn) hn60 (hp.1.wfCh hW)) mw_X7_ways wl_X7_123 ⟨rfl, rfl⟩ ⟨by decide, by decide⟩ rfl hl.1 rfl (Nat.le_of_ble_eq_true rfl) dX7_part_90 ⟨Nat.zero_le _, Nat.zero_le _⟩) hS (fun r_90 σ_90 H locs hp9 hH hS => ?_)
            obtain ⟨hr1, hs1⟩ := hp9
            rw [hs1] at hH
            rw [nI_I (by omega), chZ_nat] at hr1
            subst hr1
            refine m_toj (lN (pbN nn dn wn)) (by unfold pbN; first | rw [if_pos c_72] | rw [if_neg c_72]) ?_
            exact J_72 H locs hH hS ls (lv_sub hl [0, 1, 2, 3, 4, 5] rfl)
          · refine lv_iload_n hx hb dX7_part_75 rfl (lv_at hl 3 rfl) ?_
            refine m_i2lN (by omega) hx hb dX7_part_76 ?_
            refine lv_aload_n hx hb dX7_part_77 rfl (lv_at hl 1 rfl) ?_
            refine lv_iload_n hx hb dX7_part_78 rfl (lv_at hl 3 rfl) ?_
            refine lv_iload_n hx hb dX7_part_79 rfl (lv_at hl 4 rfl) ?_
            refine m_kl (m_runV (k := 0) (i := 0) (ci := 7) ⟨hx, hb, hml, hown, hz⟩ hK hH hS (bm hM 0) rfl rfl (c_X7_ways l G B σ_35 hM nn (nI dn) hn60 (hp.1.wfCh hW)) mw_X7_ways wl_X7_123 ⟨rfl, rfl⟩ ⟨by decide, by decide⟩ rfl hl.1 rfl (Nat.le_of_ble_eq_true rfl) dX7_part_80 ⟨Nat.zero_le _, Nat.zero_le _⟩) hS (fun r_80 σ_80 H locs hp9 hH hS => ?_)
            obtain ⟨hr1, hs1⟩ := hp9
            rw [hs1] at hH
            rw [nI_I (by omega), chZ_nat] at hr1
            subst hr1
            refine m_lmulN hx hb dX7_part_83 ?_
            refine lv_goto (tgt := 93) hx hb dX7_part_84 (by decide) ?_
            refine m_toj (lN (pbN nn dn wn)) (by unfold pbN; first | rw [if_pos c_72] | rw [if_neg c_72]) ?_
            exact J_72 H locs hH hS ls (lv_sub hl [0, 1, 2, 3, 4, 5] rfl)
        refine m_ifneN (tgt := 50) (by omega) hx hb dX7_part_40 (by decide) (fun c_40 => ?_) (fun c_40 => ?_)
        · refine lv_iload hx hb dX7_part_50 (lv_at hl 4 rfl) ?_
          refine lv_iconst (v := nI 1) hx hb dX7_part_52 (by decide) ?_
          refine m_icmp_neN (tgt := 63) (by omega) (by omega) hx hb dX7_part_53 (by decide) (fun c_53 => ?_) (fun c_53 => ?_)
          · refine lv_aload_n hx hb dX7_part_63 rfl (lv_at hl 0 rfl) ?_
            refine gf_X7_120 hx hb hown hK hH (bm hM 0) dX7_part_64 ?_
            refine m_toj (lN (OU σ pn nn dn)) (hp.2.2.2) ?_
            refine m_toj (lN (paN σ pn nn dn wn)) (by unfold paN; first | rw [if_pos c_40] | rw [if_neg (by omega), if_pos c_53] | rw [if_neg (by omega), if_neg c_53]) ?_
            exact J_40 ls (lv_sub hl [0, 1, 2, 3, 4] rfl)
          · refine lv_aload_n hx hb dX7_part_56 rfl (lv_at hl 0 rfl) ?_
            refine gf_X7_117 hx hb hown hK hH (bm hM 0) dX7_part_57 ?_
            refine m_toj (lN (AV σ pn nn dn)) (hp.2.2.1) ?_
            refine lv_goto (tgt := 67) hx hb dX7_part_60 (by decide) ?_
            refine m_toj (lN (paN σ pn nn dn wn)) (by unfold paN; first | rw [if_pos c_40] | rw [if_neg (by omega), if_pos c_53] | rw [if_neg (by omega), if_neg c_53]) ?_
            exact J_40 ls (lv_sub hl [0, 1, 2, 3, 4] rfl)
        · refine lv_aload_n hx hb dX7_part_43 rfl (lv_at hl 0 rfl) ?_
          refine gf_X7_114 hx hb hown hK hH (bm hM 0) dX7_part_44 ?_
          refine m_toj (lN (TK σ pn nn dn)) (hp.2.1) ?_
          refine lv_goto (tgt := 67) hx hb dX7_part_47 (by decide) ?_
          refine m_toj (lN (paN σ pn nn dn wn)) (by unfold paN; first | rw [if_pos c_40] | rw [if_neg (by omega), if_pos c_53] | rw [if_neg (by omega), if_neg c_53]) ?_
          exact J_40 ls (lv_sub hl [0, 1, 2, 3, 4] rfl)
      · have hno : paOK σ x n d w = false := by
          unfold paOK
          first
            | (rw [c_6]; rfl)
            | (have h9 := inR_f c_15; rw [n0I] at h9; rw [decide_eq_false (fun z => h9 z.1), Bool.and_false])
            | (have h9 := inR_f c_25; rw [n0I, n2I] at h9; rw [decide_eq_false (fun z => h9 z.2), Bool.and_false])
        refine lv_bipush (v := (-2)) hx hb dX7_part_28 (by decide) ?_
        exact m_iret hx hb hr hlk hH hS dX7_part_30 (by rw [hno]; exact ⟨rfl, Sm.rf σ⟩)
set_option maxHeartbeats 4000000 in
set_option maxRecDepth 100000 in
theorem c_X7_compared (l : Launch) (G : gG) (B : gB) (σ : gS) (hM : BkM B) (hW : WfCh σ) (a b nn dn : Nat) (ha24 : a < 24) (hb24 : b < 24) (ha1 : WfP1 σ a) (hb1 : WfP1 σ b) (hn60 : nn ≤ 60) (han : tot σ a (stN σ a) ≤ nn) (hbn : tot σ b (stN σ b) ≤ nn) (hdn : dn ≤ 60) : Met l yX7_compared [.code yX7_compared cX7_compared 7 (some .int)] ({ frames := 3, cells := 0, slots := 0, locals := 77 } : Room) (mPc G B σ [.ref (B.1 0 0), .int (nI a), .int (nI b), .int (nI nn), .int (nI dn)]) (mQi G B (fun r τ => r = ccN σ a b nn dn ∧ Sm σ τ)) 0 0 (mA G) := by
  refine m_start (by decide) (Nat.le_of_ble_eq_true rfl) ?_
  intro p e s m below meth c ⟨hx, hb, hr, hml, hown, hK, hlk, hz⟩ hH hS ls hl
  have hl : lv_has ls 7 [(0, .ref (B.1 0 0)), (1, .int (nI a)), (2, .int (nI b)), (3, .int (nI nn)), (4, .int (nI dn))] := hl
  refine lv_aload_n hx hb dX7_compared_0 rfl (lv_at hl 0 rfl) ?_
  refine lv_iload_n hx hb dX7_compared_1 rfl (lv_at hl 1 rfl) ?_
  refine lv_iload_n hx hb dX7_compared_2 rfl (lv_at hl 3 rfl) ?_
  refine lv_iload hx hb dX7_compared_3 (lv_at hl 4 rfl) ?_
  refine m_kv (m_runV (k := 0) (i := 0) (ci := 7) ⟨hx, hb, hml, hown, hz⟩ hK hH hS (bm hM 0) rfl rfl (c_X7_go l G B σ hM hW a nn dn ha24 ha1 hn60 han hdn) mw_X7_go wl_X7_131 ⟨rfl, rfl⟩ ⟨by decide, by decide⟩ rfl hl.1 rfl (Nat.le_of_ble_eq_true rfl) dX7_compared_5 ⟨Nat.zero_le _, Nat.zero_le _⟩) hS (fun σ_5 H locs hp hH hS => ?_)
  have hpa := hp
  refine lv_aload_n hx hb dX7_compared_8 rfl (lv_at hl 0 rfl) ?_
  refine gf_X7_114 hx hb hown hK hH (bm hM 0) dX7_compared_9 ?_
  refine m_toj (lN (TK σ a nn dn)) (hpa.2.1) ?_
  refine lv_lstore (lv' := [(5, .long (lN (TK σ a nn dn))), (0, .ref (B.1 0 0)), (1, .int (nI a)), (2, .int (nI b)), (3, .int (nI nn)), (4, .int (nI dn))]) hx hb dX7_compared_12 hl (by decide) rfl (fun ls hl => ?_)
  refine lv_aload_n hx hb dX7_compared_14 rfl (lv_at hl 1 rfl) ?_
  refine lv_iload_n hx hb dX7_compared_15 rfl (lv_at hl 3 rfl) ?_
  refine lv_iload_n hx hb dX7_compared_16 rfl (lv_at hl 4 rfl) ?_
  refine lv_iload hx hb dX7_compared_17 (lv_at hl 5 rfl) ?_
  refine m_kv (m_runV (k := 0) (i := 0) (ci := 7) ⟨hx, hb, hml, hown, hz⟩ hK hH hS (bm hM 0) rfl rfl (c_X7_go l G B σ_5 hM (hpa.1.wfCh hW) b nn dn hb24 (hpa.1.eqP.wf hb1) hn60 (by rw [eqP_tot hpa.1.eqP]; exact hbn) hdn) mw_X7_go wl_X7_131 ⟨rfl, rfl⟩ ⟨by decide, by decide⟩ rfl hl.1 rfl (Nat.le_of_ble_eq_true rfl) dX7_compared_19 ⟨Nat.zero_le _, Nat.zero_le _⟩) hS (fun σ_19 H locs hp hH hS => ?_)
  have hpb := hp
  have hsm := hpa.1.tr hpb.1
  have htb : σ_19.2 0 0 28 = lN (TK σ b nn dn) := hpb.t.trans (by rw [TK_eq hpa.1.eqP])
  refine lv_lload hx hb dX7_compared_22 (lv_at hl 0 rfl) ?_
  refine lv_aload_n hx hb dX7_compared_24 rfl (lv_at hl 1 rfl) ?_
  refine gf_X7_114 hx hb hown hK hH (bm hM 0) dX7_compared_25 ?_
  refine m_toj (lN (TK σ b nn dn)) (htb) ?_
  refine m_lc_le (tgt := 36) hx hb dX7_compared_28 dX7_compared_29 (by decide) (fun c_28 => ?_) (fun c_28 => ?_)
  · refine lv_lload hx hb dX7_compared_36 (lv_at hl 0 rfl) ?_
    refine lv_aload_n hx hb dX7_compared_38 rfl (lv_at hl 1 rfl) ?_
    refine gf_X7_114 hx hb hown hK hH (bm hM 0) dX7_compared_39 ?_
    refine m_toj (lN (TK σ b nn dn)) (htb) ?_
    refine m_lc_ge (tgt := 50) hx hb dX7_compared_42 dX7_compared_43 (by decide) (fun c_42 => ?_) (fun c_42 => ?_)
    · refine lv_iconst (v := nI 0) hx hb dX7_compared_50 (by decide) ?_
      exact m_iret hx hb hr hlk hH hS dX7_compared_51 (⟨((if_neg c_28).trans (if_neg c_42)).symm, hsm⟩)
    · refine lv_iconst (v := (-1)) hx hb dX7_compared_46 (by decide) ?_
      refine lv_goto (tgt := 51) hx hb dX7_compared_47 (by decide) ?_
      exact m_iret hx hb hr hlk hH hS dX7_compared_51 (⟨((if_neg c_28).trans (if_pos c_42)).symm, hsm⟩)
  · refine lv_iconst (v := nI 1) hx hb dX7_compared_32 (by decide) ?_
    refine lv_goto (tgt := 51) hx hb dX7_compared_33 (by decide) ?_
    exact m_iret hx hb hr hlk hH hS dX7_compared_51 (⟨(if_pos c_28).symm, hsm⟩)
def coOK4 (σ : gS) (x y n d : Int32) : Bool := fitb σ x n && fitb σ y n && decide (0 ≤ d.toInt ∧ d.toInt ≤ n.toInt)
theorem fitb_p {σ : gS} {x : Int32} {n : Nat} (h24 : nP σ ≤ 24) (hn : n ≤ 60) (h : fitb σ x (nI n) = true) : ∃ p : Nat, p < nP σ ∧ x = nI p ∧ clo σ p = true ∧ tot σ p (stN σ p) ≤ n := by
  unfold fitb at h
  obtain ⟨h1, h2⟩ := Bool.and_eq_true_iff.mp h
  obtain ⟨p, hp, rfl, hc⟩ := isCl_t h24 h1
  rw [nI_clamp (by omega), nI_I (by omega)] at h2
  have h3 := of_decide_eq_true h2
  exact ⟨p, hp, rfl, hc, by omega⟩
set_option maxHeartbeats 4000000 in
set_option maxRecDepth 100000 in
theorem c_X7_compare (l : Launch) (G : gG) (B : gB) (σ : gS) (hM : BkM B) (hP : WfP σ) (hW : WfCh σ) (x y n d : Int32) : Met l yX7_compare [.code yX7_compare cX7_compare 5 (some .int)] ({ frames := 4, cells := 0, slots := 0, locals := 103 } : Room) (mPc G B σ [.ref (B.1 0 0), .int (x), .int (y), .int (n), .int (d)]) (mQi G B (fun v τ => if coOK4 σ x y n d = true then ∃ aq bq nq dq : Nat, aq < nP σ ∧ bq < nP σ ∧ clo σ aq = true ∧ clo σ bq = true ∧ 1 ≤ nq ∧ nq ≤ 60 ∧ tot σ aq (stN σ aq) ≤ nq ∧ tot σ bq (stN σ bq) ≤ nq ∧ dq ≤ nq ∧ x = nI aq ∧ y = nI bq ∧ n = nI nq ∧ d = nI dq ∧ v = ccN σ aq bq nq dq ∧ Sm σ τ else v = -2 ∧ Sm σ τ)) 0 0 (mA G) := by
  refine m_start (by decide) (Nat.le_of_ble_eq_true rfl) ?_
  intro p e s m below meth c ⟨hx, hb, hr, hml, hown, hK, hlk, hz⟩ hH hS ls hl
  have hl : lv_has ls 5 [(0, .ref (B.1 0 0)), (1, .int (x)), (2, .int (y)), (3, .int (n)), (4, .int (d))] := hl
  refine lv_aload_n hx hb dX7_compare_0 rfl (lv_at hl 0 rfl) ?_
  refine lv_iload_n hx hb dX7_compare_1 rfl (lv_at hl 1 rfl) ?_
  refine lv_iload_n hx hb dX7_compare_2 rfl (lv_at hl 3 rfl) ?_
  refine m_ki (m_runV (k := 0) (i := 0) (ci := 7) ⟨hx, hb, hml, hown, hz⟩ hK hH hS (bm hM 0) rfl rfl (c_X7_fits l G B σ hM hP x n) mw_X7_fits wl_X7_127 ⟨rfl, rfl⟩ ⟨by decide, by decide⟩ rfl hl.1 rfl (Nat.le_of_ble_eq_true rfl) dX7_compare_3 ⟨Nat.zero_le _, Nat.zero_le _⟩) hS (fun r_3 σ_3 H locs hp hH hS => ?_)
  obtain ⟨hr1, hs1⟩ := hp
  subst hr1
  rw [hs1] at hH
  refine m_ifeqB (tgt := 40) hx hb dX7_compare_6 (by decide) (fun c_6 => ?_) (fun c_6 => ?_)
  · have hno : coOK4 σ x y n d = false := by
      unfold coOK4
      first
        | (rw [c_6]; rfl)
        | (rw [c_15, Bool.and_false]; rfl)
        | (have h9 := inR_f c_25; rw [n0I] at h9; rw [decide_eq_false h9, Bool.and_false])
    refine lv_bipush (v := (-2)) hx hb dX7_compare_40 (by decide) ?_
    exact m_iret hx hb hr hlk hH hS dX7_compare_42 (by rw [hno]; exact ⟨rfl, Sm.rf σ⟩)
  · refine lv_aload_n hx hb dX7_compare_9 rfl (lv_at hl 0 rfl) ?_
    refine lv_iload_n hx hb dX7_compare_10 rfl (lv_at hl 2 rfl) ?_
    refine lv_iload_n hx hb dX7_compare_11 rfl (lv_at hl 3 rfl) ?_
    refine m_ki (m_runV (k := 0) (i := 0) (ci := 7) ⟨hx, hb, hml, hown, hz⟩ hK hH hS (bm hM 0) rfl rfl (c_X7_fits l G B σ hM hP y n) mw_X7_fits wl_X7_127 ⟨rfl, rfl⟩ ⟨by decide, by decide⟩ rfl hl.1 rfl (Nat.le_of_ble_eq_true rfl) dX7_compare_12 ⟨Nat.zero_le _, Nat.zero_le _⟩) hS (fun r_12 σ_12 H locs hp hH hS => ?_)
    obtain ⟨hr1, hs1⟩ := hp
    subst hr1
    rw [hs1] at hH
    refine m_ifeqB (tgt := 40) hx hb dX7_compare_15 (by decide) (fun c_15 => ?_) (fun c_15 => ?_)
    · have hno : coOK4 σ x y n d = false := by
        unfold coOK4
        first
          | (rw [c_6]; rfl)
          | (rw [c_15, Bool.and_false]; rfl)
          | (have h9 := inR_f c_25; rw [n0I] at h9; rw [decide_eq_false h9, Bool.and_false])
      refine lv_bipush (v := (-2)) hx hb dX7_compare_40 (by decide) ?_
      exact m_iret hx hb hr hlk hH hS dX7_compare_42 (by rw [hno]; exact ⟨rfl, Sm.rf σ⟩)
    · refine lv_iload hx hb dX7_compare_18 (lv_at hl 4 rfl) ?_
      refine lv_iconst (v := nI 0) hx hb dX7_compare_20 (by decide) ?_
      refine lv_iload_n hx hb dX7_compare_21 rfl (lv_at hl 3 rfl) ?_
      refine m_ki (m_runS ⟨hx, hb, hml, hown, hz⟩ hK hH hS (c_X7_in l G B σ d (nI 0) n) mw_X7_in wl_X7_95 ⟨rfl, rfl⟩ ⟨by decide, by decide⟩ rfl hl.1 rfl (Nat.le_of_ble_eq_true rfl) dX7_compare_22 ⟨Nat.zero_le _, Nat.zero_le _⟩) hS (fun r_22 σ_22 H locs hp hH hS => ?_)
      obtain ⟨hr1, hs1⟩ := hp
      subst hr1
      rw [hs1] at hH
      refine m_ifeqB (tgt := 40) hx hb dX7_compare_25 (by decide) (fun c_25 => ?_) (fun c_25 => ?_)
      · have hno : coOK4 σ x y n d = false := by
          unfold coOK4
          first
            | (rw [c_6]; rfl)
            | (rw [c_15, Bool.and_false]; rfl)
            | (have h9 := inR_f c_25; rw [n0I] at h9; rw [decide_eq_false h9, Bool.and_false])
        refine lv_bipush (v := (-2)) hx hb dX7_compare_40 (by decide) ?_
        exact m_iret hx hb hr hlk hH hS dX7_compare_42 (by rw [hno]; exact ⟨rfl, Sm.rf σ⟩)
      · have h8 := inR_t c_25; rw [n0I] at h8
        have hyes : coOK4 σ x y n d = true := by
          unfold coOK4
          rw [c_6, c_15, decide_eq_true h8]
          rfl
        obtain ⟨a, nn, hpn, he1, he2, hcl, hn1, hn60, htn⟩ := fitb_t hP.2.1 c_6
        subst he1 he2
        obtain ⟨b, hpb, he1, hcb, htb⟩ := fitb_p hP.2.1 (by omega) c_15
        subst he1
        have h24 := hP.2.1
        rw [nI_I (by omega)] at h8
        obtain ⟨d1, d2⟩ := i_nat h8.1
        obtain ⟨dn, hdn⟩ : ∃ z : Nat, z = d.toInt.toNat := ⟨_, rfl⟩
        rw [← hdn] at d1 d2
        have hd3 : dn ≤ nn := by omega
        clear c_25 h8 hdn d2
        subst d1
        refine lv_aload_n hx hb dX7_compare_28 rfl (lv_at hl 0 rfl) ?_
        refine lv_iload_n hx hb dX7_compare_29 rfl (lv_at hl 1 rfl) ?_
        refine lv_iload_n hx hb dX7_compare_30 rfl (lv_at hl 2 rfl) ?_
        refine lv_iload_n hx hb dX7_compare_31 rfl (lv_at hl 3 rfl) ?_
        refine lv_iload hx hb dX7_compare_32 (lv_at hl 4 rfl) ?_
        refine m_ki (m_runV (k := 0) (i := 0) (ci := 7) ⟨hx, hb, hml, hown, hz⟩ hK hH hS (bm hM 0) rfl rfl (c_X7_compared l G B σ hM hW a b nn dn (by omega) (by omega) (hP.2.2 a hpn) (hP.2.2 b hpb) hn60 htn htb (by omega)) mw_X7_compared wl_X7_148 ⟨rfl, rfl⟩ ⟨by decide, by decide⟩ rfl hl.1 rfl (Nat.le_of_ble_eq_true rfl) dX7_compare_34 ⟨Nat.zero_le _, Nat.zero_le _⟩) hS (fun r_34 σ_34 H locs hp hH hS => ?_)
        obtain ⟨hr1, hsm⟩ := hp
        subst hr1
        refine lv_goto (tgt := 42) hx hb dX7_compare_37 (by decide) ?_
        exact m_iret hx hb hr hlk hH hS dX7_compare_42 (by rw [hyes]; exact ⟨a, b, nn, dn, hpn, hpb, hcl, hcb, hn1, hn60, htn, htb, hd3, rfl, rfl, rfl, rfl, rfl, hsm⟩)
