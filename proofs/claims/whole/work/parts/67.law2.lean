/-! what holds at first; the law's loop -/
def cB : Nat → Nat := fun k => bif Nat.ble 40 k then cD k else cM k
def s0 (u0 u2 : gS) : gS := (fun k i j => bif Nat.ble 40 k then (dS u0).1 k i j else u2.1 k i j, fun k i j => bif Nat.ble 40 k then (dS u0).2 k i j else u2.2 k i j)
theorem RI_init {A : Nat → Nat → Nat} {u0 u2 : gS} (h0 : IW u0 61 0) (h2 : IM u2 61 0) : RI (A, cB) (s0 u0 u2) := by
  have m1 : ∀ k i j, k < 40 → (s0 u0 u2).1 k i j = 0 := fun k i j hk => by
    show (bif Nat.ble 40 k then (dS u0).1 k i j else u2.1 k i j) = 0
    have : Nat.ble 40 k = false := by
      cases e : Nat.ble 40 k with
      | false => rfl
      | true => have := Nat.le_of_ble_eq_true e; omega
    rw [this, h2.2.2.1]; rfl
  have nP0 : nP (s0 u0 u2) = 0 := by unfold nP; rw [m1 0 0 0 (by decide)]; rfl
  have nS0 : nS (s0 u0 u2) = 0 := by unfold nS; rw [m1 0 0 1 (by decide)]; rfl
  have nL0 : nL (s0 u0 u2) = 0 := by unfold nL; rw [m1 0 0 2 (by decide)]; rfl
  have ik : ∀ r, isRk (s0 u0 u2) r = false := fun r => by unfold isRk; rw [m1 13 0 r (by decide)]; rfl
  refine RI.mk (show ∀ k ∈ _, cB k = 1 by decide) (show (∀ k ∈ _, cB k = 1) ∧ cB 49 = 2 ∧ cB 43 = 61 ∧ (∀ k ∈ _, cB k = cB 50) ∧ cB 56 = 4 * cB 50 ∧ (∀ k ∈ _, cB k = cB 57) ∧ (∀ k ∈ _, cB k = cB 60) by decide) ?_ ⟨⟨?_, by rw [nP0]; decide, fun p hp => ?_⟩, fun p hp => ?_⟩ (fun n k h1 h3 => ?_) (fun n k h1 h3 => ?_) ⟨fun r hr => ?_, fun r hr => ?_⟩ ⟨0, 1, ?_, ?_⟩ ⟨⟨?_, by rw [nS0]; decide, fun s hs => ?_, fun s _ _ => ⟨m1 16 0 s (by decide), m1 17 0 s (by decide)⟩⟩, fun s hs => ?_⟩ ⟨⟨?_, by rw [nL0]; decide, fun q hq => ?_⟩, fun q hq => ?_, fun s hs => ?_⟩ (fun w hw => ?_)
  · unfold DK
    rw [nP0, nS0, nL0]
    exact ⟨rfl, rfl, rfl, rfl, rfl, rfl⟩
  · rw [nP0, m1 0 0 0 (by decide)]; rfl
  · rw [nP0] at hp; exact absurd hp (Nat.not_lt_zero p)
  · rw [nP0] at hp; exact absurd hp (Nat.not_lt_zero p)
  · exact h2.1 n k (by omega) h3
  · exact h0.1 n k (by omega)
  · rw [ik r, m1 13 0 r (by decide)]
    exact ⟨rfl, fun z => absurd z (by decide)⟩
  · have e1 : (s0 u0 u2).1 49 r 1 = nI 0 := rfl
    have e2 : (s0 u0 u2).1 49 r 2 = nI 0 := rfl
    have e3 : (s0 u0 u2).1 49 r 3 = nI 1 := rfl
    have f1 : cRd (s0 u0 u2) r = 0 := by unfold cRd; rw [e1]; rfl
    have f2 : cRu (s0 u0 u2) r = 0 := by unfold cRu; rw [e2]; rfl
    have f3 : cRn (s0 u0 u2) r = 1 := by unfold cRn; rw [e3]; rfl
    unfold RK
    rw [ik r, f1, f2, f3]
    exact ⟨rfl, e1, by decide, e2, e3, by decide, by decide, by decide, fun z => absurd z (by decide)⟩
  · refine ⟨?_, ?_, by decide, by decide, by decide, by decide⟩
    · show u2.2 0 0 7 = lN 0
      rw [h2.2.2.2 0 0 7 (by decide)]; rfl
    · show u2.2 0 0 8 = lN 1
      rw [h2.2.2.2 0 0 8 (by decide)]; rfl
  · exact ⟨rfl, rfl, by decide, by decide, by decide, by decide⟩
  · rw [nS0, m1 0 0 1 (by decide)]; rfl
  · rw [nS0] at hs; exact absurd hs (Nat.not_lt_zero s)
  · rw [nS0] at hs; exact absurd hs (Nat.not_lt_zero s)
  · rw [nL0, m1 0 0 2 (by decide)]; rfl
  · rw [nL0] at hq; exact absurd hq (Nat.not_lt_zero q)
  · rw [nL0] at hq; exact absurd hq (Nat.not_lt_zero q)
  · rw [nS0] at hs; exact absurd hs (Nat.not_lt_zero s)
  · rw [m1 25 0 w (by decide)]; rfl
/-- the desk's cells and the check's, in one book -/
theorem Hp_init {G : gG} {A : Nat → Nat → Nat} {u0 u2 : gS} {H2 H3 : Heap} {z : Nat} (hG : G.2.2 ≤ z) (h1 : Hp G (A, cD) (dS u0) H2) (hz : H2.size = z) (hk : ∀ r, r < z → H3[r]? = H2[r]?) (h2 : Hp (G.1, G.2.1, z) (A, cM) u2 H3) : Hp G (A, cB) (s0 u0 u2) H3 := by
  have a1 : ∀ k, 40 ≤ k → cB k = cD k ∧ ∀ i, (s0 u0 u2).1 k i = (dS u0).1 k i ∧ (s0 u0 u2).2 k i = (dS u0).2 k i := fun k hk => by
    have e := Nat.ble_eq_true_of_le hk
    refine ⟨?_, fun i => ⟨?_, ?_⟩⟩
    · show (bif Nat.ble 40 k then cD k else cM k) = _; rw [e]; rfl
    · funext j; show (bif Nat.ble 40 k then (dS u0).1 k i j else u2.1 k i j) = _; rw [e]; rfl
    · funext j; show (bif Nat.ble 40 k then (dS u0).2 k i j else u2.2 k i j) = _; rw [e]; rfl
  have a2 : ∀ k, k < 40 → cB k = cM k ∧ ∀ i, (s0 u0 u2).1 k i = u2.1 k i ∧ (s0 u0 u2).2 k i = u2.2 k i := fun k hk => by
    have e : Nat.ble 40 k = false := by
      cases e : Nat.ble 40 k with
      | false => rfl
      | true => have := Nat.le_of_ble_eq_true e; omega
    refine ⟨?_, fun i => ⟨?_, ?_⟩⟩
    · show (bif Nat.ble 40 k then cD k else cM k) = _; rw [e]; rfl
    · funext j; show (bif Nat.ble 40 k then (dS u0).1 k i j else u2.1 k i j) = _; rw [e]; rfl
    · funext j; show (bif Nat.ble 40 k then (dS u0).2 k i j else u2.2 k i j) = _; rw [e]; rfl
  have l1 : ∀ k i f g, lay G (A, cB) k i f g = lay G (A, cD) k i f g := fun k i f g => lay_c rfl rfl rfl i f g k
  have l2 : ∀ k i f g, lay G (A, cB) k i f g = lay G (A, cM) k i f g := fun k i f g => lay_c rfl rfl rfl i f g k
  have lo : ∀ k i, k < 40 → i < cB k → z ≤ A k i := fun k i hk hi => (h2.1 k i (by rw [(a2 k hk).1] at hi; exact hi)).1
  have hi' : ∀ k i, 40 ≤ k → i < cB k → A k i < z := fun k i hk hi => by
    have := h1.lt (B := (A, cD)) (k := k) (i := i) (by rw [(a1 k hk).1] at hi; exact hi)
    rw [hz] at this; exact this
  refine ⟨fun k i hi => ?_, fun k i k' i' hi hi2 e => ?_⟩
  · have hi : i < cB k := hi
    show G.2.2 ≤ A k i ∧ va_at G.1 clsz (A k i, lay G (A, cB) k i ((s0 u0 u2).1 k i) ((s0 u0 u2).2 k i)) H3
    rcases Nat.lt_or_ge k 40 with q | q
    · rw [((a2 k q).2 i).1, ((a2 k q).2 i).2, l2]
      have h9 := h2.1 k i (by rw [(a2 k q).1] at hi; exact hi)
      exact ⟨Nat.le_trans hG h9.1, h9.2⟩
    · rw [((a1 k q).2 i).1, ((a1 k q).2 i).2, l1]
      have h9 := h1.1 k i (by rw [(a1 k q).1] at hi; exact hi)
      exact ⟨h9.1, h9.2.kept (hk _ (hi' k i q hi))⟩
  · have hi : i < cB k := hi
    have hi2 : i' < cB k' := hi2
    have e : A k i = A k' i' := e
    rcases Nat.lt_or_ge k 40 with q | q
    · rcases Nat.lt_or_ge k' 40 with q' | q'
      · exact h2.2 k i k' i' (by rw [(a2 k q).1] at hi; exact hi) (by rw [(a2 k' q').1] at hi2; exact hi2) e
      · have := lo k i q hi
        have := hi' k' i' q' hi2
        omega
    · rcases Nat.lt_or_ge k' 40 with q' | q'
      · have := lo k' i' q' hi2
        have := hi' k i q hi
        omega
      · exact h1.2 k i k' i' (by rw [(a1 k q).1] at hi; exact hi) (by rw [(a1 k' q').1] at hi2; exact hi2) e
set_option maxHeartbeats 4000000 in
set_option maxRecDepth 100000 in
theorem law_loop {p : Program} {l : Launch} {e : Env} {s : State} {m : MethodId} {below : List Frame} {meth : Method} {c : Code} {G : gG} {b L : Nat} {xs : Nat → Int32} (C0 : p.tables.exec = Jvm.exec ∧ c.code = cL_law ∧ c.maxLocals = 4 ∧ s.vm.findClass RL = some m.cls ∧ G.2.2 ≤ s.heap.size) (hG : G.2.2 = s.heap.size) (hr : meth.sig.returnType = ret) (hlk : meth.locks = false) (hK : KI G s) (hAO : AOs s) (hX : va_X b L xs s s.heap) (hbl : b < s.heap.size) (hL : L ≤ 2560) :
    ∀ (n t : Nat), n + t = 513 → t ≤ 512 → ∀ (B : gB) (σ : gS) (H : Heap) (locs : List Loc), RI B σ → Hp G B σ H → va_S (mA G) s.heap H locs → ∀ (ls : Array Slot), lv_has ls 4 [(3, .int (nI (5 * t))), (2, .ref (B.1 0 0)), (1, .ref (B.1 40 0)), (0, .ref b)] → W p l e room_1 s m #[Value.ref b] below meth c H locs (200 + 10 * t) (20000 + 271 * t) (lw_Z below #[Value.ref b] s) (F0 m 18 ls []) := by
  obtain ⟨hx, hb, hml, hown, hz⟩ := id C0
  have hbA : ¬ mA G b := by show ¬ G.2.2 ≤ b; omega
  intro n
  induction n with
  | zero => intro t hn ht; intros; omega
  | succ n ih =>
    intro t hn ht B σ H locs hI hH hS ls hl
    refine lv_iload_n hx hb dL_law_18 rfl (lv_at hl 0 rfl) ?_
    refine lv_aload_n hx hb dL_law_19 rfl (lv_at hl 3 rfl) ?_
    refine va_slen hx hb hX hbl hbA hS dL_law_20 ?_
    refine m_toi L rfl ?_
    refine lv_iconst (v := nI 5) hx hb dL_law_21 (by decide) ?_
    refine lv_isub hx hb dL_law_22 ?_
    have e5 := i_subN (a := L) (b := 5) (by omega) (by decide)
    have et := nI_I (n := 5 * t) (by omega)
    refine lv_icmp_gt (tgt := 973) hx hb dL_law_23 (by decide) (fun c1 => ?_) (fun c1 => ?_)
    · refine lv_iconst (v := 1) hx hb dL_law_973 (by decide) ?_
      refine va_forget (fun q hq => by have := hS.2.2 q hq; have this : G.2.2 ≤ q.base := this; omega) ?_
      refine W.widen (k := 600000) (n := 7302250) (by omega) (by omega) ?_
      exact lw_ret hx hb hr hlk dL_law_974
    · rw [i_lt, e5, et] at c1
      have hi : 5 * t + 4 < L := by omega
      have kont : ∀ (B1 : gB) (σ1 : gS) (H1 : Heap) (locs1 : List Loc), RI B1 σ1 → (B1.1 40 0 = B.1 40 0 ∧ B1.1 0 0 = B.1 0 0) → Hp G B1 σ1 H1 → va_S (mA G) s.heap H1 locs1 → W p l e room_1 s m #[Value.ref b] below meth c H1 locs1 (200 + 10 * t + 10) (20000 + 271 * t + 271) (lw_Z below #[Value.ref b] s) (F0 m 967 ls []) := by
        intro B1 σ1 H1 locs1 hI1 hB1 hH1 hS1
        refine lv_iinc (v := nI (5 * (t + 1))) (lv' := [(3, .int (nI (5 * (t + 1)))), (2, .ref (B.1 0 0)), (1, .ref (B.1 40 0)), (0, .ref b)]) hx hb dL_law_967 hl (k := 0) rfl ((nI_add (5 * t) 5).trans (congrArg nI (by omega))) (by decide) rfl (fun ls hl => ?_)
        refine lv_goto (tgt := 18) hx hb dL_law_970 (by decide) ?_
        refine W.widen (k := 200 + 10 * (t + 1)) (n := 20000 + 271 * (t + 1)) (by omega) (by omega) ?_
        exact ih (t + 1) (by omega) (by omega) B1 σ1 H1 locs1 hI1 hH1 hS1 ls (by rw [hB1.1, hB1.2]; exact hl)
      have hc1 : 200 + 10 * t + 10 ≤ room_1.cells := by show _ ≤ 600000; omega
      have hc2 : 20000 + 271 * t + 271 ≤ room_1.slots := by show _ ≤ 7302250; omega
      refine lv_aload_n hx hb dL_law_26 rfl (lv_at hl 3 rfl) ?_
      refine lv_iload_n hx hb dL_law_27 rfl (lv_at hl 0 rfl) ?_
      refine l_sld hx hb hX hbl hbA hS (by omega) hL dL_law_28 ?_
      refine lv_bipush (v := nI 31) hx hb dL_law_29 (by decide) ?_
      refine lv_iand hx hb dL_law_31 ?_
      refine lv_topi (fun w ew => ?_)
      clear ew
      by_cases s_0 : w = nI 0
      · refine m_toe (nI 0) s_0 ?_
        refine lv_tableIn (off := 116) (tgt := 148) hx hb dL_law_32 (by decide) (by decide) (by decide) (by decide) ?_
        exact law_0 C0 hK hAO hX hbl hbA hL hi hI hH hS hc1 hc2 hl kont
      by_cases s_1 : w = nI 1
      · refine m_toe (nI 1) s_1 ?_
        refine lv_tableIn (off := 129) (tgt := 161) hx hb dL_law_32 (by decide) (by decide) (by decide) (by decide) ?_
        exact law_1 C0 hK hAO hX hbl hbA hL hi hI hH hS hc1 hc2 hl kont
      by_cases s_2 : w = nI 2
      · refine m_toe (nI 2) s_2 ?_
        refine lv_tableIn (off := 182) (tgt := 214) hx hb dL_law_32 (by decide) (by decide) (by decide) (by decide) ?_
        exact law_2 C0 hK hAO hX hbl hbA hL hi hI hH hS hc1 hc2 hl kont
      by_cases s_3 : w = nI 3
      · refine m_toe (nI 3) s_3 ?_
        refine lv_tableIn (off := 225) (tgt := 257) hx hb dL_law_32 (by decide) (by decide) (by decide) (by decide) ?_
        exact law_3 C0 hK hAO hX hbl hbA hL hi hI hH hS hc1 hc2 hl kont
      by_cases s_4 : w = nI 4
      · refine m_toe (nI 4) s_4 ?_
        refine lv_tableIn (off := 278) (tgt := 310) hx hb dL_law_32 (by decide) (by decide) (by decide) (by decide) ?_
        exact law_4 C0 hK hAO hX hbl hbA hL hi hI hH hS hc1 hc2 hl kont
      by_cases s_5 : w = nI 5
      · refine m_toe (nI 5) s_5 ?_
        refine lv_tableIn (off := 292) (tgt := 324) hx hb dL_law_32 (by decide) (by decide) (by decide) (by decide) ?_
        exact law_5 C0 hK hAO hX hbl hbA hL hi hI hH hS hc1 hc2 hl kont
      by_cases s_6 : w = nI 6
      · refine m_toe (nI 6) s_6 ?_
        refine lv_tableIn (off := 306) (tgt := 338) hx hb dL_law_32 (by decide) (by decide) (by decide) (by decide) ?_
        exact law_6 C0 hK hAO hX hbl hbA hL hi hI hH hS hc1 hc2 hl kont
      by_cases s_7 : w = nI 7
      · refine m_toe (nI 7) s_7 ?_
        refine lv_tableIn (off := 330) (tgt := 362) hx hb dL_law_32 (by decide) (by decide) (by decide) (by decide) ?_
        exact law_7 C0 hK hAO hX hbl hbA hL hi hI hH hS hc1 hc2 hl kont
      by_cases s_8 : w = nI 8
      · refine m_toe (nI 8) s_8 ?_
        refine lv_tableIn (off := 383) (tgt := 415) hx hb dL_law_32 (by decide) (by decide) (by decide) (by decide) ?_
        exact law_8 C0 hK hAO hX hbl hbA hL hi hI hH hS hc1 hc2 hl kont
      by_cases s_9 : w = nI 9
      · refine m_toe (nI 9) s_9 ?_
        refine lv_tableIn (off := 436) (tgt := 468) hx hb dL_law_32 (by decide) (by decide) (by decide) (by decide) ?_
        exact law_9 C0 hK hAO hX hbl hbA hL hi hI hH hS hc1 hc2 hl kont
      by_cases s_10 : w = nI 10
      · refine m_toe (nI 10) s_10 ?_
        refine lv_tableIn (off := 489) (tgt := 521) hx hb dL_law_32 (by decide) (by decide) (by decide) (by decide) ?_
        exact law_10 C0 hK hAO hX hbl hbA hL hi hI hH hS hc1 hc2 hl kont
      by_cases s_11 : w = nI 11
      · refine m_toe (nI 11) s_11 ?_
        refine lv_tableIn (off := 502) (tgt := 534) hx hb dL_law_32 (by decide) (by decide) (by decide) (by decide) ?_
        exact law_11 C0 hK hAO hX hbl hbA hL hi hI hH hS hc1 hc2 hl kont
      by_cases s_12 : w = nI 12
      · refine m_toe (nI 12) s_12 ?_
        refine lv_tableIn (off := 525) (tgt := 557) hx hb dL_law_32 (by decide) (by decide) (by decide) (by decide) ?_
        exact law_12 C0 hK hAO hX hbl hbA hL hi hI hH hS hc1 hc2 hl kont
      by_cases s_13 : w = nI 13
      · refine m_toe (nI 13) s_13 ?_
        refine lv_tableIn (off := 558) (tgt := 590) hx hb dL_law_32 (by decide) (by decide) (by decide) (by decide) ?_
        exact law_13 C0 hK hAO hX hbl hbA hL hi hI hH hS hc1 hc2 hl kont
      by_cases s_14 : w = nI 14
      · refine m_toe (nI 14) s_14 ?_
        refine lv_tableIn (off := 601) (tgt := 633) hx hb dL_law_32 (by decide) (by decide) (by decide) (by decide) ?_
        exact law_14 C0 hK hAO hX hbl hbA hL hi hI hH hS hc1 hc2 hl kont
      by_cases s_15 : w = nI 15
      · refine m_toe (nI 15) s_15 ?_
        refine lv_tableIn (off := 634) (tgt := 666) hx hb dL_law_32 (by decide) (by decide) (by decide) (by decide) ?_
        exact law_15 C0 hK hAO hX hbl hbA hL hi hI hH hS hc1 hc2 hl kont
      by_cases s_16 : w = nI 16
      · refine m_toe (nI 16) s_16 ?_
        refine lv_tableIn (off := 667) (tgt := 699) hx hb dL_law_32 (by decide) (by decide) (by decide) (by decide) ?_
        exact law_16 C0 hK hAO hX hbl hbA hL hi hI hH hS hc1 hc2 hl kont
      by_cases s_17 : w = nI 17
      · refine m_toe (nI 17) s_17 ?_
        refine lv_tableIn (off := 690) (tgt := 722) hx hb dL_law_32 (by decide) (by decide) (by decide) (by decide) ?_
        exact law_17 C0 hK hAO hX hbl hbA hL hi hI hH hS hc1 hc2 hl kont
      by_cases s_18 : w = nI 18
      · refine m_toe (nI 18) s_18 ?_
        refine lv_tableIn (off := 733) (tgt := 765) hx hb dL_law_32 (by decide) (by decide) (by decide) (by decide) ?_
        exact law_18 C0 hK hAO hX hbl hbA hL hi hI hH hS hc1 hc2 hl kont
      by_cases s_19 : w = nI 19
      · refine m_toe (nI 19) s_19 ?_
        refine lv_tableIn (off := 766) (tgt := 798) hx hb dL_law_32 (by decide) (by decide) (by decide) (by decide) ?_
        exact law_19 C0 hK hAO hX hbl hbA hL hi hI hH hS hc1 hc2 hl kont
      by_cases s_20 : w = nI 20
      · refine m_toe (nI 20) s_20 ?_
        refine lv_tableIn (off := 789) (tgt := 821) hx hb dL_law_32 (by decide) (by decide) (by decide) (by decide) ?_
        exact law_20 C0 hK hAO hX hbl hbA hL hi hI hH hS hc1 hc2 hl kont
      by_cases s_21 : w = nI 21
      · refine m_toe (nI 21) s_21 ?_
        refine lv_tableIn (off := 812) (tgt := 844) hx hb dL_law_32 (by decide) (by decide) (by decide) (by decide) ?_
        exact law_21 C0 hK hAO hX hbl hbA hL hi hI hH hS hc1 hc2 hl kont
      by_cases s_22 : w = nI 22
      · refine m_toe (nI 22) s_22 ?_
        refine lv_tableIn (off := 845) (tgt := 877) hx hb dL_law_32 (by decide) (by decide) (by decide) (by decide) ?_
        exact law_22 C0 hK hAO hX hbl hbA hL hi hI hH hS hc1 hc2 hl kont
      by_cases s_23 : w = nI 23
      · refine m_toe (nI 23) s_23 ?_
        refine lv_tableIn (off := 878) (tgt := 910) hx hb dL_law_32 (by decide) (by decide) (by decide) (by decide) ?_
        exact law_23 C0 hK hAO hX hbl hbA hL hi hI hH hS hc1 hc2 hl kont
      by_cases s_24 : w = nI 24
      · refine m_toe (nI 24) s_24 ?_
        refine lv_tableIn (off := 912) (tgt := 944) hx hb dL_law_32 (by decide) (by decide) (by decide) (by decide) ?_
        exact law_24 C0 hK hAO hX hbl hbA hL hi hI hH hS hc1 hc2 hl kont
      have so : w.toInt < 0 ∨ 24 < w.toInt := by
        simp only [i_eq] at s_0 s_1 s_2 s_3 s_4 s_5 s_6 s_7 s_8 s_9 s_10 s_11 s_12 s_13 s_14 s_15 s_16 s_17 s_18 s_19 s_20 s_21 s_22 s_23 s_24
        simp only [show (nI 0).toInt = 0 from rfl, show (nI 1).toInt = 1 from rfl, show (nI 2).toInt = 2 from rfl, show (nI 3).toInt = 3 from rfl, show (nI 4).toInt = 4 from rfl, show (nI 5).toInt = 5 from rfl, show (nI 6).toInt = 6 from rfl, show (nI 7).toInt = 7 from rfl, show (nI 8).toInt = 8 from rfl, show (nI 9).toInt = 9 from rfl, show (nI 10).toInt = 10 from rfl, show (nI 11).toInt = 11 from rfl, show (nI 12).toInt = 12 from rfl, show (nI 13).toInt = 13 from rfl, show (nI 14).toInt = 14 from rfl, show (nI 15).toInt = 15 from rfl, show (nI 16).toInt = 16 from rfl, show (nI 17).toInt = 17 from rfl, show (nI 18).toInt = 18 from rfl, show (nI 19).toInt = 19 from rfl, show (nI 20).toInt = 20 from rfl, show (nI 21).toInt = 21 from rfl, show (nI 22).toInt = 22 from rfl, show (nI 23).toInt = 23 from rfl, show (nI 24).toInt = 24 from rfl] at s_0 s_1 s_2 s_3 s_4 s_5 s_6 s_7 s_8 s_9 s_10 s_11 s_12 s_13 s_14 s_15 s_16 s_17 s_18 s_19 s_20 s_21 s_22 s_23 s_24
        omega
      refine lv_tableOut (tgt := 967) hx hb dL_law_32 so (by decide) ?_
      exact W.widen (by omega) (by omega) (kont B σ H locs hI ⟨rfl, rfl⟩ hH hS)
