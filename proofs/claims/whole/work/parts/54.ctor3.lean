/-! tables of ways that are filled -/
def IW (σ : gS) (n k : Nat) : Prop := (∀ a b, a < n → σ.2 43 a b = lN (ch a b)) ∧ (∀ b, b < k → σ.2 43 n b = lN (ch n b)) ∧ (∀ b, k ≤ b → σ.2 43 n b = lN 0) ∧ (∀ a b, n < a → σ.2 43 a b = lN 0) ∧ σ.1 = z00.1 ∧ ∀ k i j, k ≠ 43 → σ.2 k i j = 0
theorem IW_put {σ : gS} {n k : Nat} {v : Int64} (h : IW σ n k) (hv : v = lN (ch n k)) : IW (sJ σ 43 n k v) n (k + 1) := by
  refine ⟨fun a b ha => ?_, fun b hb => ?_, fun b hb => ?_, fun a b ha => ?_, h.2.2.2.2.1, fun k i j hk => ?_⟩
  · rw [sJ_at, if_neg (by omega)]; exact h.1 a b ha
  · rw [sJ_at]
    by_cases e : b = k
    · rw [if_pos ⟨rfl, rfl, e⟩, hv, e]
    · rw [if_neg (fun z => e z.2.2)]; exact h.2.1 b (by omega)
  · rw [sJ_at, if_neg (by omega)]; exact h.2.2.1 b (by omega)
  · rw [sJ_at, if_neg (by omega)]; exact h.2.2.2.1 a b ha
  · rw [sJ_at, if_neg (fun z => hk z.1)]; exact h.2.2.2.2.2 k i j hk
theorem IW_next {σ : gS} {n : Nat} (h : IW σ n (n + 1)) : IW σ (n + 1) 0 := by
  refine ⟨fun a b ha => ?_, fun b hb => absurd hb (Nat.not_lt_zero b), fun b _ => h.2.2.2.1 (n + 1) b (by omega), fun a b ha => h.2.2.2.1 a b (by omega), h.2.2.2.2⟩
  rcases Nat.lt_or_ge a n with q | q
  · exact h.1 a b q
  · rw [show a = n by omega]
    rcases Nat.lt_or_ge b (n + 1) with z | z
    · exact h.2.1 b z
    · rw [h.2.2.1 b z, ch_big (by omega)]
theorem IW_0 : IW z00 0 0 := ⟨fun a b ha => absurd ha (Nat.not_lt_zero a), fun b hb => absurd hb (Nat.not_lt_zero b), fun b _ => rfl, fun a b _ => rfl, rfl, fun k i j _ => rfl⟩
def IM (σ : gS) (n k : Nat) : Prop := (∀ a b, a < n → b ≤ a → σ.2 9 0 (61 * a + b) = lN (ch a b)) ∧ (∀ b, b < k → σ.2 9 0 (61 * n + b) = lN (ch n b)) ∧ σ.1 = z00.1 ∧ ∀ k i j, k ≠ 9 → σ.2 k i j = if k = 0 ∧ i = 0 ∧ j = 8 then lN 1 else 0
theorem IM_put {σ : gS} {n k : Nat} {v : Int64} (hk60 : k ≤ n) (hn : n ≤ 60) (h : IM σ n k) (hv : v = lN (ch n k)) : IM (sJ σ 9 0 (61 * n + k) v) n (k + 1) := by
  refine ⟨fun a b ha hb => ?_, fun b hb => ?_, h.2.2.1, fun k i j hk => ?_⟩
  · rw [sJ_at, if_neg (by omega)]; exact h.1 a b ha hb
  · rw [sJ_at]
    by_cases e : b = k
    · rw [if_pos ⟨rfl, rfl, by omega⟩, hv, e]
    · rw [if_neg (by omega)]; exact h.2.1 b (by omega)
  · rw [sJ_at, if_neg (fun z => hk z.1)]; exact h.2.2.2 k i j hk
theorem IM_next {σ : gS} {n : Nat} (h : IM σ n (n + 1)) : IM σ (n + 1) 0 := by
  refine ⟨fun a b ha hb => ?_, fun b hb => absurd hb (Nat.not_lt_zero b), h.2.2⟩
  rcases Nat.lt_or_ge a n with q | q
  · exact h.1 a b q hb
  · rw [show a = n by omega] at hb ⊢; exact h.2.1 b (by omega)
theorem IM_0 : IM (sJ z00 0 0 8 (lN 1)) 0 0 := ⟨fun a b ha => absurd ha (Nat.not_lt_zero a), fun b hb => absurd hb (Nat.not_lt_zero b), rfl, fun k i j _ => by rw [sJ_at]; rfl⟩
theorem ch_pas {n k : Nat} (hn : 1 ≤ n) (hk : 1 ≤ k) : ch n k = ch (n - 1) (k - 1) + ch (n - 1) k := by
  obtain ⟨a, rfl⟩ : ∃ a, n = a + 1 := ⟨n - 1, by omega⟩
  obtain ⟨b, rfl⟩ : ∃ b, k = b + 1 := ⟨k - 1, by omega⟩
  rfl
set_option maxHeartbeats 4000000 in
set_option maxRecDepth 100000 in
theorem c_X5_init (l : Launch) (G : gG) (A : Nat → Nat → Nat) (h41 : A 41 0 = G.2.2) (h42 : A 42 0 = G.2.2 + 1) (h43 : ∀ j, j < 61 → A 43 j = G.2.2 + 2 + j) : Met l yX5_init [.code yX5_init cX5_init 3 none] ({ frames := 1, cells := 62, slots := 3782, locals := 20 } : Room) (cPc G 5 [.null] []) (cQo G (fun u H => Hp G (A, upc (upc (upc c00 42 1) 43 61) 41 1) u H) (G.2.2 + 63) (fun u => IW u 61 0)) 62 3782 (mA G) := by
  refine c_start (by decide) rfl (Nat.le_of_ble_eq_true rfl) ?_
  intro p e s m below meth c ⟨hx, hb, hr, hml, hown, hK, hlk, hz⟩ hAO hin hz9 hat hS ls hl
  have hl : lv_has ls 3 [(0, .ref G.2.2)] := hl
  have hN : NO G A c00 z00 G.2.2 5 [.null] (G.2.2 + 1) s.heap := NO.st hz9 hat
  refine lv_aload_n hx hb dX5_init_0 rfl (lv_at hl 0 rfl) ?_
  refine n_obj hx hb hown hml hl.1 hK wl_X5_3 ⟨by decide, by decide⟩ (Nat.le_of_ble_eq_true rfl) dX5_init_1 ?_
  refine lv_aload_n hx hb dX5_init_4 rfl (lv_at hl 0 rfl) ?_
  refine lv_bipush (v := nI 61) hx hb dX5_init_5 (by decide) ?_
  refine lv_bipush (v := nI 61) hx hb dX5_init_7 (by decide) ?_
  refine n_mna (N := 61) (K := 61) hx hb hown hK hAO.2.2.2 hN.2.2.1 hS wk_X5_9 (by decide) (by decide) (by decide) (by decide) dX5_init_9 (fun H h1 h2 h3 h4 hS => ?_)
  have hN := hN.addg (ko := 42) (kr := 43) (N := 61) (K := 61) rfl rfl (by decide) ⟨by decide, by decide⟩ (by omega) (fun j hj => by have := h43 j hj; omega) h1 h2 (fun _ _ => rfl) (fun _ _ _ => rfl) (fun _ _ => rfl) h3 h4
  have hN : NO G A (upc (upc c00 42 1) 43 61) z00 G.2.2 5 [.null] (G.2.2 + 1 + 1 + 61) H := hN
  refine m_tor (A 42 0) (by omega) ?_
  refine n_putF (ty := .array (.array (.long))) hx hb hown hK hN hS rfl 0 (by decide) wf_X5_11 rfl hin rfl (by decide +kernel) rfl rfl (Nat.le_of_ble_eq_true rfl) dX5_init_13 (fun H locs hN hS => ?_)
  have hN : NO G A (upc (upc c00 42 1) 43 61) z00 G.2.2 5 [.ref (A 42 0)] (G.2.2 + 1 + 1 + 61) H := hN
  have hH := hN.fin (k0 := 41) (i0 := 0) (σ' := z00) rfl rfl (Or.inl (by decide)) h41 (fun _ _ _ => ⟨rfl, rfl⟩) rfl
  have hz9 : _ = G.2.2 + 63 := hN.2.2.1
  obtain ⟨B, hBe⟩ : ∃ B : gB, B = (A, upc (upc (upc c00 42 1) 43 61) 41 1) := ⟨_, rfl⟩
  rw [← hBe] at hH
  have h41b : 0 < B.2 41 := by rw [hBe]; exact Nat.le_of_ble_eq_true rfl
  have h42b : 0 < B.2 42 := by rw [hBe]; exact Nat.le_of_ble_eq_true rfl
  have h43b : ∀ i, i < 61 → i < B.2 43 := by rw [hBe]; exact fun i h => h
  have hl : lv_has ls 3 [(0, .ref (B.1 41 0))] := by rw [hBe]; show lv_has ls 3 [(0, .ref (A 41 0))]; rw [h41]; exact hl
  have LOOP : ∀ (n i : Nat), n + i = 62 → 1 ≤ i → i ≤ 61 → ∀ (τ : gS) (H : Heap) (locs : List Loc), IW τ i 0 → H.size = G.2.2 + 63 → Hp G B τ H → va_S (mA G) s.heap H locs → ∀ (ls : Array Slot), lv_has ls 3 [(1, .int (nI i)), (0, .ref (B.1 41 0))] → W p l e ({ frames := 1, cells := 62, slots := 3782, locals := 20 } : Room) s m ([Value.ref G.2.2] : List Value).toArray below meth c H locs 62 3782 (MQ below (cQo G (fun u H => Hp G (A, upc (upc (upc c00 42 1) 43 61) 41 1) u H) (G.2.2 + 63) (fun u => IW u 61 0)) ([Value.ref G.2.2] : List Value).toArray s 62 3782 (mA G)) (F0 m 27 ls []) := by
    intro n
    induction n with
    | zero => intro i hn hi1 hi61; intros; omega
    | succ n ih =>
      intro i hn hi1 hi61 τ H locs hJ hz9 hH hS ls hl
      have INN : ∀ (q k : Nat), q + k = i + 2 → 1 ≤ k → k ≤ i + 1 → i ≤ 60 → ∀ (τ : gS) (H : Heap) (locs : List Loc), IW τ i k → H.size = G.2.2 + 63 → Hp G B τ H → va_S (mA G) s.heap H locs → ∀ (ls : Array Slot), lv_has ls 3 [(2, .int (nI k)), (1, .int (nI i)), (0, .ref (B.1 41 0))] → W p l e ({ frames := 1, cells := 62, slots := 3782, locals := 20 } : Room) s m ([Value.ref G.2.2] : List Value).toArray below meth c H locs 62 3782 (MQ below (cQo G (fun u H => Hp G (A, upc (upc (upc c00 42 1) 43 61) 41 1) u H) (G.2.2 + 63) (fun u => IW u 61 0)) ([Value.ref G.2.2] : List Value).toArray s 62 3782 (mA G)) (F0 m 44 ls []) := by
        intro q
        induction q with
        | zero => intro k hq hk1 hki; intros; omega
        | succ q ih2 =>
          intro k hq hk1 hki hi60 τ H locs hJ hz9 hH hS ls hl
          refine lv_iload_n hx hb dX5_init_44 rfl (lv_at hl 0 rfl) ?_
          refine lv_iload_n hx hb dX5_init_45 rfl (lv_at hl 1 rfl) ?_
          refine m_icmp_gtN (tgt := 86) (by omega) (by omega) hx hb dX5_init_46 (by decide) (fun c_46 => ?_) (fun c_46 => ?_)
          · refine lv_iinc (v := nI (i + 1)) (lv' := [(1, .int (nI (i + 1))), (2, .int (nI k)), (0, .ref (B.1 41 0))]) hx hb dX5_init_86 hl (k := 1) rfl (nI_1 _) (by decide) rfl (fun ls hl => ?_)
            refine lv_goto (tgt := 27) hx hb dX5_init_89 (by decide) ?_
            exact ih (i + 1) (by omega) (by omega) (by omega) τ H locs (IW_next (by rw [show k = i + 1 by omega] at hJ; exact hJ)) hz9 hH hS ls (lv_sub hl [0, 2] rfl)
          · refine lv_aload_n hx hb dX5_init_49 rfl (lv_at hl 2 rfl) ?_
            refine gf_X5_11 hx hb hown hK hH h41b dX5_init_50 ?_
            refine lv_iload_n hx hb dX5_init_53 rfl (lv_at hl 1 rfl) ?_
            refine m_aald hx hb hK hH (n := 61) 6 h42b (fun _ _ => rfl) rfl rfl (i) (rfl) (by omega) (by decide) (rfl) dX5_init_54 ?_
            refine lv_iload_n hx hb dX5_init_55 rfl (lv_at hl 0 rfl) ?_
            refine lv_aload_n hx hb dX5_init_56 rfl (lv_at hl 2 rfl) ?_
            refine gf_X5_11 hx hb hown hK hH h41b dX5_init_57 ?_
            refine lv_iload_n hx hb dX5_init_60 rfl (lv_at hl 1 rfl) ?_
            refine lv_iconst (v := nI 1) hx hb dX5_init_61 (by decide) ?_
            refine m_isubN (by omega) hx hb dX5_init_62 ?_
            refine m_aald hx hb hK hH (n := 61) 6 h42b (fun _ _ => rfl) rfl rfl (i - 1) (rfl) (by omega) (by decide) (rfl) dX5_init_63 ?_
            refine lv_iload_n hx hb dX5_init_64 rfl (lv_at hl 0 rfl) ?_
            refine lv_iconst (v := nI 1) hx hb dX5_init_65 (by decide) ?_
            refine m_isubN (by omega) hx hb dX5_init_66 ?_
            refine m_lald hx hb hK hH (n := 61) (h43b _ (by omega)) (fun _ _ => rfl) (k - 1) (rfl) (by omega) (by decide) dX5_init_67 ?_
            refine m_toj (lN (ch (i - 1) (k - 1))) (hJ.1 (i - 1) (k - 1) (by omega)) ?_
            refine lv_aload_n hx hb dX5_init_68 rfl (lv_at hl 2 rfl) ?_
            refine gf_X5_11 hx hb hown hK hH h41b dX5_init_69 ?_
            refine lv_iload_n hx hb dX5_init_72 rfl (lv_at hl 1 rfl) ?_
            refine lv_iconst (v := nI 1) hx hb dX5_init_73 (by decide) ?_
            refine m_isubN (by omega) hx hb dX5_init_74 ?_
            refine m_aald hx hb hK hH (n := 61) 6 h42b (fun _ _ => rfl) rfl rfl (i - 1) (rfl) (by omega) (by decide) (rfl) dX5_init_75 ?_
            refine lv_iload_n hx hb dX5_init_76 rfl (lv_at hl 0 rfl) ?_
            refine m_lald hx hb hK hH (n := 61) (h43b _ (by omega)) (fun _ _ => rfl) (k) (rfl) (by omega) (by decide) dX5_init_77 ?_
            refine m_toj (lN (ch (i - 1) k)) (hJ.1 (i - 1) k (by omega)) ?_
            refine m_laddN hx hb dX5_init_78 ?_
            refine n_last hx hb hK hH hS hz9 (n := 61) (h43b _ (by omega)) (fun _ _ => rfl) (k) (rfl) (by omega) (by decide) dX5_init_79 (fun H locs hH hS hz9 => ?_)
            refine lv_iinc (v := nI (k + 1)) (lv' := [(2, .int (nI (k + 1))), (1, .int (nI i)), (0, .ref (B.1 41 0))]) hx hb dX5_init_80 hl (k := 0) rfl (nI_1 _) (by decide) rfl (fun ls hl => ?_)
            refine lv_goto (tgt := 44) hx hb dX5_init_83 (by decide) ?_
            exact ih2 (k + 1) (by omega) (by omega) (by omega) hi60 _ H locs (IW_put hJ (by rw [ch_pas hi1 hk1])) hz9 hH hS ls (lv_sub hl [0, 1, 2] rfl)
      refine lv_iload_n hx hb dX5_init_27 rfl (lv_at hl 0 rfl) ?_
      refine lv_bipush (v := nI 60) hx hb dX5_init_28 (by decide) ?_
      refine m_icmp_gtN (tgt := 92) (by omega) (by omega) hx hb dX5_init_30 (by decide) (fun c_30 => ?_) (fun c_30 => ?_)
      · rw [hBe] at hH
        exact n_vret hx hb hr hlk hH hz9 hS dX5_init_92 (by rw [show i = 61 by omega] at hJ; exact hJ) (by decide) (by decide)
      · refine lv_aload_n hx hb dX5_init_33 rfl (lv_at hl 1 rfl) ?_
        refine gf_X5_11 hx hb hown hK hH h41b dX5_init_34 ?_
        refine lv_iload_n hx hb dX5_init_37 rfl (lv_at hl 0 rfl) ?_
        refine m_aald hx hb hK hH (n := 61) 6 h42b (fun _ _ => rfl) rfl rfl (i) (rfl) (by omega) (by decide) (rfl) dX5_init_38 ?_
        refine lv_iconst (v := nI 0) hx hb dX5_init_39 (by decide) ?_
        refine lv_lconst (v := lN 1) hx hb dX5_init_40 rfl ?_
        refine n_last hx hb hK hH hS hz9 (n := 61) (h43b _ (by omega)) (fun _ _ => rfl) (0) (rfl) (by omega) (by decide) dX5_init_41 (fun H locs hH hS hz9 => ?_)
        refine lv_iconst (v := nI 1) hx hb dX5_init_42 (by decide) ?_
        refine lv_istore_n (lv' := [(2, .int (nI 1)), (1, .int (nI i)), (0, .ref (B.1 41 0))]) hx hb dX5_init_43 rfl hl (by decide) rfl (fun ls hl => ?_)
        exact INN (i + 1) 1 (by omega) (by omega) (by omega) (by omega) _ H locs (IW_put hJ (by rw [ch_0])) hz9 hH hS ls (lv_sub hl [0, 1, 2] rfl)
  refine lv_aload_n hx hb dX5_init_16 rfl (lv_at hl 0 rfl) ?_
  refine gf_X5_11 hx hb hown hK hH h41b dX5_init_17 ?_
  refine lv_iconst (v := nI 0) hx hb dX5_init_20 (by decide) ?_
  refine m_aald hx hb hK hH (n := 61) 6 h42b (fun _ _ => rfl) rfl rfl (0) (rfl) (by omega) (by decide) (rfl) dX5_init_21 ?_
  refine lv_iconst (v := nI 0) hx hb dX5_init_22 (by decide) ?_
  refine lv_lconst (v := lN 1) hx hb dX5_init_23 rfl ?_
  refine n_last hx hb hK hH hS hz9 (n := 61) (h43b _ (by omega)) (fun _ _ => rfl) (0) (rfl) (by omega) (by decide) dX5_init_24 (fun H locs hH hS hz9 => ?_)
  refine lv_iconst (v := nI 1) hx hb dX5_init_25 (by decide) ?_
  refine lv_istore_n (lv' := [(1, .int (nI 1)), (0, .ref (B.1 41 0))]) hx hb dX5_init_26 rfl hl (by decide) rfl (fun ls hl => ?_)
  exact LOOP 61 1 (by omega) (by omega) (by omega) _ H locs (IW_next (IW_put IW_0 (by rw [ch_0]))) hz9 hH hS ls (lv_sub hl [0, 1] rfl)
def cM : Nat → Nat := upc (upc (upc (upc (upc (upc (upc (upc (upc (upc (upc (upc (upc (upc (upc (upc (upc (upc (upc (upc (upc (upc (upc (upc (upc (upc c00 3 1) 4 1) 5 1) 6 1) 9 1) 10 1) 11 1) 12 1) 13 1) 14 1) 15 1) 16 1) 17 1) 18 1) 19 1) 20 1) 21 1) 22 1) 23 1) 24 1) 25 1) 26 1) 27 1) 35 1) 36 1) 0 1
def aM (k : Nat) : Nat := match k with
  | 3 => 1
  | 4 => 2
  | 5 => 3
  | 6 => 4
  | 9 => 5
  | 10 => 6
  | 11 => 7
  | 12 => 8
  | 13 => 9
  | 14 => 10
  | 15 => 11
  | 16 => 12
  | 17 => 13
  | 18 => 14
  | 19 => 15
  | 20 => 16
  | 21 => 17
  | 22 => 18
  | 23 => 19
  | 24 => 20
  | 25 => 21
  | 26 => 22
  | 27 => 23
  | 35 => 24
  | 36 => 25
  | _ => 0
set_option maxHeartbeats 4000000 in
set_option maxRecDepth 100000 in
theorem c_X7_init (l : Launch) (G : gG) (A : Nat → Nat → Nat) (hA : ∀ k, k ∈ [0, 3, 4, 5, 6, 9, 10, 11, 12, 13, 14, 15, 16, 17, 18, 19, 20, 21, 22, 23, 24, 25, 26, 27, 35, 36] → A k 0 = G.2.2 + aM k) : Met l yX7_init [.code yX7_init cX7_init 3 none] ({ frames := 1, cells := 25, slots := 9017, locals := 20 } : Room) (cPc G 7 [.int 0, .int 0, .int 0, .null, .null, .null, .null, .long 0, .long 0, .null, .null, .null, .null, .null, .null, .null, .null, .null, .null, .null, .null, .null, .null, .null, .null, .null, .null, .null, .long 0, .long 0, .long 0, .int 0, .int 0, .int 0, .int 0, .null, .null] []) (cQo G (fun u H => Hp G (A, cM) u H) (G.2.2 + 26) (fun u => IM u 61 0)) 25 9017 (mA G) := by
  refine c_start (by decide) rfl (Nat.le_of_ble_eq_true rfl) ?_
  intro p e s m below meth c ⟨hx, hb, hr, hml, hown, hK, hlk, hz⟩ hAO hin hz9 hat hS ls hl
  have hl : lv_has ls 3 [(0, .ref G.2.2)] := hl
  have hN : NO G A c00 z00 G.2.2 7 [.int 0, .int 0, .int 0, .null, .null, .null, .null, .long 0, .long 0, .null, .null, .null, .null, .null, .null, .null, .null, .null, .null, .null, .null, .null, .null, .null, .null, .null, .null, .null, .long 0, .long 0, .long 0, .int 0, .int 0, .int 0, .int 0, .null, .null] (G.2.2 + 1) s.heap := NO.st hz9 hat
  have a3 : A 3 0 = G.2.2 + 1 := hA 3 (by decide)
  have a4 : A 4 0 = G.2.2 + 2 := hA 4 (by decide)
  have a5 : A 5 0 = G.2.2 + 3 := hA 5 (by decide)
  have a6 : A 6 0 = G.2.2 + 4 := hA 6 (by decide)
  have a9 : A 9 0 = G.2.2 + 5 := hA 9 (by decide)
  have a10 : A 10 0 = G.2.2 + 6 := hA 10 (by decide)
  have a11 : A 11 0 = G.2.2 + 7 := hA 11 (by decide)
  have a12 : A 12 0 = G.2.2 + 8 := hA 12 (by decide)
  have a13 : A 13 0 = G.2.2 + 9 := hA 13 (by decide)
  have a14 : A 14 0 = G.2.2 + 10 := hA 14 (by decide)
  have a15 : A 15 0 = G.2.2 + 11 := hA 15 (by decide)
  have a16 : A 16 0 = G.2.2 + 12 := hA 16 (by decide)
  have a17 : A 17 0 = G.2.2 + 13 := hA 17 (by decide)
  have a18 : A 18 0 = G.2.2 + 14 := hA 18 (by decide)
  have a19 : A 19 0 = G.2.2 + 15 := hA 19 (by decide)
  have a20 : A 20 0 = G.2.2 + 16 := hA 20 (by decide)
  have a21 : A 21 0 = G.2.2 + 17 := hA 21 (by decide)
  have a22 : A 22 0 = G.2.2 + 18 := hA 22 (by decide)
  have a23 : A 23 0 = G.2.2 + 19 := hA 23 (by decide)
  have a24 : A 24 0 = G.2.2 + 20 := hA 24 (by decide)
  have a25 : A 25 0 = G.2.2 + 21 := hA 25 (by decide)
  have a26 : A 26 0 = G.2.2 + 22 := hA 26 (by decide)
  have a27 : A 27 0 = G.2.2 + 23 := hA 27 (by decide)
  have a35 : A 35 0 = G.2.2 + 24 := hA 35 (by decide)
  have a36 : A 36 0 = G.2.2 + 25 := hA 36 (by decide)
  have a0 : A 0 0 = G.2.2 := hA 0 (by decide)
  refine lv_aload_n hx hb dX7_init_0 rfl (lv_at hl 0 rfl) ?_
  refine n_obj hx hb hown hml hl.1 hK wl_X7_1 ⟨by decide, by decide⟩ (Nat.le_of_ble_eq_true rfl) dX7_init_1 ?_
  refine lv_aload_n hx hb dX7_init_4 rfl (lv_at hl 0 rfl) ?_
  refine lv_bipush (v := nI 24) hx hb dX7_init_5 (by decide) ?_
  refine n_newi hx hb hK hN hS 3 (fun _ _ => rfl) rfl (by decide) (by omega) rfl (by decide) (by decide) (by decide) dX7_init_7 (fun H hN hS => ?_)
  refine n_putF (ty := .array (.int)) hx hb hown hK hN hS rfl 3 (by decide) wf_X7_7 rfl hin rfl (by decide +kernel) rfl rfl (Nat.le_of_ble_eq_true rfl) dX7_init_9 (fun H locs hN hS => ?_)
  have hN : NO G A (upc c00 3 1) z00 G.2.2 7 [.int 0, .int 0, .int 0, .ref (A 3 0), .null, .null, .null, .long 0, .long 0, .null, .null, .null, .null, .null, .null, .null, .null, .null, .null, .null, .null, .null, .null, .null, .null, .null, .null, .null, .long 0, .long 0, .long 0, .int 0, .int 0, .int 0, .int 0, .null, .null] (G.2.2 + 1 + 1) H := hN
  refine lv_aload_n hx hb dX7_init_12 rfl (lv_at hl 0 rfl) ?_
  refine lv_bipush (v := nI 96) hx hb dX7_init_13 (by decide) ?_
  refine n_newi hx hb hK hN hS 4 (fun _ _ => rfl) rfl (by decide) (by omega) rfl (by decide) (by decide) (by decide) dX7_init_15 (fun H hN hS => ?_)
  refine n_putF (ty := .array (.int)) hx hb hown hK hN hS rfl 4 (by decide) wf_X7_13 rfl hin rfl (by decide +kernel) rfl rfl (Nat.le_of_ble_eq_true rfl) dX7_init_17 (fun H locs hN hS => ?_)
  have hN : NO G A (upc (upc c00 3 1) 4 1) z00 G.2.2 7 [.int 0, .int 0, .int 0, .ref (A 3 0), .ref (A 4 0), .null, .null, .long 0, .long 0, .null, .null, .null, .null, .null, .null, .null, .null, .null, .null, .null, .null, .null, .null, .null, .null, .null, .null, .null, .long 0, .long 0, .long 0, .int 0, .int 0, .int 0, .int 0, .null, .null] (G.2.2 + 1 + 1 + 1) H := hN
  refine lv_aload_n hx hb dX7_init_20 rfl (lv_at hl 0 rfl) ?_
  refine lv_bipush (v := nI 96) hx hb dX7_init_21 (by decide) ?_
  refine n_newi hx hb hK hN hS 5 (fun _ _ => rfl) rfl (by decide) (by omega) rfl (by decide) (by decide) (by decide) dX7_init_23 (fun H hN hS => ?_)
  refine n_putF (ty := .array (.int)) hx hb hown hK hN hS rfl 5 (by decide) wf_X7_16 rfl hin rfl (by decide +kernel) rfl rfl (Nat.le_of_ble_eq_true rfl) dX7_init_25 (fun H locs hN hS => ?_)
  have hN : NO G A (upc (upc (upc c00 3 1) 4 1) 5 1) z00 G.2.2 7 [.int 0, .int 0, .int 0, .ref (A 3 0), .ref (A 4 0), .ref (A 5 0), .null, .long 0, .long 0, .null, .null, .null, .null, .null, .null, .null, .null, .null, .null, .null, .null, .null, .null, .null, .null, .null, .null, .null, .long 0, .long 0, .long 0, .int 0, .int 0, .int 0, .int 0, .null, .null] (G.2.2 + 1 + 1 + 1 + 1) H := hN
  refine lv_aload_n hx hb dX7_init_28 rfl (lv_at hl 0 rfl) ?_
  refine lv_bipush (v := nI 96) hx hb dX7_init_29 (by decide) ?_
  refine n_newi hx hb hK hN hS 6 (fun _ _ => rfl) rfl (by decide) (by omega) rfl (by decide) (by decide) (by decide) dX7_init_31 (fun H hN hS => ?_)
  refine n_putF (ty := .array (.int)) hx hb hown hK hN hS rfl 6 (by decide) wf_X7_19 rfl hin rfl (by decide +kernel) rfl rfl (Nat.le_of_ble_eq_true rfl) dX7_init_33 (fun H locs hN hS => ?_)
  have hN : NO G A (upc (upc (upc (upc c00 3 1) 4 1) 5 1) 6 1) z00 G.2.2 7 [.int 0, .int 0, .int 0, .ref (A 3 0), .ref (A 4 0), .ref (A 5 0), .ref (A 6 0), .long 0, .long 0, .null, .null, .null, .null, .null, .null, .null, .null, .null, .null, .null, .null, .null, .null, .null, .null, .null, .null, .null, .long 0, .long 0, .long 0, .int 0, .int 0, .int 0, .int 0, .null, .null] (G.2.2 + 1 + 1 + 1 + 1 + 1) H := hN
  refine lv_aload_n hx hb dX7_init_36 rfl (lv_at hl 0 rfl) ?_
  refine lv_lconst (v := lN 1) hx hb dX7_init_37 rfl ?_
  refine n_put (ty := .long) hx hb hown hK hN hS rfl 8 (by decide) wf_X7_22 rfl (by decide +kernel) rfl rfl (Nat.le_of_ble_eq_true rfl) dX7_init_38 (fun H locs hN hS => ?_)
  have hN : NO G A (upc (upc (upc (upc c00 3 1) 4 1) 5 1) 6 1) z00 G.2.2 7 [.int 0, .int 0, .int 0, .ref (A 3 0), .ref (A 4 0), .ref (A 5 0), .ref (A 6 0), .long 0, .long (lN 1), .null, .null, .null, .null, .null, .null, .null, .null, .null, .null, .null, .null, .null, .null, .null, .null, .null, .null, .null, .long 0, .long 0, .long 0, .int 0, .int 0, .int 0, .int 0, .null, .null] (G.2.2 + 1 + 1 + 1 + 1 + 1) H := hN
  refine lv_aload_n hx hb dX7_init_41 rfl (lv_at hl 0 rfl) ?_
  refine lv_sipush (v := nI 3721) hx hb dX7_init_42 (by decide) ?_
  refine n_newl hx hb hK hN hS 9 (fun _ _ => rfl) rfl (by decide) (by omega) rfl (by decide) (by decide) (by decide) dX7_init_45 (fun H hN hS => ?_)
  refine n_putF (ty := .array (.long)) hx hb hown hK hN hS rfl 9 (by decide) wf_X7_26 rfl hin rfl (by decide +kernel) rfl rfl (Nat.le_of_ble_eq_true rfl) dX7_init_47 (fun H locs hN hS => ?_)
  have hN : NO G A (upc (upc (upc (upc (upc c00 3 1) 4 1) 5 1) 6 1) 9 1) z00 G.2.2 7 [.int 0, .int 0, .int 0, .ref (A 3 0), .ref (A 4 0), .ref (A 5 0), .ref (A 6 0), .long 0, .long (lN 1), .ref (A 9 0), .null, .null, .null, .null, .null, .null, .null, .null, .null, .null, .null, .null, .null, .null, .null, .null, .null, .null, .long 0, .long 0, .long 0, .int 0, .int 0, .int 0, .int 0, .null, .null] (G.2.2 + 1 + 1 + 1 + 1 + 1 + 1) H := hN
  refine lv_aload_n hx hb dX7_init_50 rfl (lv_at hl 0 rfl) ?_
  refine lv_iconst (v := nI 2) hx hb dX7_init_51 (by decide) ?_
  refine n_newi hx hb hK hN hS 10 (fun _ _ => rfl) rfl (by decide) (by omega) rfl (by decide) (by decide) (by decide) dX7_init_52 (fun H hN hS => ?_)
  refine n_putF (ty := .array (.int)) hx hb hown hK hN hS rfl 10 (by decide) wf_X7_30 rfl hin rfl (by decide +kernel) rfl rfl (Nat.le_of_ble_eq_true rfl) dX7_init_54 (fun H locs hN hS => ?_)
  have hN : NO G A (upc (upc (upc (upc (upc (upc c00 3 1) 4 1) 5 1) 6 1) 9 1) 10 1) z00 G.2.2 7 [.int 0, .int 0, .int 0, .ref (A 3 0), .ref (A 4 0), .ref (A 5 0), .ref (A 6 0), .long 0, .long (lN 1), .ref (A 9 0), .ref (A 10 0), .null, .null, .null, .null, .null, .null, .null, .null, .null, .null, .null, .null, .null, .null, .null, .null, .null, .long 0, .long 0, .long 0, .int 0, .int 0, .int 0, .int 0, .null, .null] (G.2.2 + 1 + 1 + 1 + 1 + 1 + 1 + 1) H := hN
  refine lv_aload_n hx hb dX7_init_57 rfl (lv_at hl 0 rfl) ?_
  refine lv_iconst (v := nI 2) hx hb dX7_init_58 (by decide) ?_
  refine n_newi hx hb hK hN hS 11 (fun _ _ => rfl) rfl (by decide) (by omega) rfl (by decide) (by decide) (by decide) dX7_init_59 (fun H hN hS => ?_)
  refine n_putF (ty := .array (.int)) hx hb hown hK hN hS rfl 11 (by decide) wf_X7_33 rfl hin rfl (by decide +kernel) rfl rfl (Nat.le_of_ble_eq_true rfl) dX7_init_61 (fun H locs hN hS => ?_)
  have hN : NO G A (upc (upc (upc (upc (upc (upc (upc c00 3 1) 4 1) 5 1) 6 1) 9 1) 10 1) 11 1) z00 G.2.2 7 [.int 0, .int 0, .int 0, .ref (A 3 0), .ref (A 4 0), .ref (A 5 0), .ref (A 6 0), .long 0, .long (lN 1), .ref (A 9 0), .ref (A 10 0), .ref (A 11 0), .null, .null, .null, .null, .null, .null, .null, .null, .null, .null, .null, .null, .null, .null, .null, .null, .long 0, .long 0, .long 0, .int 0, .int 0, .int 0, .int 0, .null, .null] (G.2.2 + 1 + 1 + 1 + 1 + 1 + 1 + 1 + 1) H := hN
  refine lv_aload_n hx hb dX7_init_64 rfl (lv_at hl 0 rfl) ?_
  refine lv_iconst (v := nI 2) hx hb dX7_init_65 (by decide) ?_
  refine n_newi hx hb hK hN hS 12 (fun _ _ => rfl) rfl (by decide) (by omega) rfl (by decide) (by decide) (by decide) dX7_init_66 (fun H hN hS => ?_)
  refine n_putF (ty := .array (.int)) hx hb hown hK hN hS rfl 12 (by decide) wf_X7_36 rfl hin rfl (by decide +kernel) rfl rfl (Nat.le_of_ble_eq_true rfl) dX7_init_68 (fun H locs hN hS => ?_)
  have hN : NO G A (upc (upc (upc (upc (upc (upc (upc (upc c00 3 1) 4 1) 5 1) 6 1) 9 1) 10 1) 11 1) 12 1) z00 G.2.2 7 [.int 0, .int 0, .int 0, .ref (A 3 0), .ref (A 4 0), .ref (A 5 0), .ref (A 6 0), .long 0, .long (lN 1), .ref (A 9 0), .ref (A 10 0), .ref (A 11 0), .ref (A 12 0), .null, .null, .null, .null, .null, .null, .null, .null, .null, .null, .null, .null, .null, .null, .null, .long 0, .long 0, .long 0, .int 0, .int 0, .int 0, .int 0, .null, .null] (G.2.2 + 1 + 1 + 1 + 1 + 1 + 1 + 1 + 1 + 1) H := hN
  refine lv_aload_n hx hb dX7_init_71 rfl (lv_at hl 0 rfl) ?_
  refine lv_iconst (v := nI 2) hx hb dX7_init_72 (by decide) ?_
  refine n_newz hx hb hK hN hS 13 (fun _ _ => rfl) rfl (by decide) (by omega) rfl (by decide) (by decide) (by decide) dX7_init_73 (fun H hN hS => ?_)
  refine n_putF (ty := .array (.boolean)) hx hb hown hK hN hS rfl 13 (by decide) wf_X7_39 rfl hin rfl (by decide +kernel) rfl rfl (Nat.le_of_ble_eq_true rfl) dX7_init_75 (fun H locs hN hS => ?_)
  have hN : NO G A (upc (upc (upc (upc (upc (upc (upc (upc (upc c00 3 1) 4 1) 5 1) 6 1) 9 1) 10 1) 11 1) 12 1) 13 1) z00 G.2.2 7 [.int 0, .int 0, .int 0, .ref (A 3 0), .ref (A 4 0), .ref (A 5 0), .ref (A 6 0), .long 0, .long (lN 1), .ref (A 9 0), .ref (A 10 0), .ref (A 11 0), .ref (A 12 0), .ref (A 13 0), .null, .null, .null, .null, .null, .null, .null, .null, .null, .null, .null, .null, .null, .null, .long 0, .long 0, .long 0, .int 0, .int 0, .int 0, .int 0, .null, .null] (G.2.2 + 1 + 1 + 1 + 1 + 1 + 1 + 1 + 1 + 1 + 1) H := hN
  refine lv_aload_n hx hb dX7_init_78 rfl (lv_at hl 0 rfl) ?_
  refine lv_bipush (v := nI 24) hx hb dX7_init_79 (by decide) ?_
  refine n_newi hx hb hK hN hS 14 (fun _ _ => rfl) rfl (by decide) (by omega) rfl (by decide) (by decide) (by decide) dX7_init_81 (fun H hN hS => ?_)
  refine n_putF (ty := .array (.int)) hx hb hown hK hN hS rfl 14 (by decide) wf_X7_43 rfl hin rfl (by decide +kernel) rfl rfl (Nat.le_of_ble_eq_true rfl) dX7_init_83 (fun H locs hN hS => ?_)
  have hN : NO G A (upc (upc (upc (upc (upc (upc (upc (upc (upc (upc c00 3 1) 4 1) 5 1) 6 1) 9 1) 10 1) 11 1) 12 1) 13 1) 14 1) z00 G.2.2 7 [.int 0, .int 0, .int 0, .ref (A 3 0), .ref (A 4 0), .ref (A 5 0), .ref (A 6 0), .long 0, .long (lN 1), .ref (A 9 0), .ref (A 10 0), .ref (A 11 0), .ref (A 12 0), .ref (A 13 0), .ref (A 14 0), .null, .null, .null, .null, .null, .null, .null, .null, .null, .null, .null, .null, .null, .long 0, .long 0, .long 0, .int 0, .int 0, .int 0, .int 0, .null, .null] (G.2.2 + 1 + 1 + 1 + 1 + 1 + 1 + 1 + 1 + 1 + 1 + 1) H := hN
  refine lv_aload_n hx hb dX7_init_86 rfl (lv_at hl 0 rfl) ?_
  refine lv_bipush (v := nI 8) hx hb dX7_init_87 (by decide) ?_
  refine n_newi hx hb hK hN hS 15 (fun _ _ => rfl) rfl (by decide) (by omega) rfl (by decide) (by decide) (by decide) dX7_init_89 (fun H hN hS => ?_)
  refine n_putF (ty := .array (.int)) hx hb hown hK hN hS rfl 15 (by decide) wf_X7_46 rfl hin rfl (by decide +kernel) rfl rfl (Nat.le_of_ble_eq_true rfl) dX7_init_91 (fun H locs hN hS => ?_)
  have hN : NO G A (upc (upc (upc (upc (upc (upc (upc (upc (upc (upc (upc c00 3 1) 4 1) 5 1) 6 1) 9 1) 10 1) 11 1) 12 1) 13 1) 14 1) 15 1) z00 G.2.2 7 [.int 0, .int 0, .int 0, .ref (A 3 0), .ref (A 4 0), .ref (A 5 0), .ref (A 6 0), .long 0, .long (lN 1), .ref (A 9 0), .ref (A 10 0), .ref (A 11 0), .ref (A 12 0), .ref (A 13 0), .ref (A 14 0), .ref (A 15 0), .null, .null, .null, .null, .null, .null, .null, .null, .null, .null, .null, .null, .long 0, .long 0, .long 0, .int 0, .int 0, .int 0, .int 0, .null, .null] (G.2.2 + 1 + 1 + 1 + 1 + 1 + 1 + 1 + 1 + 1 + 1 + 1 + 1) H := hN
  refine lv_aload_n hx hb dX7_init_94 rfl (lv_at hl 0 rfl) ?_
  refine lv_bipush (v := nI 8) hx hb dX7_init_95 (by decide) ?_
  refine n_newi hx hb hK hN hS 16 (fun _ _ => rfl) rfl (by decide) (by omega) rfl (by decide) (by decide) (by decide) dX7_init_97 (fun H hN hS => ?_)
  refine n_putF (ty := .array (.int)) hx hb hown hK hN hS rfl 16 (by decide) wf_X7_49 rfl hin rfl (by decide +kernel) rfl rfl (Nat.le_of_ble_eq_true rfl) dX7_init_99 (fun H locs hN hS => ?_)
  have hN : NO G A (upc (upc (upc (upc (upc (upc (upc (upc (upc (upc (upc (upc c00 3 1) 4 1) 5 1) 6 1) 9 1) 10 1) 11 1) 12 1) 13 1) 14 1) 15 1) 16 1) z00 G.2.2 7 [.int 0, .int 0, .int 0, .ref (A 3 0), .ref (A 4 0), .ref (A 5 0), .ref (A 6 0), .long 0, .long (lN 1), .ref (A 9 0), .ref (A 10 0), .ref (A 11 0), .ref (A 12 0), .ref (A 13 0), .ref (A 14 0), .ref (A 15 0), .ref (A 16 0), .null, .null, .null, .null, .null, .null, .null, .null, .null, .null, .null, .long 0, .long 0, .long 0, .int 0, .int 0, .int 0, .int 0, .null, .null] (G.2.2 + 1 + 1 + 1 + 1 + 1 + 1 + 1 + 1 + 1 + 1 + 1 + 1 + 1) H := hN
  refine lv_aload_n hx hb dX7_init_102 rfl (lv_at hl 0 rfl) ?_
  refine lv_bipush (v := nI 8) hx hb dX7_init_103 (by decide) ?_
  refine n_newi hx hb hK hN hS 17 (fun _ _ => rfl) rfl (by decide) (by omega) rfl (by decide) (by decide) (by decide) dX7_init_105 (fun H hN hS => ?_)
  refine n_putF (ty := .array (.int)) hx hb hown hK hN hS rfl 17 (by decide) wf_X7_52 rfl hin rfl (by decide +kernel) rfl rfl (Nat.le_of_ble_eq_true rfl) dX7_init_107 (fun H locs hN hS => ?_)
  have hN : NO G A (upc (upc (upc (upc (upc (upc (upc (upc (upc (upc (upc (upc (upc c00 3 1) 4 1) 5 1) 6 1) 9 1) 10 1) 11 1) 12 1) 13 1) 14 1) 15 1) 16 1) 17 1) z00 G.2.2 7 [.int 0, .int 0, .int 0, .ref (A 3 0), .ref (A 4 0), .ref (A 5 0), .ref (A 6 0), .long 0, .long (lN 1), .ref (A 9 0), .ref (A 10 0), .ref (A 11 0), .ref (A 12 0), .ref (A 13 0), .ref (A 14 0), .ref (A 15 0), .ref (A 16 0), .ref (A 17 0), .null, .null, .null, .null, .null, .null, .null, .null, .null, .null, .long 0, .long 0, .long 0, .int 0, .int 0, .int 0, .int 0, .null, .null] (G.2.2 + 1 + 1 + 1 + 1 + 1 + 1 + 1 + 1 + 1 + 1 + 1 + 1 + 1 + 1) H := hN
  refine lv_aload_n hx hb dX7_init_110 rfl (lv_at hl 0 rfl) ?_
  refine lv_sipush (v := nI 480) hx hb dX7_init_111 (by decide) ?_
  refine n_newi hx hb hK hN hS 18 (fun _ _ => rfl) rfl (by decide) (by omega) rfl (by decide) (by decide) (by decide) dX7_init_114 (fun H hN hS => ?_)
  refine n_putF (ty := .array (.int)) hx hb hown hK hN hS rfl 18 (by decide) wf_X7_55 rfl hin rfl (by decide +kernel) rfl rfl (Nat.le_of_ble_eq_true rfl) dX7_init_116 (fun H locs hN hS => ?_)
  have hN : NO G A (upc (upc (upc (upc (upc (upc (upc (upc (upc (upc (upc (upc (upc (upc c00 3 1) 4 1) 5 1) 6 1) 9 1) 10 1) 11 1) 12 1) 13 1) 14 1) 15 1) 16 1) 17 1) 18 1) z00 G.2.2 7 [.int 0, .int 0, .int 0, .ref (A 3 0), .ref (A 4 0), .ref (A 5 0), .ref (A 6 0), .long 0, .long (lN 1), .ref (A 9 0), .ref (A 10 0), .ref (A 11 0), .ref (A 12 0), .ref (A 13 0), .ref (A 14 0), .ref (A 15 0), .ref (A 16 0), .ref (A 17 0), .ref (A 18 0), .null, .null, .null, .null, .null, .null, .null, .null, .null, .long 0, .long 0, .long 0, .int 0, .int 0, .int 0, .int 0, .null, .null] (G.2.2 + 1 + 1 + 1 + 1 + 1 + 1 + 1 + 1 + 1 + 1 + 1 + 1 + 1 + 1 + 1) H := hN
  refine lv_aload_n hx hb dX7_init_119 rfl (lv_at hl 0 rfl) ?_
  refine lv_bipush (v := nI 60) hx hb dX7_init_120 (by decide) ?_
  refine n_newi hx hb hK hN hS 19 (fun _ _ => rfl) rfl (by decide) (by omega) rfl (by decide) (by decide) (by decide) dX7_init_122 (fun H hN hS => ?_)
  refine n_putF (ty := .array (.int)) hx hb hown hK hN hS rfl 19 (by decide) wf_X7_58 rfl hin rfl (by decide +kernel) rfl rfl (Nat.le_of_ble_eq_true rfl) dX7_init_124 (fun H locs hN hS => ?_)
  have hN : NO G A (upc (upc (upc (upc (upc (upc (upc (upc (upc (upc (upc (upc (upc (upc (upc c00 3 1) 4 1) 5 1) 6 1) 9 1) 10 1) 11 1) 12 1) 13 1) 14 1) 15 1) 16 1) 17 1) 18 1) 19 1) z00 G.2.2 7 [.int 0, .int 0, .int 0, .ref (A 3 0), .ref (A 4 0), .ref (A 5 0), .ref (A 6 0), .long 0, .long (lN 1), .ref (A 9 0), .ref (A 10 0), .ref (A 11 0), .ref (A 12 0), .ref (A 13 0), .ref (A 14 0), .ref (A 15 0), .ref (A 16 0), .ref (A 17 0), .ref (A 18 0), .ref (A 19 0), .null, .null, .null, .null, .null, .null, .null, .null, .long 0, .long 0, .long 0, .int 0, .int 0, .int 0, .int 0, .null, .null] (G.2.2 + 1 + 1 + 1 + 1 + 1 + 1 + 1 + 1 + 1 + 1 + 1 + 1 + 1 + 1 + 1 + 1) H := hN
  refine lv_aload_n hx hb dX7_init_127 rfl (lv_at hl 0 rfl) ?_
  refine lv_bipush (v := nI 60) hx hb dX7_init_128 (by decide) ?_
  refine n_newi hx hb hK hN hS 20 (fun _ _ => rfl) rfl (by decide) (by omega) rfl (by decide) (by decide) (by decide) dX7_init_130 (fun H hN hS => ?_)
  refine n_putF (ty := .array (.int)) hx hb hown hK hN hS rfl 20 (by decide) wf_X7_61 rfl hin rfl (by decide +kernel) rfl rfl (Nat.le_of_ble_eq_true rfl) dX7_init_132 (fun H locs hN hS => ?_)
  have hN : NO G A (upc (upc (upc (upc (upc (upc (upc (upc (upc (upc (upc (upc (upc (upc (upc (upc c00 3 1) 4 1) 5 1) 6 1) 9 1) 10 1) 11 1) 12 1) 13 1) 14 1) 15 1) 16 1) 17 1) 18 1) 19 1) 20 1) z00 G.2.2 7 [.int 0, .int 0, .int 0, .ref (A 3 0), .ref (A 4 0), .ref (A 5 0), .ref (A 6 0), .long 0, .long (lN 1), .ref (A 9 0), .ref (A 10 0), .ref (A 11 0), .ref (A 12 0), .ref (A 13 0), .ref (A 14 0), .ref (A 15 0), .ref (A 16 0), .ref (A 17 0), .ref (A 18 0), .ref (A 19 0), .ref (A 20 0), .null, .null, .null, .null, .null, .null, .null, .long 0, .long 0, .long 0, .int 0, .int 0, .int 0, .int 0, .null, .null] (G.2.2 + 1 + 1 + 1 + 1 + 1 + 1 + 1 + 1 + 1 + 1 + 1 + 1 + 1 + 1 + 1 + 1 + 1) H := hN
  refine lv_aload_n hx hb dX7_init_135 rfl (lv_at hl 0 rfl) ?_
  refine lv_bipush (v := nI 60) hx hb dX7_init_136 (by decide) ?_
  refine n_newi hx hb hK hN hS 21 (fun _ _ => rfl) rfl (by decide) (by omega) rfl (by decide) (by decide) (by decide) dX7_init_138 (fun H hN hS => ?_)
  refine n_putF (ty := .array (.int)) hx hb hown hK hN hS rfl 21 (by decide) wf_X7_64 rfl hin rfl (by decide +kernel) rfl rfl (Nat.le_of_ble_eq_true rfl) dX7_init_140 (fun H locs hN hS => ?_)
  have hN : NO G A (upc (upc (upc (upc (upc (upc (upc (upc (upc (upc (upc (upc (upc (upc (upc (upc (upc c00 3 1) 4 1) 5 1) 6 1) 9 1) 10 1) 11 1) 12 1) 13 1) 14 1) 15 1) 16 1) 17 1) 18 1) 19 1) 20 1) 21 1) z00 G.2.2 7 [.int 0, .int 0, .int 0, .ref (A 3 0), .ref (A 4 0), .ref (A 5 0), .ref (A 6 0), .long 0, .long (lN 1), .ref (A 9 0), .ref (A 10 0), .ref (A 11 0), .ref (A 12 0), .ref (A 13 0), .ref (A 14 0), .ref (A 15 0), .ref (A 16 0), .ref (A 17 0), .ref (A 18 0), .ref (A 19 0), .ref (A 20 0), .ref (A 21 0), .null, .null, .null, .null, .null, .null, .long 0, .long 0, .long 0, .int 0, .int 0, .int 0, .int 0, .null, .null] (G.2.2 + 1 + 1 + 1 + 1 + 1 + 1 + 1 + 1 + 1 + 1 + 1 + 1 + 1 + 1 + 1 + 1 + 1 + 1) H := hN
  refine lv_aload_n hx hb dX7_init_143 rfl (lv_at hl 0 rfl) ?_
  refine lv_bipush (v := nI 60) hx hb dX7_init_144 (by decide) ?_
  refine n_newi hx hb hK hN hS 22 (fun _ _ => rfl) rfl (by decide) (by omega) rfl (by decide) (by decide) (by decide) dX7_init_146 (fun H hN hS => ?_)
  refine n_putF (ty := .array (.int)) hx hb hown hK hN hS rfl 22 (by decide) wf_X7_67 rfl hin rfl (by decide +kernel) rfl rfl (Nat.le_of_ble_eq_true rfl) dX7_init_148 (fun H locs hN hS => ?_)
  have hN : NO G A (upc (upc (upc (upc (upc (upc (upc (upc (upc (upc (upc (upc (upc (upc (upc (upc (upc (upc c00 3 1) 4 1) 5 1) 6 1) 9 1) 10 1) 11 1) 12 1) 13 1) 14 1) 15 1) 16 1) 17 1) 18 1) 19 1) 20 1) 21 1) 22 1) z00 G.2.2 7 [.int 0, .int 0, .int 0, .ref (A 3 0), .ref (A 4 0), .ref (A 5 0), .ref (A 6 0), .long 0, .long (lN 1), .ref (A 9 0), .ref (A 10 0), .ref (A 11 0), .ref (A 12 0), .ref (A 13 0), .ref (A 14 0), .ref (A 15 0), .ref (A 16 0), .ref (A 17 0), .ref (A 18 0), .ref (A 19 0), .ref (A 20 0), .ref (A 21 0), .ref (A 22 0), .null, .null, .null, .null, .null, .long 0, .long 0, .long 0, .int 0, .int 0, .int 0, .int 0, .null, .null] (G.2.2 + 1 + 1 + 1 + 1 + 1 + 1 + 1 + 1 + 1 + 1 + 1 + 1 + 1 + 1 + 1 + 1 + 1 + 1 + 1) H := hN
  refine lv_aload_n hx hb dX7_init_151 rfl (lv_at hl 0 rfl) ?_
  refine lv_bipush (v := nI 60) hx hb dX7_init_152 (by decide) ?_
  refine n_newi hx hb hK hN hS 23 (fun _ _ => rfl) rfl (by decide) (by omega) rfl (by decide) (by decide) (by decide) dX7_init_154 (fun H hN hS => ?_)
  refine n_putF (ty := .array (.int)) hx hb hown hK hN hS rfl 23 (by decide) wf_X7_70 rfl hin rfl (by decide +kernel) rfl rfl (Nat.le_of_ble_eq_true rfl) dX7_init_156 (fun H locs hN hS => ?_)
  have hN : NO G A (upc (upc (upc (upc (upc (upc (upc (upc (upc (upc (upc (upc (upc (upc (upc (upc (upc (upc (upc c00 3 1) 4 1) 5 1) 6 1) 9 1) 10 1) 11 1) 12 1) 13 1) 14 1) 15 1) 16 1) 17 1) 18 1) 19 1) 20 1) 21 1) 22 1) 23 1) z00 G.2.2 7 [.int 0, .int 0, .int 0, .ref (A 3 0), .ref (A 4 0), .ref (A 5 0), .ref (A 6 0), .long 0, .long (lN 1), .ref (A 9 0), .ref (A 10 0), .ref (A 11 0), .ref (A 12 0), .ref (A 13 0), .ref (A 14 0), .ref (A 15 0), .ref (A 16 0), .ref (A 17 0), .ref (A 18 0), .ref (A 19 0), .ref (A 20 0), .ref (A 21 0), .ref (A 22 0), .ref (A 23 0), .null, .null, .null, .null, .long 0, .long 0, .long 0, .int 0, .int 0, .int 0, .int 0, .null, .null] (G.2.2 + 1 + 1 + 1 + 1 + 1 + 1 + 1 + 1 + 1 + 1 + 1 + 1 + 1 + 1 + 1 + 1 + 1 + 1 + 1 + 1) H := hN
  refine lv_aload_n hx hb dX7_init_159 rfl (lv_at hl 0 rfl) ?_
  refine lv_sipush (v := nI 3600) hx hb dX7_init_160 (by decide) ?_
  refine n_newi hx hb hK hN hS 24 (fun _ _ => rfl) rfl (by decide) (by omega) rfl (by decide) (by decide) (by decide) dX7_init_163 (fun H hN hS => ?_)
  refine n_putF (ty := .array (.int)) hx hb hown hK hN hS rfl 24 (by decide) wf_X7_73 rfl hin rfl (by decide +kernel) rfl rfl (Nat.le_of_ble_eq_true rfl) dX7_init_165 (fun H locs hN hS => ?_)
  have hN : NO G A (upc (upc (upc (upc (upc (upc (upc (upc (upc (upc (upc (upc (upc (upc (upc (upc (upc (upc (upc (upc c00 3 1) 4 1) 5 1) 6 1) 9 1) 10 1) 11 1) 12 1) 13 1) 14 1) 15 1) 16 1) 17 1) 18 1) 19 1) 20 1) 21 1) 22 1) 23 1) 24 1) z00 G.2.2 7 [.int 0, .int 0, .int 0, .ref (A 3 0), .ref (A 4 0), .ref (A 5 0), .ref (A 6 0), .long 0, .long (lN 1), .ref (A 9 0), .ref (A 10 0), .ref (A 11 0), .ref (A 12 0), .ref (A 13 0), .ref (A 14 0), .ref (A 15 0), .ref (A 16 0), .ref (A 17 0), .ref (A 18 0), .ref (A 19 0), .ref (A 20 0), .ref (A 21 0), .ref (A 22 0), .ref (A 23 0), .ref (A 24 0), .null, .null, .null, .long 0, .long 0, .long 0, .int 0, .int 0, .int 0, .int 0, .null, .null] (G.2.2 + 1 + 1 + 1 + 1 + 1 + 1 + 1 + 1 + 1 + 1 + 1 + 1 + 1 + 1 + 1 + 1 + 1 + 1 + 1 + 1 + 1) H := hN
  refine lv_aload_n hx hb dX7_init_168 rfl (lv_at hl 0 rfl) ?_
  refine lv_iconst (v := nI 4) hx hb dX7_init_169 (by decide) ?_
  refine n_newi hx hb hK hN hS 25 (fun _ _ => rfl) rfl (by decide) (by omega) rfl (by decide) (by decide) (by decide) dX7_init_170 (fun H hN hS => ?_)
  refine n_putF (ty := .array (.int)) hx hb hown hK hN hS rfl 25 (by decide) wf_X7_76 rfl hin rfl (by decide +kernel) rfl rfl (Nat.le_of_ble_eq_true rfl) dX7_init_172 (fun H locs hN hS => ?_)
  have hN : NO G A (upc (upc (upc (upc (upc (upc (upc (upc (upc (upc (upc (upc (upc (upc (upc (upc (upc (upc (upc (upc (upc c00 3 1) 4 1) 5 1) 6 1) 9 1) 10 1) 11 1) 12 1) 13 1) 14 1) 15 1) 16 1) 17 1) 18 1) 19 1) 20 1) 21 1) 22 1) 23 1) 24 1) 25 1) z00 G.2.2 7 [.int 0, .int 0, .int 0, .ref (A 3 0), .ref (A 4 0), .ref (A 5 0), .ref (A 6 0), .long 0, .long (lN 1), .ref (A 9 0), .ref (A 10 0), .ref (A 11 0), .ref (A 12 0), .ref (A 13 0), .ref (A 14 0), .ref (A 15 0), .ref (A 16 0), .ref (A 17 0), .ref (A 18 0), .ref (A 19 0), .ref (A 20 0), .ref (A 21 0), .ref (A 22 0), .ref (A 23 0), .ref (A 24 0), .ref (A 25 0), .null, .null, .long 0, .long 0, .long 0, .int 0, .int 0, .int 0, .int 0, .null, .null] (G.2.2 + 1 + 1 + 1 + 1 + 1 + 1 + 1 + 1 + 1 + 1 + 1 + 1 + 1 + 1 + 1 + 1 + 1 + 1 + 1 + 1 + 1 + 1) H := hN
  refine lv_aload_n hx hb dX7_init_175 rfl (lv_at hl 0 rfl) ?_
  refine lv_bipush (v := nI 62) hx hb dX7_init_176 (by decide) ?_
  refine n_newl hx hb hK hN hS 26 (fun _ _ => rfl) rfl (by decide) (by omega) rfl (by decide) (by decide) (by decide) dX7_init_178 (fun H hN hS => ?_)
  refine n_putF (ty := .array (.long)) hx hb hown hK hN hS rfl 26 (by decide) wf_X7_79 rfl hin rfl (by decide +kernel) rfl rfl (Nat.le_of_ble_eq_true rfl) dX7_init_180 (fun H locs hN hS => ?_)
  have hN : NO G A (upc (upc (upc (upc (upc (upc (upc (upc (upc (upc (upc (upc (upc (upc (upc (upc (upc (upc (upc (upc (upc (upc c00 3 1) 4 1) 5 1) 6 1) 9 1) 10 1) 11 1) 12 1) 13 1) 14 1) 15 1) 16 1) 17 1) 18 1) 19 1) 20 1) 21 1) 22 1) 23 1) 24 1) 25 1) 26 1) z00 G.2.2 7 [.int 0, .int 0, .int 0, .ref (A 3 0), .ref (A 4 0), .ref (A 5 0), .ref (A 6 0), .long 0, .long (lN 1), .ref (A 9 0), .ref (A 10 0), .ref (A 11 0), .ref (A 12 0), .ref (A 13 0), .ref (A 14 0), .ref (A 15 0), .ref (A 16 0), .ref (A 17 0), .ref (A 18 0), .ref (A 19 0), .ref (A 20 0), .ref (A 21 0), .ref (A 22 0), .ref (A 23 0), .ref (A 24 0), .ref (A 25 0), .ref (A 26 0), .null, .long 0, .long 0, .long 0, .int 0, .int 0, .int 0, .int 0, .null, .null] (G.2.2 + 1 + 1 + 1 + 1 + 1 + 1 + 1 + 1 + 1 + 1 + 1 + 1 + 1 + 1 + 1 + 1 + 1 + 1 + 1 + 1 + 1 + 1 + 1) H := hN
  refine lv_aload_n hx hb dX7_init_183 rfl (lv_at hl 0 rfl) ?_
  refine lv_bipush (v := nI 62) hx hb dX7_init_184 (by decide) ?_
  refine n_newl hx hb hK hN hS 27 (fun _ _ => rfl) rfl (by decide) (by omega) rfl (by decide) (by decide) (by decide) dX7_init_186 (fun H hN hS => ?_)
  refine n_putF (ty := .array (.long)) hx hb hown hK hN hS rfl 27 (by decide) wf_X7_82 rfl hin rfl (by decide +kernel) rfl rfl (Nat.le_of_ble_eq_true rfl) dX7_init_188 (fun H locs hN hS => ?_)
  have hN : NO G A (upc (upc (upc (upc (upc (upc (upc (upc (upc (upc (upc (upc (upc (upc (upc (upc (upc (upc (upc (upc (upc (upc (upc c00 3 1) 4 1) 5 1) 6 1) 9 1) 10 1) 11 1) 12 1) 13 1) 14 1) 15 1) 16 1) 17 1) 18 1) 19 1) 20 1) 21 1) 22 1) 23 1) 24 1) 25 1) 26 1) 27 1) z00 G.2.2 7 [.int 0, .int 0, .int 0, .ref (A 3 0), .ref (A 4 0), .ref (A 5 0), .ref (A 6 0), .long 0, .long (lN 1), .ref (A 9 0), .ref (A 10 0), .ref (A 11 0), .ref (A 12 0), .ref (A 13 0), .ref (A 14 0), .ref (A 15 0), .ref (A 16 0), .ref (A 17 0), .ref (A 18 0), .ref (A 19 0), .ref (A 20 0), .ref (A 21 0), .ref (A 22 0), .ref (A 23 0), .ref (A 24 0), .ref (A 25 0), .ref (A 26 0), .ref (A 27 0), .long 0, .long 0, .long 0, .int 0, .int 0, .int 0, .int 0, .null, .null] (G.2.2 + 1 + 1 + 1 + 1 + 1 + 1 + 1 + 1 + 1 + 1 + 1 + 1 + 1 + 1 + 1 + 1 + 1 + 1 + 1 + 1 + 1 + 1 + 1 + 1) H := hN
  refine lv_aload_n hx hb dX7_init_191 rfl (lv_at hl 0 rfl) ?_
  refine lv_sipush (v := nI 210) hx hb dX7_init_192 (by decide) ?_
  refine n_newz hx hb hK hN hS 35 (fun _ _ => rfl) rfl (by decide) (by omega) rfl (by decide) (by decide) (by decide) dX7_init_195 (fun H hN hS => ?_)
  refine n_putF (ty := .array (.boolean)) hx hb hown hK hN hS rfl 35 (by decide) wf_X7_85 rfl hin rfl (by decide +kernel) rfl rfl (Nat.le_of_ble_eq_true rfl) dX7_init_197 (fun H locs hN hS => ?_)
  have hN : NO G A (upc (upc (upc (upc (upc (upc (upc (upc (upc (upc (upc (upc (upc (upc (upc (upc (upc (upc (upc (upc (upc (upc (upc (upc c00 3 1) 4 1) 5 1) 6 1) 9 1) 10 1) 11 1) 12 1) 13 1) 14 1) 15 1) 16 1) 17 1) 18 1) 19 1) 20 1) 21 1) 22 1) 23 1) 24 1) 25 1) 26 1) 27 1) 35 1) z00 G.2.2 7 [.int 0, .int 0, .int 0, .ref (A 3 0), .ref (A 4 0), .ref (A 5 0), .ref (A 6 0), .long 0, .long (lN 1), .ref (A 9 0), .ref (A 10 0), .ref (A 11 0), .ref (A 12 0), .ref (A 13 0), .ref (A 14 0), .ref (A 15 0), .ref (A 16 0), .ref (A 17 0), .ref (A 18 0), .ref (A 19 0), .ref (A 20 0), .ref (A 21 0), .ref (A 22 0), .ref (A 23 0), .ref (A 24 0), .ref (A 25 0), .ref (A 26 0), .ref (A 27 0), .long 0, .long 0, .long 0, .int 0, .int 0, .int 0, .int 0, .ref (A 35 0), .null] (G.2.2 + 1 + 1 + 1 + 1 + 1 + 1 + 1 + 1 + 1 + 1 + 1 + 1 + 1 + 1 + 1 + 1 + 1 + 1 + 1 + 1 + 1 + 1 + 1 + 1 + 1) H := hN
  refine lv_aload_n hx hb dX7_init_200 rfl (lv_at hl 0 rfl) ?_
  refine lv_sipush (v := nI 210) hx hb dX7_init_201 (by decide) ?_
  refine n_newz hx hb hK hN hS 36 (fun _ _ => rfl) rfl (by decide) (by omega) rfl (by decide) (by decide) (by decide) dX7_init_204 (fun H hN hS => ?_)
  refine n_putF (ty := .array (.boolean)) hx hb hown hK hN hS rfl 36 (by decide) wf_X7_88 rfl hin rfl (by decide +kernel) rfl rfl (Nat.le_of_ble_eq_true rfl) dX7_init_206 (fun H locs hN hS => ?_)
  have hN : NO G A (upc (upc (upc (upc (upc (upc (upc (upc (upc (upc (upc (upc (upc (upc (upc (upc (upc (upc (upc (upc (upc (upc (upc (upc (upc c00 3 1) 4 1) 5 1) 6 1) 9 1) 10 1) 11 1) 12 1) 13 1) 14 1) 15 1) 16 1) 17 1) 18 1) 19 1) 20 1) 21 1) 22 1) 23 1) 24 1) 25 1) 26 1) 27 1) 35 1) 36 1) z00 G.2.2 7 [.int 0, .int 0, .int 0, .ref (A 3 0), .ref (A 4 0), .ref (A 5 0), .ref (A 6 0), .long 0, .long (lN 1), .ref (A 9 0), .ref (A 10 0), .ref (A 11 0), .ref (A 12 0), .ref (A 13 0), .ref (A 14 0), .ref (A 15 0), .ref (A 16 0), .ref (A 17 0), .ref (A 18 0), .ref (A 19 0), .ref (A 20 0), .ref (A 21 0), .ref (A 22 0), .ref (A 23 0), .ref (A 24 0), .ref (A 25 0), .ref (A 26 0), .ref (A 27 0), .long 0, .long 0, .long 0, .int 0, .int 0, .int 0, .int 0, .ref (A 35 0), .ref (A 36 0)] (G.2.2 + 1 + 1 + 1 + 1 + 1 + 1 + 1 + 1 + 1 + 1 + 1 + 1 + 1 + 1 + 1 + 1 + 1 + 1 + 1 + 1 + 1 + 1 + 1 + 1 + 1 + 1) H := hN
  have hH := hN.fin (k0 := 0) (i0 := 0) (σ' := sJ z00 0 0 8 (lN 1)) rfl rfl (Or.inl (by decide)) a0 (fun k i hi => ⟨rfl, ?_⟩) rfl
  rotate_left
  · funext j
    rw [sJ_at, if_neg (fun q => by rw [q.1] at hi; exact absurd hi (Nat.not_lt_zero i))]
  have hz9 : _ = G.2.2 + 26 := hN.2.2.1
  obtain ⟨B, hBe⟩ : ∃ B : gB, B = (A, cM) := ⟨_, rfl⟩
  have hH : Hp G (A, cM) (sJ z00 0 0 8 (lN 1)) _ := hH
  rw [← hBe] at hH
  have h0b : 0 < B.2 0 := by rw [hBe]; exact Nat.le_of_ble_eq_true rfl
  have h9b : 0 < B.2 9 := by rw [hBe]; exact Nat.le_of_ble_eq_true rfl
  have hl : lv_has ls 3 [(0, .ref (B.1 0 0))] := by rw [hBe]; show lv_has ls 3 [(0, .ref (A 0 0))]; rw [a0]; exact hl
  have LOOP : ∀ (n i : Nat), n + i = 62 → i ≤ 61 → ∀ (τ : gS) (H : Heap) (locs : List Loc), IM τ i 0 → H.size = G.2.2 + 26 → Hp G B τ H → va_S (mA G) s.heap H locs → ∀ (ls : Array Slot), lv_has ls 3 [(1, .int (nI i)), (0, .ref (B.1 0 0))] → W p l e ({ frames := 1, cells := 25, slots := 9017, locals := 20 } : Room) s m ([Value.ref G.2.2] : List Value).toArray below meth c H locs 25 9017 (MQ below (cQo G (fun u H => Hp G (A, cM) u H) (G.2.2 + 26) (fun u => IM u 61 0)) ([Value.ref G.2.2] : List Value).toArray s 25 9017 (mA G)) (F0 m 211 ls []) := by
    intro n
    induction n with
    | zero => intro i hn hi61; intros; omega
    | succ n ih =>
      intro i hn hi61 τ H locs hJ hz9 hH hS ls hl
      have INN : ∀ (q k : Nat), q + k = i + 2 → k ≤ i + 1 → i ≤ 60 → ∀ (τ : gS) (H : Heap) (locs : List Loc), IM τ i k → H.size = G.2.2 + 26 → Hp G B τ H → va_S (mA G) s.heap H locs → ∀ (ls : Array Slot), lv_has ls 3 [(2, .int (nI k)), (1, .int (nI i)), (0, .ref (B.1 0 0))] → W p l e ({ frames := 1, cells := 25, slots := 9017, locals := 20 } : Room) s m ([Value.ref G.2.2] : List Value).toArray below meth c H locs 25 9017 (MQ below (cQo G (fun u H => Hp G (A, cM) u H) (G.2.2 + 26) (fun u => IM u 61 0)) ([Value.ref G.2.2] : List Value).toArray s 25 9017 (mA G)) (F0 m 219 ls []) := by
        intro q
        induction q with
        | zero => intro k hq hki; intros; omega
        | succ q ih2 =>
          intro k hq hki hi60 τ H locs hJ hz9 hH hS ls hl
          refine lv_iload_n hx hb dX7_init_219 rfl (lv_at hl 0 rfl) ?_
          refine lv_iload_n hx hb dX7_init_220 rfl (lv_at hl 1 rfl) ?_
          refine m_icmp_gtN (tgt := 287) (by omega) (by omega) hx hb dX7_init_221 (by decide) (fun c_221 => ?_) (fun c_221 => ?_)
          · refine lv_iinc (v := nI (i + 1)) (lv' := [(1, .int (nI (i + 1))), (2, .int (nI k)), (0, .ref (B.1 0 0))]) hx hb dX7_init_287 hl (k := 1) rfl (nI_1 _) (by decide) rfl (fun ls hl => ?_)
            refine lv_goto (tgt := 211) hx hb dX7_init_290 (by decide) ?_
            exact ih (i + 1) (by omega) (by omega) τ H locs (IM_next (by rw [show k = i + 1 by omega] at hJ; exact hJ)) hz9 hH hS ls (lv_sub hl [0, 2] rfl)
          · have hki2 : k ≤ i := by omega
            have hval : 0 < k → ch (i - 1) (k - 1) + (if k < i then ch (i - 1) k else 0) = ch i k := fun h1 => by
              rw [ch_pas (n := i) (k := k) (by omega) h1]
              by_cases q9 : k < i
              · rw [if_pos q9]
              · rw [if_neg q9, ch_big (n := i - 1) (k := k) (by omega)]
            refine lv_aload_n hx hb dX7_init_224 rfl (lv_at hl 2 rfl) ?_
            refine gf_X7_26 hx hb hown hK hH h0b dX7_init_225 ?_
            refine lv_bipush (v := nI 61) hx hb dX7_init_228 (by decide) ?_
            refine lv_iload_n hx hb dX7_init_230 rfl (lv_at hl 1 rfl) ?_
            refine m_imulN hx hb dX7_init_231 ?_
            refine lv_iload_n hx hb dX7_init_232 rfl (lv_at hl 0 rfl) ?_
            refine m_iaddN hx hb dX7_init_233 ?_
            refine lv_iload_n hx hb dX7_init_234 rfl (lv_at hl 0 rfl) ?_
            have J_235 : ∀ (ls : Array Slot), lv_has ls 3 [(2, .int (nI k)), (1, .int (nI i)), (0, .ref (B.1 0 0))] → W p l e ({ frames := 1, cells := 25, slots := 9017, locals := 20 } : Room) s m ([Value.ref G.2.2] : List Value).toArray below meth c H locs 25 9017 (MQ below (cQo G (fun u H => Hp G (A, cM) u H) (G.2.2 + 26) (fun u => IM u 61 0)) ([Value.ref G.2.2] : List Value).toArray s 25 9017 (mA G)) (F0 m 280 ls [.long (lN (ch i k)), .int (nI (61 * i + k)), .ref (B.1 9 0)]) := by
              intro ls hl
              refine n_last hx hb hK hH hS hz9 (n := 3721) h9b (fun _ _ => rfl) (61 * i + k) (rfl) (by omega) (by decide) dX7_init_280 (fun H locs hH hS hz9 => ?_)
              refine lv_iinc (v := nI (k + 1)) (lv' := [(2, .int (nI (k + 1))), (1, .int (nI i)), (0, .ref (B.1 0 0))]) hx hb dX7_init_281 hl (k := 0) rfl (nI_1 _) (by decide) rfl (fun ls hl => ?_)
              refine lv_goto (tgt := 219) hx hb dX7_init_284 (by decide) ?_
              exact ih2 (k + 1) (by omega) (by omega) hi60 _ H locs (IM_put hki2 hi60 hJ rfl) hz9 hH hS ls (lv_sub hl [0, 1, 2] rfl)
            refine m_ifneN (tgt := 242) (by omega) hx hb dX7_init_235 (by decide) (fun c_235 => ?_) (fun c_235 => ?_)
            · refine lv_aload_n hx hb dX7_init_242 rfl (lv_at hl 2 rfl) ?_
              refine gf_X7_26 hx hb hown hK hH h0b dX7_init_243 ?_
              refine lv_bipush (v := nI 61) hx hb dX7_init_246 (by decide) ?_
              refine lv_iload_n hx hb dX7_init_248 rfl (lv_at hl 1 rfl) ?_
              refine lv_iconst (v := nI 1) hx hb dX7_init_249 (by decide) ?_
              refine m_isubN (by omega) hx hb dX7_init_250 ?_
              refine m_imulN hx hb dX7_init_251 ?_
              refine lv_iload_n hx hb dX7_init_252 rfl (lv_at hl 0 rfl) ?_
              refine m_iaddN hx hb dX7_init_253 ?_
              refine lv_iconst (v := nI 1) hx hb dX7_init_254 (by decide) ?_
              refine m_isubN (by omega) hx hb dX7_init_255 ?_
              refine m_lald hx hb hK hH (n := 3721) h9b (fun _ _ => rfl) (((61 * (i - 1)) + k) - 1) (rfl) (by omega) (by decide) dX7_init_256 ?_
              refine m_toj (lN (ch (i - 1) (k - 1))) ((congrArg (τ.2 9 0) (show 61 * (i - 1) + k - 1 = 61 * (i - 1) + (k - 1) by omega)).trans (hJ.1 (i - 1) (k - 1) (by omega) (by omega))) ?_
              refine lv_iload_n hx hb dX7_init_257 rfl (lv_at hl 0 rfl) ?_
              refine lv_iload_n hx hb dX7_init_258 rfl (lv_at hl 1 rfl) ?_
              have J_259 : ∀ (ls : Array Slot), lv_has ls 3 [(2, .int (nI k)), (1, .int (nI i)), (0, .ref (B.1 0 0))] → W p l e ({ frames := 1, cells := 25, slots := 9017, locals := 20 } : Room) s m ([Value.ref G.2.2] : List Value).toArray below meth c H locs 25 9017 (MQ below (cQo G (fun u H => Hp G (A, cM) u H) (G.2.2 + 26) (fun u => IM u 61 0)) ([Value.ref G.2.2] : List Value).toArray s 25 9017 (mA G)) (F0 m 279 ls [.long (lN (if k < i then ch (i - 1) k else 0)), .long (lN (ch (i - 1) (k - 1))), .int (nI (61 * i + k)), .ref (B.1 9 0)]) := by
                intro ls hl
                refine m_laddN hx hb dX7_init_279 ?_
                refine m_toj (lN (ch i k)) (congrArg lN (hval c_235)) ?_
                exact J_235 ls (lv_sub hl [0, 1, 2] rfl)
              refine m_icmp_geN (tgt := 278) (by omega) (by omega) hx hb dX7_init_259 (by decide) (fun c_259 => ?_) (fun c_259 => ?_)
              · refine lv_lconst (v := lN 0) hx hb dX7_init_278 rfl ?_
                refine m_toj (lN (if k < i then ch (i - 1) k else 0)) (by rw [if_neg (by omega)]) ?_
                exact J_259 ls (lv_sub hl [0, 1, 2] rfl)
              · refine lv_aload_n hx hb dX7_init_262 rfl (lv_at hl 2 rfl) ?_
                refine gf_X7_26 hx hb hown hK hH h0b dX7_init_263 ?_
                refine lv_bipush (v := nI 61) hx hb dX7_init_266 (by decide) ?_
                refine lv_iload_n hx hb dX7_init_268 rfl (lv_at hl 1 rfl) ?_
                refine lv_iconst (v := nI 1) hx hb dX7_init_269 (by decide) ?_
                refine m_isubN (by omega) hx hb dX7_init_270 ?_
                refine m_imulN hx hb dX7_init_271 ?_
                refine lv_iload_n hx hb dX7_init_272 rfl (lv_at hl 0 rfl) ?_
                refine m_iaddN hx hb dX7_init_273 ?_
                refine m_lald hx hb hK hH (n := 3721) h9b (fun _ _ => rfl) ((61 * (i - 1)) + k) (rfl) (by omega) (by decide) dX7_init_274 ?_
                refine m_toj (lN (ch (i - 1) k)) (hJ.1 (i - 1) k (by omega) (by omega)) ?_
                refine lv_goto (tgt := 279) hx hb dX7_init_275 (by decide) ?_
                refine m_toj (lN (if k < i then ch (i - 1) k else 0)) (by rw [if_pos c_259]) ?_
                exact J_259 ls (lv_sub hl [0, 1, 2] rfl)
            · refine lv_lconst (v := lN 1) hx hb dX7_init_238 rfl ?_
              refine lv_goto (tgt := 280) hx hb dX7_init_239 (by decide) ?_
              refine m_toj (lN (ch i k)) (by rw [c_235, ch_0]) ?_
              exact J_235 ls (lv_sub hl [0, 1, 2] rfl)
      refine lv_iload_n hx hb dX7_init_211 rfl (lv_at hl 0 rfl) ?_
      refine lv_bipush (v := nI 60) hx hb dX7_init_212 (by decide) ?_
      refine m_icmp_gtN (tgt := 293) (by omega) (by omega) hx hb dX7_init_214 (by decide) (fun c_214 => ?_) (fun c_214 => ?_)
      · rw [hBe] at hH
        exact n_vret hx hb hr hlk hH hz9 hS dX7_init_293 (by rw [show i = 61 by omega] at hJ; exact hJ) (by decide) (by decide)
      · refine lv_iconst (v := nI 0) hx hb dX7_init_217 (by decide) ?_
        refine lv_istore_n (lv' := [(2, .int (nI 0)), (1, .int (nI i)), (0, .ref (B.1 0 0))]) hx hb dX7_init_218 rfl hl (by decide) rfl (fun ls hl => ?_)
        exact INN (i + 2) 0 (by omega) (by omega) (by omega) _ H locs hJ hz9 hH hS ls (lv_sub hl [0, 1, 2] rfl)
  refine lv_iconst (v := nI 0) hx hb dX7_init_209 (by decide) ?_
  refine lv_istore_n (lv' := [(1, .int (nI 0)), (0, .ref (B.1 0 0))]) hx hb dX7_init_210 rfl hl (by decide) rfl (fun ls hl => ?_)
  exact LOOP 62 0 (by omega) (by omega) _ H locs IM_0 hz9 hH hS ls (lv_sub hl [0, 1] rfl)
