/-! constructors -/
def z00 : gS := (fun _ _ _ => 0, fun _ _ _ => 0)
set_option maxHeartbeats 4000000 in
set_option maxRecDepth 100000 in
theorem c_X1_init (l : Launch) (G : gG) (A : Nat → Nat → Nat)  : Met l yX1_init [.code yX1_init cX1_init 1 none] ({ frames := 1, cells := 0, slots := 0, locals := 20 } : Room) (cPc G 1 [.long 0, .long 0] []) (cQo G (fun _ H => va_at G.1 clsz (G.2.2, .inr (1, [.long (lN 0), .long (lN 1)])) H) (G.2.2 + 1) (fun _ => True)) 0 0 (mA G) := by
  refine c_start (by decide) rfl (Nat.le_of_ble_eq_true rfl) ?_
  intro p e s m below meth c ⟨hx, hb, hr, hml, hown, hK, hlk, hz⟩ hAO hin hz9 hat hS ls hl
  have hl : lv_has ls 1 [(0, .ref G.2.2)] := hl
  have hN : NO G A c00 z00 G.2.2 1 [.long 0, .long 0] (G.2.2 + 1) s.heap := NO.st hz9 hat
  refine lv_aload_n hx hb dX1_init_0 rfl (lv_at hl 0 rfl) ?_
  refine n_obj hx hb hown hml hl.1 hK wl_X1_3 ⟨by decide, by decide⟩ (Nat.le_of_ble_eq_true rfl) dX1_init_1 ?_
  refine lv_aload_n hx hb dX1_init_4 rfl (lv_at hl 0 rfl) ?_
  refine lv_lconst (v := lN 0) hx hb dX1_init_5 rfl ?_
  refine n_put (ty := .long) hx hb hown hK hN hS rfl 0 (by decide) wf_X1_9 rfl (by decide +kernel) rfl rfl (Nat.le_of_ble_eq_true rfl) dX1_init_6 (fun H locs hN hS => ?_)
  have hN : NO G A c00 z00 G.2.2 1 [.long (lN 0), .long 0] (G.2.2 + 1) H := hN
  refine lv_aload_n hx hb dX1_init_9 rfl (lv_at hl 0 rfl) ?_
  refine lv_lconst (v := lN 1) hx hb dX1_init_10 rfl ?_
  refine n_put (ty := .long) hx hb hown hK hN hS rfl 1 (by decide) wf_X1_15 rfl (by decide +kernel) rfl rfl (Nat.le_of_ble_eq_true rfl) dX1_init_11 (fun H locs hN hS => ?_)
  have hN : NO G A c00 z00 G.2.2 1 [.long (lN 0), .long (lN 1)] (G.2.2 + 1) H := hN
  exact n_vret (σ := z00) hx hb hr hlk hN.2.1 hN.2.2.1 hS dX1_init_14 trivial (by decide) (by decide)
set_option maxHeartbeats 4000000 in
set_option maxRecDepth 100000 in
theorem c_X3_init (l : Launch) (G : gG) (A : Nat → Nat → Nat)  : Met l yX3_init [.code yX3_init cX3_init 1 none] ({ frames := 1, cells := 0, slots := 0, locals := 20 } : Room) (cPc G 3 [.int 0, .int 0, .int 0, .int 0] []) (cQo G (fun _ H => va_at G.1 clsz (G.2.2, .inr (3, [.int 0, .int 0, .int 0, .int (nI 1)])) H) (G.2.2 + 1) (fun _ => True)) 0 0 (mA G) := by
  refine c_start (by decide) rfl (Nat.le_of_ble_eq_true rfl) ?_
  intro p e s m below meth c ⟨hx, hb, hr, hml, hown, hK, hlk, hz⟩ hAO hin hz9 hat hS ls hl
  have hl : lv_has ls 1 [(0, .ref G.2.2)] := hl
  have hN : NO G A c00 z00 G.2.2 3 [.int 0, .int 0, .int 0, .int 0] (G.2.2 + 1) s.heap := NO.st hz9 hat
  refine lv_aload_n hx hb dX3_init_0 rfl (lv_at hl 0 rfl) ?_
  refine n_obj hx hb hown hml hl.1 hK wl_X3_1 ⟨by decide, by decide⟩ (Nat.le_of_ble_eq_true rfl) dX3_init_1 ?_
  refine lv_aload_n hx hb dX3_init_4 rfl (lv_at hl 0 rfl) ?_
  refine lv_iconst (v := nI 1) hx hb dX3_init_5 (by decide) ?_
  refine n_put (ty := .int) hx hb hown hK hN hS rfl 3 (by decide) wf_X3_7 rfl (by decide +kernel) rfl rfl (Nat.le_of_ble_eq_true rfl) dX3_init_6 (fun H locs hN hS => ?_)
  have hN : NO G A c00 z00 G.2.2 3 [.int 0, .int 0, .int 0, .int (nI 1)] (G.2.2 + 1) H := hN
  exact n_vret (σ := z00) hx hb hr hlk hN.2.1 hN.2.2.1 hS dX3_init_9 trivial (by decide) (by decide)
set_option maxHeartbeats 4000000 in
set_option maxRecDepth 100000 in
theorem c_X2_init (l : Launch) (G : gG) (A : Nat → Nat → Nat) (h50 : A 50 0 = G.2.2) (h51 : A 51 0 = G.2.2 + 1) (h52 : A 52 0 = G.2.2 + 2) (h53 : A 53 0 = G.2.2 + 3) (h54 : A 54 0 = G.2.2 + 4) (h55 : A 55 0 = G.2.2 + 5) (h56 : ∀ j, j < 4 → A 56 j = G.2.2 + 6 + j) : Met l yX2_init [.code yX2_init cX2_init 1 none] ({ frames := 1, cells := 9, slots := 264, locals := 20 } : Room) (cPc G 2 [.null, .null, .null, .null, .null, .int 0, .int 0] []) (cQo G (fun u H => Hp G (A, upc (upc (upc (upc (upc (upc (upc c00 51 1) 52 1) 53 1) 54 1) 55 1) 56 4) 50 1) u H) (G.2.2 + 10) (fun u => u = z00)) 9 264 (mA G) := by
  refine c_start (by decide) rfl (Nat.le_of_ble_eq_true rfl) ?_
  intro p e s m below meth c ⟨hx, hb, hr, hml, hown, hK, hlk, hz⟩ hAO hin hz9 hat hS ls hl
  have hl : lv_has ls 1 [(0, .ref G.2.2)] := hl
  have hN : NO G A c00 z00 G.2.2 2 [.null, .null, .null, .null, .null, .int 0, .int 0] (G.2.2 + 1) s.heap := NO.st hz9 hat
  refine lv_aload_n hx hb dX2_init_0 rfl (lv_at hl 0 rfl) ?_
  refine n_obj hx hb hown hml hl.1 hK wl_X2_3 ⟨by decide, by decide⟩ (Nat.le_of_ble_eq_true rfl) dX2_init_1 ?_
  refine lv_aload_n hx hb dX2_init_4 rfl (lv_at hl 0 rfl) ?_
  refine lv_iconst (v := nI 4) hx hb dX2_init_5 (by decide) ?_
  refine n_newi hx hb hK hN hS 51 (fun _ _ => rfl) rfl (by decide) (by omega) rfl (by decide) (by decide) (by decide) dX2_init_6 (fun H hN hS => ?_)
  refine n_putF (ty := .array (.int)) hx hb hown hK hN hS rfl 0 (by decide) wf_X2_9 rfl hin rfl (by decide +kernel) rfl rfl (Nat.le_of_ble_eq_true rfl) dX2_init_8 (fun H locs hN hS => ?_)
  have hN : NO G A (upc c00 51 1) z00 G.2.2 2 [.ref (A 51 0), .null, .null, .null, .null, .int 0, .int 0] (G.2.2 + 1 + 1) H := hN
  refine lv_aload_n hx hb dX2_init_11 rfl (lv_at hl 0 rfl) ?_
  refine lv_iconst (v := nI 4) hx hb dX2_init_12 (by decide) ?_
  refine n_newi hx hb hK hN hS 52 (fun _ _ => rfl) rfl (by decide) (by omega) rfl (by decide) (by decide) (by decide) dX2_init_13 (fun H hN hS => ?_)
  refine n_putF (ty := .array (.int)) hx hb hown hK hN hS rfl 1 (by decide) wf_X2_15 rfl hin rfl (by decide +kernel) rfl rfl (Nat.le_of_ble_eq_true rfl) dX2_init_15 (fun H locs hN hS => ?_)
  have hN : NO G A (upc (upc c00 51 1) 52 1) z00 G.2.2 2 [.ref (A 51 0), .ref (A 52 0), .null, .null, .null, .int 0, .int 0] (G.2.2 + 1 + 1 + 1) H := hN
  refine lv_aload_n hx hb dX2_init_18 rfl (lv_at hl 0 rfl) ?_
  refine lv_iconst (v := nI 4) hx hb dX2_init_19 (by decide) ?_
  refine n_newi hx hb hK hN hS 53 (fun _ _ => rfl) rfl (by decide) (by omega) rfl (by decide) (by decide) (by decide) dX2_init_20 (fun H hN hS => ?_)
  refine n_putF (ty := .array (.int)) hx hb hown hK hN hS rfl 2 (by decide) wf_X2_18 rfl hin rfl (by decide +kernel) rfl rfl (Nat.le_of_ble_eq_true rfl) dX2_init_22 (fun H locs hN hS => ?_)
  have hN : NO G A (upc (upc (upc c00 51 1) 52 1) 53 1) z00 G.2.2 2 [.ref (A 51 0), .ref (A 52 0), .ref (A 53 0), .null, .null, .int 0, .int 0] (G.2.2 + 1 + 1 + 1 + 1) H := hN
  refine lv_aload_n hx hb dX2_init_25 rfl (lv_at hl 0 rfl) ?_
  refine lv_iconst (v := nI 4) hx hb dX2_init_26 (by decide) ?_
  refine n_newi hx hb hK hN hS 54 (fun _ _ => rfl) rfl (by decide) (by omega) rfl (by decide) (by decide) (by decide) dX2_init_27 (fun H hN hS => ?_)
  refine n_putF (ty := .array (.int)) hx hb hown hK hN hS rfl 3 (by decide) wf_X2_21 rfl hin rfl (by decide +kernel) rfl rfl (Nat.le_of_ble_eq_true rfl) dX2_init_29 (fun H locs hN hS => ?_)
  have hN : NO G A (upc (upc (upc (upc c00 51 1) 52 1) 53 1) 54 1) z00 G.2.2 2 [.ref (A 51 0), .ref (A 52 0), .ref (A 53 0), .ref (A 54 0), .null, .int 0, .int 0] (G.2.2 + 1 + 1 + 1 + 1 + 1) H := hN
  refine lv_aload_n hx hb dX2_init_32 rfl (lv_at hl 0 rfl) ?_
  refine lv_iconst (v := nI 4) hx hb dX2_init_33 (by decide) ?_
  refine lv_bipush (v := nI 61) hx hb dX2_init_34 (by decide) ?_
  refine n_mna (N := 4) (K := 61) hx hb hown hK hAO.2.2.2 hN.2.2.1 hS wk_X2_24 (by decide) (by decide) (by decide) (by decide) dX2_init_36 (fun H h1 h2 h3 h4 hS => ?_)
  have hN := hN.addg (ko := 55) (kr := 56) (N := 4) (K := 61) rfl rfl (by decide) ⟨by decide, by decide⟩ (by omega) (fun j hj => by have := h56 j hj; omega) h1 h2 (fun _ _ => by show aR G 6 4 (fun j => some (A 56 (4 * 0 + j))) = _; simp only [Nat.mul_zero, Nat.zero_add]) (fun _ _ _ => rfl) (fun _ _ => rfl) h3 h4
  have hN : NO G A (upc (upc (upc (upc (upc (upc c00 51 1) 52 1) 53 1) 54 1) 55 1) 56 4) z00 G.2.2 2 [.ref (A 51 0), .ref (A 52 0), .ref (A 53 0), .ref (A 54 0), .null, .int 0, .int 0] (G.2.2 + 1 + 1 + 1 + 1 + 1 + 1 + 4) H := hN
  refine m_tor (A 55 0) (by omega) ?_
  refine n_putF (ty := .array (.array (.long))) hx hb hown hK hN hS rfl 4 (by decide) wf_X2_26 rfl hin rfl (by decide +kernel) rfl rfl (Nat.le_of_ble_eq_true rfl) dX2_init_40 (fun H locs hN hS => ?_)
  have hN : NO G A (upc (upc (upc (upc (upc (upc c00 51 1) 52 1) 53 1) 54 1) 55 1) 56 4) z00 G.2.2 2 [.ref (A 51 0), .ref (A 52 0), .ref (A 53 0), .ref (A 54 0), .ref (A 55 0), .int 0, .int 0] (G.2.2 + 1 + 1 + 1 + 1 + 1 + 1 + 4) H := hN
  have hH := hN.fin (k0 := 50) (i0 := 0) (σ' := z00) rfl rfl (Or.inr (by decide)) h50 (fun _ _ _ => ⟨rfl, rfl⟩) rfl
  exact n_vret (σ := z00) hx hb hr hlk hH hN.2.2.1 hS dX2_init_43 rfl (by decide) (by decide)
