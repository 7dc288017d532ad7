/-! stores that keep the heap's size -/
section NT
variable {p : Program} {l : Launch} {e : Env} {R : Room} {s : State} {m : MethodId} {args : Array Value} {below : List Frame} {meth : Method} {c : Code} {H : Heap} {locs : List Loc} {cells slots : Nat} {Q : State → Prop}
variable {cc : ByteArray} {pc : Nat} {ls : Array Slot} {rest : List Value} {G : gG} {B : gB} {σ : gS} {sz : Nat}
theorem n_iast (hx : p.tables.exec = Jvm.exec) (hb : c.code = cc) (hK : KI G s) (hH : Hp G B σ H) (hS : va_S (mA G) s.heap H locs) (hz9 : H.size = sz) {k i n : Nat} (hi : i < B.2 k) (hlay : ∀ f g, lay G B k i f g = aI G n f) {z x : Int32} (q : Nat) (hz : z = nI q) (hq : q < n) (hn : n < 2147483648) (hdg : decode cc pc = .ok (.iastore, 1))
    (kk : ∀ (H1 : Heap) (locs1 : List Loc), Hp G B (sI σ k i q x) H1 → va_S (mA G) s.heap H1 locs1 → H1.size = sz → W p l e R s m args below meth c H1 locs1 cells slots Q (F0 m (pc + 1) ls rest)) : W p l e R s m args below meth c H locs cells slots Q (F0 m pc ls (.int x :: .int z :: .ref (B.1 k i) :: rest)) := by
  subst hz
  have hP := (hH.at1 hi (hlay _ _)) 0 _ rfl
  refine W.iast hx hb hP ((hK.1.2 0 _ rfl).1 n (fun j => .int (σ.1 k i j))) (fun q => by cases q) (by show ¬ (nI q < 0 ∨ (arrV _ _ _).slots.size ≤ _); rw [arrV_size]; exact c_in hq hn) rfl rfl hdg fun H1 e z oq => ?_
  refine kk H1 _ (hH.put hi ?_ oq (sI_off σ k i q x)) (hS.put z oq (hH.1 k i hi).1) (by rw [z, hz9])
  rw [sI_on, sI_J, hlay]
  show H1[B.1 k i]? = some (vp_cell _ _)
  rw [e, c_cl hq hn, vp_cell_i, vp_cell_i, arrV_store]
  congr 2
  funext j
  by_cases hj : j = q
  · subst hj
    simp [updV, upd]
  · simp [updV, upd, hj]
theorem n_last (hx : p.tables.exec = Jvm.exec) (hb : c.code = cc) (hK : KI G s) (hH : Hp G B σ H) (hS : va_S (mA G) s.heap H locs) (hz9 : H.size = sz) {k i n : Nat} (hi : i < B.2 k) (hlay : ∀ f g, lay G B k i f g = aJ G n g) {z : Int32} {x : Int64} (q : Nat) (hz : z = nI q) (hq : q < n) (hn : n < 2147483648) (hdg : decode cc pc = .ok (.lastore, 1))
    (kk : ∀ (H1 : Heap) (locs1 : List Loc), Hp G B (sJ σ k i q x) H1 → va_S (mA G) s.heap H1 locs1 → H1.size = sz → W p l e R s m args below meth c H1 locs1 cells slots Q (F0 m (pc + 1) ls rest)) : W p l e R s m args below meth c H locs cells slots Q (F0 m pc ls (.long x :: .int z :: .ref (B.1 k i) :: rest)) := by
  subst hz
  have hP := (hH.at1 hi (hlay _ _)) 0 _ rfl
  refine W.last hx hb hP ((hK.1.2 1 _ rfl).1 n (fun j => .long (σ.2 k i j))) (fun q => by cases q) (by show ¬ (nI q < 0 ∨ (arrV _ _ _).slots.size ≤ _); rw [arrV_size]; exact c_in hq hn) rfl rfl hdg fun H1 e z oq => ?_
  refine kk H1 _ (hH.put hi ?_ oq (sJ_off σ k i q x)) (hS.put z oq (hH.1 k i hi).1) (by rw [z, hz9])
  rw [sJ_on, sJ_I, hlay]
  show H1[B.1 k i]? = some (vp_cell _ _)
  rw [e, c_cl hq hn, vp_cell_l, vp_cell_l, arrV_store]
  congr 2
  funext j
  by_cases hj : j = q
  · subst hj
    simp [updV, vp_updL]
  · simp [updV, vp_updL, hj]
end NT
set_option maxHeartbeats 4000000 in
set_option maxRecDepth 100000 in
theorem c_X4_init (l : Launch) (G : gG) (A : Nat → Nat → Nat) (x y z : Int32) (h57 : A 57 0 = G.2.2) (h58 : A 58 0 = G.2.2 + 1) (h59 : A 59 0 = G.2.2 + 2) : Met l yX4_init [.code yX4_init cX4_init 4 none] ({ frames := 1, cells := 2, slots := 63, locals := 20 } : Room) (cPc G 4 [.null, .null, .int 0, .int 0, .int 0] [.int x, .int y, .int z]) (cQo G (fun u H => Hp G (A, upc (upc (upc c00 58 1) 59 1) 57 1) u H) (G.2.2 + 3) (fun u => u = sI (sI (sI z00 58 0 0 x) 58 0 1 y) 58 0 2 z)) 2 63 (mA G) := by
  refine c_start (by decide) rfl (Nat.le_of_ble_eq_true rfl) ?_
  intro p e s m below meth c ⟨hx, hb, hr, hml, hown, hK, hlk, hz⟩ hAO hin hz9 hat hS ls hl
  have hl : lv_has ls 4 [(0, .ref G.2.2), (1, .int x), (2, .int y), (3, .int z)] := hl
  have hN : NO G A c00 z00 G.2.2 4 [.null, .null, .int 0, .int 0, .int 0] (G.2.2 + 1) s.heap := NO.st hz9 hat
  refine lv_aload_n hx hb dX4_init_0 rfl (lv_at hl 0 rfl) ?_
  refine n_obj hx hb hown hml hl.1 hK wl_X4_3 ⟨by decide, by decide⟩ (Nat.le_of_ble_eq_true rfl) dX4_init_1 ?_
  refine lv_aload_n hx hb dX4_init_4 rfl (lv_at hl 0 rfl) ?_
  refine lv_iconst (v := nI 3) hx hb dX4_init_5 (by decide) ?_
  refine n_newi hx hb hK hN hS 58 (fun _ _ => rfl) rfl (by decide) (by omega) rfl (by decide) (by decide) (by decide) dX4_init_6 (fun H hN hS => ?_)
  refine n_putF (ty := .array (.int)) hx hb hown hK hN hS rfl 0 (by decide) wf_X4_9 rfl hin rfl (by decide +kernel) rfl rfl (Nat.le_of_ble_eq_true rfl) dX4_init_8 (fun H locs hN hS => ?_)
  have hN : NO G A (upc c00 58 1) z00 G.2.2 4 [.ref (A 58 0), .null, .int 0, .int 0, .int 0] (G.2.2 + 1 + 1) H := hN
  refine lv_aload_n hx hb dX4_init_11 rfl (lv_at hl 0 rfl) ?_
  refine lv_bipush (v := nI 60) hx hb dX4_init_12 (by decide) ?_
  refine n_newi hx hb hK hN hS 59 (fun _ _ => rfl) rfl (by decide) (by omega) rfl (by decide) (by decide) (by decide) dX4_init_14 (fun H hN hS => ?_)
  refine n_putF (ty := .array (.int)) hx hb hown hK hN hS rfl 1 (by decide) wf_X4_15 rfl hin rfl (by decide +kernel) rfl rfl (Nat.le_of_ble_eq_true rfl) dX4_init_16 (fun H locs hN hS => ?_)
  have hN : NO G A (upc (upc c00 58 1) 59 1) z00 G.2.2 4 [.ref (A 58 0), .ref (A 59 0), .int 0, .int 0, .int 0] (G.2.2 + 1 + 1 + 1) H := hN
  refine lv_aload_n hx hb dX4_init_19 rfl (lv_at hl 0 rfl) ?_
  refine lv_iconst (v := nI 0) hx hb dX4_init_20 (by decide) ?_
  refine n_put (ty := .int) hx hb hown hK hN hS rfl 3 (by decide) wf_X4_18 rfl (by decide +kernel) rfl rfl (Nat.le_of_ble_eq_true rfl) dX4_init_21 (fun H locs hN hS => ?_)
  have hN : NO G A (upc (upc c00 58 1) 59 1) z00 G.2.2 4 [.ref (A 58 0), .ref (A 59 0), .int 0, .int (nI 0), .int 0] (G.2.2 + 1 + 1 + 1) H := hN
  have hH := hN.fin (k0 := 57) (i0 := 0) (σ' := z00) rfl rfl (Or.inr (by decide)) h57 (fun _ _ _ => ⟨rfl, rfl⟩) rfl
  have hz9 := hN.2.2.1
  obtain ⟨B, hBe⟩ : ∃ B : gB, B = (A, upc (upc (upc c00 58 1) 59 1) 57 1) := ⟨_, rfl⟩
  rw [← hBe] at hH
  have h57b : 0 < B.2 57 := by rw [hBe]; exact Nat.le_of_ble_eq_true rfl
  have h58b : 0 < B.2 58 := by rw [hBe]; exact Nat.le_of_ble_eq_true rfl
  have hl : lv_has ls 4 [(0, .ref (B.1 57 0)), (1, .int x), (2, .int y), (3, .int z)] := by rw [hBe]; show lv_has ls 4 [(0, .ref (A 57 0)), (1, .int x), (2, .int y), (3, .int z)]; rw [h57]; exact hl
  refine lv_aload_n hx hb dX4_init_24 rfl (lv_at hl 0 rfl) ?_
  refine gf_X4_9 hx hb hown hK hH h57b dX4_init_25 ?_
  refine lv_iconst (v := nI 0) hx hb dX4_init_28 (by decide) ?_
  refine lv_iload_n hx hb dX4_init_29 rfl (lv_at hl 1 rfl) ?_
  refine n_iast hx hb hK hH hS hz9 (n := 3) h58b (fun _ _ => rfl) (0) (rfl) (by omega) (by decide) dX4_init_30 (fun H locs hH hS hz9 => ?_)
  refine lv_aload_n hx hb dX4_init_31 rfl (lv_at hl 0 rfl) ?_
  refine gf_X4_9 hx hb hown hK hH h57b dX4_init_32 ?_
  refine lv_iconst (v := nI 1) hx hb dX4_init_35 (by decide) ?_
  refine lv_iload_n hx hb dX4_init_36 rfl (lv_at hl 2 rfl) ?_
  refine n_iast hx hb hK hH hS hz9 (n := 3) h58b (fun _ _ => rfl) (1) (rfl) (by omega) (by decide) dX4_init_37 (fun H locs hH hS hz9 => ?_)
  refine lv_aload_n hx hb dX4_init_38 rfl (lv_at hl 0 rfl) ?_
  refine gf_X4_9 hx hb hown hK hH h57b dX4_init_39 ?_
  refine lv_iconst (v := nI 2) hx hb dX4_init_42 (by decide) ?_
  refine lv_iload_n hx hb dX4_init_43 rfl (lv_at hl 3 rfl) ?_
  refine n_iast hx hb hK hH hS hz9 (n := 3) h58b (fun _ _ => rfl) (2) (rfl) (by omega) (by decide) dX4_init_44 (fun H locs hH hS hz9 => ?_)
  rw [hBe] at hH
  exact n_vret hx hb hr hlk hH hz9 hS dX4_init_45 rfl (by decide) (by decide)
set_option maxHeartbeats 4000000 in
set_option maxRecDepth 100000 in
theorem c_X0_init (l : Launch) (G : gG) (A : Nat → Nat → Nat) (su sz pl ru : Int32) (pr : Nat) (h50 : A 50 pl.toNatClampNeg = pr) (h60 : A 60 0 = G.2.2) (h61 : A 61 0 = G.2.2 + 1) (h62 : A 62 0 = G.2.2 + 2) : Met l yX0_init [.code yX0_init cX0_init 6 none] ({ frames := 1, cells := 2, slots := 64, locals := 20 } : Room) (cPc G 0 [.int 0, .int 0, .null, .int 0, .int 0, .null, .null, .int 0, .int 0, .int 0] [.int su, .int sz, .ref pr, .int pl, .int ru]) (cQo G (fun u H => Hp G (A, upc (upc (upc c00 61 1) 62 1) 60 1) u H) (G.2.2 + 3) (fun u => u = sI (sI (sI (sI z00 60 0 0 su) 60 0 1 sz) 60 0 3 pl) 60 0 4 ru)) 2 64 (mA G) := by
  refine c_start (by decide) rfl (Nat.le_of_ble_eq_true rfl) ?_
  intro p e s m below meth c ⟨hx, hb, hr, hml, hown, hK, hlk, hz⟩ hAO hin hz9 hat hS ls hl
  have hl : lv_has ls 6 [(0, .ref G.2.2), (1, .int su), (2, .int sz), (3, .ref pr), (4, .int pl), (5, .int ru)] := hl
  have hN : NO G A c00 z00 G.2.2 0 [.int 0, .int 0, .null, .int 0, .int 0, .null, .null, .int 0, .int 0, .int 0] (G.2.2 + 1) s.heap := NO.st hz9 hat
  refine lv_aload_n hx hb dX0_init_0 rfl (lv_at hl 0 rfl) ?_
  refine n_obj hx hb hown hml hl.1 hK wl_X0_3 ⟨by decide, by decide⟩ (Nat.le_of_ble_eq_true rfl) dX0_init_1 ?_
  refine lv_aload_n hx hb dX0_init_4 rfl (lv_at hl 0 rfl) ?_
  refine lv_bipush (v := nI 60) hx hb dX0_init_5 (by decide) ?_
  refine n_newi hx hb hK hN hS 61 (fun _ _ => rfl) rfl (by decide) (by omega) rfl (by decide) (by decide) (by decide) dX0_init_7 (fun H hN hS => ?_)
  refine n_putF (ty := .array (.int)) hx hb hown hK hN hS rfl 5 (by decide) wf_X0_9 rfl hin rfl (by decide +kernel) rfl rfl (Nat.le_of_ble_eq_true rfl) dX0_init_9 (fun H locs hN hS => ?_)
  have hN : NO G A (upc c00 61 1) z00 G.2.2 0 [.int 0, .int 0, .null, .int 0, .int 0, .ref (A 61 0), .null, .int 0, .int 0, .int 0] (G.2.2 + 1 + 1) H := hN
  refine lv_aload_n hx hb dX0_init_12 rfl (lv_at hl 0 rfl) ?_
  refine lv_iconst (v := nI 4) hx hb dX0_init_13 (by decide) ?_
  refine n_newi hx hb hK hN hS 62 (fun _ _ => rfl) rfl (by decide) (by omega) rfl (by decide) (by decide) (by decide) dX0_init_14 (fun H hN hS => ?_)
  refine n_putF (ty := .array (.int)) hx hb hown hK hN hS rfl 6 (by decide) wf_X0_15 rfl hin rfl (by decide +kernel) rfl rfl (Nat.le_of_ble_eq_true rfl) dX0_init_16 (fun H locs hN hS => ?_)
  have hN : NO G A (upc (upc c00 61 1) 62 1) z00 G.2.2 0 [.int 0, .int 0, .null, .int 0, .int 0, .ref (A 61 0), .ref (A 62 0), .int 0, .int 0, .int 0] (G.2.2 + 1 + 1 + 1) H := hN
  refine lv_aload_n hx hb dX0_init_19 rfl (lv_at hl 0 rfl) ?_
  refine lv_iconst (v := nI 0) hx hb dX0_init_20 (by decide) ?_
  refine n_put (ty := .int) hx hb hown hK hN hS rfl 9 (by decide) wf_X0_18 rfl (by decide +kernel) rfl rfl (Nat.le_of_ble_eq_true rfl) dX0_init_21 (fun H locs hN hS => ?_)
  have hN : NO G A (upc (upc c00 61 1) 62 1) z00 G.2.2 0 [.int 0, .int 0, .null, .int 0, .int 0, .ref (A 61 0), .ref (A 62 0), .int 0, .int 0, .int (nI 0)] (G.2.2 + 1 + 1 + 1) H := hN
  refine lv_aload_n hx hb dX0_init_24 rfl (lv_at hl 0 rfl) ?_
  refine lv_iload_n hx hb dX0_init_25 rfl (lv_at hl 1 rfl) ?_
  refine n_putF (ty := .int) hx hb hown hK hN hS rfl 0 (by decide) wf_X0_22 rfl hin rfl (by decide +kernel) rfl rfl (Nat.le_of_ble_eq_true rfl) dX0_init_26 (fun H locs hN hS => ?_)
  have hN : NO G A (upc (upc c00 61 1) 62 1) z00 G.2.2 0 [.int su, .int 0, .null, .int 0, .int 0, .ref (A 61 0), .ref (A 62 0), .int 0, .int 0, .int (nI 0)] (G.2.2 + 1 + 1 + 1) H := hN
  refine lv_aload_n hx hb dX0_init_29 rfl (lv_at hl 0 rfl) ?_
  refine lv_iload_n hx hb dX0_init_30 rfl (lv_at hl 2 rfl) ?_
  refine n_putF (ty := .int) hx hb hown hK hN hS rfl 1 (by decide) wf_X0_25 rfl hin rfl (by decide +kernel) rfl rfl (Nat.le_of_ble_eq_true rfl) dX0_init_31 (fun H locs hN hS => ?_)
  have hN : NO G A (upc (upc c00 61 1) 62 1) z00 G.2.2 0 [.int su, .int sz, .null, .int 0, .int 0, .ref (A 61 0), .ref (A 62 0), .int 0, .int 0, .int (nI 0)] (G.2.2 + 1 + 1 + 1) H := hN
  refine lv_aload_n hx hb dX0_init_34 rfl (lv_at hl 0 rfl) ?_
  refine lv_aload_n hx hb dX0_init_35 rfl (lv_at hl 3 rfl) ?_
  refine n_putF (ty := .object "SamplingDesk$Plan") hx hb hown hK hN hS rfl 2 (by decide) wf_X0_28 rfl hin rfl (by decide +kernel) rfl rfl (Nat.le_of_ble_eq_true rfl) dX0_init_36 (fun H locs hN hS => ?_)
  have hN : NO G A (upc (upc c00 61 1) 62 1) z00 G.2.2 0 [.int su, .int sz, .ref pr, .int 0, .int 0, .ref (A 61 0), .ref (A 62 0), .int 0, .int 0, .int (nI 0)] (G.2.2 + 1 + 1 + 1) H := hN
  refine lv_aload_n hx hb dX0_init_39 rfl (lv_at hl 0 rfl) ?_
  refine lv_iload hx hb dX0_init_40 (lv_at hl 4 rfl) ?_
  refine n_putF (ty := .int) hx hb hown hK hN hS rfl 3 (by decide) wf_X0_32 rfl hin rfl (by decide +kernel) rfl rfl (Nat.le_of_ble_eq_true rfl) dX0_init_42 (fun H locs hN hS => ?_)
  have hN : NO G A (upc (upc c00 61 1) 62 1) z00 G.2.2 0 [.int su, .int sz, .ref pr, .int pl, .int 0, .ref (A 61 0), .ref (A 62 0), .int 0, .int 0, .int (nI 0)] (G.2.2 + 1 + 1 + 1) H := hN
  refine lv_aload_n hx hb dX0_init_45 rfl (lv_at hl 0 rfl) ?_
  refine lv_iload hx hb dX0_init_46 (lv_at hl 5 rfl) ?_
  refine n_putF (ty := .int) hx hb hown hK hN hS rfl 4 (by decide) wf_X0_35 rfl hin rfl (by decide +kernel) rfl rfl (Nat.le_of_ble_eq_true rfl) dX0_init_48 (fun H locs hN hS => ?_)
  have hN : NO G A (upc (upc c00 61 1) 62 1) z00 G.2.2 0 [.int su, .int sz, .ref pr, .int pl, .int ru, .ref (A 61 0), .ref (A 62 0), .int 0, .int 0, .int (nI 0)] (G.2.2 + 1 + 1 + 1) H := hN
  have hH := hN.fin (k0 := 60) (i0 := 0) (σ' := sI (sI (sI (sI z00 60 0 0 su) 60 0 1 sz) 60 0 3 pl) 60 0 4 ru) rfl rfl (Or.inr (by decide)) h60 (fun k i hi => ?_) ?_
  · exact n_vret hx hb hr hlk hH hN.2.2.1 hS dX0_init_51 rfl (by decide) (by decide)
  · have hk : ¬ (k = 60 ∧ i = 0) := fun q => by rw [q.1] at hi; exact absurd hi (Nat.not_lt_zero i)
    refine ⟨?_, rfl⟩
    funext j
    rw [sI_at, if_neg (fun q => hk ⟨q.1, q.2.1⟩), sI_at, if_neg (fun q => hk ⟨q.1, q.2.1⟩), sI_at, if_neg (fun q => hk ⟨q.1, q.2.1⟩), sI_at, if_neg (fun q => hk ⟨q.1, q.2.1⟩)]
  · rw [← h50]; rfl
