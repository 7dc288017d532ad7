/-! the desk's constructor -/
section NU
variable {p : Program} {l : Launch} {e : Env} {R : Room} {s : State} {m : MethodId} {args : Array Value} {below : List Frame} {meth : Method} {c : Code} {H : Heap} {locs : List Loc} {cells slots : Nat} {Q : State → Prop}
variable {cc : ByteArray} {pc : Nat} {ls : Array Slot} {rest : List Value} {G : gG} {B : gB} {A : Nat → Nat → Nat} {cn : Nat → Nat} {σ : gS} {a ci sz : Nat} {fs : List Value}
theorem n_callN {own host : String} {y : MethodName} {bytes : ByteArray} {maxL nL n index mc ms q : Nat} {rm : Room} {As st0 : List Value} {WP : gS → Heap → Prop} {nq : Nat} {post : gS → Prop} (C0 : p.tables.exec = Jvm.exec ∧ c.code = cc ∧ c.maxLocals = nL ∧ s.vm.findClass own = some m.cls ∧ G.2.2 ≤ s.heap.size) (hK : KI G s) (hAO : AOs s) (hS : va_S (mA G) s.heap H locs) (hz9 : H.size = q + 1) (hGq : G.2.2 ≤ q) (hat : va_at G.1 clsz (q, .inr (ci, fs)) H)
    (hM : Met l y [.code y bytes maxL none] rm (cPc (G.1, G.2.1, q) ci fs As) (cQo (G.1, G.2.1, q) WP nq post) mc ms (mA (G.1, G.2.1, q))) (hw : mWd y bytes maxL none n ∧ Cond.instanceMethod y ∈ lw_tbl) (hyn : y.name = "<init>") (hl : Cond.methodLinkNest own index y host ∈ lw_tbl) (hrc : rm.cells = mc ∧ rm.slots = ms) (hR : rm.frames + 1 ≤ R.frames ∧ 8 + (maxL + 11) + rm.locals ≤ R.locals) (hn : As.length = n) (hsize : ls.size = nL) (hst : st0 = As.reverse ++ .ref q :: rest) (hrest : (rest.map fun v => v.category).sum ≤ 8) (hdg : decode cc pc = .ok (.invokespecial index, 3)) (hf : cells + mc ≤ R.cells ∧ slots + ms ≤ R.slots)
    (kk : ∀ (u : gS) (H1 : Heap) (locs1 : List Loc), post u → WP u H1 → H1.size = nq → q + 1 ≤ nq → (∀ r, r < q → H1[r]? = H[r]?) → va_S (mA G) s.heap H1 locs1 → W p l e R s m args below meth c H1 locs1 (cells + mc) (slots + ms) Q (F0 m (pc + 3) ls rest)) : W p l e R s m args below meth c H locs cells slots Q (F0 m pc ls st0) := by
  obtain ⟨hx, hb, hml, hown, hz⟩ := C0
  have cb := va_cnB (R := R) (args := args) (own := own) (host := host) (index := index) (y := y) (bytes := bytes) (maxL := maxL) (ret := none) (rm := rm) n (m_code (args := args) hK hw.1.1) m_good rfl hrc.1 hrc.2 (hK.2 _ hl rfl #[]) (hK.2 _ hw.1.2.1 rfl args) hw.1.2.2 hR
  refine va_callv (A1 := mA (G.1, G.2.1, q)) (va_runIN (Ts := []) (b := q) (As := As) (rest := rest) ⟨hx, hb, hml, hown, fun w h => by cases h⟩ hM ⟨cb, hyn, hK.2 _ hw.2 rfl args⟩ ⟨cPc.blind, fun U hU hW => ⟨rfl, ⟨hK.warm hW, hAO.moved hW.alike⟩, by rw [hU]; exact hz9, by rw [hU]; exact hat⟩⟩ rfl hn hsize hst (lv_room hrest) hdg hf) hS (fun r _ h => Nat.le_trans hGq h) (fun r h => Nat.le_trans hGq h) (fun u t H1 locs1 ht _ hp hB hz1 hk1 hS1 => ?_)
  subst ht
  exact kk u t.heap locs1 hp hB.1 hB.2 (by rw [← hB.2, ← hz9]; exact hz1) (fun r hr => hk1 r (by omega) (fun z => absurd z (Nat.not_le.mpr hr))) hS1
end NU
def dS (u : gS) : gS := (fun k _ j => bif Nat.beq k 49 && Nat.beq j 3 then nI 1 else 0, fun k i j => bif Nat.beq k 43 then u.2 43 i j else bif Nat.beq k 44 && Nat.beq j 1 then lN 1 else 0)
theorem NO.sub {G : gG} {A : Nat → Nat → Nat} {c' : Nat → Nat} {σ σ' u : gS} {a ci : Nat} {fs : List Value} {sz n : Nat} {H H1 H2 : Heap} (h : NO G A c00 σ a ci fs sz H) (h2 : ∀ r, r < sz → H1[r]? = H[r]?) (hk : ∀ r, r < sz → H2[r]? = H1[r]?) (hW : Hp (G.1, G.2.1, sz) (A, c') u H2) (hz : H2.size = n) (hσ : ∀ k i, i < c' k → σ'.1 k i = u.1 k i ∧ σ'.2 k i = u.2 k i) : NO G A c' σ' a ci fs n H2 := by
  obtain ⟨-, ho, hs, -, haG⟩ := h
  have hlt : a < sz := by rw [← hs]; exact ho.lt
  refine ⟨⟨fun k i hi => ⟨by have := (hW.1 k i hi).1; show G.2.2 ≤ A k i; have this : sz ≤ A k i := this; omega, ?_⟩, hW.2⟩, ho.kept ((hk a hlt).trans (h2 a hlt)), hz, fun k i hi e => ?_, haG⟩
  · rw [(hσ k i hi).1, (hσ k i hi).2]; exact (hW.1 k i hi).2
  · have := (hW.1 k i hi).1
    have this : sz ≤ A k i := this
    omega
def cD : Nat → Nat := upc (upc (upc (upc (upc (upc (upc (upc (upc (upc (upc c00 42 1) 43 61) 41 1) 44 1) 45 1) 49 1) 49 2) 46 1) 47 1) 48 1) 40 1
set_option maxHeartbeats 4000000 in
set_option maxRecDepth 100000 in
theorem c_X6_init (l : Launch) (G : gG) (A : Nat → Nat → Nat) (h40 : A 40 0 = G.2.2) (h41 : A 41 0 = G.2.2 + 1) (h42 : A 42 0 = G.2.2 + 2) (h43 : ∀ j, j < 61 → A 43 j = G.2.2 + 3 + j) (h44 : A 44 0 = G.2.2 + 64) (h45 : A 45 0 = G.2.2 + 65) (h490 : A 49 0 = G.2.2 + 66) (h491 : A 49 1 = G.2.2 + 67) (h46 : A 46 0 = G.2.2 + 68) (h47 : A 47 0 = G.2.2 + 69) (h48 : A 48 0 = G.2.2 + 70) : Met l yX6_init [.code yX6_init cX6_init 1 none] ({ frames := 2, cells := 70, slots := 3889, locals := 42 } : Room) (cPc G 6 [.null, .null, .null, .int 0, .null, .null, .null, .int 0, .null, .int 0, .null] []) (cQo G (fun v H => Hp G (A, cD) v H) (G.2.2 + 71) (fun v => ∃ u, IW u 61 0 ∧ v = dS u)) 70 3889 (mA G) := by
  refine c_start (by decide) rfl (Nat.le_of_ble_eq_true rfl) ?_
  intro p e s m below meth c ⟨hx, hb, hr, hml, hown, hK, hlk, hz⟩ hAO hin hz9 hat hS ls hl
  have hl : lv_has ls 1 [(0, .ref G.2.2)] := hl
  have hN : NO G A c00 z00 G.2.2 6 [.null, .null, .null, .int 0, .null, .null, .null, .int 0, .null, .int 0, .null] (G.2.2 + 1) s.heap := NO.st hz9 hat
  refine lv_aload_n hx hb dX6_init_0 rfl (lv_at hl 0 rfl) ?_
  refine n_obj hx hb hown hml hl.1 hK wl_X6_1 ⟨by decide, by decide⟩ (Nat.le_of_ble_eq_true rfl) dX6_init_1 ?_
  refine lv_aload_n hx hb dX6_init_4 rfl (lv_at hl 0 rfl) ?_
  refine n_new hx hb hown hK hN.2.2.1 hS 5 [.null] rfl tyX5 tyX5_ok wk_X6_7 wn_X5 (by decide) (by decide) (by decide) dX6_init_5 (fun H1 h1 h2 h3 hS => ?_)
  refine lv_dup hx hb dX6_init_8 rfl ?_
  refine n_call ⟨hx, hb, hml, hown, hz⟩ hK hAO hS h1 (by omega) h3 (c_X5_init l (G.1, G.2.1, G.2.2 + 1) A h41 h42 (fun j hj => by have := h43 j hj; show A 43 j = G.2.2 + 1 + 2 + j; omega)) mw_X5_init rfl wl_X6_9 ⟨rfl, rfl⟩ ⟨by decide, by decide⟩ rfl hl.1 rfl (Nat.le_of_ble_eq_true rfl) dX6_init_9 ⟨by decide, by decide⟩ (fun u9 H locs hu hW hz1 hz2 hk hS => ?_)
  have hN := hN.sub (σ' := dS u9) h2 hk hW hz1 (fun k i hi => ?_)
  rotate_left
  · by_cases q43 : k = 43
    · subst q43; exact ⟨by rw [hu.2.2.2.2.1]; rfl, rfl⟩
    · refine ⟨?_, ?_⟩
      · rw [hu.2.2.2.2.1]; funext j; show (bif Nat.beq k 49 && Nat.beq j 3 then nI 1 else 0) = (0 : Int32)
        have : Nat.beq k 49 = false := by
          cases q : Nat.beq k 49 with
          | false => rfl
          | true => rw [Nat.eq_of_beq_eq_true q] at hi; exact absurd hi (Nat.not_lt_zero i)
        rw [this]; rfl
      · funext j
        rw [hu.2.2.2.2.2 k i j q43]
        show (bif Nat.beq k 43 then u9.2 43 i j else bif Nat.beq k 44 && Nat.beq j 1 then lN 1 else 0) = (0 : Int64)
        have e1 : Nat.beq k 43 = false := by
          cases q : Nat.beq k 43 with
          | false => rfl
          | true => exact absurd (Nat.eq_of_beq_eq_true q) q43
        have e2 : Nat.beq k 44 = false := by
          cases q : Nat.beq k 44 with
          | false => rfl
          | true => rw [Nat.eq_of_beq_eq_true q] at hi; exact absurd hi (Nat.not_lt_zero i)
        rw [e1, e2]; rfl
  have hN : NO G A (upc (upc (upc c00 42 1) 43 61) 41 1) (dS u9) G.2.2 6 [.null, .null, .null, .int 0, .null, .null, .null, .int 0, .null, .int 0, .null] (G.2.2 + 64) H := hN
  have hu9 := hu
  refine m_tor (A 41 0) (by omega) ?_
  refine n_putF (ty := .object "SamplingDesk$Ways") hx hb hown hK hN hS rfl 0 (by decide) wf_X6_10 rfl hin rfl (by decide +kernel) rfl rfl (Nat.le_of_ble_eq_true rfl) dX6_init_12 (fun H locs hN hS => ?_)
  have hN : NO G A (upc (upc (upc c00 42 1) 43 61) 41 1) (dS u9) G.2.2 6 [.ref (A 41 0), .null, .null, .int 0, .null, .null, .null, .int 0, .null, .int 0, .null] (G.2.2 + 64) H := hN
  refine lv_aload_n hx hb dX6_init_15 rfl (lv_at hl 0 rfl) ?_
  refine n_new hx hb hown hK hN.2.2.1 hS 1 [.long 0, .long 0] rfl tyX1 tyX1_ok wk_X6_16 wn_X1 (by decide) (by decide) (by decide) dX6_init_16 (fun H1 h1 h2 h3 hS => ?_)
  refine lv_dup hx hb dX6_init_19 rfl ?_
  refine n_callN ⟨hx, hb, hml, hown, hz⟩ hK hAO hS h1 (by omega) h3 (c_X1_init l (G.1, G.2.1, G.2.2 + 64) A) mw_X1_init rfl wl_X6_18 ⟨rfl, rfl⟩ ⟨by decide, by decide⟩ rfl hl.1 rfl (Nat.le_of_ble_eq_true rfl) dX6_init_20 ⟨by decide, by decide⟩ (fun u20 H locs hu hW hz1 hz2 hk hS => ?_)
  have hN := hN.addi (k0 := 44) (i0 := 0) rfl (by decide) (by omega) hz1 (fun r hr => (hk r hr).trans (h2 r hr)) (fun _ _ _ => ⟨rfl, rfl⟩) hW
  have hN : NO G A (upc (upc (upc (upc c00 42 1) 43 61) 41 1) 44 1) (dS u9) G.2.2 6 [.ref (A 41 0), .null, .null, .int 0, .null, .null, .null, .int 0, .null, .int 0, .null] (G.2.2 + 64 + 1) H := hN
  refine m_tor (A 44 0) (by omega) ?_
  refine n_putF (ty := .object "SamplingDesk$Part") hx hb hown hK hN hS rfl 1 (by decide) wf_X6_19 rfl hin rfl (by decide +kernel) rfl rfl (Nat.le_of_ble_eq_true rfl) dX6_init_23 (fun H locs hN hS => ?_)
  have hN : NO G A (upc (upc (upc (upc c00 42 1) 43 61) 41 1) 44 1) (dS u9) G.2.2 6 [.ref (A 41 0), .ref (A 44 0), .null, .int 0, .null, .null, .null, .int 0, .null, .int 0, .null] (G.2.2 + 64 + 1) H := hN
  refine lv_aload_n hx hb dX6_init_26 rfl (lv_at hl 0 rfl) ?_
  refine lv_bipush (v := nI 24) hx hb dX6_init_27 (by decide) ?_
  refine n_newq hx hb hown hK hN hS 3 rfl wk_X6_23 hAO.1 45 (fun _ _ => rfl) rfl (by decide) (by omega) (by decide) (by decide) (by decide) dX6_init_29 (fun H hN hS => ?_)
  refine n_putF (ty := .array (.object "SamplingDesk$Plan")) hx hb hown hK hN hS rfl 2 (by decide) wf_X6_25 rfl hin rfl (by decide +kernel) rfl rfl (Nat.le_of_ble_eq_true rfl) dX6_init_32 (fun H locs hN hS => ?_)
  have hN : NO G A (upc (upc (upc (upc (upc c00 42 1) 43 61) 41 1) 44 1) 45 1) (dS u9) G.2.2 6 [.ref (A 41 0), .ref (A 44 0), .ref (A 45 0), .int 0, .null, .null, .null, .int 0, .null, .int 0, .null] (G.2.2 + 64 + 1 + 1) H := hN
  refine lv_aload_n hx hb dX6_init_35 rfl (lv_at hl 0 rfl) ?_
  refine n_new hx hb hown hK hN.2.2.1 hS 3 [.int 0, .int 0, .int 0, .int 0] rfl tyX3 tyX3_ok wk_X6_29 wn_X3 (by decide) (by decide) (by decide) dX6_init_36 (fun H1 h1 h2 h3 hS => ?_)
  refine lv_dup hx hb dX6_init_39 rfl ?_
  refine n_callN ⟨hx, hb, hml, hown, hz⟩ hK hAO hS h1 (by omega) h3 (c_X3_init l (G.1, G.2.1, G.2.2 + 64 + 1 + 1) A) mw_X3_init rfl wl_X6_31 ⟨rfl, rfl⟩ ⟨by decide, by decide⟩ rfl hl.1 rfl (Nat.le_of_ble_eq_true rfl) dX6_init_40 ⟨by decide, by decide⟩ (fun u40 H locs hu hW hz1 hz2 hk hS => ?_)
  have hN := hN.addi (k0 := 49) (i0 := 0) rfl (by decide) (by omega) hz1 (fun r hr => (hk r hr).trans (h2 r hr)) (fun _ _ _ => ⟨rfl, rfl⟩) hW
  have hN : NO G A (upc (upc (upc (upc (upc (upc c00 42 1) 43 61) 41 1) 44 1) 45 1) 49 1) (dS u9) G.2.2 6 [.ref (A 41 0), .ref (A 44 0), .ref (A 45 0), .int 0, .null, .null, .null, .int 0, .null, .int 0, .null] (G.2.2 + 64 + 1 + 1 + 1) H := hN
  refine m_tor (A 49 0) (by omega) ?_
  refine n_putF (ty := .object "SamplingDesk$Risk") hx hb hown hK hN hS rfl 4 (by decide) wf_X6_32 rfl hin rfl (by decide +kernel) rfl rfl (Nat.le_of_ble_eq_true rfl) dX6_init_43 (fun H locs hN hS => ?_)
  have hN : NO G A (upc (upc (upc (upc (upc (upc c00 42 1) 43 61) 41 1) 44 1) 45 1) 49 1) (dS u9) G.2.2 6 [.ref (A 41 0), .ref (A 44 0), .ref (A 45 0), .int 0, .ref (A 49 0), .null, .null, .int 0, .null, .int 0, .null] (G.2.2 + 64 + 1 + 1 + 1) H := hN
  refine lv_aload_n hx hb dX6_init_46 rfl (lv_at hl 0 rfl) ?_
  refine n_new hx hb hown hK hN.2.2.1 hS 3 [.int 0, .int 0, .int 0, .int 0] rfl tyX3 tyX3_ok wk_X6_29 wn_X3 (by decide) (by decide) (by decide) dX6_init_47 (fun H1 h1 h2 h3 hS => ?_)
  refine lv_dup hx hb dX6_init_50 rfl ?_
  refine n_callN ⟨hx, hb, hml, hown, hz⟩ hK hAO hS h1 (by omega) h3 (c_X3_init l (G.1, G.2.1, G.2.2 + 64 + 1 + 1 + 1) A) mw_X3_init rfl wl_X6_31 ⟨rfl, rfl⟩ ⟨by decide, by decide⟩ rfl hl.1 rfl (Nat.le_of_ble_eq_true rfl) dX6_init_51 ⟨by decide, by decide⟩ (fun u51 H locs hu hW hz1 hz2 hk hS => ?_)
  have hN := hN.addi (k0 := 49) (i0 := 1) rfl (by decide) (by omega) hz1 (fun r hr => (hk r hr).trans (h2 r hr)) (fun _ _ _ => ⟨rfl, rfl⟩) hW
  have hN : NO G A (upc (upc (upc (upc (upc (upc (upc c00 42 1) 43 61) 41 1) 44 1) 45 1) 49 1) 49 2) (dS u9) G.2.2 6 [.ref (A 41 0), .ref (A 44 0), .ref (A 45 0), .int 0, .ref (A 49 0), .null, .null, .int 0, .null, .int 0, .null] (G.2.2 + 64 + 1 + 1 + 1 + 1) H := hN
  refine m_tor (A 49 1) (by omega) ?_
  refine n_putF (ty := .object "SamplingDesk$Risk") hx hb hown hK hN hS rfl 5 (by decide) wf_X6_36 rfl hin rfl (by decide +kernel) rfl rfl (Nat.le_of_ble_eq_true rfl) dX6_init_54 (fun H locs hN hS => ?_)
  have hN : NO G A (upc (upc (upc (upc (upc (upc (upc c00 42 1) 43 61) 41 1) 44 1) 45 1) 49 1) 49 2) (dS u9) G.2.2 6 [.ref (A 41 0), .ref (A 44 0), .ref (A 45 0), .int 0, .ref (A 49 0), .ref (A 49 1), .null, .int 0, .null, .int 0, .null] (G.2.2 + 64 + 1 + 1 + 1 + 1) H := hN
  refine lv_aload_n hx hb dX6_init_57 rfl (lv_at hl 0 rfl) ?_
  refine lv_bipush (v := nI 8) hx hb dX6_init_58 (by decide) ?_
  refine n_newq hx hb hown hK hN hS 4 rfl wk_X6_39 hAO.2.1 46 (fun _ _ => rfl) rfl (by decide) (by omega) (by decide) (by decide) (by decide) dX6_init_60 (fun H hN hS => ?_)
  refine n_putF (ty := .array (.object "SamplingDesk$Supplier")) hx hb hown hK hN hS rfl 6 (by decide) wf_X6_41 rfl hin rfl (by decide +kernel) rfl rfl (Nat.le_of_ble_eq_true rfl) dX6_init_63 (fun H locs hN hS => ?_)
  have hN : NO G A (upc (upc (upc (upc (upc (upc (upc (upc c00 42 1) 43 61) 41 1) 44 1) 45 1) 49 1) 49 2) 46 1) (dS u9) G.2.2 6 [.ref (A 41 0), .ref (A 44 0), .ref (A 45 0), .int 0, .ref (A 49 0), .ref (A 49 1), .ref (A 46 0), .int 0, .null, .int 0, .null] (G.2.2 + 64 + 1 + 1 + 1 + 1 + 1) H := hN
  refine lv_aload_n hx hb dX6_init_66 rfl (lv_at hl 0 rfl) ?_
  refine lv_bipush (v := nI 60) hx hb dX6_init_67 (by decide) ?_
  refine n_newq hx hb hown hK hN hS 5 rfl wk_X6_45 hAO.2.2.1 47 (fun _ _ => rfl) rfl (by decide) (by omega) (by decide) (by decide) (by decide) dX6_init_69 (fun H hN hS => ?_)
  refine n_putF (ty := .array (.object "SamplingDesk$Lot")) hx hb hown hK hN hS rfl 8 (by decide) wf_X6_47 rfl hin rfl (by decide +kernel) rfl rfl (Nat.le_of_ble_eq_true rfl) dX6_init_72 (fun H locs hN hS => ?_)
  have hN : NO G A (upc (upc (upc (upc (upc (upc (upc (upc (upc c00 42 1) 43 61) 41 1) 44 1) 45 1) 49 1) 49 2) 46 1) 47 1) (dS u9) G.2.2 6 [.ref (A 41 0), .ref (A 44 0), .ref (A 45 0), .int 0, .ref (A 49 0), .ref (A 49 1), .ref (A 46 0), .int 0, .ref (A 47 0), .int 0, .null] (G.2.2 + 64 + 1 + 1 + 1 + 1 + 1 + 1) H := hN
  refine lv_aload_n hx hb dX6_init_75 rfl (lv_at hl 0 rfl) ?_
  refine lv_iconst (v := nI 4) hx hb dX6_init_76 (by decide) ?_
  refine n_newi hx hb hK hN hS 48 (fun _ _ => rfl) rfl (by decide) (by omega) rfl (by decide) (by decide) (by decide) dX6_init_77 (fun H hN hS => ?_)
  refine n_putF (ty := .array (.int)) hx hb hown hK hN hS rfl 10 (by decide) wf_X6_51 rfl hin rfl (by decide +kernel) rfl rfl (Nat.le_of_ble_eq_true rfl) dX6_init_79 (fun H locs hN hS => ?_)
  have hN : NO G A (upc (upc (upc (upc (upc (upc (upc (upc (upc (upc c00 42 1) 43 61) 41 1) 44 1) 45 1) 49 1) 49 2) 46 1) 47 1) 48 1) (dS u9) G.2.2 6 [.ref (A 41 0), .ref (A 44 0), .ref (A 45 0), .int 0, .ref (A 49 0), .ref (A 49 1), .ref (A 46 0), .int 0, .ref (A 47 0), .int 0, .ref (A 48 0)] (G.2.2 + 64 + 1 + 1 + 1 + 1 + 1 + 1 + 1) H := hN
  have hH := hN.fin (k0 := 40) (i0 := 0) (σ' := dS u9) rfl rfl (Or.inl (by decide)) h40 (fun _ _ _ => ⟨rfl, rfl⟩) rfl
  exact n_vret hx hb hr hlk hH hN.2.2.1 hS dX6_init_82 ⟨_, hu9, rfl⟩ (by decide) (by decide)
