/-! the start -/
theorem ac_of {ty : FieldType} {args : Array Value} {s : State} (hty : ∀ C, ty ≠ .object C) (h : (Cond.arrayClass ty).before args s = true) : ∃ cA : ClassId, ArrOfT s cA ty ∧ va_RA s cA ty := by
  obtain ⟨cA, k, comp, h1, h2, h3⟩ := Cond.arrayClass_spec h
  refine ⟨cA, fun n z => ⟨fun k h => (by cases h), k, h2, comp, h3⟩, ?_⟩
  unfold va_RA
  split
  · exact absurd rfl (hty _)
  · exact h1
theorem ao_of {C : String} {s : State} (h : va_AO C s) : ∃ cA : ClassId, ArrOfT s cA (.object C) ∧ va_RA s cA (.object C) := by
  obtain ⟨comp, cA, k, h1, h2, h3, h4, h5⟩ := Cond.arrayOver_spec h
  exact ⟨cA, fun n z => ⟨fun k h => (by cases h), k, h3, comp, h4⟩, k, comp, h3, h4, h1, h5⟩
theorem aj_of {s : State} (h : va_AOJ s) : ∃ cA : ClassId, ArrOfT s cA (.array .long) ∧ va_RA s cA (.array .long) := by
  obtain ⟨comp, cA, k, h1, h2, h3, h4, h5⟩ := Jvm.Stand.arrayOver_specB h
  exact ⟨cA, fun n z => ⟨fun k h => (by cases h), k, h3, comp, h4⟩, h5⟩
theorem okw_any {w : Cond} {a a' : Array Value} {s : State} (ho : okw w = true) (h : w.before a s = true) : w.before a' s = true := by
  unfold okw at ho
  rcases Bool.or_eq_true_iff.mp ho with q | q
  · rcases good_of_word q with q1 | ⟨ty, rfl⟩
    · have e := Cond.onTables_vm (A := a) (A' := a') (U := s) (U' := s) s.vm w (Bool.and_eq_true_iff.mp q1).1
      rw [State.setVm_self] at e
      rw [← e]; exact h
    · exact h
  · have e := Cond.onTables_vm (A := a) (A' := a') (U := s) (U' := s) s.vm w (Bool.and_eq_true_iff.mp q).1
    rw [State.setVm_self] at e
    rw [← e]; exact h
def aD (z k i : Nat) : Nat := match k with
  | 40 => z
  | 41 => z + 1
  | 42 => z + 2
  | 43 => z + 3 + i
  | 44 => z + 64
  | 45 => z + 65
  | 49 => z + 66 + i
  | 46 => z + 68
  | 47 => z + 69
  | 48 => z + 70
  | _ => 0
def aA (z : Nat) : Nat → Nat → Nat := fun k i => bif Nat.ble 40 k then aD z k i else z + 71 + aM k
theorem whole_G {args : Array Value} {s : State} (hts : ∀ w ∈ lw_tbl, w.before args s = true) : ∃ G : gG, G.2.2 = s.heap.size ∧ KI G s ∧ AOs s := by
  obtain ⟨c0, i0, n0⟩ := u_known (C := RX0) (T := TX0) (N := 10) (n := 10) hts (fun w hw => (m_uws 0 RX0 TX0 10 rfl w hw).1) (hts _ wn_X0.1)
  obtain ⟨c1, i1, n1⟩ := u_known (C := RX1) (T := TX1) (N := 2) (n := 2) hts (fun w hw => (m_uws 1 RX1 TX1 2 rfl w hw).1) (hts _ wn_X1.1)
  obtain ⟨c2, i2, n2⟩ := u_known (C := RX2) (T := TX2) (N := 7) (n := 7) hts (fun w hw => (m_uws 2 RX2 TX2 7 rfl w hw).1) (hts _ wn_X2.1)
  obtain ⟨c3, i3, n3⟩ := u_known (C := RX3) (T := TX3) (N := 4) (n := 4) hts (fun w hw => (m_uws 3 RX3 TX3 4 rfl w hw).1) (hts _ wn_X3.1)
  obtain ⟨c4, i4, n4⟩ := u_known (C := RX4) (T := TX4) (N := 5) (n := 5) hts (fun w hw => (m_uws 4 RX4 TX4 5 rfl w hw).1) (hts _ wn_X4.1)
  obtain ⟨c5, i5, n5⟩ := u_known (C := RX5) (T := TX5) (N := 1) (n := 1) hts (fun w hw => (m_uws 5 RX5 TX5 1 rfl w hw).1) (hts _ wn_X5.1)
  obtain ⟨c6, i6, n6⟩ := u_known (C := RX6) (T := TX6) (N := 11) (n := 11) hts (fun w hw => (m_uws 6 RX6 TX6 11 rfl w hw).1) (hts _ wn_X6.1)
  obtain ⟨c7, i7, n7⟩ := u_known (C := RX7) (T := TX7) (N := 37) (n := 37) hts (fun w hw => (m_uws 7 RX7 TX7 37 rfl w hw).1) (hts _ wn_X7.1)
  have o3 : va_AO RX2 s := va_AO.of (hts _ wo_3)
  have o4 : va_AO RX4 s := va_AO.of (hts _ wo_4)
  have o5 : va_AO RX0 s := va_AO.of (hts _ wo_5)
  have o6 : va_AOJ s := hts _ wo_l
  obtain ⟨a0, b0⟩ := ac_of (fun C h => by cases h) (hts _ wa_i)
  obtain ⟨a1, b1⟩ := ac_of (fun C h => by cases h) (hts _ wa_l)
  obtain ⟨a2, b2⟩ := ac_of (fun C h => by cases h) (hts _ wa_z)
  obtain ⟨a3, b3⟩ := ao_of o3
  obtain ⟨a4, b4⟩ := ao_of o4
  obtain ⟨a5, b5⟩ := ao_of o5
  obtain ⟨a6, b6⟩ := aj_of o6
  refine ⟨((fun k => if k = 0 then c0 else if k = 1 then c1 else if k = 2 then c2 else if k = 3 then c3 else if k = 4 then c4 else if k = 5 then c5 else if k = 6 then c6 else c7, fun k => if k = 0 then i0 else if k = 1 then i1 else if k = 2 then i2 else if k = 3 then i3 else if k = 4 then i4 else if k = 5 then i5 else if k = 6 then i6 else i7), fun k => if k = 0 then a0 else if k = 1 then a1 else if k = 2 then a2 else if k = 3 then a3 else if k = 4 then a4 else if k = 5 then a5 else a6, s.heap.size), rfl, ⟨⟨fun k q hq => ?_, fun k q hq => ?_⟩, fun w hw ho a => okw_any ho (hts w hw)⟩, o3, o4, o5, o6⟩
  · match k, hq with
    | 0, hq => cases hq; exact n0
    | 1, hq => cases hq; exact n1
    | 2, hq => cases hq; exact n2
    | 3, hq => cases hq; exact n3
    | 4, hq => cases hq; exact n4
    | 5, hq => cases hq; exact n5
    | 6, hq => cases hq; exact n6
    | 7, hq => cases hq; exact n7
    | k + 8, hq => simp [clsz] at hq
  · match k, hq with
    | 0, hq => cases hq; exact b0
    | 1, hq => cases hq; exact b1
    | 2, hq => cases hq; exact b2
    | 3, hq => cases hq; exact b3
    | 4, hq => cases hq; exact b4
    | 5, hq => cases hq; exact b5
    | 6, hq => cases hq; exact b6
    | k + 7, hq => simp [tyz] at hq
set_option maxHeartbeats 4000000 in
set_option maxRecDepth 100000 in
theorem whole_start {p : Program} {e : Env} {s : State} {m : MethodId} {below : List Frame} {meth : Method} {c : Code} (l : Launch) {b L : Nat} {xs : Nat → Int32} (hL : L ≤ 2560) (C0 : lw_At p s m meth c b L xs) : W p l e room_1 s m #[Value.ref b] below meth c s.heap [] 0 0 (lw_Z below #[Value.ref b] s) (entryFrame m ([Value.ref b] : List Value).toArray 4) := by
  obtain ⟨hx, hb, hr, hml, hown, hts, hX, hbl, hlocks, hgv⟩ := id C0
  obtain ⟨G, hG, hK, hAO⟩ := whole_G hts
  have hz : G.2.2 ≤ s.heap.size := Nat.le_of_eq hG
  have hS : va_S (mA G) s.heap s.heap [] := va_S.rf
  have hb : c.code = cL_law := hb
  have hown : s.vm.findClass RL = some m.cls := hown
  obtain ⟨z, hzz⟩ : ∃ z, Array.size s.heap = z := ⟨_, rfl⟩
  have hGz : G.2.2 = z := hG.trans hzz
  have hl := lv_entry ([.ref b]) (n := 4) (Nat.le_of_ble_eq_true rfl)
  rw [lg_entry_eq]
  generalize (lg_sl ([.ref b]) ++ List.replicate (4 - (lg_sl ([.ref b])).length) Slot.unset).toArray = ls at hl ⊢
  have hl : lv_has ls 4 [(0, .ref b)] := hl
  refine n_new hx hb hown hK hzz hS 6 [.null, .null, .null, .int 0, .null, .null, .null, .int 0, .null, .int 0, .null] rfl tyX6 tyX6_ok wk_L_7 wn_X6 (by decide) (by decide) (by decide) dL_law_0 (fun H1 h1 h2 h3 hS => ?_)
  refine lv_dup hx hb dL_law_3 rfl ?_
  refine n_call (q := z) (As := []) ⟨hx, hb, hml, hown, hz⟩ hK hAO hS h1 (by omega) h3 (c_X6_init l (G.1, G.2.1, z) (aA z) rfl rfl rfl (fun _ _ => rfl) rfl rfl rfl rfl rfl rfl rfl) mw_X6_init rfl wl_L_9 ⟨rfl, rfl⟩ ⟨by decide, by decide⟩ rfl hl.1 rfl (Nat.le_of_ble_eq_true rfl) dL_law_4 ⟨by decide, by decide⟩ (fun u H2 locs hu hW hz1 hz2 hk hS => ?_)
  obtain ⟨u0, hu0, rfl⟩ := hu
  refine lv_astore_n (lv' := [(1, .ref z), (0, .ref b)]) hx hb dL_law_7 rfl hl (by decide) rfl (fun ls hl => ?_)
  have hz1 : H2.size = z + 71 := hz1
  refine n_new hx hb hown hK hz1 hS 7 [.int 0, .int 0, .int 0, .null, .null, .null, .null, .long 0, .long 0, .null, .null, .null, .null, .null, .null, .null, .null, .null, .null, .null, .null, .null, .null, .null, .null, .null, .null, .null, .long 0, .long 0, .long 0, .int 0, .int 0, .int 0, .int 0, .null, .null] rfl tyX7 tyX7_ok wk_L_10 wn_X7 (by decide) (by decide) (by decide) dL_law_8 (fun H3 g1 g2 g3 hS => ?_)
  refine lv_dup hx hb dL_law_11 rfl ?_
  refine n_call (q := z + 71) (As := []) ⟨hx, hb, hml, hown, hz⟩ hK hAO hS g1 (by omega) g3 (c_X7_init l (G.1, G.2.1, z + 71) (aA z) (fun k hk => ?_)) mw_X7_init rfl wl_L_12 ⟨rfl, rfl⟩ ⟨by decide, by decide⟩ rfl hl.1 rfl (Nat.le_of_ble_eq_true rfl) dL_law_12 ⟨by decide, by decide⟩ (fun u2 H4 locs hu2 hW2 hy1 hy2 hk2 hS => ?_)
  · have hlt : ∀ k ∈ [0, 3, 4, 5, 6, 9, 10, 11, 12, 13, 14, 15, 16, 17, 18, 19, 20, 21, 22, 23, 24, 25, 26, 27, 35, 36], Nat.ble 40 k = false := by decide
    show (bif Nat.ble 40 k then aD z k 0 else z + 71 + aM k) = _
    rw [hlt k hk]; rfl
  · have hGe : G = (G.1, G.2.1, z) := by rw [← hGz]
    have hW1 : Hp G (aA z, cD) (dS u0) H2 := by rw [hGe]; exact hW
    have hH : Hp G (aA z, cB) (s0 u0 u2) H4 := Hp_init (by omega) hW1 hz1 (fun r hr => (hk2 r hr).trans (g2 r hr)) hW2
    have hI := RI_init (A := aA z) hu0 hu2
    refine lv_astore_n (lv' := [(2, .ref (z + 71)), (1, .ref z), (0, .ref b)]) hx hb dL_law_15 rfl hl (by decide) rfl (fun ls hl => ?_)
    refine lv_iconst (v := nI 0) hx hb dL_law_16 (by decide) ?_
    refine lv_istore_n (lv' := [(3, .int (nI 0)), (2, .ref (z + 71)), (1, .ref z), (0, .ref b)]) hx hb dL_law_17 rfl hl (by decide) rfl (fun ls hl => ?_)
    refine W.widen (k := 200 + 10 * 0) (n := 20000 + 271 * 0) (by decide) (by decide) ?_
    exact law_loop ⟨hx, hb, hml, hown, hz⟩ hG hr hlocks hK hAO hX hbl hL 513 0 (by omega) (by omega) (aA z, cB) (s0 u0 u2) H4 locs hI hH hS ls hl
-- ===== YOUR PART ENDS =====
set_option maxHeartbeats 4000000 in
theorem lw_walk (l : Launch) (b : Addr) (xs : List Int32) : MetFree l x (headSpec (Jvm.Cond.code x code maxLocals ret :: tables_1) room_1) (lw_P b xs) (fun _ _ _ _ _ => True) lw_Q := by
  refine MetFree.of_bodyS (code := code) (maxLocals := maxLocals) (ret := ret) (by decide) ?_ ?_
  · intro args s m h hn
    obtain ⟨meth, c, h1, h2, h3, h4, h5, h6, -, -⟩ := Cond.code_spec hn (atoms_spec (ws := Jvm.Cond.code x code maxLocals ret :: tables_1) h _ List.mem_cons_self)
    exact ⟨meth, c, h1, h2, h3, h4, h5, h6⟩
  · intro p e s m args below meth c s₁ B hml0 hP _
    obtain ⟨rfl, hx, hbd, hgv⟩ := hP
    obtain ⟨scr, harrAt, hlist, hof, hsmall⟩ := hx
    obtain ⟨hcb, hkn, -, -⟩ := State.arrayAt?_spec harrAt
    have hown : s.vm.findClass R_law = some m.cls := findClass_of_methodNamed B.named
    have hts0 : ∀ c ∈ (Jvm.Cond.code x code maxLocals ret :: tables_1), c.before #[Value.ref b] s = true := atoms_spec (ws := Jvm.Cond.code x code maxLocals ret :: tables_1) B.pre
    have hts : ∀ w ∈ lw_tbl, w.before #[Value.ref b] s = true := k2_hts_sels lw_privs (fun w hw => hts0 w (List.mem_cons_of_mem _ hw)) lw_privs_ok
    have hml : c.maxLocals = 4 := B.maxLocals_eq (hts0 _ List.mem_cons_self)
    have X₀ : Stand p l e room_1 s m #[Value.ref b] below meth c s₁ [] 0 0 := Stand.of_body B
    have hh0 : s₁.heap = s.heap := by rw [B.state]; rfl
    have hsz : scr.slots.size = xs.length := by rw [← Array.length_toList, hlist, List.length_map]
    have hval : ∀ j : Nat, j < xs.length → scr.slots[j]? = some (.int (xs.getD j 0)) := fun j hj => by
      rw [← Array.getElem?_toList, hlist]
      simp [hj]
    have hbl : b < s.heap.size := (Array.getElem?_eq_some_iff.mp hcb).1
    have hX : va_X b xs.length (fun j => xs.getD j 0) s s.heap := ⟨scr, hcb, hof, hkn, hsz, hval⟩
    have K : W p l e room_1 s m #[Value.ref b] below meth c s₁.heap [] 0 0 (lw_Z below #[Value.ref b] s) (entryFrame m ([Value.ref b] : List Value).toArray 4) := by
      rw [hh0]
      exact whole_start l hbd ⟨B.exec, B.bytes, B.returns, hml, hown, hts, hX, hbl, B.notSynchronized, hgv⟩
    obtain ⟨t, a1, o, b1, b2, b3⟩ := K s₁ rfl X₀
    exact ⟨t, o, a1, b1, b2, b3⟩
theorem lw_pre_spec {args : Array Value} {s : State} (h : (Jvm.Cond.and given_1 narrow_1).before args s = true) (hr : rest_1_c.before args s = true) : ∃ (b : Addr) (xs : List Int32), lw_P b xs args s := by
  have hs := flat_of_before _ h
  have hq := flat_of_before _ hr
  have hc : (Cond.count 1).before args s = true := hs _ (by decide +kernel)
  have harr : (Cond.arrayOf (.arg 0) .int).before args s = true := hs _ (by decide +kernel)
  have hle : (Cond.le (.length (.arg 0)) (.int 2560)).before args s = true := hs _ (by decide +kernel)
  have hlen : (Cond.isInt (.length (.arg 0))).before args s = true := hq _ (by decide +kernel)
  have hall : (Cond.all (.arg 0) (.isInt (.elem (.arg 0) (.index 0)))).before args s = true := hq _ (by decide +kernel)
  obtain ⟨b, xs, hb, hx⟩ := State.ints_of_pre rfl harr hlen hall
  have hsm : xs.length < 2 ^ 31 := hx.choose_spec.2.2.2
  have hev : (Term.length (.arg 0)).eval args s none [] s = some (.int xs.length.toInt32) := hx.length_eval hb
  have hv := Cond.le_ints hev (show (Term.int 2560).eval args s none [] s = some (.int 2560) from rfl)
  have hd : xs.length.toInt32 ≤ 2560 := by
    simpa [Cond.before, Cond.holds, hv] using hle
  have hN : xs.length ≤ 2560 := (Int32.ofNat_le_ofNat hsm (by decide)).mp (show Int32.ofNat xs.length ≤ Int32.ofNat 2560 from hd)
  exact ⟨b, xs, Cond.one_arg hc (show args[0]? = some (.ref b) from hb), hx, hN, h⟩
theorem lw_comes (l : Launch) : Comes l x (Jvm.Cond.code x code maxLocals ret :: tables_1) room_1 (fun tb e args s => Calls_1 tb e args s ∧ rest_1 tb e args s ∧ Pre_1 tb e args s)
    (fun _ _ args s o t => lw_Q args s o t) := by
  intro p e ha hc hk s m args below hf hfit hheap happ hpre
  obtain ⟨b, xs, hP⟩ := lw_pre_spec hpre.2.2 hpre.2.1
  obtain ⟨k, o, h1, h2, h3, hQ⟩ := lw_walk l b xs p e ha hc hk s m args below hf ((Spec.applies_iff_loose hf).mp happ).1 hP trivial
  exact ⟨k, o, h1, h2, h3, hQ⟩
theorem lw_frame {s t : State} {o : Outcome} {args : Array Value} (h : Framed s o t [] 600000 7302250) :
    Framed s o t (fieldLocs frame_1_writes args s ++ arrayLocs frame_1_arrays args s ++ staticLocs frame_1_statics s) 600000 7302250 := h
theorem lw_limb (L : Cond) (hL : ∀ (args : Array Value) (s t : State), L.after args s (.returned (some (.int 1))) t = true) :
    ArmFor flags0 classFile x code maxLocals ret World_1 tables_1 room_1 Calls_1 rest_1 Pre_1
      (fun tb e a s o t => postC L tb e a s o t ∧ Framed s o t (fieldLocs frame_1_writes a s ++ arrayLocs frame_1_arrays a s ++ staticLocs frame_1_statics s) 600000 7302250) := by
  intro l _ _ _ p e ha hc hk s m args below hf hfit hheap happ hpre
  obtain ⟨k, o, h1, h2, h3, rfl, hF⟩ := lw_comes l p e ha hc hk s m args below hf hfit hheap happ hpre
  exact ⟨k, _, h1, h2, h3, hL args s _, lw_frame hF⟩
theorem i_vc : Claimed_1_1 ∧ Claimed_1_2 := ⟨lw_limb limb_1_1 (fun args s t => by simp [limb_1_1, Cond.after, Cond.holds, Cond.value]), lw_limb limb_1_2 (fun args s t => Cond.after_iff.mpr (by
  first | (rw [show limb_1_2 = Cond.eq .result (.int 1) from rfl, Cond.eq_ints (x := 1) (y := 1) rfl rfl]; simp; done) | (simp [limb_1_2, Cond.value, Term.eval]; done)))⟩
