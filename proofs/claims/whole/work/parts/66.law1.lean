/-! THE CLAIM OUT OF ONE WALK OF THE LAW'S BODY. Your part is whole_start (and what it stands on); all else here is the same for every law, but numbers. -/
def R_law : String := "SamplingDeskLaw"
def lw_P (b : Addr) (xs : List Int32) (args : Array Value) (s : State) : Prop := args = #[.ref b] ∧ s.IntsAt b xs ∧ xs.length ≤ 2560 ∧ (Jvm.Cond.and given_1 narrow_1).before args s = true
def lw_Q (_ : Array Value) (s : State) (o : Outcome) (t : State) : Prop := o = .returned (some (.int 1)) ∧ Framed s o t [] 600000 7302250
def lw_Z (below : List Frame) (a : Array Value) (s : State) : State → Prop := fun t => ∃ o, t.status = .running ∧ Ended t below o ∧ lw_Q a s o t
/-- the law's own end, with 1 on the stack, nothing written that was there before, its room as the claim has it -/
theorem lw_ret {p : Program} {l : Launch} {e : Env} {s : State} {m : MethodId} {below : List Frame} {meth : Method} {c : Code} {b : Nat} (hx : p.tables.exec = Jvm.exec) (hb : c.code = code) (hr : meth.sig.returnType = ret) (hlocks : meth.locks = false) {pc : Nat} {H : Heap} {ls : Array Slot} (hdg : decode code pc = .ok (.ireturn, 1)) : W p l e room_1 s m #[Value.ref b] below meth c H [] 600000 7302250 (lw_Z below #[Value.ref b] s) (F0 m pc ls [.int 1]) := by
  intro T hT X
  obtain ⟨fs, hret, hrun, hended, hW, hframe⟩ := X.leave (v := some (.int 1)) (hlocks := hlocks) (fun h => by rw [hr] at h; cases h)
  have hmeth' : T.vm.method? m = some meth := X.method'
  refine ⟨T.setFrames fs, ?_, .returned (some (.int 1)), hrun, hended, rfl, ⟨_, rfl⟩, hW, hframe⟩
  jvm_step X.here [X.here.top, hx, hb, hdg, hmeth', hr, ret, narrow_b1]
  (try refine ⟨rfl, ?_⟩); (try refine ⟨rfl, ?_⟩)
  first | (intro acts; rw [hret _ acts rfl rfl rfl]) | rw [hret _ _ rfl rfl rfl]
  exact Steps.refl _
/-- what holds at the law's entry: the machine, the code, the tables' words (any of lw_tbl by 'hts w (by decide +kernel)'), the script of L ints xs at the cell b, what the Statement gives of the start (any of its parts by flat_of_before) -/
def lw_At (p : Program) (s : State) (m : MethodId) (meth : Method) (c : Code) (b L : Nat) (xs : Nat → Int32) : Prop :=
  p.tables.exec = Jvm.exec ∧ c.code = code ∧ meth.sig.returnType = ret ∧ c.maxLocals = 4 ∧ s.vm.findClass R_law = some m.cls ∧ (∀ w ∈ lw_tbl, w.before #[Value.ref b] s = true) ∧ va_X b L xs s s.heap ∧ b < s.heap.size ∧ meth.locks = false ∧ (Jvm.Cond.and given_1 narrow_1).before #[Value.ref b] s = true
theorem RI.h60 {B : gB} {σ : gS} (h : RI B σ) : ∀ i, i < B.2 60 → (σ.1 60 i 3).toNatClampNeg < nP σ := fun i hi => by
  rw [h.D.2.2.2.2.2] at hi
  have h1 := (h.L.2.2 i hi).2.2.2.2.2.1
  have h24 := h.P.2.1
  rw [(h.lr hi).2.2.1, nI_clamp (by omega)]; exact h1
section LAWC
variable {p : Program} {l : Launch} {e : Env} {R : Room} {s : State} {m : MethodId} {args : Array Value} {below : List Frame} {meth : Method} {c : Code} {H : Heap} {locs : List Loc} {cells slots : Nat} {Q : State → Prop}
variable {cc : ByteArray} {pc : Nat} {ls : Array Slot} {rest : List Value} {G : gG} {B : gB} {σ : gS}
theorem l_sld (hx : p.tables.exec = Jvm.exec) (hb : c.code = cc) {b L i : Nat} {xs : Nat → Int32} (hX : va_X b L xs s s.heap) (hbl : b < s.heap.size) (hbA : ¬ mA G b) (hS : va_S (mA G) s.heap H locs) (hin : i < L) (hL : L ≤ 2560) (hdg : decode cc pc = .ok (.iaload, 1))
    (kk : W p l e R s m args below meth c H locs cells slots Q (F0 m (pc + 1) ls (.int (xs i) :: rest))) : W p l e R s m args below meth c H locs cells slots Q (F0 m pc ls (.int (nI i) :: .ref b :: rest)) := by
  refine va_sld hx hb hX hbl hbA hS (vp_in_nI hin (by omega)) hdg ?_
  rw [nI_clamp (by omega)]; exact kk
theorem o_call {own : String} {y : MethodName} {bytes : ByteArray} {maxL nL n index mc ms k i ci : Nat} {ret : Option FieldType} {rm : Room} {As st0 : List Value} {T : u_T} {N : Nat} {fs : List Value} {post : Int32 → gB × gS → Prop} (C0 : p.tables.exec = Jvm.exec ∧ c.code = cc ∧ c.maxLocals = nL ∧ s.vm.findClass own = some m.cls ∧ G.2.2 ≤ s.heap.size) (hK : KI G s) (hAO : AOs s) (hH : Hp G B σ H) (hS : va_S (mA G) s.heap H locs) (hi : i < B.2 k) (hlay : lay G B k i (σ.1 k i) (σ.2 k i) = .inr (ci, fs)) (hc : clsz[ci]? = some (y.cls, T, N))
    (hM : Met l y [.code y bytes maxL ret] rm (oPc G B σ (.ref (B.1 k i) :: As)) (oQ G post) mc ms (mA G)) (hw : mWv y bytes maxL ret n) (hl : Cond.methodLink own index y ∈ lw_tbl) (hrc : rm.cells = mc ∧ rm.slots = ms) (hR : rm.frames + 1 ≤ R.frames ∧ 8 + (maxL + 11) + rm.locals ≤ R.locals) (hn : As.length = n) (hsize : ls.size = nL) (hst : st0 = As.reverse ++ .ref (B.1 k i) :: rest) (hrest : (rest.map fun v => v.category).sum ≤ 8) (hdg : decode cc pc = .ok (.invokevirtual index, 3)) (hf : cells + mc ≤ R.cells ∧ slots + ms ≤ R.slots)
    (kk : ∀ (r : Int32) (u : gB × gS) (H1 : Heap) (locs1 : List Loc), post r u → Hp G u.1 u.2 H1 → va_S (mA G) s.heap H1 locs1 → W p l e R s m args below meth c H1 locs1 (cells + mc) (slots + ms) Q (F0 m (pc + 3) ls (.int r :: rest))) : W p l e R s m args below meth c H locs cells slots Q (F0 m pc ls st0) := by
  obtain ⟨hx, hb, hml, hown, hz⟩ := C0
  have cb := m_cb (args := args) (index := index) (own := own) (rm := rm) (R := R) hK hw.1 hl hR
  rw [hrc.1, hrc.2] at cb
  exact va_calli (va_runV (Ts := []) (C := y.cls) ⟨hx, hb, hml, hown, fun w h => by cases h⟩ hM ⟨cb, hK.2 _ hw.2.1 rfl args, hK.2 _ hw.2.2 rfl args⟩ ⟨oPc.blind, m_recv hK hH hi hlay hc, fun U hU hW => ⟨rfl, ⟨hK.warm hW, hAO.moved hW.alike⟩, by rw [hU]; exact Nat.le_trans hz hS.1, by rw [hU]; exact hH⟩⟩ rfl hn hsize hst (lv_room hrest) hdg hf) hS (fun _ _ h => h) (fun _ h => h) (fun r u t H1 locs1 ht _ hp hB _ _ hS1 => kk r u H1 locs1 hp (ht ▸ hB) hS1)
end LAWC
set_option maxHeartbeats 1000000 in
theorem law_0 {p : Program} {l : Launch} {e : Env} {s : State} {m : MethodId} {args : Array Value} {below : List Frame} {meth : Method} {c : Code} {H : Heap} {locs : List Loc} {cells slots : Nat} {Q : State → Prop} {ls : Array Slot} {G : gG} {B : gB} {σ : gS} {b L i : Nat} {xs : Nat → Int32} (C0 : p.tables.exec = Jvm.exec ∧ c.code = cL_law ∧ c.maxLocals = 4 ∧ s.vm.findClass RL = some m.cls ∧ G.2.2 ≤ s.heap.size) (hK : KI G s) (hAO : AOs s) (hX : va_X b L xs s s.heap) (hbl : b < s.heap.size) (hbA : ¬ mA G b) (hL : L ≤ 2560) (hi : i + 4 < L) (hI : RI B σ) (hH : Hp G B σ H) (hS : va_S (mA G) s.heap H locs) (hc1 : cells + 10 ≤ room_1.cells) (hc2 : slots + 271 ≤ room_1.slots) (hl : lv_has ls 4 [(3, .int (nI i)), (2, .ref (B.1 0 0)), (1, .ref (B.1 40 0)), (0, .ref b)])
    (kont : ∀ (B1 : gB) (σ1 : gS) (H1 : Heap) (locs1 : List Loc), RI B1 σ1 → (B1.1 40 0 = B.1 40 0 ∧ B1.1 0 0 = B.1 0 0) → Hp G B1 σ1 H1 → va_S (mA G) s.heap H1 locs1 → W p l e room_1 s m args below meth c H1 locs1 (cells + 10) (slots + 271) Q (F0 m 967 ls [])) : W p l e room_1 s m args below meth c H locs cells slots Q (F0 m 148 ls []) := by
  obtain ⟨hx, hb, hml, hown, hz⟩ := id C0
  refine lv_aload_n hx hb dL_law_148 rfl (lv_at hl 2 rfl) ?_
  refine o_call (k := 40) (i := 0) (ci := 6) C0 hK hAO hH hS (bc hI.C 40) rfl rfl (c_X6_plan l G B σ hI.C hI.D hI.P.2.1 hI.h60) mw_X6_plan wl_L_13 ⟨rfl, rfl⟩ ⟨by decide, by decide⟩ rfl hl.1 rfl (Nat.le_of_ble_eq_true rfl) dL_law_149 ⟨by omega, by omega⟩ (fun r1 u H locs hp hH hS => ?_)
  obtain ⟨⟨hW1, hM1⟩, ⟨hb40, hb0⟩, hst⟩ := st_plan hI hp
  refine lv_aload_n hx hb dL_law_152 rfl (lv_at hl 1 rfl) ?_
  refine m_tor (u.1.1 0 0) hb0.symm ?_
  refine m_ki (m_runV (k := 0) (i := 0) (ci := 7) C0 hK hH hS (bm hM1 0) rfl rfl (c_X7_plan l G u.1 u.2 hM1 hW1) mw_X7_plan wl_L_17 ⟨rfl, rfl⟩ ⟨by decide, by decide⟩ rfl hl.1 rfl (Nat.le_of_ble_eq_true rfl) dL_law_153 ⟨by omega, by omega⟩) hS (fun r2 τ2 H locs hp2 hH hS => ?_)
  obtain ⟨h1, h2⟩ := hst r2 τ2 hp2
  refine lv_icmp_eq (tgt := 967) hx hb dL_law_156 (by decide) (fun _ => ?_) (fun c1 => absurd h1 c1)
  exact W.widen (by omega) (by omega) (kont u.1 τ2 H locs h2 ⟨hb40, hb0⟩ hH hS)
set_option maxHeartbeats 1000000 in
theorem law_1 {p : Program} {l : Launch} {e : Env} {s : State} {m : MethodId} {args : Array Value} {below : List Frame} {meth : Method} {c : Code} {H : Heap} {locs : List Loc} {cells slots : Nat} {Q : State → Prop} {ls : Array Slot} {G : gG} {B : gB} {σ : gS} {b L i : Nat} {xs : Nat → Int32} (C0 : p.tables.exec = Jvm.exec ∧ c.code = cL_law ∧ c.maxLocals = 4 ∧ s.vm.findClass RL = some m.cls ∧ G.2.2 ≤ s.heap.size) (hK : KI G s) (hAO : AOs s) (hX : va_X b L xs s s.heap) (hbl : b < s.heap.size) (hbA : ¬ mA G b) (hL : L ≤ 2560) (hi : i + 4 < L) (hI : RI B σ) (hH : Hp G B σ H) (hS : va_S (mA G) s.heap H locs) (hc1 : cells + 10 ≤ room_1.cells) (hc2 : slots + 271 ≤ room_1.slots) (hl : lv_has ls 4 [(3, .int (nI i)), (2, .ref (B.1 0 0)), (1, .ref (B.1 40 0)), (0, .ref b)])
    (kont : ∀ (B1 : gB) (σ1 : gS) (H1 : Heap) (locs1 : List Loc), RI B1 σ1 → (B1.1 40 0 = B.1 40 0 ∧ B1.1 0 0 = B.1 0 0) → Hp G B1 σ1 H1 → va_S (mA G) s.heap H1 locs1 → W p l e room_1 s m args below meth c H1 locs1 (cells + 10) (slots + 271) Q (F0 m 967 ls [])) : W p l e room_1 s m args below meth c H locs cells slots Q (F0 m 161 ls []) := by
  obtain ⟨hx, hb, hml, hown, hz⟩ := id C0
  refine lv_aload_n hx hb dL_law_161 rfl (lv_at hl 2 rfl) ?_
  refine lv_aload_n hx hb dL_law_162 rfl (lv_at hl 3 rfl) ?_
  refine lv_iload_n hx hb dL_law_163 rfl (lv_at hl 0 rfl) ?_
  refine lv_iconst (v := nI 1) hx hb dL_law_164 (by decide) ?_
  refine m_iaddN hx hb dL_law_165 ?_
  refine l_sld hx hb hX hbl hbA hS (by omega) hL dL_law_166 ?_
  refine lv_aload_n hx hb dL_law_167 rfl (lv_at hl 3 rfl) ?_
  refine lv_iload_n hx hb dL_law_168 rfl (lv_at hl 0 rfl) ?_
  refine lv_iconst (v := nI 2) hx hb dL_law_169 (by decide) ?_
  refine m_iaddN hx hb dL_law_170 ?_
  refine l_sld hx hb hX hbl hbA hS (by omega) hL dL_law_171 ?_
  refine lv_aload_n hx hb dL_law_172 rfl (lv_at hl 3 rfl) ?_
  refine lv_iload_n hx hb dL_law_173 rfl (lv_at hl 0 rfl) ?_
  refine lv_iconst (v := nI 3) hx hb dL_law_174 (by decide) ?_
  refine m_iaddN hx hb dL_law_175 ?_
  refine l_sld hx hb hX hbl hbA hS (by omega) hL dL_law_176 ?_
  refine lv_aload_n hx hb dL_law_177 rfl (lv_at hl 3 rfl) ?_
  refine lv_iload_n hx hb dL_law_178 rfl (lv_at hl 0 rfl) ?_
  refine lv_iconst (v := nI 4) hx hb dL_law_179 (by decide) ?_
  refine m_iaddN hx hb dL_law_180 ?_
  refine l_sld hx hb hX hbl hbA hS (by omega) hL dL_law_181 ?_
  refine m_ki (m_runV (k := 40) (i := 0) (ci := 6) C0 hK hH hS (bc hI.C 40) rfl rfl (c_X6_stage l G B σ hI (xs (i + 1)) (xs (i + 2)) (xs (i + 3)) (xs (i + 4))) mw_X6_stage wl_L_18 ⟨rfl, rfl⟩ ⟨by decide, by decide⟩ rfl hl.1 rfl (Nat.le_of_ble_eq_true rfl) dL_law_182 ⟨by omega, by omega⟩) hS (fun r1 τ1 H locs hp hH hS => ?_)
  obtain ⟨hW1, hst⟩ := st_stage hI hp
  refine lv_aload_n hx hb dL_law_185 rfl (lv_at hl 1 rfl) ?_
  refine lv_aload_n hx hb dL_law_186 rfl (lv_at hl 3 rfl) ?_
  refine lv_iload_n hx hb dL_law_187 rfl (lv_at hl 0 rfl) ?_
  refine lv_iconst (v := nI 1) hx hb dL_law_188 (by decide) ?_
  refine m_iaddN hx hb dL_law_189 ?_
  refine l_sld hx hb hX hbl hbA hS (by omega) hL dL_law_190 ?_
  refine lv_aload_n hx hb dL_law_191 rfl (lv_at hl 3 rfl) ?_
  refine lv_iload_n hx hb dL_law_192 rfl (lv_at hl 0 rfl) ?_
  refine lv_iconst (v := nI 2) hx hb dL_law_193 (by decide) ?_
  refine m_iaddN hx hb dL_law_194 ?_
  refine l_sld hx hb hX hbl hbA hS (by omega) hL dL_law_195 ?_
  refine lv_aload_n hx hb dL_law_196 rfl (lv_at hl 3 rfl) ?_
  refine lv_iload_n hx hb dL_law_197 rfl (lv_at hl 0 rfl) ?_
  refine lv_iconst (v := nI 3) hx hb dL_law_198 (by decide) ?_
  refine m_iaddN hx hb dL_law_199 ?_
  refine l_sld hx hb hX hbl hbA hS (by omega) hL dL_law_200 ?_
  refine lv_aload_n hx hb dL_law_201 rfl (lv_at hl 3 rfl) ?_
  refine lv_iload_n hx hb dL_law_202 rfl (lv_at hl 0 rfl) ?_
  refine lv_iconst (v := nI 4) hx hb dL_law_203 (by decide) ?_
  refine m_iaddN hx hb dL_law_204 ?_
  refine l_sld hx hb hX hbl hbA hS (by omega) hL dL_law_205 ?_
  refine m_ki (m_runV (k := 0) (i := 0) (ci := 7) C0 hK hH hS (bm hI.M 0) rfl rfl (c_X7_stage2 l G B τ1 hI.M hW1 (xs (i + 1)) (xs (i + 2)) (xs (i + 3)) (xs (i + 4))) mw_X7_stage wl_L_22 ⟨rfl, rfl⟩ ⟨by decide, by decide⟩ rfl hl.1 rfl (Nat.le_of_ble_eq_true rfl) dL_law_206 ⟨by omega, by omega⟩) hS (fun r2 τ2 H locs hp2 hH hS => ?_)
  obtain ⟨h1, h2⟩ := hst r2 τ2 hp2
  refine lv_icmp_eq (tgt := 967) hx hb dL_law_209 (by decide) (fun _ => ?_) (fun c1 => absurd h1 c1)
  exact W.widen (by omega) (by omega) (kont B τ2 H locs h2 ⟨rfl, rfl⟩ hH hS)
set_option maxHeartbeats 1000000 in
theorem law_2 {p : Program} {l : Launch} {e : Env} {s : State} {m : MethodId} {args : Array Value} {below : List Frame} {meth : Method} {c : Code} {H : Heap} {locs : List Loc} {cells slots : Nat} {Q : State → Prop} {ls : Array Slot} {G : gG} {B : gB} {σ : gS} {b L i : Nat} {xs : Nat → Int32} (C0 : p.tables.exec = Jvm.exec ∧ c.code = cL_law ∧ c.maxLocals = 4 ∧ s.vm.findClass RL = some m.cls ∧ G.2.2 ≤ s.heap.size) (hK : KI G s) (hAO : AOs s) (hX : va_X b L xs s s.heap) (hbl : b < s.heap.size) (hbA : ¬ mA G b) (hL : L ≤ 2560) (hi : i + 4 < L) (hI : RI B σ) (hH : Hp G B σ H) (hS : va_S (mA G) s.heap H locs) (hc1 : cells + 10 ≤ room_1.cells) (hc2 : slots + 271 ≤ room_1.slots) (hl : lv_has ls 4 [(3, .int (nI i)), (2, .ref (B.1 0 0)), (1, .ref (B.1 40 0)), (0, .ref b)])
    (kont : ∀ (B1 : gB) (σ1 : gS) (H1 : Heap) (locs1 : List Loc), RI B1 σ1 → (B1.1 40 0 = B.1 40 0 ∧ B1.1 0 0 = B.1 0 0) → Hp G B1 σ1 H1 → va_S (mA G) s.heap H1 locs1 → W p l e room_1 s m args below meth c H1 locs1 (cells + 10) (slots + 271) Q (F0 m 967 ls [])) : W p l e room_1 s m args below meth c H locs cells slots Q (F0 m 214 ls []) := by
  obtain ⟨hx, hb, hml, hown, hz⟩ := id C0
  refine lv_aload_n hx hb dL_law_214 rfl (lv_at hl 2 rfl) ?_
  refine lv_aload_n hx hb dL_law_215 rfl (lv_at hl 3 rfl) ?_
  refine lv_iload_n hx hb dL_law_216 rfl (lv_at hl 0 rfl) ?_
  refine lv_iconst (v := nI 1) hx hb dL_law_217 (by decide) ?_
  refine m_iaddN hx hb dL_law_218 ?_
  refine l_sld hx hb hX hbl hbA hS (by omega) hL dL_law_219 ?_
  refine lv_aload_n hx hb dL_law_220 rfl (lv_at hl 3 rfl) ?_
  refine lv_iload_n hx hb dL_law_221 rfl (lv_at hl 0 rfl) ?_
  refine lv_iconst (v := nI 2) hx hb dL_law_222 (by decide) ?_
  refine m_iaddN hx hb dL_law_223 ?_
  refine l_sld hx hb hX hbl hbA hS (by omega) hL dL_law_224 ?_
  refine lv_aload_n hx hb dL_law_225 rfl (lv_at hl 3 rfl) ?_
  refine lv_iload_n hx hb dL_law_226 rfl (lv_at hl 0 rfl) ?_
  refine lv_iconst (v := nI 3) hx hb dL_law_227 (by decide) ?_
  refine m_iaddN hx hb dL_law_228 ?_
  refine l_sld hx hb hX hbl hbA hS (by omega) hL dL_law_229 ?_
  refine m_ki (m_runV (k := 40) (i := 0) (ci := 6) C0 hK hH hS (bc hI.C 40) rfl rfl (c_X6_of l G B σ hI (xs (i + 1)) (xs (i + 2)) (xs (i + 3))) mw_X6_of wl_L_23 ⟨rfl, rfl⟩ ⟨by decide, by decide⟩ rfl hl.1 rfl (Nat.le_of_ble_eq_true rfl) dL_law_230 ⟨by omega, by omega⟩) hS (fun r1 τ1 H locs hp hH hS => ?_)
  obtain ⟨hr1, hs1⟩ := hp
  rw [hs1] at hH
  refine lv_aload_n hx hb dL_law_233 rfl (lv_at hl 1 rfl) ?_
  refine lv_aload_n hx hb dL_law_234 rfl (lv_at hl 3 rfl) ?_
  refine lv_iload_n hx hb dL_law_235 rfl (lv_at hl 0 rfl) ?_
  refine lv_iconst (v := nI 1) hx hb dL_law_236 (by decide) ?_
  refine m_iaddN hx hb dL_law_237 ?_
  refine l_sld hx hb hX hbl hbA hS (by omega) hL dL_law_238 ?_
  refine lv_aload_n hx hb dL_law_239 rfl (lv_at hl 3 rfl) ?_
  refine lv_iload_n hx hb dL_law_240 rfl (lv_at hl 0 rfl) ?_
  refine lv_iconst (v := nI 2) hx hb dL_law_241 (by decide) ?_
  refine m_iaddN hx hb dL_law_242 ?_
  refine l_sld hx hb hX hbl hbA hS (by omega) hL dL_law_243 ?_
  refine lv_aload_n hx hb dL_law_244 rfl (lv_at hl 3 rfl) ?_
  refine lv_iload_n hx hb dL_law_245 rfl (lv_at hl 0 rfl) ?_
  refine lv_iconst (v := nI 3) hx hb dL_law_246 (by decide) ?_
  refine m_iaddN hx hb dL_law_247 ?_
  refine l_sld hx hb hX hbl hbA hS (by omega) hL dL_law_248 ?_
  refine m_ki (m_runV (k := 0) (i := 0) (ci := 7) C0 hK hH hS (bm hI.M 0) rfl rfl (c_X7_of l G B σ hI.M hI.P (xs (i + 1)) (xs (i + 2)) (xs (i + 3))) mw_X7_of wl_L_27 ⟨rfl, rfl⟩ ⟨by decide, by decide⟩ rfl hl.1 rfl (Nat.le_of_ble_eq_true rfl) dL_law_249 ⟨by omega, by omega⟩) hS (fun r2 τ2 H locs hp2 hH hS => ?_)
  have h1 : r1 = r2 := hr1.trans hp2.1.symm
  have h2 : RI B τ2 := by rw [hp2.2]; exact hI
  refine lv_icmp_eq (tgt := 967) hx hb dL_law_252 (by decide) (fun _ => ?_) (fun c1 => absurd h1 c1)
  exact W.widen (by omega) (by omega) (kont B τ2 H locs h2 ⟨rfl, rfl⟩ hH hS)
set_option maxHeartbeats 1000000 in
theorem law_3 {p : Program} {l : Launch} {e : Env} {s : State} {m : MethodId} {args : Array Value} {below : List Frame} {meth : Method} {c : Code} {H : Heap} {locs : List Loc} {cells slots : Nat} {Q : State → Prop} {ls : Array Slot} {G : gG} {B : gB} {σ : gS} {b L i : Nat} {xs : Nat → Int32} (C0 : p.tables.exec = Jvm.exec ∧ c.code = cL_law ∧ c.maxLocals = 4 ∧ s.vm.findClass RL = some m.cls ∧ G.2.2 ≤ s.heap.size) (hK : KI G s) (hAO : AOs s) (hX : va_X b L xs s s.heap) (hbl : b < s.heap.size) (hbA : ¬ mA G b) (hL : L ≤ 2560) (hi : i + 4 < L) (hI : RI B σ) (hH : Hp G B σ H) (hS : va_S (mA G) s.heap H locs) (hc1 : cells + 10 ≤ room_1.cells) (hc2 : slots + 271 ≤ room_1.slots) (hl : lv_has ls 4 [(3, .int (nI i)), (2, .ref (B.1 0 0)), (1, .ref (B.1 40 0)), (0, .ref b)])
    (kont : ∀ (B1 : gB) (σ1 : gS) (H1 : Heap) (locs1 : List Loc), RI B1 σ1 → (B1.1 40 0 = B.1 40 0 ∧ B1.1 0 0 = B.1 0 0) → Hp G B1 σ1 H1 → va_S (mA G) s.heap H1 locs1 → W p l e room_1 s m args below meth c H1 locs1 (cells + 10) (slots + 271) Q (F0 m 967 ls [])) : W p l e room_1 s m args below meth c H locs cells slots Q (F0 m 257 ls []) := by
  obtain ⟨hx, hb, hml, hown, hz⟩ := id C0
  refine lv_aload_n hx hb dL_law_257 rfl (lv_at hl 2 rfl) ?_
  refine lv_aload_n hx hb dL_law_258 rfl (lv_at hl 3 rfl) ?_
  refine lv_iload_n hx hb dL_law_259 rfl (lv_at hl 0 rfl) ?_
  refine lv_iconst (v := nI 1) hx hb dL_law_260 (by decide) ?_
  refine m_iaddN hx hb dL_law_261 ?_
  refine l_sld hx hb hX hbl hbA hS (by omega) hL dL_law_262 ?_
  refine lv_aload_n hx hb dL_law_263 rfl (lv_at hl 3 rfl) ?_
  refine lv_iload_n hx hb dL_law_264 rfl (lv_at hl 0 rfl) ?_
  refine lv_iconst (v := nI 2) hx hb dL_law_265 (by decide) ?_
  refine m_iaddN hx hb dL_law_266 ?_
  refine l_sld hx hb hX hbl hbA hS (by omega) hL dL_law_267 ?_
  refine lv_aload_n hx hb dL_law_268 rfl (lv_at hl 3 rfl) ?_
  refine lv_iload_n hx hb dL_law_269 rfl (lv_at hl 0 rfl) ?_
  refine lv_iconst (v := nI 3) hx hb dL_law_270 (by decide) ?_
  refine m_iaddN hx hb dL_law_271 ?_
  refine l_sld hx hb hX hbl hbA hS (by omega) hL dL_law_272 ?_
  refine lv_aload_n hx hb dL_law_273 rfl (lv_at hl 3 rfl) ?_
  refine lv_iload_n hx hb dL_law_274 rfl (lv_at hl 0 rfl) ?_
  refine lv_iconst (v := nI 4) hx hb dL_law_275 (by decide) ?_
  refine m_iaddN hx hb dL_law_276 ?_
  refine l_sld hx hb hX hbl hbA hS (by omega) hL dL_law_277 ?_
  refine m_ki (m_runV (k := 40) (i := 0) (ci := 6) C0 hK hH hS (bc hI.C 40) rfl rfl (c_X6_part l G B σ hI (SO_of hI.P) (xs (i + 1)) (xs (i + 2)) (xs (i + 3)) (xs (i + 4))) mw_X6_part wl_L_28 ⟨rfl, rfl⟩ ⟨by decide, by decide⟩ rfl hl.1 rfl (Nat.le_of_ble_eq_true rfl) dL_law_278 ⟨by omega, by omega⟩) hS (fun r1 τ1 H locs hp hH hS => ?_)
  obtain ⟨hMI, hst⟩ := st_part hI hp
  refine lv_aload_n hx hb dL_law_281 rfl (lv_at hl 1 rfl) ?_
  refine lv_aload_n hx hb dL_law_282 rfl (lv_at hl 3 rfl) ?_
  refine lv_iload_n hx hb dL_law_283 rfl (lv_at hl 0 rfl) ?_
  refine lv_iconst (v := nI 1) hx hb dL_law_284 (by decide) ?_
  refine m_iaddN hx hb dL_law_285 ?_
  refine l_sld hx hb hX hbl hbA hS (by omega) hL dL_law_286 ?_
  refine lv_aload_n hx hb dL_law_287 rfl (lv_at hl 3 rfl) ?_
  refine lv_iload_n hx hb dL_law_288 rfl (lv_at hl 0 rfl) ?_
  refine lv_iconst (v := nI 2) hx hb dL_law_289 (by decide) ?_
  refine m_iaddN hx hb dL_law_290 ?_
  refine l_sld hx hb hX hbl hbA hS (by omega) hL dL_law_291 ?_
  refine lv_aload_n hx hb dL_law_292 rfl (lv_at hl 3 rfl) ?_
  refine lv_iload_n hx hb dL_law_293 rfl (lv_at hl 0 rfl) ?_
  refine lv_iconst (v := nI 3) hx hb dL_law_294 (by decide) ?_
  refine m_iaddN hx hb dL_law_295 ?_
  refine l_sld hx hb hX hbl hbA hS (by omega) hL dL_law_296 ?_
  refine lv_aload_n hx hb dL_law_297 rfl (lv_at hl 3 rfl) ?_
  refine lv_iload_n hx hb dL_law_298 rfl (lv_at hl 0 rfl) ?_
  refine lv_iconst (v := nI 4) hx hb dL_law_299 (by decide) ?_
  refine m_iaddN hx hb dL_law_300 ?_
  refine l_sld hx hb hX hbl hbA hS (by omega) hL dL_law_301 ?_
  refine m_ki (m_runV (k := 0) (i := 0) (ci := 7) C0 hK hH hS (bm hI.M 0) rfl rfl (c_X7_part l G B τ1 hI.M hMI.1 hMI.2.1 (hbd_of hMI.1) (xs (i + 1)) (xs (i + 2)) (xs (i + 3)) (xs (i + 4))) mw_X7_part wl_L_31 ⟨rfl, rfl⟩ ⟨by decide, by decide⟩ rfl hl.1 rfl (Nat.le_of_ble_eq_true rfl) dL_law_302 ⟨by omega, by omega⟩) hS (fun r2 τ2 H locs hp2 hH hS => ?_)
  obtain ⟨h1, h2⟩ := hst r2 τ2 hp2
  refine lv_icmp_eq (tgt := 967) hx hb dL_law_305 (by decide) (fun _ => ?_) (fun c1 => absurd h1 c1)
  exact W.widen (by omega) (by omega) (kont B τ2 H locs h2 ⟨rfl, rfl⟩ hH hS)
set_option maxHeartbeats 1000000 in
theorem law_4 {p : Program} {l : Launch} {e : Env} {s : State} {m : MethodId} {args : Array Value} {below : List Frame} {meth : Method} {c : Code} {H : Heap} {locs : List Loc} {cells slots : Nat} {Q : State → Prop} {ls : Array Slot} {G : gG} {B : gB} {σ : gS} {b L i : Nat} {xs : Nat → Int32} (C0 : p.tables.exec = Jvm.exec ∧ c.code = cL_law ∧ c.maxLocals = 4 ∧ s.vm.findClass RL = some m.cls ∧ G.2.2 ≤ s.heap.size) (hK : KI G s) (hAO : AOs s) (hX : va_X b L xs s s.heap) (hbl : b < s.heap.size) (hbA : ¬ mA G b) (hL : L ≤ 2560) (hi : i + 4 < L) (hI : RI B σ) (hH : Hp G B σ H) (hS : va_S (mA G) s.heap H locs) (hc1 : cells + 10 ≤ room_1.cells) (hc2 : slots + 271 ≤ room_1.slots) (hl : lv_has ls 4 [(3, .int (nI i)), (2, .ref (B.1 0 0)), (1, .ref (B.1 40 0)), (0, .ref b)])
    (kont : ∀ (B1 : gB) (σ1 : gS) (H1 : Heap) (locs1 : List Loc), RI B1 σ1 → (B1.1 40 0 = B.1 40 0 ∧ B1.1 0 0 = B.1 0 0) → Hp G B1 σ1 H1 → va_S (mA G) s.heap H1 locs1 → W p l e room_1 s m args below meth c H1 locs1 (cells + 10) (slots + 271) Q (F0 m 967 ls [])) : W p l e room_1 s m args below meth c H locs cells slots Q (F0 m 310 ls []) := by
  obtain ⟨hx, hb, hml, hown, hz⟩ := id C0
  obtain ⟨u, d, q1, q2⟩ := hI.q
  refine lv_aload_n hx hb dL_law_310 rfl (lv_at hl 2 rfl) ?_
  refine m_kl (m_runV (k := 40) (i := 0) (ci := 6) C0 hK hH hS (bc hI.C 40) rfl rfl (c_X6_up l G B σ hI) mw_X6_up wl_L_32 ⟨rfl, rfl⟩ ⟨by decide, by decide⟩ rfl hl.1 rfl (Nat.le_of_ble_eq_true rfl) dL_law_311 ⟨by omega, by omega⟩) hS (fun r1 τ1 H locs hp hH hS => ?_)
  obtain ⟨hr1, hs1⟩ := hp
  rw [hs1] at hH
  refine lv_aload_n hx hb dL_law_314 rfl (lv_at hl 1 rfl) ?_
  refine m_kl (m_runV (k := 0) (i := 0) (ci := 7) C0 hK hH hS (bm hI.M 0) rfl rfl (c_X7_up l G B σ hI.M) mw_X7_up wl_L_36 ⟨rfl, rfl⟩ ⟨by decide, by decide⟩ rfl hl.1 rfl (Nat.le_of_ble_eq_true rfl) dL_law_315 ⟨by omega, by omega⟩) hS (fun r2 τ2 H locs hp2 hH hS => ?_)
  have h1 : r1 = r2 := hr1.trans (q2.1.trans (q1.1.symm.trans hp2.1.symm))
  have h2 : RI B τ2 := by rw [hp2.2]; exact hI
  refine m_lc_eq (tgt := 967) hx hb dL_law_318 dL_law_319 (by decide) (fun _ => ?_) (fun c1 => absurd h1 c1)
  exact W.widen (by omega) (by omega) (kont B τ2 H locs h2 ⟨rfl, rfl⟩ hH hS)
set_option maxHeartbeats 1000000 in
theorem law_5 {p : Program} {l : Launch} {e : Env} {s : State} {m : MethodId} {args : Array Value} {below : List Frame} {meth : Method} {c : Code} {H : Heap} {locs : List Loc} {cells slots : Nat} {Q : State → Prop} {ls : Array Slot} {G : gG} {B : gB} {σ : gS} {b L i : Nat} {xs : Nat → Int32} (C0 : p.tables.exec = Jvm.exec ∧ c.code = cL_law ∧ c.maxLocals = 4 ∧ s.vm.findClass RL = some m.cls ∧ G.2.2 ≤ s.heap.size) (hK : KI G s) (hAO : AOs s) (hX : va_X b L xs s s.heap) (hbl : b < s.heap.size) (hbA : ¬ mA G b) (hL : L ≤ 2560) (hi : i + 4 < L) (hI : RI B σ) (hH : Hp G B σ H) (hS : va_S (mA G) s.heap H locs) (hc1 : cells + 10 ≤ room_1.cells) (hc2 : slots + 271 ≤ room_1.slots) (hl : lv_has ls 4 [(3, .int (nI i)), (2, .ref (B.1 0 0)), (1, .ref (B.1 40 0)), (0, .ref b)])
    (kont : ∀ (B1 : gB) (σ1 : gS) (H1 : Heap) (locs1 : List Loc), RI B1 σ1 → (B1.1 40 0 = B.1 40 0 ∧ B1.1 0 0 = B.1 0 0) → Hp G B1 σ1 H1 → va_S (mA G) s.heap H1 locs1 → W p l e room_1 s m args below meth c H1 locs1 (cells + 10) (slots + 271) Q (F0 m 967 ls [])) : W p l e room_1 s m args below meth c H locs cells slots Q (F0 m 324 ls []) := by
  obtain ⟨hx, hb, hml, hown, hz⟩ := id C0
  obtain ⟨u, d, q1, q2⟩ := hI.q
  refine lv_aload_n hx hb dL_law_324 rfl (lv_at hl 2 rfl) ?_
  refine m_kl (m_runV (k := 40) (i := 0) (ci := 6) C0 hK hH hS (bc hI.C 40) rfl rfl (c_X6_down l G B σ hI) mw_X6_down wl_L_37 ⟨rfl, rfl⟩ ⟨by decide, by decide⟩ rfl hl.1 rfl (Nat.le_of_ble_eq_true rfl) dL_law_325 ⟨by omega, by omega⟩) hS (fun r1 τ1 H locs hp hH hS => ?_)
  obtain ⟨hr1, hs1⟩ := hp
  rw [hs1] at hH
  refine lv_aload_n hx hb dL_law_328 rfl (lv_at hl 1 rfl) ?_
  refine m_kl (m_runV (k := 0) (i := 0) (ci := 7) C0 hK hH hS (bm hI.M 0) rfl rfl (c_X7_down l G B σ hI.M) mw_X7_down wl_L_40 ⟨rfl, rfl⟩ ⟨by decide, by decide⟩ rfl hl.1 rfl (Nat.le_of_ble_eq_true rfl) dL_law_329 ⟨by omega, by omega⟩) hS (fun r2 τ2 H locs hp2 hH hS => ?_)
  have h1 : r1 = r2 := hr1.trans (q2.2.1.trans (q1.2.1.symm.trans hp2.1.symm))
  have h2 : RI B τ2 := by rw [hp2.2]; exact hI
  refine m_lc_eq (tgt := 967) hx hb dL_law_332 dL_law_333 (by decide) (fun _ => ?_) (fun c1 => absurd h1 c1)
  exact W.widen (by omega) (by omega) (kont B τ2 H locs h2 ⟨rfl, rfl⟩ hH hS)
set_option maxHeartbeats 1000000 in
theorem law_6 {p : Program} {l : Launch} {e : Env} {s : State} {m : MethodId} {args : Array Value} {below : List Frame} {meth : Method} {c : Code} {H : Heap} {locs : List Loc} {cells slots : Nat} {Q : State → Prop} {ls : Array Slot} {G : gG} {B : gB} {σ : gS} {b L i : Nat} {xs : Nat → Int32} (C0 : p.tables.exec = Jvm.exec ∧ c.code = cL_law ∧ c.maxLocals = 4 ∧ s.vm.findClass RL = some m.cls ∧ G.2.2 ≤ s.heap.size) (hK : KI G s) (hAO : AOs s) (hX : va_X b L xs s s.heap) (hbl : b < s.heap.size) (hbA : ¬ mA G b) (hL : L ≤ 2560) (hi : i + 4 < L) (hI : RI B σ) (hH : Hp G B σ H) (hS : va_S (mA G) s.heap H locs) (hc1 : cells + 10 ≤ room_1.cells) (hc2 : slots + 271 ≤ room_1.slots) (hl : lv_has ls 4 [(3, .int (nI i)), (2, .ref (B.1 0 0)), (1, .ref (B.1 40 0)), (0, .ref b)])
    (kont : ∀ (B1 : gB) (σ1 : gS) (H1 : Heap) (locs1 : List Loc), RI B1 σ1 → (B1.1 40 0 = B.1 40 0 ∧ B1.1 0 0 = B.1 0 0) → Hp G B1 σ1 H1 → va_S (mA G) s.heap H1 locs1 → W p l e room_1 s m args below meth c H1 locs1 (cells + 10) (slots + 271) Q (F0 m 967 ls [])) : W p l e room_1 s m args below meth c H locs cells slots Q (F0 m 338 ls []) := by
  obtain ⟨hx, hb, hml, hown, hz⟩ := id C0
  obtain ⟨u, d, q1, q2⟩ := hI.q
  refine lv_aload_n hx hb dL_law_338 rfl (lv_at hl 2 rfl) ?_
  refine lv_aload_n hx hb dL_law_339 rfl (lv_at hl 3 rfl) ?_
  refine lv_iload_n hx hb dL_law_340 rfl (lv_at hl 0 rfl) ?_
  refine lv_iconst (v := nI 1) hx hb dL_law_341 (by decide) ?_
  refine m_iaddN hx hb dL_law_342 ?_
  refine l_sld hx hb hX hbl hbA hS (by omega) hL dL_law_343 ?_
  refine m_kl (m_runV (k := 40) (i := 0) (ci := 6) C0 hK hH hS (bc hI.C 40) rfl rfl (c_X6_rounded l G B σ hI (xs (i + 1)) u d q2) mw_X6_rounded wl_L_41 ⟨rfl, rfl⟩ ⟨by decide, by decide⟩ rfl hl.1 rfl (Nat.le_of_ble_eq_true rfl) dL_law_344 ⟨by omega, by omega⟩) hS (fun r1 τ1 H locs hp hH hS => ?_)
  obtain ⟨hr1, hs1⟩ := hp
  rw [hs1] at hH
  refine lv_aload_n hx hb dL_law_347 rfl (lv_at hl 1 rfl) ?_
  refine lv_aload_n hx hb dL_law_348 rfl (lv_at hl 3 rfl) ?_
  refine lv_iload_n hx hb dL_law_349 rfl (lv_at hl 0 rfl) ?_
  refine lv_iconst (v := nI 1) hx hb dL_law_350 (by decide) ?_
  refine m_iaddN hx hb dL_law_351 ?_
  refine l_sld hx hb hX hbl hbA hS (by omega) hL dL_law_352 ?_
  refine m_kl (m_runV (k := 0) (i := 0) (ci := 7) C0 hK hH hS (bm hI.M 0) rfl rfl (c_X7_rounded l G B σ hI.M (xs (i + 1)) u d q1) mw_X7_rounded wl_L_45 ⟨rfl, rfl⟩ ⟨by decide, by decide⟩ rfl hl.1 rfl (Nat.le_of_ble_eq_true rfl) dL_law_353 ⟨by omega, by omega⟩) hS (fun r2 τ2 H locs hp2 hH hS => ?_)
  have h1 : r1 = r2 := hr1.trans hp2.1.symm
  have h2 : RI B τ2 := by rw [hp2.2]; exact hI
  refine m_lc_eq (tgt := 967) hx hb dL_law_356 dL_law_357 (by decide) (fun _ => ?_) (fun c1 => absurd h1 c1)
  exact W.widen (by omega) (by omega) (kont B τ2 H locs h2 ⟨rfl, rfl⟩ hH hS)
set_option maxHeartbeats 1000000 in
theorem law_7 {p : Program} {l : Launch} {e : Env} {s : State} {m : MethodId} {args : Array Value} {below : List Frame} {meth : Method} {c : Code} {H : Heap} {locs : List Loc} {cells slots : Nat} {Q : State → Prop} {ls : Array Slot} {G : gG} {B : gB} {σ : gS} {b L i : Nat} {xs : Nat → Int32} (C0 : p.tables.exec = Jvm.exec ∧ c.code = cL_law ∧ c.maxLocals = 4 ∧ s.vm.findClass RL = some m.cls ∧ G.2.2 ≤ s.heap.size) (hK : KI G s) (hAO : AOs s) (hX : va_X b L xs s s.heap) (hbl : b < s.heap.size) (hbA : ¬ mA G b) (hL : L ≤ 2560) (hi : i + 4 < L) (hI : RI B σ) (hH : Hp G B σ H) (hS : va_S (mA G) s.heap H locs) (hc1 : cells + 10 ≤ room_1.cells) (hc2 : slots + 271 ≤ room_1.slots) (hl : lv_has ls 4 [(3, .int (nI i)), (2, .ref (B.1 0 0)), (1, .ref (B.1 40 0)), (0, .ref b)])
    (kont : ∀ (B1 : gB) (σ1 : gS) (H1 : Heap) (locs1 : List Loc), RI B1 σ1 → (B1.1 40 0 = B.1 40 0 ∧ B1.1 0 0 = B.1 0 0) → Hp G B1 σ1 H1 → va_S (mA G) s.heap H1 locs1 → W p l e room_1 s m args below meth c H1 locs1 (cells + 10) (slots + 271) Q (F0 m 967 ls [])) : W p l e room_1 s m args below meth c H locs cells slots Q (F0 m 362 ls []) := by
  obtain ⟨hx, hb, hml, hown, hz⟩ := id C0
  refine lv_aload_n hx hb dL_law_362 rfl (lv_at hl 2 rfl) ?_
  refine lv_aload_n hx hb dL_law_363 rfl (lv_at hl 3 rfl) ?_
  refine lv_iload_n hx hb dL_law_364 rfl (lv_at hl 0 rfl) ?_
  refine lv_iconst (v := nI 1) hx hb dL_law_365 (by decide) ?_
  refine m_iaddN hx hb dL_law_366 ?_
  refine l_sld hx hb hX hbl hbA hS (by omega) hL dL_law_367 ?_
  refine lv_aload_n hx hb dL_law_368 rfl (lv_at hl 3 rfl) ?_
  refine lv_iload_n hx hb dL_law_369 rfl (lv_at hl 0 rfl) ?_
  refine lv_iconst (v := nI 2) hx hb dL_law_370 (by decide) ?_
  refine m_iaddN hx hb dL_law_371 ?_
  refine l_sld hx hb hX hbl hbA hS (by omega) hL dL_law_372 ?_
  refine lv_aload_n hx hb dL_law_373 rfl (lv_at hl 3 rfl) ?_
  refine lv_iload_n hx hb dL_law_374 rfl (lv_at hl 0 rfl) ?_
  refine lv_iconst (v := nI 3) hx hb dL_law_375 (by decide) ?_
  refine m_iaddN hx hb dL_law_376 ?_
  refine l_sld hx hb hX hbl hbA hS (by omega) hL dL_law_377 ?_
  refine lv_aload_n hx hb dL_law_378 rfl (lv_at hl 3 rfl) ?_
  refine lv_iload_n hx hb dL_law_379 rfl (lv_at hl 0 rfl) ?_
  refine lv_iconst (v := nI 4) hx hb dL_law_380 (by decide) ?_
  refine m_iaddN hx hb dL_law_381 ?_
  refine l_sld hx hb hX hbl hbA hS (by omega) hL dL_law_382 ?_
  refine m_ki (m_runV (k := 40) (i := 0) (ci := 6) C0 hK hH hS (bc hI.C 40) rfl rfl (c_X6_compare l G B σ hI (SO_of hI.P) (xs (i + 1)) (xs (i + 2)) (xs (i + 3)) (xs (i + 4))) mw_X6_compare wl_L_46 ⟨rfl, rfl⟩ ⟨by decide, by decide⟩ rfl hl.1 rfl (Nat.le_of_ble_eq_true rfl) dL_law_383 ⟨by omega, by omega⟩) hS (fun r1 τ1 H locs hp hH hS => ?_)
  obtain ⟨hs1, hst⟩ := st_compare hI hp
  rw [hs1] at hH
  refine lv_aload_n hx hb dL_law_386 rfl (lv_at hl 1 rfl) ?_
  refine lv_aload_n hx hb dL_law_387 rfl (lv_at hl 3 rfl) ?_
  refine lv_iload_n hx hb dL_law_388 rfl (lv_at hl 0 rfl) ?_
  refine lv_iconst (v := nI 1) hx hb dL_law_389 (by decide) ?_
  refine m_iaddN hx hb dL_law_390 ?_
  refine l_sld hx hb hX hbl hbA hS (by omega) hL dL_law_391 ?_
  refine lv_aload_n hx hb dL_law_392 rfl (lv_at hl 3 rfl) ?_
  refine lv_iload_n hx hb dL_law_393 rfl (lv_at hl 0 rfl) ?_
  refine lv_iconst (v := nI 2) hx hb dL_law_394 (by decide) ?_
  refine m_iaddN hx hb dL_law_395 ?_
  refine l_sld hx hb hX hbl hbA hS (by omega) hL dL_law_396 ?_
  refine lv_aload_n hx hb dL_law_397 rfl (lv_at hl 3 rfl) ?_
  refine lv_iload_n hx hb dL_law_398 rfl (lv_at hl 0 rfl) ?_
  refine lv_iconst (v := nI 3) hx hb dL_law_399 (by decide) ?_
  refine m_iaddN hx hb dL_law_400 ?_
  refine l_sld hx hb hX hbl hbA hS (by omega) hL dL_law_401 ?_
  refine lv_aload_n hx hb dL_law_402 rfl (lv_at hl 3 rfl) ?_
  refine lv_iload_n hx hb dL_law_403 rfl (lv_at hl 0 rfl) ?_
  refine lv_iconst (v := nI 4) hx hb dL_law_404 (by decide) ?_
  refine m_iaddN hx hb dL_law_405 ?_
  refine l_sld hx hb hX hbl hbA hS (by omega) hL dL_law_406 ?_
  refine m_ki (m_runV (k := 0) (i := 0) (ci := 7) C0 hK hH hS (bm hI.M 0) rfl rfl (c_X7_compare l G B σ hI.M hI.P hI.Ch (xs (i + 1)) (xs (i + 2)) (xs (i + 3)) (xs (i + 4))) mw_X7_compare wl_L_49 ⟨rfl, rfl⟩ ⟨by decide, by decide⟩ rfl hl.1 rfl (Nat.le_of_ble_eq_true rfl) dL_law_407 ⟨by omega, by omega⟩) hS (fun r2 τ2 H locs hp2 hH hS => ?_)
  obtain ⟨h1, h2⟩ := hst r2 τ2 hp2
  refine lv_icmp_eq (tgt := 967) hx hb dL_law_410 (by decide) (fun _ => ?_) (fun c1 => absurd h1 c1)
  exact W.widen (by omega) (by omega) (kont B τ2 H locs h2 ⟨rfl, rfl⟩ hH hS)
set_option maxHeartbeats 1000000 in
theorem law_8 {p : Program} {l : Launch} {e : Env} {s : State} {m : MethodId} {args : Array Value} {below : List Frame} {meth : Method} {c : Code} {H : Heap} {locs : List Loc} {cells slots : Nat} {Q : State → Prop} {ls : Array Slot} {G : gG} {B : gB} {σ : gS} {b L i : Nat} {xs : Nat → Int32} (C0 : p.tables.exec = Jvm.exec ∧ c.code = cL_law ∧ c.maxLocals = 4 ∧ s.vm.findClass RL = some m.cls ∧ G.2.2 ≤ s.heap.size) (hK : KI G s) (hAO : AOs s) (hX : va_X b L xs s s.heap) (hbl : b < s.heap.size) (hbA : ¬ mA G b) (hL : L ≤ 2560) (hi : i + 4 < L) (hI : RI B σ) (hH : Hp G B σ H) (hS : va_S (mA G) s.heap H locs) (hc1 : cells + 10 ≤ room_1.cells) (hc2 : slots + 271 ≤ room_1.slots) (hl : lv_has ls 4 [(3, .int (nI i)), (2, .ref (B.1 0 0)), (1, .ref (B.1 40 0)), (0, .ref b)])
    (kont : ∀ (B1 : gB) (σ1 : gS) (H1 : Heap) (locs1 : List Loc), RI B1 σ1 → (B1.1 40 0 = B.1 40 0 ∧ B1.1 0 0 = B.1 0 0) → Hp G B1 σ1 H1 → va_S (mA G) s.heap H1 locs1 → W p l e room_1 s m args below meth c H1 locs1 (cells + 10) (slots + 271) Q (F0 m 967 ls [])) : W p l e room_1 s m args below meth c H locs cells slots Q (F0 m 415 ls []) := by
  obtain ⟨hx, hb, hml, hown, hz⟩ := id C0
  refine lv_aload_n hx hb dL_law_415 rfl (lv_at hl 2 rfl) ?_
  refine lv_aload_n hx hb dL_law_416 rfl (lv_at hl 3 rfl) ?_
  refine lv_iload_n hx hb dL_law_417 rfl (lv_at hl 0 rfl) ?_
  refine lv_iconst (v := nI 1) hx hb dL_law_418 (by decide) ?_
  refine m_iaddN hx hb dL_law_419 ?_
  refine l_sld hx hb hX hbl hbA hS (by omega) hL dL_law_420 ?_
  refine lv_aload_n hx hb dL_law_421 rfl (lv_at hl 3 rfl) ?_
  refine lv_iload_n hx hb dL_law_422 rfl (lv_at hl 0 rfl) ?_
  refine lv_iconst (v := nI 2) hx hb dL_law_423 (by decide) ?_
  refine m_iaddN hx hb dL_law_424 ?_
  refine l_sld hx hb hX hbl hbA hS (by omega) hL dL_law_425 ?_
  refine lv_aload_n hx hb dL_law_426 rfl (lv_at hl 3 rfl) ?_
  refine lv_iload_n hx hb dL_law_427 rfl (lv_at hl 0 rfl) ?_
  refine lv_iconst (v := nI 3) hx hb dL_law_428 (by decide) ?_
  refine m_iaddN hx hb dL_law_429 ?_
  refine l_sld hx hb hX hbl hbA hS (by omega) hL dL_law_430 ?_
  refine lv_aload_n hx hb dL_law_431 rfl (lv_at hl 3 rfl) ?_
  refine lv_iload_n hx hb dL_law_432 rfl (lv_at hl 0 rfl) ?_
  refine lv_iconst (v := nI 4) hx hb dL_law_433 (by decide) ?_
  refine m_iaddN hx hb dL_law_434 ?_
  refine l_sld hx hb hX hbl hbA hS (by omega) hL dL_law_435 ?_
  refine m_ki (m_runV (k := 40) (i := 0) (ci := 6) C0 hK hH hS (bc hI.C 40) rfl rfl (c_X6_crossing l G B σ hI (SO_of hI.P) (xs (i + 1)) (xs (i + 2)) (xs (i + 3)) (xs (i + 4))) mw_X6_crossing wl_L_50 ⟨rfl, rfl⟩ ⟨by decide, by decide⟩ rfl hl.1 rfl (Nat.le_of_ble_eq_true rfl) dL_law_436 ⟨by omega, by omega⟩) hS (fun r1 τ1 H locs hp hH hS => ?_)
  obtain ⟨hs1, hst⟩ := st_crossing hI hp
  rw [hs1] at hH
  refine lv_aload_n hx hb dL_law_439 rfl (lv_at hl 1 rfl) ?_
  refine lv_aload_n hx hb dL_law_440 rfl (lv_at hl 3 rfl) ?_
  refine lv_iload_n hx hb dL_law_441 rfl (lv_at hl 0 rfl) ?_
  refine lv_iconst (v := nI 1) hx hb dL_law_442 (by decide) ?_
  refine m_iaddN hx hb dL_law_443 ?_
  refine l_sld hx hb hX hbl hbA hS (by omega) hL dL_law_444 ?_
  refine lv_aload_n hx hb dL_law_445 rfl (lv_at hl 3 rfl) ?_
  refine lv_iload_n hx hb dL_law_446 rfl (lv_at hl 0 rfl) ?_
  refine lv_iconst (v := nI 2) hx hb dL_law_447 (by decide) ?_
  refine m_iaddN hx hb dL_law_448 ?_
  refine l_sld hx hb hX hbl hbA hS (by omega) hL dL_law_449 ?_
  refine lv_aload_n hx hb dL_law_450 rfl (lv_at hl 3 rfl) ?_
  refine lv_iload_n hx hb dL_law_451 rfl (lv_at hl 0 rfl) ?_
  refine lv_iconst (v := nI 3) hx hb dL_law_452 (by decide) ?_
  refine m_iaddN hx hb dL_law_453 ?_
  refine l_sld hx hb hX hbl hbA hS (by omega) hL dL_law_454 ?_
  refine lv_aload_n hx hb dL_law_455 rfl (lv_at hl 3 rfl) ?_
  refine lv_iload_n hx hb dL_law_456 rfl (lv_at hl 0 rfl) ?_
  refine lv_iconst (v := nI 4) hx hb dL_law_457 (by decide) ?_
  refine m_iaddN hx hb dL_law_458 ?_
  refine l_sld hx hb hX hbl hbA hS (by omega) hL dL_law_459 ?_
  refine m_ki (m_runV (k := 0) (i := 0) (ci := 7) C0 hK hH hS (bm hI.M 0) rfl rfl (c_X7_crossing2 l G B σ hI.M hI.P hI.Ch (xs (i + 1)) (xs (i + 2)) (xs (i + 3)) (xs (i + 4))) mw_X7_crossing wl_L_53 ⟨rfl, rfl⟩ ⟨by decide, by decide⟩ rfl hl.1 rfl (Nat.le_of_ble_eq_true rfl) dL_law_460 ⟨by omega, by omega⟩) hS (fun r2 τ2 H locs hp2 hH hS => ?_)
  obtain ⟨h1, h2⟩ := hst r2 τ2 hp2
  refine lv_icmp_eq (tgt := 967) hx hb dL_law_463 (by decide) (fun _ => ?_) (fun c1 => absurd h1 c1)
  exact W.widen (by omega) (by omega) (kont B τ2 H locs h2 ⟨rfl, rfl⟩ hH hS)
set_option maxHeartbeats 1000000 in
theorem law_9 {p : Program} {l : Launch} {e : Env} {s : State} {m : MethodId} {args : Array Value} {below : List Frame} {meth : Method} {c : Code} {H : Heap} {locs : List Loc} {cells slots : Nat} {Q : State → Prop} {ls : Array Slot} {G : gG} {B : gB} {σ : gS} {b L i : Nat} {xs : Nat → Int32} (C0 : p.tables.exec = Jvm.exec ∧ c.code = cL_law ∧ c.maxLocals = 4 ∧ s.vm.findClass RL = some m.cls ∧ G.2.2 ≤ s.heap.size) (hK : KI G s) (hAO : AOs s) (hX : va_X b L xs s s.heap) (hbl : b < s.heap.size) (hbA : ¬ mA G b) (hL : L ≤ 2560) (hi : i + 4 < L) (hI : RI B σ) (hH : Hp G B σ H) (hS : va_S (mA G) s.heap H locs) (hc1 : cells + 10 ≤ room_1.cells) (hc2 : slots + 271 ≤ room_1.slots) (hl : lv_has ls 4 [(3, .int (nI i)), (2, .ref (B.1 0 0)), (1, .ref (B.1 40 0)), (0, .ref b)])
    (kont : ∀ (B1 : gB) (σ1 : gS) (H1 : Heap) (locs1 : List Loc), RI B1 σ1 → (B1.1 40 0 = B.1 40 0 ∧ B1.1 0 0 = B.1 0 0) → Hp G B1 σ1 H1 → va_S (mA G) s.heap H1 locs1 → W p l e room_1 s m args below meth c H1 locs1 (cells + 10) (slots + 271) Q (F0 m 967 ls [])) : W p l e room_1 s m args below meth c H locs cells slots Q (F0 m 468 ls []) := by
  obtain ⟨hx, hb, hml, hown, hz⟩ := id C0
  refine lv_aload_n hx hb dL_law_468 rfl (lv_at hl 2 rfl) ?_
  refine lv_aload_n hx hb dL_law_469 rfl (lv_at hl 3 rfl) ?_
  refine lv_iload_n hx hb dL_law_470 rfl (lv_at hl 0 rfl) ?_
  refine lv_iconst (v := nI 1) hx hb dL_law_471 (by decide) ?_
  refine m_iaddN hx hb dL_law_472 ?_
  refine l_sld hx hb hX hbl hbA hS (by omega) hL dL_law_473 ?_
  refine lv_aload_n hx hb dL_law_474 rfl (lv_at hl 3 rfl) ?_
  refine lv_iload_n hx hb dL_law_475 rfl (lv_at hl 0 rfl) ?_
  refine lv_iconst (v := nI 2) hx hb dL_law_476 (by decide) ?_
  refine m_iaddN hx hb dL_law_477 ?_
  refine l_sld hx hb hX hbl hbA hS (by omega) hL dL_law_478 ?_
  refine lv_aload_n hx hb dL_law_479 rfl (lv_at hl 3 rfl) ?_
  refine lv_iload_n hx hb dL_law_480 rfl (lv_at hl 0 rfl) ?_
  refine lv_iconst (v := nI 3) hx hb dL_law_481 (by decide) ?_
  refine m_iaddN hx hb dL_law_482 ?_
  refine l_sld hx hb hX hbl hbA hS (by omega) hL dL_law_483 ?_
  refine lv_aload_n hx hb dL_law_484 rfl (lv_at hl 3 rfl) ?_
  refine lv_iload_n hx hb dL_law_485 rfl (lv_at hl 0 rfl) ?_
  refine lv_iconst (v := nI 4) hx hb dL_law_486 (by decide) ?_
  refine m_iaddN hx hb dL_law_487 ?_
  refine l_sld hx hb hX hbl hbA hS (by omega) hL dL_law_488 ?_
  refine m_ki (m_runV (k := 40) (i := 0) (ci := 6) C0 hK hH hS (bc hI.C 40) rfl rfl (c_X6_risk l G B σ hI (xs (i + 1)) (xs (i + 2)) (xs (i + 3)) (xs (i + 4))) mw_X6_risk wl_L_54 ⟨rfl, rfl⟩ ⟨by decide, by decide⟩ rfl hl.1 rfl (Nat.le_of_ble_eq_true rfl) dL_law_489 ⟨by omega, by omega⟩) hS (fun r1 τ1 H locs hp hH hS => ?_)
  have hst := st_risk hI hp
  refine lv_aload_n hx hb dL_law_492 rfl (lv_at hl 1 rfl) ?_
  refine lv_aload_n hx hb dL_law_493 rfl (lv_at hl 3 rfl) ?_
  refine lv_iload_n hx hb dL_law_494 rfl (lv_at hl 0 rfl) ?_
  refine lv_iconst (v := nI 1) hx hb dL_law_495 (by decide) ?_
  refine m_iaddN hx hb dL_law_496 ?_
  refine l_sld hx hb hX hbl hbA hS (by omega) hL dL_law_497 ?_
  refine lv_aload_n hx hb dL_law_498 rfl (lv_at hl 3 rfl) ?_
  refine lv_iload_n hx hb dL_law_499 rfl (lv_at hl 0 rfl) ?_
  refine lv_iconst (v := nI 2) hx hb dL_law_500 (by decide) ?_
  refine m_iaddN hx hb dL_law_501 ?_
  refine l_sld hx hb hX hbl hbA hS (by omega) hL dL_law_502 ?_
  refine lv_aload_n hx hb dL_law_503 rfl (lv_at hl 3 rfl) ?_
  refine lv_iload_n hx hb dL_law_504 rfl (lv_at hl 0 rfl) ?_
  refine lv_iconst (v := nI 3) hx hb dL_law_505 (by decide) ?_
  refine m_iaddN hx hb dL_law_506 ?_
  refine l_sld hx hb hX hbl hbA hS (by omega) hL dL_law_507 ?_
  refine lv_aload_n hx hb dL_law_508 rfl (lv_at hl 3 rfl) ?_
  refine lv_iload_n hx hb dL_law_509 rfl (lv_at hl 0 rfl) ?_
  refine lv_iconst (v := nI 4) hx hb dL_law_510 (by decide) ?_
  refine m_iaddN hx hb dL_law_511 ?_
  refine l_sld hx hb hX hbl hbA hS (by omega) hL dL_law_512 ?_
  refine m_ki (m_runV (k := 0) (i := 0) (ci := 7) C0 hK hH hS (bm hI.M 0) rfl rfl (c_X7_risk l G B τ1 hI.M (xs (i + 1)) (xs (i + 2)) (xs (i + 3)) (xs (i + 4))) mw_X7_risk wl_L_57 ⟨rfl, rfl⟩ ⟨by decide, by decide⟩ rfl hl.1 rfl (Nat.le_of_ble_eq_true rfl) dL_law_513 ⟨by omega, by omega⟩) hS (fun r2 τ2 H locs hp2 hH hS => ?_)
  obtain ⟨h1, h2⟩ := hst r2 τ2 hp2
  refine lv_icmp_eq (tgt := 967) hx hb dL_law_516 (by decide) (fun _ => ?_) (fun c1 => absurd h1 c1)
  exact W.widen (by omega) (by omega) (kont B τ2 H locs h2 ⟨rfl, rfl⟩ hH hS)
set_option maxHeartbeats 1000000 in
theorem law_10 {p : Program} {l : Launch} {e : Env} {s : State} {m : MethodId} {args : Array Value} {below : List Frame} {meth : Method} {c : Code} {H : Heap} {locs : List Loc} {cells slots : Nat} {Q : State → Prop} {ls : Array Slot} {G : gG} {B : gB} {σ : gS} {b L i : Nat} {xs : Nat → Int32} (C0 : p.tables.exec = Jvm.exec ∧ c.code = cL_law ∧ c.maxLocals = 4 ∧ s.vm.findClass RL = some m.cls ∧ G.2.2 ≤ s.heap.size) (hK : KI G s) (hAO : AOs s) (hX : va_X b L xs s s.heap) (hbl : b < s.heap.size) (hbA : ¬ mA G b) (hL : L ≤ 2560) (hi : i + 4 < L) (hI : RI B σ) (hH : Hp G B σ H) (hS : va_S (mA G) s.heap H locs) (hc1 : cells + 10 ≤ room_1.cells) (hc2 : slots + 271 ≤ room_1.slots) (hl : lv_has ls 4 [(3, .int (nI i)), (2, .ref (B.1 0 0)), (1, .ref (B.1 40 0)), (0, .ref b)])
    (kont : ∀ (B1 : gB) (σ1 : gS) (H1 : Heap) (locs1 : List Loc), RI B1 σ1 → (B1.1 40 0 = B.1 40 0 ∧ B1.1 0 0 = B.1 0 0) → Hp G B1 σ1 H1 → va_S (mA G) s.heap H1 locs1 → W p l e room_1 s m args below meth c H1 locs1 (cells + 10) (slots + 271) Q (F0 m 967 ls [])) : W p l e room_1 s m args below meth c H locs cells slots Q (F0 m 521 ls []) := by
  obtain ⟨hx, hb, hml, hown, hz⟩ := id C0
  refine lv_aload_n hx hb dL_law_521 rfl (lv_at hl 2 rfl) ?_
  refine m_ki (m_runV (k := 40) (i := 0) (ci := 6) C0 hK hH hS (bc hI.C 40) rfl rfl (c_X6_forget l G B σ hI) mw_X6_forget wl_L_58 ⟨rfl, rfl⟩ ⟨by decide, by decide⟩ rfl hl.1 rfl (Nat.le_of_ble_eq_true rfl) dL_law_522 ⟨by omega, by omega⟩) hS (fun r1 τ1 H locs hp hH hS => ?_)
  obtain ⟨hR1, hst⟩ := st_forget hI hp
  refine lv_aload_n hx hb dL_law_525 rfl (lv_at hl 1 rfl) ?_
  refine m_ki (m_runV (k := 0) (i := 0) (ci := 7) C0 hK hH hS (bm hI.M 0) rfl rfl (c_X7_forget l G B τ1 hI.M hR1) mw_X7_forget wl_L_61 ⟨rfl, rfl⟩ ⟨by decide, by decide⟩ rfl hl.1 rfl (Nat.le_of_ble_eq_true rfl) dL_law_526 ⟨by omega, by omega⟩) hS (fun r2 τ2 H locs hp2 hH hS => ?_)
  obtain ⟨h1, h2⟩ := hst r2 τ2 hp2
  refine lv_icmp_eq (tgt := 967) hx hb dL_law_529 (by decide) (fun _ => ?_) (fun c1 => absurd h1 c1)
  exact W.widen (by omega) (by omega) (kont B τ2 H locs h2 ⟨rfl, rfl⟩ hH hS)
set_option maxHeartbeats 1000000 in
theorem law_11 {p : Program} {l : Launch} {e : Env} {s : State} {m : MethodId} {args : Array Value} {below : List Frame} {meth : Method} {c : Code} {H : Heap} {locs : List Loc} {cells slots : Nat} {Q : State → Prop} {ls : Array Slot} {G : gG} {B : gB} {σ : gS} {b L i : Nat} {xs : Nat → Int32} (C0 : p.tables.exec = Jvm.exec ∧ c.code = cL_law ∧ c.maxLocals = 4 ∧ s.vm.findClass RL = some m.cls ∧ G.2.2 ≤ s.heap.size) (hK : KI G s) (hAO : AOs s) (hX : va_X b L xs s s.heap) (hbl : b < s.heap.size) (hbA : ¬ mA G b) (hL : L ≤ 2560) (hi : i + 4 < L) (hI : RI B σ) (hH : Hp G B σ H) (hS : va_S (mA G) s.heap H locs) (hc1 : cells + 10 ≤ room_1.cells) (hc2 : slots + 271 ≤ room_1.slots) (hl : lv_has ls 4 [(3, .int (nI i)), (2, .ref (B.1 0 0)), (1, .ref (B.1 40 0)), (0, .ref b)])
    (kont : ∀ (B1 : gB) (σ1 : gS) (H1 : Heap) (locs1 : List Loc), RI B1 σ1 → (B1.1 40 0 = B.1 40 0 ∧ B1.1 0 0 = B.1 0 0) → Hp G B1 σ1 H1 → va_S (mA G) s.heap H1 locs1 → W p l e room_1 s m args below meth c H1 locs1 (cells + 10) (slots + 271) Q (F0 m 967 ls [])) : W p l e room_1 s m args below meth c H locs cells slots Q (F0 m 534 ls []) := by
  obtain ⟨hx, hb, hml, hown, hz⟩ := id C0
  refine lv_aload_n hx hb dL_law_534 rfl (lv_at hl 2 rfl) ?_
  refine lv_aload_n hx hb dL_law_535 rfl (lv_at hl 3 rfl) ?_
  refine lv_iload_n hx hb dL_law_536 rfl (lv_at hl 0 rfl) ?_
  refine lv_iconst (v := nI 1) hx hb dL_law_537 (by decide) ?_
  refine m_iaddN hx hb dL_law_538 ?_
  refine l_sld hx hb hX hbl hbA hS (by omega) hL dL_law_539 ?_
  refine m_ki (m_runV (k := 40) (i := 0) (ci := 6) C0 hK hH hS (bc hI.C 40) rfl rfl (c_X6_search l G B σ hI (xs (i + 1))) mw_X6_search wl_L_62 ⟨rfl, rfl⟩ ⟨by decide, by decide⟩ rfl hl.1 rfl (Nat.le_of_ble_eq_true rfl) dL_law_540 ⟨by omega, by omega⟩) hS (fun r1 τ1 H locs hp hH hS => ?_)
  obtain ⟨hr1, hs1⟩ := hp
  rw [hs1] at hH
  refine lv_aload_n hx hb dL_law_543 rfl (lv_at hl 1 rfl) ?_
  refine lv_aload_n hx hb dL_law_544 rfl (lv_at hl 3 rfl) ?_
  refine lv_iload_n hx hb dL_law_545 rfl (lv_at hl 0 rfl) ?_
  refine lv_iconst (v := nI 1) hx hb dL_law_546 (by decide) ?_
  refine m_iaddN hx hb dL_law_547 ?_
  refine l_sld hx hb hX hbl hbA hS (by omega) hL dL_law_548 ?_
  refine m_ki (m_runV (k := 0) (i := 0) (ci := 7) C0 hK hH hS (bm hI.M 0) rfl rfl (c_X7_search l G B σ hI.M hI.R hI.Ch (xs (i + 1))) mw_X7_search wl_L_66 ⟨rfl, rfl⟩ ⟨by decide, by decide⟩ rfl hl.1 rfl (Nat.le_of_ble_eq_true rfl) dL_law_549 ⟨by omega, by omega⟩) hS (fun r2 τ2 H locs hp2 hH hS => ?_)
  have h1 : r1 = r2 := hr1.trans hp2.1.symm
  have h2 : RI B τ2 := by rw [hp2.2]; exact hI
  refine lv_icmp_eq (tgt := 967) hx hb dL_law_552 (by decide) (fun _ => ?_) (fun c1 => absurd h1 c1)
  exact W.widen (by omega) (by omega) (kont B τ2 H locs h2 ⟨rfl, rfl⟩ hH hS)
set_option maxHeartbeats 1000000 in
theorem law_12 {p : Program} {l : Launch} {e : Env} {s : State} {m : MethodId} {args : Array Value} {below : List Frame} {meth : Method} {c : Code} {H : Heap} {locs : List Loc} {cells slots : Nat} {Q : State → Prop} {ls : Array Slot} {G : gG} {B : gB} {σ : gS} {b L i : Nat} {xs : Nat → Int32} (C0 : p.tables.exec = Jvm.exec ∧ c.code = cL_law ∧ c.maxLocals = 4 ∧ s.vm.findClass RL = some m.cls ∧ G.2.2 ≤ s.heap.size) (hK : KI G s) (hAO : AOs s) (hX : va_X b L xs s s.heap) (hbl : b < s.heap.size) (hbA : ¬ mA G b) (hL : L ≤ 2560) (hi : i + 4 < L) (hI : RI B σ) (hH : Hp G B σ H) (hS : va_S (mA G) s.heap H locs) (hc1 : cells + 10 ≤ room_1.cells) (hc2 : slots + 271 ≤ room_1.slots) (hl : lv_has ls 4 [(3, .int (nI i)), (2, .ref (B.1 0 0)), (1, .ref (B.1 40 0)), (0, .ref b)])
    (kont : ∀ (B1 : gB) (σ1 : gS) (H1 : Heap) (locs1 : List Loc), RI B1 σ1 → (B1.1 40 0 = B.1 40 0 ∧ B1.1 0 0 = B.1 0 0) → Hp G B1 σ1 H1 → va_S (mA G) s.heap H1 locs1 → W p l e room_1 s m args below meth c H1 locs1 (cells + 10) (slots + 271) Q (F0 m 967 ls [])) : W p l e room_1 s m args below meth c H locs cells slots Q (F0 m 557 ls []) := by
  obtain ⟨hx, hb, hml, hown, hz⟩ := id C0
  refine lv_aload_n hx hb dL_law_557 rfl (lv_at hl 2 rfl) ?_
  refine lv_aload_n hx hb dL_law_558 rfl (lv_at hl 3 rfl) ?_
  refine lv_iload_n hx hb dL_law_559 rfl (lv_at hl 0 rfl) ?_
  refine lv_iconst (v := nI 1) hx hb dL_law_560 (by decide) ?_
  refine m_iaddN hx hb dL_law_561 ?_
  refine l_sld hx hb hX hbl hbA hS (by omega) hL dL_law_562 ?_
  refine lv_aload_n hx hb dL_law_563 rfl (lv_at hl 3 rfl) ?_
  refine lv_iload_n hx hb dL_law_564 rfl (lv_at hl 0 rfl) ?_
  refine lv_iconst (v := nI 2) hx hb dL_law_565 (by decide) ?_
  refine m_iaddN hx hb dL_law_566 ?_
  refine l_sld hx hb hX hbl hbA hS (by omega) hL dL_law_567 ?_
  refine m_ki (m_runV (k := 40) (i := 0) (ci := 6) C0 hK hH hS (bc hI.C 40) rfl rfl (c_X6_minimal l G B σ hI (xs (i + 1)) (xs (i + 2))) mw_X6_minimal wl_L_67 ⟨rfl, rfl⟩ ⟨by decide, by decide⟩ rfl hl.1 rfl (Nat.le_of_ble_eq_true rfl) dL_law_568 ⟨by omega, by omega⟩) hS (fun r1 τ1 H locs hp hH hS => ?_)
  obtain ⟨hr1, hs1⟩ := hp
  rw [hs1] at hH
  refine lv_aload_n hx hb dL_law_571 rfl (lv_at hl 1 rfl) ?_
  refine lv_aload_n hx hb dL_law_572 rfl (lv_at hl 3 rfl) ?_
  refine lv_iload_n hx hb dL_law_573 rfl (lv_at hl 0 rfl) ?_
  refine lv_iconst (v := nI 1) hx hb dL_law_574 (by decide) ?_
  refine m_iaddN hx hb dL_law_575 ?_
  refine l_sld hx hb hX hbl hbA hS (by omega) hL dL_law_576 ?_
  refine lv_aload_n hx hb dL_law_577 rfl (lv_at hl 3 rfl) ?_
  refine lv_iload_n hx hb dL_law_578 rfl (lv_at hl 0 rfl) ?_
  refine lv_iconst (v := nI 2) hx hb dL_law_579 (by decide) ?_
  refine m_iaddN hx hb dL_law_580 ?_
  refine l_sld hx hb hX hbl hbA hS (by omega) hL dL_law_581 ?_
  refine m_ki (m_runV (k := 0) (i := 0) (ci := 7) C0 hK hH hS (bm hI.M 0) rfl rfl (c_X7_minimal l G B σ hI.M hI.R hI.Ch (xs (i + 1)) (xs (i + 2))) mw_X7_minimal wl_L_71 ⟨rfl, rfl⟩ ⟨by decide, by decide⟩ rfl hl.1 rfl (Nat.le_of_ble_eq_true rfl) dL_law_582 ⟨by omega, by omega⟩) hS (fun r2 τ2 H locs hp2 hH hS => ?_)
  have h1 : r1 = r2 := hr1.trans hp2.1.symm
  have h2 : RI B τ2 := by rw [hp2.2]; exact hI
  refine lv_icmp_eq (tgt := 967) hx hb dL_law_585 (by decide) (fun _ => ?_) (fun c1 => absurd h1 c1)
  exact W.widen (by omega) (by omega) (kont B τ2 H locs h2 ⟨rfl, rfl⟩ hH hS)
set_option maxHeartbeats 1000000 in
theorem law_13 {p : Program} {l : Launch} {e : Env} {s : State} {m : MethodId} {args : Array Value} {below : List Frame} {meth : Method} {c : Code} {H : Heap} {locs : List Loc} {cells slots : Nat} {Q : State → Prop} {ls : Array Slot} {G : gG} {B : gB} {σ : gS} {b L i : Nat} {xs : Nat → Int32} (C0 : p.tables.exec = Jvm.exec ∧ c.code = cL_law ∧ c.maxLocals = 4 ∧ s.vm.findClass RL = some m.cls ∧ G.2.2 ≤ s.heap.size) (hK : KI G s) (hAO : AOs s) (hX : va_X b L xs s s.heap) (hbl : b < s.heap.size) (hbA : ¬ mA G b) (hL : L ≤ 2560) (hi : i + 4 < L) (hI : RI B σ) (hH : Hp G B σ H) (hS : va_S (mA G) s.heap H locs) (hc1 : cells + 10 ≤ room_1.cells) (hc2 : slots + 271 ≤ room_1.slots) (hl : lv_has ls 4 [(3, .int (nI i)), (2, .ref (B.1 0 0)), (1, .ref (B.1 40 0)), (0, .ref b)])
    (kont : ∀ (B1 : gB) (σ1 : gS) (H1 : Heap) (locs1 : List Loc), RI B1 σ1 → (B1.1 40 0 = B.1 40 0 ∧ B1.1 0 0 = B.1 0 0) → Hp G B1 σ1 H1 → va_S (mA G) s.heap H1 locs1 → W p l e room_1 s m args below meth c H1 locs1 (cells + 10) (slots + 271) Q (F0 m 967 ls [])) : W p l e room_1 s m args below meth c H locs cells slots Q (F0 m 590 ls []) := by
  obtain ⟨hx, hb, hml, hown, hz⟩ := id C0
  refine lv_aload_n hx hb dL_law_590 rfl (lv_at hl 2 rfl) ?_
  refine lv_aload_n hx hb dL_law_591 rfl (lv_at hl 3 rfl) ?_
  refine lv_iload_n hx hb dL_law_592 rfl (lv_at hl 0 rfl) ?_
  refine lv_iconst (v := nI 1) hx hb dL_law_593 (by decide) ?_
  refine m_iaddN hx hb dL_law_594 ?_
  refine l_sld hx hb hX hbl hbA hS (by omega) hL dL_law_595 ?_
  refine lv_aload_n hx hb dL_law_596 rfl (lv_at hl 3 rfl) ?_
  refine lv_iload_n hx hb dL_law_597 rfl (lv_at hl 0 rfl) ?_
  refine lv_iconst (v := nI 2) hx hb dL_law_598 (by decide) ?_
  refine m_iaddN hx hb dL_law_599 ?_
  refine l_sld hx hb hX hbl hbA hS (by omega) hL dL_law_600 ?_
  refine lv_aload_n hx hb dL_law_601 rfl (lv_at hl 3 rfl) ?_
  refine lv_iload_n hx hb dL_law_602 rfl (lv_at hl 0 rfl) ?_
  refine lv_iconst (v := nI 3) hx hb dL_law_603 (by decide) ?_
  refine m_iaddN hx hb dL_law_604 ?_
  refine l_sld hx hb hX hbl hbA hS (by omega) hL dL_law_605 ?_
  refine o_call (k := 40) (i := 0) (ci := 6) C0 hK hAO hH hS (bc hI.C 40) rfl rfl (c_X6_supplier l G B σ hI (xs (i + 1)) (xs (i + 2)) (xs (i + 3))) mw_X6_supplier wl_L_72 ⟨rfl, rfl⟩ ⟨by decide, by decide⟩ rfl hl.1 rfl (Nat.le_of_ble_eq_true rfl) dL_law_606 ⟨by omega, by omega⟩ (fun r1 u H locs hp hH hS => ?_)
  obtain ⟨⟨hMI, hM1⟩, ⟨hb40, hb0⟩, hst⟩ := st_supplier hI hp
  refine lv_aload_n hx hb dL_law_609 rfl (lv_at hl 1 rfl) ?_
  refine m_tor (u.1.1 0 0) hb0.symm ?_
  refine lv_aload_n hx hb dL_law_610 rfl (lv_at hl 3 rfl) ?_
  refine lv_iload_n hx hb dL_law_611 rfl (lv_at hl 0 rfl) ?_
  refine lv_iconst (v := nI 1) hx hb dL_law_612 (by decide) ?_
  refine m_iaddN hx hb dL_law_613 ?_
  refine l_sld hx hb hX hbl hbA hS (by omega) hL dL_law_614 ?_
  refine lv_aload_n hx hb dL_law_615 rfl (lv_at hl 3 rfl) ?_
  refine lv_iload_n hx hb dL_law_616 rfl (lv_at hl 0 rfl) ?_
  refine lv_iconst (v := nI 2) hx hb dL_law_617 (by decide) ?_
  refine m_iaddN hx hb dL_law_618 ?_
  refine l_sld hx hb hX hbl hbA hS (by omega) hL dL_law_619 ?_
  refine lv_aload_n hx hb dL_law_620 rfl (lv_at hl 3 rfl) ?_
  refine lv_iload_n hx hb dL_law_621 rfl (lv_at hl 0 rfl) ?_
  refine lv_iconst (v := nI 3) hx hb dL_law_622 (by decide) ?_
  refine m_iaddN hx hb dL_law_623 ?_
  refine l_sld hx hb hX hbl hbA hS (by omega) hL dL_law_624 ?_
  refine m_ki (m_runV (k := 0) (i := 0) (ci := 7) C0 hK hH hS (bm hM1 0) rfl rfl (c_X7_supplier l G u.1 u.2 hM1 hMI.1 hMI.2.2.2.1 (xs (i + 1)) (xs (i + 2)) (xs (i + 3))) mw_X7_supplier wl_L_75 ⟨rfl, rfl⟩ ⟨by decide, by decide⟩ rfl hl.1 rfl (Nat.le_of_ble_eq_true rfl) dL_law_625 ⟨by omega, by omega⟩) hS (fun r2 τ2 H locs hp2 hH hS => ?_)
  obtain ⟨h1, h2⟩ := hst r2 τ2 hp2
  refine lv_icmp_eq (tgt := 967) hx hb dL_law_628 (by decide) (fun _ => ?_) (fun c1 => absurd h1 c1)
  exact W.widen (by omega) (by omega) (kont u.1 τ2 H locs h2 ⟨hb40, hb0⟩ hH hS)
set_option maxHeartbeats 1000000 in
theorem law_14 {p : Program} {l : Launch} {e : Env} {s : State} {m : MethodId} {args : Array Value} {below : List Frame} {meth : Method} {c : Code} {H : Heap} {locs : List Loc} {cells slots : Nat} {Q : State → Prop} {ls : Array Slot} {G : gG} {B : gB} {σ : gS} {b L i : Nat} {xs : Nat → Int32} (C0 : p.tables.exec = Jvm.exec ∧ c.code = cL_law ∧ c.maxLocals = 4 ∧ s.vm.findClass RL = some m.cls ∧ G.2.2 ≤ s.heap.size) (hK : KI G s) (hAO : AOs s) (hX : va_X b L xs s s.heap) (hbl : b < s.heap.size) (hbA : ¬ mA G b) (hL : L ≤ 2560) (hi : i + 4 < L) (hI : RI B σ) (hH : Hp G B σ H) (hS : va_S (mA G) s.heap H locs) (hc1 : cells + 10 ≤ room_1.cells) (hc2 : slots + 271 ≤ room_1.slots) (hl : lv_has ls 4 [(3, .int (nI i)), (2, .ref (B.1 0 0)), (1, .ref (B.1 40 0)), (0, .ref b)])
    (kont : ∀ (B1 : gB) (σ1 : gS) (H1 : Heap) (locs1 : List Loc), RI B1 σ1 → (B1.1 40 0 = B.1 40 0 ∧ B1.1 0 0 = B.1 0 0) → Hp G B1 σ1 H1 → va_S (mA G) s.heap H1 locs1 → W p l e room_1 s m args below meth c H1 locs1 (cells + 10) (slots + 271) Q (F0 m 967 ls [])) : W p l e room_1 s m args below meth c H locs cells slots Q (F0 m 633 ls []) := by
  obtain ⟨hx, hb, hml, hown, hz⟩ := id C0
  refine lv_aload_n hx hb dL_law_633 rfl (lv_at hl 2 rfl) ?_
  refine lv_aload_n hx hb dL_law_634 rfl (lv_at hl 3 rfl) ?_
  refine lv_iload_n hx hb dL_law_635 rfl (lv_at hl 0 rfl) ?_
  refine lv_iconst (v := nI 1) hx hb dL_law_636 (by decide) ?_
  refine m_iaddN hx hb dL_law_637 ?_
  refine l_sld hx hb hX hbl hbA hS (by omega) hL dL_law_638 ?_
  refine lv_aload_n hx hb dL_law_639 rfl (lv_at hl 3 rfl) ?_
  refine lv_iload_n hx hb dL_law_640 rfl (lv_at hl 0 rfl) ?_
  refine lv_iconst (v := nI 2) hx hb dL_law_641 (by decide) ?_
  refine m_iaddN hx hb dL_law_642 ?_
  refine l_sld hx hb hX hbl hbA hS (by omega) hL dL_law_643 ?_
  refine o_call (k := 40) (i := 0) (ci := 6) C0 hK hAO hH hS (bc hI.C 40) rfl rfl (c_X6_lot l G B σ hI (xs (i + 1)) (xs (i + 2))) mw_X6_lot wl_L_76 ⟨rfl, rfl⟩ ⟨by decide, by decide⟩ rfl hl.1 rfl (Nat.le_of_ble_eq_true rfl) dL_law_644 ⟨by omega, by omega⟩ (fun r1 u H locs hp hH hS => ?_)
  obtain ⟨⟨hMI, hM1⟩, ⟨hb40, hb0⟩, hst⟩ := st_lot hI hp
  refine lv_aload_n hx hb dL_law_647 rfl (lv_at hl 1 rfl) ?_
  refine m_tor (u.1.1 0 0) hb0.symm ?_
  refine lv_aload_n hx hb dL_law_648 rfl (lv_at hl 3 rfl) ?_
  refine lv_iload_n hx hb dL_law_649 rfl (lv_at hl 0 rfl) ?_
  refine lv_iconst (v := nI 1) hx hb dL_law_650 (by decide) ?_
  refine m_iaddN hx hb dL_law_651 ?_
  refine l_sld hx hb hX hbl hbA hS (by omega) hL dL_law_652 ?_
  refine lv_aload_n hx hb dL_law_653 rfl (lv_at hl 3 rfl) ?_
  refine lv_iload_n hx hb dL_law_654 rfl (lv_at hl 0 rfl) ?_
  refine lv_iconst (v := nI 2) hx hb dL_law_655 (by decide) ?_
  refine m_iaddN hx hb dL_law_656 ?_
  refine l_sld hx hb hX hbl hbA hS (by omega) hL dL_law_657 ?_
  refine m_ki (m_runV (k := 0) (i := 0) (ci := 7) C0 hK hH hS (bm hM1 0) rfl rfl (c_X7_lot l G u.1 u.2 hM1 hMI.1 hMI.2.2.2.1 ⟨hMI.2.2.2.2.1.1, hMI.2.2.2.2.1.2.1⟩ (xs (i + 1)) (xs (i + 2))) mw_X7_lot wl_L_79 ⟨rfl, rfl⟩ ⟨by decide, by decide⟩ rfl hl.1 rfl (Nat.le_of_ble_eq_true rfl) dL_law_658 ⟨by omega, by omega⟩) hS (fun r2 τ2 H locs hp2 hH hS => ?_)
  obtain ⟨h1, h2⟩ := hst r2 τ2 hp2
  refine lv_icmp_eq (tgt := 967) hx hb dL_law_661 (by decide) (fun _ => ?_) (fun c1 => absurd h1 c1)
  exact W.widen (by omega) (by omega) (kont u.1 τ2 H locs h2 ⟨hb40, hb0⟩ hH hS)
set_option maxHeartbeats 1000000 in
theorem law_15 {p : Program} {l : Launch} {e : Env} {s : State} {m : MethodId} {args : Array Value} {below : List Frame} {meth : Method} {c : Code} {H : Heap} {locs : List Loc} {cells slots : Nat} {Q : State → Prop} {ls : Array Slot} {G : gG} {B : gB} {σ : gS} {b L i : Nat} {xs : Nat → Int32} (C0 : p.tables.exec = Jvm.exec ∧ c.code = cL_law ∧ c.maxLocals = 4 ∧ s.vm.findClass RL = some m.cls ∧ G.2.2 ≤ s.heap.size) (hK : KI G s) (hAO : AOs s) (hX : va_X b L xs s s.heap) (hbl : b < s.heap.size) (hbA : ¬ mA G b) (hL : L ≤ 2560) (hi : i + 4 < L) (hI : RI B σ) (hH : Hp G B σ H) (hS : va_S (mA G) s.heap H locs) (hc1 : cells + 10 ≤ room_1.cells) (hc2 : slots + 271 ≤ room_1.slots) (hl : lv_has ls 4 [(3, .int (nI i)), (2, .ref (B.1 0 0)), (1, .ref (B.1 40 0)), (0, .ref b)])
    (kont : ∀ (B1 : gB) (σ1 : gS) (H1 : Heap) (locs1 : List Loc), RI B1 σ1 → (B1.1 40 0 = B.1 40 0 ∧ B1.1 0 0 = B.1 0 0) → Hp G B1 σ1 H1 → va_S (mA G) s.heap H1 locs1 → W p l e room_1 s m args below meth c H1 locs1 (cells + 10) (slots + 271) Q (F0 m 967 ls [])) : W p l e room_1 s m args below meth c H locs cells slots Q (F0 m 666 ls []) := by
  obtain ⟨hx, hb, hml, hown, hz⟩ := id C0
  refine lv_aload_n hx hb dL_law_666 rfl (lv_at hl 2 rfl) ?_
  refine lv_aload_n hx hb dL_law_667 rfl (lv_at hl 3 rfl) ?_
  refine lv_iload_n hx hb dL_law_668 rfl (lv_at hl 0 rfl) ?_
  refine lv_iconst (v := nI 1) hx hb dL_law_669 (by decide) ?_
  refine m_iaddN hx hb dL_law_670 ?_
  refine l_sld hx hb hX hbl hbA hS (by omega) hL dL_law_671 ?_
  refine lv_aload_n hx hb dL_law_672 rfl (lv_at hl 3 rfl) ?_
  refine lv_iload_n hx hb dL_law_673 rfl (lv_at hl 0 rfl) ?_
  refine lv_iconst (v := nI 2) hx hb dL_law_674 (by decide) ?_
  refine m_iaddN hx hb dL_law_675 ?_
  refine l_sld hx hb hX hbl hbA hS (by omega) hL dL_law_676 ?_
  refine m_ki (m_runV (k := 40) (i := 0) (ci := 6) C0 hK hH hS (bc hI.C 40) rfl rfl (c_X6_item l G B σ hI (xs (i + 1)) (xs (i + 2))) mw_X6_item wl_L_80 ⟨rfl, rfl⟩ ⟨by decide, by decide⟩ rfl hl.1 rfl (Nat.le_of_ble_eq_true rfl) dL_law_677 ⟨by omega, by omega⟩) hS (fun r1 τ1 H locs hp hH hS => ?_)
  obtain ⟨hMI, hst⟩ := st_item hI hp
  refine lv_aload_n hx hb dL_law_680 rfl (lv_at hl 1 rfl) ?_
  refine lv_aload_n hx hb dL_law_681 rfl (lv_at hl 3 rfl) ?_
  refine lv_iload_n hx hb dL_law_682 rfl (lv_at hl 0 rfl) ?_
  refine lv_iconst (v := nI 1) hx hb dL_law_683 (by decide) ?_
  refine m_iaddN hx hb dL_law_684 ?_
  refine l_sld hx hb hX hbl hbA hS (by omega) hL dL_law_685 ?_
  refine lv_aload_n hx hb dL_law_686 rfl (lv_at hl 3 rfl) ?_
  refine lv_iload_n hx hb dL_law_687 rfl (lv_at hl 0 rfl) ?_
  refine lv_iconst (v := nI 2) hx hb dL_law_688 (by decide) ?_
  refine m_iaddN hx hb dL_law_689 ?_
  refine l_sld hx hb hX hbl hbA hS (by omega) hL dL_law_690 ?_
  refine m_ki (m_runV (k := 0) (i := 0) (ci := 7) C0 hK hH hS (bm hI.M 0) rfl rfl (c_X7_item l G B τ1 hI.M hMI.1 hMI.2.2.2.1 hMI.2.2.2.2.1 hMI.2.2.2.2.2 (xs (i + 1)) (xs (i + 2))) mw_X7_item wl_L_83 ⟨rfl, rfl⟩ ⟨by decide, by decide⟩ rfl hl.1 rfl (Nat.le_of_ble_eq_true rfl) dL_law_691 ⟨by omega, by omega⟩) hS (fun r2 τ2 H locs hp2 hH hS => ?_)
  obtain ⟨h1, h2⟩ := hst r2 τ2 hp2
  refine lv_icmp_eq (tgt := 967) hx hb dL_law_694 (by decide) (fun _ => ?_) (fun c1 => absurd h1 c1)
  exact W.widen (by omega) (by omega) (kont B τ2 H locs h2 ⟨rfl, rfl⟩ hH hS)
set_option maxHeartbeats 1000000 in
theorem law_16 {p : Program} {l : Launch} {e : Env} {s : State} {m : MethodId} {args : Array Value} {below : List Frame} {meth : Method} {c : Code} {H : Heap} {locs : List Loc} {cells slots : Nat} {Q : State → Prop} {ls : Array Slot} {G : gG} {B : gB} {σ : gS} {b L i : Nat} {xs : Nat → Int32} (C0 : p.tables.exec = Jvm.exec ∧ c.code = cL_law ∧ c.maxLocals = 4 ∧ s.vm.findClass RL = some m.cls ∧ G.2.2 ≤ s.heap.size) (hK : KI G s) (hAO : AOs s) (hX : va_X b L xs s s.heap) (hbl : b < s.heap.size) (hbA : ¬ mA G b) (hL : L ≤ 2560) (hi : i + 4 < L) (hI : RI B σ) (hH : Hp G B σ H) (hS : va_S (mA G) s.heap H locs) (hc1 : cells + 10 ≤ room_1.cells) (hc2 : slots + 271 ≤ room_1.slots) (hl : lv_has ls 4 [(3, .int (nI i)), (2, .ref (B.1 0 0)), (1, .ref (B.1 40 0)), (0, .ref b)])
    (kont : ∀ (B1 : gB) (σ1 : gS) (H1 : Heap) (locs1 : List Loc), RI B1 σ1 → (B1.1 40 0 = B.1 40 0 ∧ B1.1 0 0 = B.1 0 0) → Hp G B1 σ1 H1 → va_S (mA G) s.heap H1 locs1 → W p l e room_1 s m args below meth c H1 locs1 (cells + 10) (slots + 271) Q (F0 m 967 ls [])) : W p l e room_1 s m args below meth c H locs cells slots Q (F0 m 699 ls []) := by
  obtain ⟨hx, hb, hml, hown, hz⟩ := id C0
  refine lv_aload_n hx hb dL_law_699 rfl (lv_at hl 2 rfl) ?_
  refine lv_aload_n hx hb dL_law_700 rfl (lv_at hl 3 rfl) ?_
  refine lv_iload_n hx hb dL_law_701 rfl (lv_at hl 0 rfl) ?_
  refine lv_iconst (v := nI 1) hx hb dL_law_702 (by decide) ?_
  refine m_iaddN hx hb dL_law_703 ?_
  refine l_sld hx hb hX hbl hbA hS (by omega) hL dL_law_704 ?_
  refine m_ki (m_runV (k := 40) (i := 0) (ci := 6) C0 hK hH hS (bc hI.C 40) rfl rfl (c_X6_undo l G B σ hI (xs (i + 1))) mw_X6_undo wl_L_84 ⟨rfl, rfl⟩ ⟨by decide, by decide⟩ rfl hl.1 rfl (Nat.le_of_ble_eq_true rfl) dL_law_705 ⟨by omega, by omega⟩) hS (fun r1 τ1 H locs hp hH hS => ?_)
  obtain ⟨hMI, hst⟩ := st_undo hI hp
  refine lv_aload_n hx hb dL_law_708 rfl (lv_at hl 1 rfl) ?_
  refine lv_aload_n hx hb dL_law_709 rfl (lv_at hl 3 rfl) ?_
  refine lv_iload_n hx hb dL_law_710 rfl (lv_at hl 0 rfl) ?_
  refine lv_iconst (v := nI 1) hx hb dL_law_711 (by decide) ?_
  refine m_iaddN hx hb dL_law_712 ?_
  refine l_sld hx hb hX hbl hbA hS (by omega) hL dL_law_713 ?_
  refine m_ki (m_runV (k := 0) (i := 0) (ci := 7) C0 hK hH hS (bm hI.M 0) rfl rfl (c_X7_undo l G B τ1 hI.M hMI.1 hMI.2.2.2.2.1 (xs (i + 1))) mw_X7_undo wl_L_87 ⟨rfl, rfl⟩ ⟨by decide, by decide⟩ rfl hl.1 rfl (Nat.le_of_ble_eq_true rfl) dL_law_714 ⟨by omega, by omega⟩) hS (fun r2 τ2 H locs hp2 hH hS => ?_)
  obtain ⟨h1, h2⟩ := hst r2 τ2 hp2
  refine lv_icmp_eq (tgt := 967) hx hb dL_law_717 (by decide) (fun _ => ?_) (fun c1 => absurd h1 c1)
  exact W.widen (by omega) (by omega) (kont B τ2 H locs h2 ⟨rfl, rfl⟩ hH hS)
set_option maxHeartbeats 1000000 in
theorem law_17 {p : Program} {l : Launch} {e : Env} {s : State} {m : MethodId} {args : Array Value} {below : List Frame} {meth : Method} {c : Code} {H : Heap} {locs : List Loc} {cells slots : Nat} {Q : State → Prop} {ls : Array Slot} {G : gG} {B : gB} {σ : gS} {b L i : Nat} {xs : Nat → Int32} (C0 : p.tables.exec = Jvm.exec ∧ c.code = cL_law ∧ c.maxLocals = 4 ∧ s.vm.findClass RL = some m.cls ∧ G.2.2 ≤ s.heap.size) (hK : KI G s) (hAO : AOs s) (hX : va_X b L xs s s.heap) (hbl : b < s.heap.size) (hbA : ¬ mA G b) (hL : L ≤ 2560) (hi : i + 4 < L) (hI : RI B σ) (hH : Hp G B σ H) (hS : va_S (mA G) s.heap H locs) (hc1 : cells + 10 ≤ room_1.cells) (hc2 : slots + 271 ≤ room_1.slots) (hl : lv_has ls 4 [(3, .int (nI i)), (2, .ref (B.1 0 0)), (1, .ref (B.1 40 0)), (0, .ref b)])
    (kont : ∀ (B1 : gB) (σ1 : gS) (H1 : Heap) (locs1 : List Loc), RI B1 σ1 → (B1.1 40 0 = B.1 40 0 ∧ B1.1 0 0 = B.1 0 0) → Hp G B1 σ1 H1 → va_S (mA G) s.heap H1 locs1 → W p l e room_1 s m args below meth c H1 locs1 (cells + 10) (slots + 271) Q (F0 m 967 ls [])) : W p l e room_1 s m args below meth c H locs cells slots Q (F0 m 722 ls []) := by
  obtain ⟨hx, hb, hml, hown, hz⟩ := id C0
  refine lv_aload_n hx hb dL_law_722 rfl (lv_at hl 2 rfl) ?_
  refine lv_aload_n hx hb dL_law_723 rfl (lv_at hl 3 rfl) ?_
  refine lv_iload_n hx hb dL_law_724 rfl (lv_at hl 0 rfl) ?_
  refine lv_iconst (v := nI 1) hx hb dL_law_725 (by decide) ?_
  refine m_iaddN hx hb dL_law_726 ?_
  refine l_sld hx hb hX hbl hbA hS (by omega) hL dL_law_727 ?_
  refine lv_aload_n hx hb dL_law_728 rfl (lv_at hl 3 rfl) ?_
  refine lv_iload_n hx hb dL_law_729 rfl (lv_at hl 0 rfl) ?_
  refine lv_iconst (v := nI 2) hx hb dL_law_730 (by decide) ?_
  refine m_iaddN hx hb dL_law_731 ?_
  refine l_sld hx hb hX hbl hbA hS (by omega) hL dL_law_732 ?_
  refine lv_aload_n hx hb dL_law_733 rfl (lv_at hl 3 rfl) ?_
  refine lv_iload_n hx hb dL_law_734 rfl (lv_at hl 0 rfl) ?_
  refine lv_iconst (v := nI 3) hx hb dL_law_735 (by decide) ?_
  refine m_iaddN hx hb dL_law_736 ?_
  refine l_sld hx hb hX hbl hbA hS (by omega) hL dL_law_737 ?_
  refine m_ki (m_runV (k := 40) (i := 0) (ci := 6) C0 hK hH hS (bc hI.C 40) rfl rfl (c_X6_correct l G B σ hI (xs (i + 1)) (xs (i + 2)) (xs (i + 3))) mw_X6_correct wl_L_88 ⟨rfl, rfl⟩ ⟨by decide, by decide⟩ rfl hl.1 rfl (Nat.le_of_ble_eq_true rfl) dL_law_738 ⟨by omega, by omega⟩) hS (fun r1 τ1 H locs hp hH hS => ?_)
  obtain ⟨hMI, hst⟩ := st_correct hI hp
  refine lv_aload_n hx hb dL_law_741 rfl (lv_at hl 1 rfl) ?_
  refine lv_aload_n hx hb dL_law_742 rfl (lv_at hl 3 rfl) ?_
  refine lv_iload_n hx hb dL_law_743 rfl (lv_at hl 0 rfl) ?_
  refine lv_iconst (v := nI 1) hx hb dL_law_744 (by decide) ?_
  refine m_iaddN hx hb dL_law_745 ?_
  refine l_sld hx hb hX hbl hbA hS (by omega) hL dL_law_746 ?_
  refine lv_aload_n hx hb dL_law_747 rfl (lv_at hl 3 rfl) ?_
  refine lv_iload_n hx hb dL_law_748 rfl (lv_at hl 0 rfl) ?_
  refine lv_iconst (v := nI 2) hx hb dL_law_749 (by decide) ?_
  refine m_iaddN hx hb dL_law_750 ?_
  refine l_sld hx hb hX hbl hbA hS (by omega) hL dL_law_751 ?_
  refine lv_aload_n hx hb dL_law_752 rfl (lv_at hl 3 rfl) ?_
  refine lv_iload_n hx hb dL_law_753 rfl (lv_at hl 0 rfl) ?_
  refine lv_iconst (v := nI 3) hx hb dL_law_754 (by decide) ?_
  refine m_iaddN hx hb dL_law_755 ?_
  refine l_sld hx hb hX hbl hbA hS (by omega) hL dL_law_756 ?_
  refine m_ki (m_runV (k := 0) (i := 0) (ci := 7) C0 hK hH hS (bm hI.M 0) rfl rfl (c_X7_correct l G B τ1 hI.M hMI.1 hMI.2.2.2.1 hMI.2.2.2.2.1 hMI.2.2.2.2.2 (xs (i + 1)) (xs (i + 2)) (xs (i + 3))) mw_X7_correct wl_L_91 ⟨rfl, rfl⟩ ⟨by decide, by decide⟩ rfl hl.1 rfl (Nat.le_of_ble_eq_true rfl) dL_law_757 ⟨by omega, by omega⟩) hS (fun r2 τ2 H locs hp2 hH hS => ?_)
  obtain ⟨h1, h2⟩ := hst r2 τ2 hp2
  refine lv_icmp_eq (tgt := 967) hx hb dL_law_760 (by decide) (fun _ => ?_) (fun c1 => absurd h1 c1)
  exact W.widen (by omega) (by omega) (kont B τ2 H locs h2 ⟨rfl, rfl⟩ hH hS)
set_option maxHeartbeats 1000000 in
theorem law_18 {p : Program} {l : Launch} {e : Env} {s : State} {m : MethodId} {args : Array Value} {below : List Frame} {meth : Method} {c : Code} {H : Heap} {locs : List Loc} {cells slots : Nat} {Q : State → Prop} {ls : Array Slot} {G : gG} {B : gB} {σ : gS} {b L i : Nat} {xs : Nat → Int32} (C0 : p.tables.exec = Jvm.exec ∧ c.code = cL_law ∧ c.maxLocals = 4 ∧ s.vm.findClass RL = some m.cls ∧ G.2.2 ≤ s.heap.size) (hK : KI G s) (hAO : AOs s) (hX : va_X b L xs s s.heap) (hbl : b < s.heap.size) (hbA : ¬ mA G b) (hL : L ≤ 2560) (hi : i + 4 < L) (hI : RI B σ) (hH : Hp G B σ H) (hS : va_S (mA G) s.heap H locs) (hc1 : cells + 10 ≤ room_1.cells) (hc2 : slots + 271 ≤ room_1.slots) (hl : lv_has ls 4 [(3, .int (nI i)), (2, .ref (B.1 0 0)), (1, .ref (B.1 40 0)), (0, .ref b)])
    (kont : ∀ (B1 : gB) (σ1 : gS) (H1 : Heap) (locs1 : List Loc), RI B1 σ1 → (B1.1 40 0 = B.1 40 0 ∧ B1.1 0 0 = B.1 0 0) → Hp G B1 σ1 H1 → va_S (mA G) s.heap H1 locs1 → W p l e room_1 s m args below meth c H1 locs1 (cells + 10) (slots + 271) Q (F0 m 967 ls [])) : W p l e room_1 s m args below meth c H locs cells slots Q (F0 m 765 ls []) := by
  obtain ⟨hx, hb, hml, hown, hz⟩ := id C0
  refine lv_aload_n hx hb dL_law_765 rfl (lv_at hl 2 rfl) ?_
  refine lv_aload_n hx hb dL_law_766 rfl (lv_at hl 3 rfl) ?_
  refine lv_iload_n hx hb dL_law_767 rfl (lv_at hl 0 rfl) ?_
  refine lv_iconst (v := nI 1) hx hb dL_law_768 (by decide) ?_
  refine m_iaddN hx hb dL_law_769 ?_
  refine l_sld hx hb hX hbl hbA hS (by omega) hL dL_law_770 ?_
  refine lv_aload_n hx hb dL_law_771 rfl (lv_at hl 3 rfl) ?_
  refine lv_iload_n hx hb dL_law_772 rfl (lv_at hl 0 rfl) ?_
  refine lv_iconst (v := nI 2) hx hb dL_law_773 (by decide) ?_
  refine m_iaddN hx hb dL_law_774 ?_
  refine l_sld hx hb hX hbl hbA hS (by omega) hL dL_law_775 ?_
  refine m_ki (m_runV (k := 40) (i := 0) (ci := 6) C0 hK hH hS (bc hI.C 40) rfl rfl (c_X6_about l G B σ hI (xs (i + 1)) (xs (i + 2))) mw_X6_about wl_L_92 ⟨rfl, rfl⟩ ⟨by decide, by decide⟩ rfl hl.1 rfl (Nat.le_of_ble_eq_true rfl) dL_law_776 ⟨by omega, by omega⟩) hS (fun r1 τ1 H locs hp hH hS => ?_)
  obtain ⟨hr1, hs1⟩ := hp
  rw [hs1] at hH
  refine lv_aload_n hx hb dL_law_779 rfl (lv_at hl 1 rfl) ?_
  refine lv_aload_n hx hb dL_law_780 rfl (lv_at hl 3 rfl) ?_
  refine lv_iload_n hx hb dL_law_781 rfl (lv_at hl 0 rfl) ?_
  refine lv_iconst (v := nI 1) hx hb dL_law_782 (by decide) ?_
  refine m_iaddN hx hb dL_law_783 ?_
  refine l_sld hx hb hX hbl hbA hS (by omega) hL dL_law_784 ?_
  refine lv_aload_n hx hb dL_law_785 rfl (lv_at hl 3 rfl) ?_
  refine lv_iload_n hx hb dL_law_786 rfl (lv_at hl 0 rfl) ?_
  refine lv_iconst (v := nI 2) hx hb dL_law_787 (by decide) ?_
  refine m_iaddN hx hb dL_law_788 ?_
  refine l_sld hx hb hX hbl hbA hS (by omega) hL dL_law_789 ?_
  refine m_ki (m_runV (k := 0) (i := 0) (ci := 7) C0 hK hH hS (bm hI.M 0) rfl rfl (c_X7_about l G B σ hI.M hI.P hI.L (xs (i + 1)) (xs (i + 2))) mw_X7_about wl_L_95 ⟨rfl, rfl⟩ ⟨by decide, by decide⟩ rfl hl.1 rfl (Nat.le_of_ble_eq_true rfl) dL_law_790 ⟨by omega, by omega⟩) hS (fun r2 τ2 H locs hp2 hH hS => ?_)
  have h1 : r1 = r2 := hr1.trans hp2.1.symm
  have h2 : RI B τ2 := by exact hI.sm hp2.2
  refine lv_icmp_eq (tgt := 967) hx hb dL_law_793 (by decide) (fun _ => ?_) (fun c1 => absurd h1 c1)
  exact W.widen (by omega) (by omega) (kont B τ2 H locs h2 ⟨rfl, rfl⟩ hH hS)
set_option maxHeartbeats 1000000 in
theorem law_19 {p : Program} {l : Launch} {e : Env} {s : State} {m : MethodId} {args : Array Value} {below : List Frame} {meth : Method} {c : Code} {H : Heap} {locs : List Loc} {cells slots : Nat} {Q : State → Prop} {ls : Array Slot} {G : gG} {B : gB} {σ : gS} {b L i : Nat} {xs : Nat → Int32} (C0 : p.tables.exec = Jvm.exec ∧ c.code = cL_law ∧ c.maxLocals = 4 ∧ s.vm.findClass RL = some m.cls ∧ G.2.2 ≤ s.heap.size) (hK : KI G s) (hAO : AOs s) (hX : va_X b L xs s s.heap) (hbl : b < s.heap.size) (hbA : ¬ mA G b) (hL : L ≤ 2560) (hi : i + 4 < L) (hI : RI B σ) (hH : Hp G B σ H) (hS : va_S (mA G) s.heap H locs) (hc1 : cells + 10 ≤ room_1.cells) (hc2 : slots + 271 ≤ room_1.slots) (hl : lv_has ls 4 [(3, .int (nI i)), (2, .ref (B.1 0 0)), (1, .ref (B.1 40 0)), (0, .ref b)])
    (kont : ∀ (B1 : gB) (σ1 : gS) (H1 : Heap) (locs1 : List Loc), RI B1 σ1 → (B1.1 40 0 = B.1 40 0 ∧ B1.1 0 0 = B.1 0 0) → Hp G B1 σ1 H1 → va_S (mA G) s.heap H1 locs1 → W p l e room_1 s m args below meth c H1 locs1 (cells + 10) (slots + 271) Q (F0 m 967 ls [])) : W p l e room_1 s m args below meth c H locs cells slots Q (F0 m 798 ls []) := by
  obtain ⟨hx, hb, hml, hown, hz⟩ := id C0
  refine lv_aload_n hx hb dL_law_798 rfl (lv_at hl 2 rfl) ?_
  refine lv_aload_n hx hb dL_law_799 rfl (lv_at hl 3 rfl) ?_
  refine lv_iload_n hx hb dL_law_800 rfl (lv_at hl 0 rfl) ?_
  refine lv_iconst (v := nI 1) hx hb dL_law_801 (by decide) ?_
  refine m_iaddN hx hb dL_law_802 ?_
  refine l_sld hx hb hX hbl hbA hS (by omega) hL dL_law_803 ?_
  refine m_ki (m_runV (k := 40) (i := 0) (ci := 6) C0 hK hH hS (bc hI.C 40) rfl rfl (c_X6_needed l G B σ hI (xs (i + 1))) mw_X6_needed wl_L_96 ⟨rfl, rfl⟩ ⟨by decide, by decide⟩ rfl hl.1 rfl (Nat.le_of_ble_eq_true rfl) dL_law_804 ⟨by omega, by omega⟩) hS (fun r1 τ1 H locs hp hH hS => ?_)
  obtain ⟨hr1, hs1⟩ := hp
  rw [hs1] at hH
  refine lv_aload_n hx hb dL_law_807 rfl (lv_at hl 1 rfl) ?_
  refine lv_aload_n hx hb dL_law_808 rfl (lv_at hl 3 rfl) ?_
  refine lv_iload_n hx hb dL_law_809 rfl (lv_at hl 0 rfl) ?_
  refine lv_iconst (v := nI 1) hx hb dL_law_810 (by decide) ?_
  refine m_iaddN hx hb dL_law_811 ?_
  refine l_sld hx hb hX hbl hbA hS (by omega) hL dL_law_812 ?_
  refine m_ki (m_runV (k := 0) (i := 0) (ci := 7) C0 hK hH hS (bm hI.M 0) rfl rfl (c_X7_needed l G B σ hI.M hI.P hI.L (xs (i + 1))) mw_X7_needed wl_L_99 ⟨rfl, rfl⟩ ⟨by decide, by decide⟩ rfl hl.1 rfl (Nat.le_of_ble_eq_true rfl) dL_law_813 ⟨by omega, by omega⟩) hS (fun r2 τ2 H locs hp2 hH hS => ?_)
  have h1 : r1 = r2 := hr1.trans hp2.1.symm
  have h2 : RI B τ2 := by exact hI.sm hp2.2
  refine lv_icmp_eq (tgt := 967) hx hb dL_law_816 (by decide) (fun _ => ?_) (fun c1 => absurd h1 c1)
  exact W.widen (by omega) (by omega) (kont B τ2 H locs h2 ⟨rfl, rfl⟩ hH hS)
set_option maxHeartbeats 1000000 in
theorem law_20 {p : Program} {l : Launch} {e : Env} {s : State} {m : MethodId} {args : Array Value} {below : List Frame} {meth : Method} {c : Code} {H : Heap} {locs : List Loc} {cells slots : Nat} {Q : State → Prop} {ls : Array Slot} {G : gG} {B : gB} {σ : gS} {b L i : Nat} {xs : Nat → Int32} (C0 : p.tables.exec = Jvm.exec ∧ c.code = cL_law ∧ c.maxLocals = 4 ∧ s.vm.findClass RL = some m.cls ∧ G.2.2 ≤ s.heap.size) (hK : KI G s) (hAO : AOs s) (hX : va_X b L xs s s.heap) (hbl : b < s.heap.size) (hbA : ¬ mA G b) (hL : L ≤ 2560) (hi : i + 4 < L) (hI : RI B σ) (hH : Hp G B σ H) (hS : va_S (mA G) s.heap H locs) (hc1 : cells + 10 ≤ room_1.cells) (hc2 : slots + 271 ≤ room_1.slots) (hl : lv_has ls 4 [(3, .int (nI i)), (2, .ref (B.1 0 0)), (1, .ref (B.1 40 0)), (0, .ref b)])
    (kont : ∀ (B1 : gB) (σ1 : gS) (H1 : Heap) (locs1 : List Loc), RI B1 σ1 → (B1.1 40 0 = B.1 40 0 ∧ B1.1 0 0 = B.1 0 0) → Hp G B1 σ1 H1 → va_S (mA G) s.heap H1 locs1 → W p l e room_1 s m args below meth c H1 locs1 (cells + 10) (slots + 271) Q (F0 m 967 ls [])) : W p l e room_1 s m args below meth c H locs cells slots Q (F0 m 821 ls []) := by
  obtain ⟨hx, hb, hml, hown, hz⟩ := id C0
  refine lv_aload_n hx hb dL_law_821 rfl (lv_at hl 2 rfl) ?_
  refine lv_aload_n hx hb dL_law_822 rfl (lv_at hl 3 rfl) ?_
  refine lv_iload_n hx hb dL_law_823 rfl (lv_at hl 0 rfl) ?_
  refine lv_iconst (v := nI 1) hx hb dL_law_824 (by decide) ?_
  refine m_iaddN hx hb dL_law_825 ?_
  refine l_sld hx hb hX hbl hbA hS (by omega) hL dL_law_826 ?_
  refine m_ki (m_runV (k := 40) (i := 0) (ci := 6) C0 hK hH hS (bc hI.C 40) rfl rfl (c_X6_rule l G B σ hI (xs (i + 1))) mw_X6_rule wl_L_100 ⟨rfl, rfl⟩ ⟨by decide, by decide⟩ rfl hl.1 rfl (Nat.le_of_ble_eq_true rfl) dL_law_827 ⟨by omega, by omega⟩) hS (fun r1 τ1 H locs hp hH hS => ?_)
  obtain ⟨hr1, hs1⟩ := hp
  rw [hs1] at hH
  refine lv_aload_n hx hb dL_law_830 rfl (lv_at hl 1 rfl) ?_
  refine lv_aload_n hx hb dL_law_831 rfl (lv_at hl 3 rfl) ?_
  refine lv_iload_n hx hb dL_law_832 rfl (lv_at hl 0 rfl) ?_
  refine lv_iconst (v := nI 1) hx hb dL_law_833 (by decide) ?_
  refine m_iaddN hx hb dL_law_834 ?_
  refine l_sld hx hb hX hbl hbA hS (by omega) hL dL_law_835 ?_
  refine m_ki (m_runV (k := 0) (i := 0) (ci := 7) C0 hK hH hS (bm hI.M 0) rfl rfl (c_X7_rule l G B σ hI.M hI.S (xs (i + 1))) mw_X7_rule wl_L_103 ⟨rfl, rfl⟩ ⟨by decide, by decide⟩ rfl hl.1 rfl (Nat.le_of_ble_eq_true rfl) dL_law_836 ⟨by omega, by omega⟩) hS (fun r2 τ2 H locs hp2 hH hS => ?_)
  have h1 : r1 = r2 := hr1.trans hp2.1.symm
  have h2 : RI B τ2 := by rw [hp2.2]; exact hI
  refine lv_icmp_eq (tgt := 967) hx hb dL_law_839 (by decide) (fun _ => ?_) (fun c1 => absurd h1 c1)
  exact W.widen (by omega) (by omega) (kont B τ2 H locs h2 ⟨rfl, rfl⟩ hH hS)
set_option maxHeartbeats 1000000 in
theorem law_21 {p : Program} {l : Launch} {e : Env} {s : State} {m : MethodId} {args : Array Value} {below : List Frame} {meth : Method} {c : Code} {H : Heap} {locs : List Loc} {cells slots : Nat} {Q : State → Prop} {ls : Array Slot} {G : gG} {B : gB} {σ : gS} {b L i : Nat} {xs : Nat → Int32} (C0 : p.tables.exec = Jvm.exec ∧ c.code = cL_law ∧ c.maxLocals = 4 ∧ s.vm.findClass RL = some m.cls ∧ G.2.2 ≤ s.heap.size) (hK : KI G s) (hAO : AOs s) (hX : va_X b L xs s s.heap) (hbl : b < s.heap.size) (hbA : ¬ mA G b) (hL : L ≤ 2560) (hi : i + 4 < L) (hI : RI B σ) (hH : Hp G B σ H) (hS : va_S (mA G) s.heap H locs) (hc1 : cells + 10 ≤ room_1.cells) (hc2 : slots + 271 ≤ room_1.slots) (hl : lv_has ls 4 [(3, .int (nI i)), (2, .ref (B.1 0 0)), (1, .ref (B.1 40 0)), (0, .ref b)])
    (kont : ∀ (B1 : gB) (σ1 : gS) (H1 : Heap) (locs1 : List Loc), RI B1 σ1 → (B1.1 40 0 = B.1 40 0 ∧ B1.1 0 0 = B.1 0 0) → Hp G B1 σ1 H1 → va_S (mA G) s.heap H1 locs1 → W p l e room_1 s m args below meth c H1 locs1 (cells + 10) (slots + 271) Q (F0 m 967 ls [])) : W p l e room_1 s m args below meth c H locs cells slots Q (F0 m 844 ls []) := by
  obtain ⟨hx, hb, hml, hown, hz⟩ := id C0
  refine lv_aload_n hx hb dL_law_844 rfl (lv_at hl 2 rfl) ?_
  refine lv_aload_n hx hb dL_law_845 rfl (lv_at hl 3 rfl) ?_
  refine lv_iload_n hx hb dL_law_846 rfl (lv_at hl 0 rfl) ?_
  refine lv_iconst (v := nI 1) hx hb dL_law_847 (by decide) ?_
  refine m_iaddN hx hb dL_law_848 ?_
  refine l_sld hx hb hX hbl hbA hS (by omega) hL dL_law_849 ?_
  refine lv_aload_n hx hb dL_law_850 rfl (lv_at hl 3 rfl) ?_
  refine lv_iload_n hx hb dL_law_851 rfl (lv_at hl 0 rfl) ?_
  refine lv_iconst (v := nI 2) hx hb dL_law_852 (by decide) ?_
  refine m_iaddN hx hb dL_law_853 ?_
  refine l_sld hx hb hX hbl hbA hS (by omega) hL dL_law_854 ?_
  refine m_ki (m_runV (k := 40) (i := 0) (ci := 6) C0 hK hH hS (bc hI.C 40) rfl rfl (c_X6_run l G B σ hI (xs (i + 1)) (xs (i + 2))) mw_X6_run wl_L_104 ⟨rfl, rfl⟩ ⟨by decide, by decide⟩ rfl hl.1 rfl (Nat.le_of_ble_eq_true rfl) dL_law_855 ⟨by omega, by omega⟩) hS (fun r1 τ1 H locs hp hH hS => ?_)
  obtain ⟨hr1, hs1⟩ := hp
  rw [hs1] at hH
  refine lv_aload_n hx hb dL_law_858 rfl (lv_at hl 1 rfl) ?_
  refine lv_aload_n hx hb dL_law_859 rfl (lv_at hl 3 rfl) ?_
  refine lv_iload_n hx hb dL_law_860 rfl (lv_at hl 0 rfl) ?_
  refine lv_iconst (v := nI 1) hx hb dL_law_861 (by decide) ?_
  refine m_iaddN hx hb dL_law_862 ?_
  refine l_sld hx hb hX hbl hbA hS (by omega) hL dL_law_863 ?_
  refine lv_aload_n hx hb dL_law_864 rfl (lv_at hl 3 rfl) ?_
  refine lv_iload_n hx hb dL_law_865 rfl (lv_at hl 0 rfl) ?_
  refine lv_iconst (v := nI 2) hx hb dL_law_866 (by decide) ?_
  refine m_iaddN hx hb dL_law_867 ?_
  refine l_sld hx hb hX hbl hbA hS (by omega) hL dL_law_868 ?_
  refine m_ki (m_runV (k := 0) (i := 0) (ci := 7) C0 hK hH hS (bm hI.M 0) rfl rfl (c_X7_run l G B σ hI.M hI.S (xs (i + 1)) (xs (i + 2))) mw_X7_run wl_L_107 ⟨rfl, rfl⟩ ⟨by decide, by decide⟩ rfl hl.1 rfl (Nat.le_of_ble_eq_true rfl) dL_law_869 ⟨by omega, by omega⟩) hS (fun r2 τ2 H locs hp2 hH hS => ?_)
  have h1 : r1 = r2 := hr1.trans hp2.1.symm
  have h2 : RI B τ2 := by rw [hp2.2]; exact hI
  refine lv_icmp_eq (tgt := 967) hx hb dL_law_872 (by decide) (fun _ => ?_) (fun c1 => absurd h1 c1)
  exact W.widen (by omega) (by omega) (kont B τ2 H locs h2 ⟨rfl, rfl⟩ hH hS)
set_option maxHeartbeats 1000000 in
theorem law_22 {p : Program} {l : Launch} {e : Env} {s : State} {m : MethodId} {args : Array Value} {below : List Frame} {meth : Method} {c : Code} {H : Heap} {locs : List Loc} {cells slots : Nat} {Q : State → Prop} {ls : Array Slot} {G : gG} {B : gB} {σ : gS} {b L i : Nat} {xs : Nat → Int32} (C0 : p.tables.exec = Jvm.exec ∧ c.code = cL_law ∧ c.maxLocals = 4 ∧ s.vm.findClass RL = some m.cls ∧ G.2.2 ≤ s.heap.size) (hK : KI G s) (hAO : AOs s) (hX : va_X b L xs s s.heap) (hbl : b < s.heap.size) (hbA : ¬ mA G b) (hL : L ≤ 2560) (hi : i + 4 < L) (hI : RI B σ) (hH : Hp G B σ H) (hS : va_S (mA G) s.heap H locs) (hc1 : cells + 10 ≤ room_1.cells) (hc2 : slots + 271 ≤ room_1.slots) (hl : lv_has ls 4 [(3, .int (nI i)), (2, .ref (B.1 0 0)), (1, .ref (B.1 40 0)), (0, .ref b)])
    (kont : ∀ (B1 : gB) (σ1 : gS) (H1 : Heap) (locs1 : List Loc), RI B1 σ1 → (B1.1 40 0 = B.1 40 0 ∧ B1.1 0 0 = B.1 0 0) → Hp G B1 σ1 H1 → va_S (mA G) s.heap H1 locs1 → W p l e room_1 s m args below meth c H1 locs1 (cells + 10) (slots + 271) Q (F0 m 967 ls [])) : W p l e room_1 s m args below meth c H locs cells slots Q (F0 m 877 ls []) := by
  obtain ⟨hx, hb, hml, hown, hz⟩ := id C0
  refine lv_aload_n hx hb dL_law_877 rfl (lv_at hl 2 rfl) ?_
  refine lv_aload_n hx hb dL_law_878 rfl (lv_at hl 3 rfl) ?_
  refine lv_iload_n hx hb dL_law_879 rfl (lv_at hl 0 rfl) ?_
  refine lv_iconst (v := nI 1) hx hb dL_law_880 (by decide) ?_
  refine m_iaddN hx hb dL_law_881 ?_
  refine l_sld hx hb hX hbl hbA hS (by omega) hL dL_law_882 ?_
  refine lv_aload_n hx hb dL_law_883 rfl (lv_at hl 3 rfl) ?_
  refine lv_iload_n hx hb dL_law_884 rfl (lv_at hl 0 rfl) ?_
  refine lv_iconst (v := nI 2) hx hb dL_law_885 (by decide) ?_
  refine m_iaddN hx hb dL_law_886 ?_
  refine l_sld hx hb hX hbl hbA hS (by omega) hL dL_law_887 ?_
  refine m_ki (m_runV (k := 40) (i := 0) (ci := 6) C0 hK hH hS (bc hI.C 40) rfl rfl (c_X6_cost l G B σ hI (xs (i + 1)) (xs (i + 2))) mw_X6_cost wl_L_108 ⟨rfl, rfl⟩ ⟨by decide, by decide⟩ rfl hl.1 rfl (Nat.le_of_ble_eq_true rfl) dL_law_888 ⟨by omega, by omega⟩) hS (fun r1 τ1 H locs hp hH hS => ?_)
  have hst := st_cost hI hp
  refine lv_aload_n hx hb dL_law_891 rfl (lv_at hl 1 rfl) ?_
  refine lv_aload_n hx hb dL_law_892 rfl (lv_at hl 3 rfl) ?_
  refine lv_iload_n hx hb dL_law_893 rfl (lv_at hl 0 rfl) ?_
  refine lv_iconst (v := nI 1) hx hb dL_law_894 (by decide) ?_
  refine m_iaddN hx hb dL_law_895 ?_
  refine l_sld hx hb hX hbl hbA hS (by omega) hL dL_law_896 ?_
  refine lv_aload_n hx hb dL_law_897 rfl (lv_at hl 3 rfl) ?_
  refine lv_iload_n hx hb dL_law_898 rfl (lv_at hl 0 rfl) ?_
  refine lv_iconst (v := nI 2) hx hb dL_law_899 (by decide) ?_
  refine m_iaddN hx hb dL_law_900 ?_
  refine l_sld hx hb hX hbl hbA hS (by omega) hL dL_law_901 ?_
  refine m_ki (m_runV (k := 0) (i := 0) (ci := 7) C0 hK hH hS (bm hI.M 0) rfl rfl (c_X7_cost l G B τ1 hI.M (xs (i + 1)) (xs (i + 2))) mw_X7_cost wl_L_111 ⟨rfl, rfl⟩ ⟨by decide, by decide⟩ rfl hl.1 rfl (Nat.le_of_ble_eq_true rfl) dL_law_902 ⟨by omega, by omega⟩) hS (fun r2 τ2 H locs hp2 hH hS => ?_)
  obtain ⟨h1, h2⟩ := hst r2 τ2 hp2
  refine lv_icmp_eq (tgt := 967) hx hb dL_law_905 (by decide) (fun _ => ?_) (fun c1 => absurd h1 c1)
  exact W.widen (by omega) (by omega) (kont B τ2 H locs h2 ⟨rfl, rfl⟩ hH hS)
set_option maxHeartbeats 1000000 in
theorem law_23 {p : Program} {l : Launch} {e : Env} {s : State} {m : MethodId} {args : Array Value} {below : List Frame} {meth : Method} {c : Code} {H : Heap} {locs : List Loc} {cells slots : Nat} {Q : State → Prop} {ls : Array Slot} {G : gG} {B : gB} {σ : gS} {b L i : Nat} {xs : Nat → Int32} (C0 : p.tables.exec = Jvm.exec ∧ c.code = cL_law ∧ c.maxLocals = 4 ∧ s.vm.findClass RL = some m.cls ∧ G.2.2 ≤ s.heap.size) (hK : KI G s) (hAO : AOs s) (hX : va_X b L xs s s.heap) (hbl : b < s.heap.size) (hbA : ¬ mA G b) (hL : L ≤ 2560) (hi : i + 4 < L) (hI : RI B σ) (hH : Hp G B σ H) (hS : va_S (mA G) s.heap H locs) (hc1 : cells + 10 ≤ room_1.cells) (hc2 : slots + 271 ≤ room_1.slots) (hl : lv_has ls 4 [(3, .int (nI i)), (2, .ref (B.1 0 0)), (1, .ref (B.1 40 0)), (0, .ref b)])
    (kont : ∀ (B1 : gB) (σ1 : gS) (H1 : Heap) (locs1 : List Loc), RI B1 σ1 → (B1.1 40 0 = B.1 40 0 ∧ B1.1 0 0 = B.1 0 0) → Hp G B1 σ1 H1 → va_S (mA G) s.heap H1 locs1 → W p l e room_1 s m args below meth c H1 locs1 (cells + 10) (slots + 271) Q (F0 m 967 ls [])) : W p l e room_1 s m args below meth c H locs cells slots Q (F0 m 910 ls []) := by
  obtain ⟨hx, hb, hml, hown, hz⟩ := id C0
  refine lv_aload_n hx hb dL_law_910 rfl (lv_at hl 2 rfl) ?_
  refine lv_aload_n hx hb dL_law_911 rfl (lv_at hl 3 rfl) ?_
  refine lv_iload_n hx hb dL_law_912 rfl (lv_at hl 0 rfl) ?_
  refine lv_iconst (v := nI 1) hx hb dL_law_913 (by decide) ?_
  refine m_iaddN hx hb dL_law_914 ?_
  refine l_sld hx hb hX hbl hbA hS (by omega) hL dL_law_915 ?_
  refine lv_aload_n hx hb dL_law_916 rfl (lv_at hl 3 rfl) ?_
  refine lv_iload_n hx hb dL_law_917 rfl (lv_at hl 0 rfl) ?_
  refine lv_iconst (v := nI 2) hx hb dL_law_918 (by decide) ?_
  refine m_iaddN hx hb dL_law_919 ?_
  refine l_sld hx hb hX hbl hbA hS (by omega) hL dL_law_920 ?_
  refine m_kl (m_runV (k := 40) (i := 0) (ci := 6) C0 hK hH hS (bc hI.C 40) rfl rfl (c_X6_score l G B σ hI (xs (i + 1)) (xs (i + 2))) mw_X6_score wl_L_112 ⟨rfl, rfl⟩ ⟨by decide, by decide⟩ rfl hl.1 rfl (Nat.le_of_ble_eq_true rfl) dL_law_921 ⟨by omega, by omega⟩) hS (fun r1 τ1 H locs hp hH hS => ?_)
  obtain ⟨hr1, hs1⟩ := hp
  rw [hs1] at hH
  refine lv_aload_n hx hb dL_law_924 rfl (lv_at hl 1 rfl) ?_
  refine lv_aload_n hx hb dL_law_925 rfl (lv_at hl 3 rfl) ?_
  refine lv_iload_n hx hb dL_law_926 rfl (lv_at hl 0 rfl) ?_
  refine lv_iconst (v := nI 1) hx hb dL_law_927 (by decide) ?_
  refine m_iaddN hx hb dL_law_928 ?_
  refine l_sld hx hb hX hbl hbA hS (by omega) hL dL_law_929 ?_
  refine lv_aload_n hx hb dL_law_930 rfl (lv_at hl 3 rfl) ?_
  refine lv_iload_n hx hb dL_law_931 rfl (lv_at hl 0 rfl) ?_
  refine lv_iconst (v := nI 2) hx hb dL_law_932 (by decide) ?_
  refine m_iaddN hx hb dL_law_933 ?_
  refine l_sld hx hb hX hbl hbA hS (by omega) hL dL_law_934 ?_
  refine m_kl (m_runV (k := 0) (i := 0) (ci := 7) C0 hK hH hS (bm hI.M 0) rfl rfl (c_X7_score l G B σ hI.M hI.P hI.S hI.L (xs (i + 1)) (xs (i + 2))) mw_X7_score wl_L_116 ⟨rfl, rfl⟩ ⟨by decide, by decide⟩ rfl hl.1 rfl (Nat.le_of_ble_eq_true rfl) dL_law_935 ⟨by omega, by omega⟩) hS (fun r2 τ2 H locs hp2 hH hS => ?_)
  have h1 : r1 = r2 := hr1.trans hp2.1.symm
  have h2 : RI B τ2 := by exact hI.sm hp2.2
  refine m_lc_eq (tgt := 967) hx hb dL_law_938 dL_law_939 (by decide) (fun _ => ?_) (fun c1 => absurd h1 c1)
  exact W.widen (by omega) (by omega) (kont B τ2 H locs h2 ⟨rfl, rfl⟩ hH hS)
set_option maxHeartbeats 1000000 in
theorem law_24 {p : Program} {l : Launch} {e : Env} {s : State} {m : MethodId} {args : Array Value} {below : List Frame} {meth : Method} {c : Code} {H : Heap} {locs : List Loc} {cells slots : Nat} {Q : State → Prop} {ls : Array Slot} {G : gG} {B : gB} {σ : gS} {b L i : Nat} {xs : Nat → Int32} (C0 : p.tables.exec = Jvm.exec ∧ c.code = cL_law ∧ c.maxLocals = 4 ∧ s.vm.findClass RL = some m.cls ∧ G.2.2 ≤ s.heap.size) (hK : KI G s) (hAO : AOs s) (hX : va_X b L xs s s.heap) (hbl : b < s.heap.size) (hbA : ¬ mA G b) (hL : L ≤ 2560) (hi : i + 4 < L) (hI : RI B σ) (hH : Hp G B σ H) (hS : va_S (mA G) s.heap H locs) (hc1 : cells + 10 ≤ room_1.cells) (hc2 : slots + 271 ≤ room_1.slots) (hl : lv_has ls 4 [(3, .int (nI i)), (2, .ref (B.1 0 0)), (1, .ref (B.1 40 0)), (0, .ref b)])
    (kont : ∀ (B1 : gB) (σ1 : gS) (H1 : Heap) (locs1 : List Loc), RI B1 σ1 → (B1.1 40 0 = B.1 40 0 ∧ B1.1 0 0 = B.1 0 0) → Hp G B1 σ1 H1 → va_S (mA G) s.heap H1 locs1 → W p l e room_1 s m args below meth c H1 locs1 (cells + 10) (slots + 271) Q (F0 m 967 ls [])) : W p l e room_1 s m args below meth c H locs cells slots Q (F0 m 944 ls []) := by
  obtain ⟨hx, hb, hml, hown, hz⟩ := id C0
  refine lv_aload_n hx hb dL_law_944 rfl (lv_at hl 2 rfl) ?_
  refine lv_aload_n hx hb dL_law_945 rfl (lv_at hl 3 rfl) ?_
  refine lv_iload_n hx hb dL_law_946 rfl (lv_at hl 0 rfl) ?_
  refine lv_iconst (v := nI 1) hx hb dL_law_947 (by decide) ?_
  refine m_iaddN hx hb dL_law_948 ?_
  refine l_sld hx hb hX hbl hbA hS (by omega) hL dL_law_949 ?_
  refine m_ki (m_runV (k := 40) (i := 0) (ci := 6) C0 hK hH hS (bc hI.C 40) rfl rfl (c_X6_count l G B σ hI (xs (i + 1))) mw_X6_count wl_L_117 ⟨rfl, rfl⟩ ⟨by decide, by decide⟩ rfl hl.1 rfl (Nat.le_of_ble_eq_true rfl) dL_law_950 ⟨by omega, by omega⟩) hS (fun r1 τ1 H locs hp hH hS => ?_)
  obtain ⟨hr1, hs1⟩ := hp
  rw [hs1] at hH
  refine lv_aload_n hx hb dL_law_953 rfl (lv_at hl 1 rfl) ?_
  refine lv_aload_n hx hb dL_law_954 rfl (lv_at hl 3 rfl) ?_
  refine lv_iload_n hx hb dL_law_955 rfl (lv_at hl 0 rfl) ?_
  refine lv_iconst (v := nI 1) hx hb dL_law_956 (by decide) ?_
  refine m_iaddN hx hb dL_law_957 ?_
  refine l_sld hx hb hX hbl hbA hS (by omega) hL dL_law_958 ?_
  refine m_ki (m_runV (k := 0) (i := 0) (ci := 7) C0 hK hH hS (bm hI.M 0) rfl rfl (c_X7_count l G B σ hI.M hI.P hI.S hI.L hI.R (xs (i + 1))) mw_X7_count wl_L_120 ⟨rfl, rfl⟩ ⟨by decide, by decide⟩ rfl hl.1 rfl (Nat.le_of_ble_eq_true rfl) dL_law_959 ⟨by omega, by omega⟩) hS (fun r2 τ2 H locs hp2 hH hS => ?_)
  have h1 : r1 = r2 := hr1.trans hp2.1.symm
  have h2 : RI B τ2 := by exact hI.sm hp2.2
  refine lv_icmp_eq (tgt := 967) hx hb dL_law_962 (by decide) (fun _ => ?_) (fun c1 => absurd h1 c1)
  exact W.widen (by omega) (by omega) (kont B τ2 H locs h2 ⟨rfl, rfl⟩ hH hS)
