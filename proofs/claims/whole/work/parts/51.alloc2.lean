/-! a grid that is made, an object that is made, a constructor that is called -/
theorem n_outer (cA : ClassId) (N h0 : Nat) : ∀ i : Nat, Jvm.Free.Multi.outerC cA N h0 i = arrV cA N (fun j => va_rf (if j < i then some (h0 + 1 + j) else none))
  | 0 => by
    show ({ cls := cA, slots := Array.replicate N .null, vm := .none } : Cell) = _
    rw [arrV_new]
    refine congrArg (arrV cA N) (funext fun j => ?_)
    simp [va_rf]
  | i + 1 => by
    show (Jvm.Free.Multi.outerC cA N h0 i).setSlot i (.ref (h0 + 1 + i)) = _
    rw [n_outer cA N h0 i, arrV_store]
    refine congrArg (arrV cA N) (funext fun j => ?_)
    by_cases e : j = i
    · subst e
      simp [updV, va_rf]
    · by_cases h : j < i
      · simp [updV, e, h, Nat.lt_succ_of_lt h]
      · simp [updV, e, h, show ¬ j < i + 1 by omega]
/-- a constructor's start and end: the object lies at the first address that may be written -/
def cPc (G : gG) (ci : Nat) (fs av : List Value) : Array Value → State → Prop := va_Pc (.ref G.2.2 :: av) (fun U => (KI G U ∧ AOs U) ∧ U.heap.size = G.2.2 + 1 ∧ va_at G.1 clsz (G.2.2, .inr (ci, fs)) U.heap)
def cQo (G : gG) (WP : gS → Heap → Prop) (n : Nat) (post : gS → Prop) : Array Value → State → Outcome → State → Prop := va_Qv post (fun (u : gS) t => WP u t.heap ∧ t.heap.size = n) (mA G)
theorem cPc.blind {G : gG} {ci : Nat} {fs av : List Value} : FrameBlind (cPc G ci fs av) := fun a U g mk h => ⟨h.1, ⟨h.2.1.1.call g mk a, h.2.1.2.call g mk a⟩, h.2.2⟩
theorem c_start {l : Launch} {y : MethodName} {cc : ByteArray} {nL : Nat} {ret : Option FieldType} {rm : Room} {G : gG} {ci : Nat} {fs av : List Value} {Qc : Array Value → State → Outcome → State → Prop} {mc ms : Nat} (hy : plainName y.cls = true) (hyn : y.name = "<init>") (hn : (lg_sl (.ref G.2.2 :: av)).length ≤ nL)
    (body : ∀ p e s m below meth c, mX p s m meth c cc nL y.cls ret G → AOs s → meth.name = "<init>" → s.heap.size = G.2.2 + 1 → va_at G.1 clsz (G.2.2, .inr (ci, fs)) s.heap → va_S (mA G) s.heap s.heap [] → ∀ ls, lv_has ls nL (lv_args 0 (.ref G.2.2 :: av)) → W p l e rm s m (Value.ref G.2.2 :: av).toArray below meth c s.heap [] 0 0 (MQ below Qc (Value.ref G.2.2 :: av).toArray s mc ms (mA G)) (F0 m 0 ls [])) :
    Met l y [.code y cc nL ret] rm (cPc G ci fs av) Qc mc ms (mA G) := by
  refine Met.ofW (cc := cc) (maxL := nL) (ret := ret) hy rfl ?_
  intro p e s m args below meth c s₁ Bd hml hv
  obtain ⟨rfl, ⟨hK, hAO⟩, hz, hH⟩ := hv
  have hl := lv_entry (.ref G.2.2 :: av) (n := nL) hn
  rw [lg_entry_eq]
  exact body p e s m below meth c ⟨Bd.exec, Bd.bytes, Bd.returns, hml, findClass_of_methodNamed Bd.named, hK, Bd.notSynchronized, by omega⟩ hAO (((name_of_methodNamed Bd.named Bd.method).1).trans hyn) hz hH va_S.rf _ hl
theorem NO.st {G : gG} {A : Nat → Nat → Nat} {σ : gS} {ci : Nat} {fs : List Value} {H : Heap} (hz : H.size = G.2.2 + 1) (ha : va_at G.1 clsz (G.2.2, .inr (ci, fs)) H) : NO G A c00 σ G.2.2 ci fs (G.2.2 + 1) H := ⟨Hp.nil, ha, hz, fun k i hi => absurd hi (Nat.not_lt_zero i), Nat.le_refl _⟩
section NS
variable {p : Program} {l : Launch} {e : Env} {R : Room} {s : State} {m : MethodId} {args : Array Value} {below : List Frame} {meth : Method} {c : Code} {H : Heap} {locs : List Loc} {cells slots : Nat} {Q : State → Prop}
variable {cc : ByteArray} {pc : Nat} {ls : Array Slot} {rest : List Value} {G : gG} {B : gB} {A : Nat → Nat → Nat} {cn : Nat → Nat} {σ : gS} {a ci sz : Nat} {fs : List Value}
theorem n_vret {WP : gS → Heap → Prop} {n mc ms : Nat} {post : gS → Prop} (hx : p.tables.exec = Jvm.exec) (hb : c.code = cc) (hr : meth.sig.returnType = none) (hlk : meth.locks = false) (hH : WP σ H) (hz : H.size = n) (hS : va_S (mA G) s.heap H locs) (hdg : decode cc pc = .ok (.return_, 1)) (hp : post σ) (h1 : cells ≤ mc) (h2 : slots ≤ ms) : W p l e R s m args below meth c H locs cells slots (MQ below (cQo G WP n post) args s mc ms (mA G)) (F0 m pc ls []) :=
  W.widen h1 h2 (W.vret hx hb hr (fun t ht _ => ⟨⟨σ, rfl, hp, by show WP σ t.heap; rw [ht]; exact hH, by rw [ht]; exact hz⟩, hS.F ht⟩) hS.2.2 hdg hlk)
theorem n_obj (hx : p.tables.exec = Jvm.exec) (hb : c.code = cc) {own : String} (hown : s.vm.findClass own = some m.cls) {nL : Nat} (hml : c.maxLocals = nL) (hls : ls.size = nL) (hK : KI G s) {idx : Nat} (hl : Cond.methodLink own idx objectInit ∈ lw_tbl) {q : Nat} (hR : 1 ≤ R.frames ∧ 20 ≤ R.locals) (hrest : (rest.map fun v => v.category).sum ≤ 8) (hdg : decode cc pc = .ok (.invokespecial idx, 3))
    (kk : W p l e R s m args below meth c H locs cells slots Q (F0 m (pc + 3) ls rest)) : W p l e R s m args below meth c H locs cells slots Q (F0 m pc ls (.ref q :: rest)) :=
  W.objInit hx hb hown (hK.2 _ hl rfl args) (hK.2 _ wob.1 rfl args) (hK.2 _ wob.2 rfl args) (g := F0 m pc ls (.ref q :: rest)) rfl (hls.trans hml.symm) rfl hdg hR.1 (by show 2 * 0 + _ + 12 ≤ _; omega) kk
theorem n_new (hx : p.tables.exec = Jvm.exec) (hb : c.code = cc) {own : String} (hown : s.vm.findClass own = some m.cls) (hK : KI G s) (hz9 : H.size = sz) (hS : va_S (mA G) s.heap H locs) {index N : Nat} {C : String} {T : u_T} (ci : Nat) (fs : List Value) (hc : clsz[ci]? = some (C, T, N)) (ty : Nat → FieldType) (hty : ∀ k, k < N → parseFieldDescriptor (T k).2.2.1 = some (ty k)) (hcl : Cond.classLink own index C ∈ lw_tbl) (hin : Cond.instantiable C N ∈ lw_tbl ∧ Cond.initialized C ∈ lw_tbl) (hfs : ∀ j, j < N → defaultValue (ty j) = vp_V fs j) (hcells : cells + 1 ≤ R.cells) (hslots : slots + N ≤ R.slots) (hdg : decode cc pc = .ok (.new index, 3))
    (kk : ∀ H1 : Heap, H1.size = sz + 1 → (∀ q, q < sz → H1[q]? = H[q]?) → va_at G.1 clsz (sz, .inr (ci, fs)) H1 → va_S (mA G) s.heap H1 locs → W p l e R s m args below meth c H1 locs (cells + 1) (slots + N) Q (F0 m (pc + 3) ls (.ref sz :: rest))) : W p l e R s m args below meth c H locs cells slots Q (F0 m pc ls rest) := by
  have hKn := hK.1.1 ci _ hc
  refine W.newcK hx hb hown (hK.2 _ hcl rfl args) (hK.2 _ hin.1 rfl args) (hK.2 _ hin.2 rfl args) (g := F0 m pc ls rest) rfl hdg hcells hslots hKn.2.1 hz9 fun H1 kC hkC e1 z1 o1 => ?_
  exact kk H1 z1 o1 ⟨_, hc, (u_born ty (hK.u hc args) (fun _ h => h) hKn hkC e1 hty).to hfs⟩ (hS.grown (by omega) (fun q hq => o1 q (by omega)))
theorem n_mna (hx : p.tables.exec = Jvm.exec) (hb : c.code = cc) {own : String} (hown : s.vm.findClass own = some m.cls) (hK : KI G s) (hov : va_AOJ s) (hz9 : H.size = sz) (hS : va_S (mA G) s.heap H locs) {index N K : Nat} (hcl : Cond.classLink own index "[[J" ∈ lw_tbl) (hn : N ≤ 1000) (hk : K ≤ 1000) (hcells : cells + (1 + N) ≤ R.cells) (hslots : slots + (N + N * K) ≤ R.slots) (hdg : decode cc pc = .ok (.multianewarray index 2, 4))
    (kk : ∀ H1 : Heap, H1.size = sz + 1 + N → (∀ q, q < sz → H1[q]? = H[q]?) → H1[sz]? = some (arrV (G.2.1 6) N (fun j => va_rf (if j < N then some (sz + 1 + j) else none))) → (∀ j, j < N → H1[sz + 1 + j]? = some (arrV (G.2.1 1) K (fun _ => .long 0))) → va_S (mA G) s.heap H1 locs → W p l e R s m args below meth c H1 locs (cells + 1 + N) (slots + N + N * K) Q (F0 m (pc + 4) ls (.ref sz :: rest))) : W p l e R s m args below meth c H locs cells slots Q (F0 m pc ls (.int (nI K) :: .int (nI N) :: rest)) := by
  have eN : (nI N).toNatClampNeg = N := nI_clamp (by omega)
  have eK : (nI K).toNatClampNeg = K := nI_clamp (by omega)
  intro T hT Xs
  obtain ⟨vm₁, cA, comp, -, fA, fC, hO, -, X', step⟩ := Xs.multianewarray2F hx hown (ty := .long) (index := index) (hK.2 _ hcl rfl args) hov (hK.2 _ wa_l rfl args) (g := F0 m pc ls (.int (nI K) :: .int (nI N) :: rest)) rfl (by rw [hb]; exact hdg) rfl (nI_pos (by omega)) (nI_pos (by omega)) (by rw [eN]; omega) (by rw [eK]; show K * 8 ≤ _; omega) (by rw [eK]; omega) rfl rfl (by rw [eN]; exact hcells) (by rw [eN, eK]; exact hslots)
  have ecA : cA = G.2.1 6 := Option.some.inj (fA.symm.trans (hK.1.2 6 _ rfl).2)
  have ecC : comp = G.2.1 1 := Option.some.inj (fC.symm.trans (hK.1.2 1 _ rfl).2)
  subst ecA; subst ecC
  rw [eN, eK] at X' step
  generalize hF : Jvm.Free.Multi.fill (T.setVm vm₁) (G.2.1 6) (G.2.1 1) N K (defaultValue .long) N = F at X' step
  have hTh : (T.setVm vm₁).heap = H := hT
  obtain ⟨f1, f2, -, -⟩ := Jvm.Free.Multi.fill_facts (T.setVm vm₁) (G.2.1 6) (G.2.1 1) N K (defaultValue .long) N
  rw [hF, hTh, hz9] at f1 f2
  have hold : ∀ x : Nat, x < sz → F.heap[x]? = H[x]? := fun x hx => by
    have := Jvm.Free.Multi.fill_old (T.setVm vm₁) (G.2.1 6) (G.2.1 1) N K (defaultValue .long) (a := x) (by rw [hTh, hz9]; exact hx) N
    rw [hF, hTh] at this
    exact this
  have hrow : ∀ j : Nat, j < N → F.heap[sz + 1 + j]? = some (arrV (G.2.1 1) K (fun _ => .long 0)) := fun j hj => by
    have := Jvm.Free.Multi.fill_inner (T.setVm vm₁) (G.2.1 6) (G.2.1 1) N K (defaultValue .long) N j hj
    rw [hF, hTh, hz9] at this
    rw [this, ← arrV_new]; rfl
  rw [n_outer] at f2
  have hS1 : va_S (mA G) s.heap F.heap locs := hS.grown (by rw [f1, hz9]; omega) (fun q hq => hold q (by omega))
  obtain ⟨t2, a1, b1⟩ := kk F.heap (by rw [f1]) hold f2 hrow hS1 F rfl X'
  refine ⟨t2, ?_, b1⟩
  have hst : (T.heap.size : Nat) = sz := by rw [hT]; exact hz9
  rw [hst] at step
  exact step t2 a1
/-- a constructor is called on the object that was made last -/
theorem n_call {own : String} {y : MethodName} {bytes : ByteArray} {maxL nL n index mc ms q : Nat} {rm : Room} {As st0 : List Value} {WP : gS → Heap → Prop} {nq : Nat} {post : gS → Prop} (C0 : p.tables.exec = Jvm.exec ∧ c.code = cc ∧ c.maxLocals = nL ∧ s.vm.findClass own = some m.cls ∧ G.2.2 ≤ s.heap.size) (hK : KI G s) (hAO : AOs s) (hS : va_S (mA G) s.heap H locs) (hz9 : H.size = q + 1) (hGq : G.2.2 ≤ q) (hat : va_at G.1 clsz (q, .inr (ci, fs)) H)
    (hM : Met l y [.code y bytes maxL none] rm (cPc (G.1, G.2.1, q) ci fs As) (cQo (G.1, G.2.1, q) WP nq post) mc ms (mA (G.1, G.2.1, q))) (hw : mWd y bytes maxL none n ∧ Cond.instanceMethod y ∈ lw_tbl) (hyn : y.name = "<init>") (hl : Cond.methodLink own index y ∈ lw_tbl) (hrc : rm.cells = mc ∧ rm.slots = ms) (hR : rm.frames + 1 ≤ R.frames ∧ 8 + (maxL + 11) + rm.locals ≤ R.locals) (hn : As.length = n) (hsize : ls.size = nL) (hst : st0 = As.reverse ++ .ref q :: rest) (hrest : (rest.map fun v => v.category).sum ≤ 8) (hdg : decode cc pc = .ok (.invokespecial index, 3)) (hf : cells + mc ≤ R.cells ∧ slots + ms ≤ R.slots)
    (kk : ∀ (u : gS) (H1 : Heap) (locs1 : List Loc), post u → WP u H1 → H1.size = nq → q + 1 ≤ nq → (∀ r, r < q → H1[r]? = H[r]?) → va_S (mA G) s.heap H1 locs1 → W p l e R s m args below meth c H1 locs1 (cells + mc) (slots + ms) Q (F0 m (pc + 3) ls rest)) : W p l e R s m args below meth c H locs cells slots Q (F0 m pc ls st0) := by
  obtain ⟨hx, hb, hml, hown, hz⟩ := C0
  have cb := m_cb (args := args) (index := index) (own := own) (rm := rm) (R := R) hK hw.1 hl hR
  rw [hrc.1, hrc.2] at cb
  refine va_callv (A1 := mA (G.1, G.2.1, q)) (va_runI (Ts := []) (b := q) (As := As) (rest := rest) ⟨hx, hb, hml, hown, fun w h => by cases h⟩ hM ⟨cb, hyn, hK.2 _ hw.2 rfl args⟩ ⟨cPc.blind, fun U hU hW => ⟨rfl, ⟨hK.warm hW, hAO.moved hW.alike⟩, by rw [hU]; exact hz9, by rw [hU]; exact hat⟩⟩ rfl hn hsize hst (lv_room hrest) hdg hf) hS (fun r _ h => Nat.le_trans hGq h) (fun r h => Nat.le_trans hGq h) (fun u t H1 locs1 ht _ hp hB hz1 hk1 hS1 => ?_)
  subst ht
  exact kk u t.heap locs1 hp hB.1 hB.2 (by rw [← hB.2, ← hz9]; exact hz1) (fun r hr => hk1 r (by omega) (fun z => absurd z (Nat.not_le.mpr hr))) hS1
end NS
