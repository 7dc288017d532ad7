/-! one-instruction rows over the abstract heap -/
theorem c_in {n q : Nat} (hq : q < n) (hn : n < 2147483648) : vp_in (nI q) n := vp_in_nI hq hn
theorem c_cl {n q : Nat} (hq : q < n) (hn : n < 2147483648) : (nI q).toNatClampNeg = q := nI_clamp (Nat.lt_trans hq hn)
section MR
variable {p : Program} {l : Launch} {e : Env} {R : Room} {s : State} {m : MethodId} {args : Array Value} {below : List Frame} {meth : Method} {c : Code} {H : Heap} {locs : List Loc} {cells slots : Nat} {Q : State → Prop}
variable {cc : ByteArray} {pc : Nat} {ls : Array Slot} {rest : List Value} {G : gG} {B : gB} {σ : gS}
theorem m_get (hx : p.tables.exec = Jvm.exec) (hb : c.code = cc) {own : String} (hown : s.vm.findClass own = some m.cls) (hK : KI G s) (hH : Hp G B σ H) {k i ci index : Nat} {C : String} {T : u_T} {N : Nat} {fs : List Value} {v : Value} (hi : i < B.2 k) (hlay : lay G B k i (σ.1 k i) (σ.2 k i) = .inr (ci, fs)) (hc : clsz[ci]? = some (C, T, N)) (j : Nat) (hj : j < N) (hw : Cond.fieldLink own index (T j).1 (T j).2.1 (T j).2.2.1 ∈ lw_tbl) (hv : fs[j]? = some v) (hdg : decode cc pc = .ok (.getfield index, 3))
    (kk : W p l e R s m args below meth c H locs cells slots Q (F0 m (pc + 3) ls (v :: rest))) : W p l e R s m args below meth c H locs cells slots Q (F0 m pc ls (.ref (B.1 k i) :: rest)) :=
  va_get hx hb (hK.u hc args) (fun _ h => h) hown hK.1 (hH.at1 hi hlay) 0 rfl hc j hj (hK.2 _ hw rfl args) (fun _ h => h) hv hdg kk
theorem m_getN (hx : p.tables.exec = Jvm.exec) (hb : c.code = cc) {own host : String} (hown : s.vm.findClass own = some m.cls) (hK : KI G s) (hH : Hp G B σ H) {k i ci index : Nat} {C : String} {T : u_T} {N : Nat} {fs : List Value} {v : Value} (hi : i < B.2 k) (hlay : lay G B k i (σ.1 k i) (σ.2 k i) = .inr (ci, fs)) (hc : clsz[ci]? = some (C, T, N)) (j : Nat) (hj : j < N) (hw : Cond.fieldLinkNest own index (T j).1 (T j).2.1 (T j).2.2.1 host ∈ lw_tbl) (hv : fs[j]? = some v) (hdg : decode cc pc = .ok (.getfield index, 3))
    (kk : W p l e R s m args below meth c H locs cells slots Q (F0 m (pc + 3) ls (v :: rest))) : W p l e R s m args below meth c H locs cells slots Q (F0 m pc ls (.ref (B.1 k i) :: rest)) :=
  va_getN hx hb (hK.u hc args) (fun _ h => h) hown hK.1 (hH.at1 hi hlay) 0 rfl hc j hj (hK.2 _ hw rfl args) (fun _ h => h) hv hdg kk
theorem m_put (hx : p.tables.exec = Jvm.exec) (hb : c.code = cc) {own : String} (hown : s.vm.findClass own = some m.cls) (hK : KI G s) (hH : Hp G B σ H) (hS0 : va_S (mA G) s.heap H locs) {k i ci index : Nat} {C : String} {T : u_T} {N : Nat} {fs : List Value} {v : Value} {ty : FieldType} {σ' : gS} (hi : i < B.2 k) (hlay : lay G B k i (σ.1 k i) (σ.2 k i) = .inr (ci, fs)) (hc : clsz[ci]? = some (C, T, N)) (j : Nat) (hj : j < N) (hw : Cond.fieldLink own index (T j).1 (T j).2.1 (T j).2.2.1 ∈ lw_tbl) (hfin : (T j).2.2.2 = false) (hd : parseFieldDescriptor (T j).2.2.1 = some ty) (hn : narrow ty v = v) (hfit : fits ty v = true) (hl : j < fs.length)
    (hlay' : lay G B k i (σ'.1 k i) (σ'.2 k i) = .inr (ci, fs.set j v)) (hs : ∀ a b, ¬ (a = k ∧ b = i) → σ'.1 a b = σ.1 a b ∧ σ'.2 a b = σ.2 a b) (hdg : decode cc pc = .ok (.putfield index, 3))
    (kk : ∀ (H1 : Heap) (locs1 : List Loc), Hp G B σ' H1 → va_S (mA G) s.heap H1 locs1 → W p l e R s m args below meth c H1 locs1 cells slots Q (F0 m (pc + 3) ls rest)) : W p l e R s m args below meth c H locs cells slots Q (F0 m pc ls (v :: .ref (B.1 k i) :: rest)) := by
  obtain ⟨⟨ty0, hty⟩, hnm⟩ := m_nm ci C T N hc
  have hts := hK.u hc args
  have hap := va_apart (own := own) hts (fun _ h => h) ty0 hty hnm hK.1 hc
  obtain ⟨r, h1, cell, q1, q2, q3, q4⟩ := (hH.at1 hi hlay) 0 _ rfl
  have hr : r = (C, T, N) := Option.some.inj (h1.symm.trans hc)
  subst hr
  obtain ⟨hS, hfc, kC, hkC, hkind⟩ := hK.1.1 ci _ hc
  obtain ⟨cf, kf, fi, f, hif, hsl⟩ := hS j hj
  have hlw := hts _ (u_in_lay hj)
  unfold u_lay at hlw
  rw [if_neg (by rw [hfin]; decide)] at hlw
  have hst := (u_facts hfc hkC (u_lays hts (fun _ h => h) hj) hif).1
  have h6 := u_store hfc hkC hkind hlw hif hd hn hfit
  refine W.putK hx hb (f := f) ⟨hown, hK.2 _ hw rfl args, ⟨_, _, _, hif⟩, hst⟩ (by rw [q2]; exact h6) q1 q3 (by rw [hsl]; exact k2_hasslot (q4 j hj)) rfl rfl hdg fun H' e1 e2 e3 => ?_
  rw [hsl] at e1 ⊢
  refine kk H' _ (hH.put hi ?_ e3 hs) (hS0.put e2 e3 (hH.1 k i hi).1)
  rw [hlay']
  exact ⟨_, hc, t_OB.to (V := updV (vp_V fs) j v) ⟨_, e1, q2, q3, t_set q4 hap hj v⟩ (fun j' _ => vp_updV_set hl v j')⟩
theorem m_putN (hx : p.tables.exec = Jvm.exec) (hb : c.code = cc) {own host : String} (hown : s.vm.findClass own = some m.cls) (hK : KI G s) (hH : Hp G B σ H) (hS0 : va_S (mA G) s.heap H locs) {k i ci index : Nat} {C : String} {T : u_T} {N : Nat} {fs : List Value} {v : Value} {ty : FieldType} {σ' : gS} (hi : i < B.2 k) (hlay : lay G B k i (σ.1 k i) (σ.2 k i) = .inr (ci, fs)) (hc : clsz[ci]? = some (C, T, N)) (j : Nat) (hj : j < N) (hw : Cond.fieldLinkNest own index (T j).1 (T j).2.1 (T j).2.2.1 host ∈ lw_tbl) (hfin : (T j).2.2.2 = false) (hd : parseFieldDescriptor (T j).2.2.1 = some ty) (hn : narrow ty v = v) (hfit : fits ty v = true) (hl : j < fs.length)
    (hlay' : lay G B k i (σ'.1 k i) (σ'.2 k i) = .inr (ci, fs.set j v)) (hs : ∀ a b, ¬ (a = k ∧ b = i) → σ'.1 a b = σ.1 a b ∧ σ'.2 a b = σ.2 a b) (hdg : decode cc pc = .ok (.putfield index, 3))
    (kk : ∀ (H1 : Heap) (locs1 : List Loc), Hp G B σ' H1 → va_S (mA G) s.heap H1 locs1 → W p l e R s m args below meth c H1 locs1 cells slots Q (F0 m (pc + 3) ls rest)) : W p l e R s m args below meth c H locs cells slots Q (F0 m pc ls (v :: .ref (B.1 k i) :: rest)) := by
  obtain ⟨⟨ty0, hty⟩, hnm⟩ := m_nm ci C T N hc
  have hts := hK.u hc args
  have hap := va_apart (own := own) hts (fun _ h => h) ty0 hty hnm hK.1 hc
  obtain ⟨r, h1, cell, q1, q2, q3, q4⟩ := (hH.at1 hi hlay) 0 _ rfl
  have hr : r = (C, T, N) := Option.some.inj (h1.symm.trans hc)
  subst hr
  obtain ⟨hS, hfc, kC, hkC, hkind⟩ := hK.1.1 ci _ hc
  obtain ⟨cf, kf, fi, f, hif, hsl⟩ := hS j hj
  have hlw := hts _ (u_in_lay hj)
  unfold u_lay at hlw
  rw [if_neg (by rw [hfin]; decide)] at hlw
  have hst := (u_facts hfc hkC (u_lays hts (fun _ h => h) hj) hif).1
  have h6 := u_store hfc hkC hkind hlw hif hd hn hfit
  refine va_WputK hx hb (f := f) hown (hK.2 _ hw rfl args) hif hst (by rw [q2]; exact h6) q1 q3 (by rw [hsl]; exact k2_hasslot (q4 j hj)) rfl rfl hdg fun H' e1 e2 e3 => ?_
  rw [hsl] at e1 ⊢
  refine kk H' _ (hH.put hi ?_ e3 hs) (hS0.put e2 e3 (hH.1 k i hi).1)
  rw [hlay']
  exact ⟨_, hc, t_OB.to (V := updV (vp_V fs) j v) ⟨_, e1, q2, q3, t_set q4 hap hj v⟩ (fun j' _ => vp_updV_set hl v j')⟩
theorem sI_off (σ : gS) (k i j : Nat) (v : Int32) : ∀ a b, ¬ (a = k ∧ b = i) → (sI σ k i j v).1 a b = σ.1 a b ∧ (sI σ k i j v).2 a b = σ.2 a b := fun _ _ h => ⟨if_neg h, rfl⟩
theorem sJ_off (σ : gS) (k i j : Nat) (v : Int64) : ∀ a b, ¬ (a = k ∧ b = i) → (sJ σ k i j v).1 a b = σ.1 a b ∧ (sJ σ k i j v).2 a b = σ.2 a b := fun _ _ h => ⟨rfl, if_neg h⟩
theorem sI_on (σ : gS) (k i j : Nat) (v : Int32) : (sI σ k i j v).1 k i = upd (σ.1 k i) j v := if_pos ⟨rfl, rfl⟩
theorem sJ_on (σ : gS) (k i j : Nat) (v : Int64) : (sJ σ k i j v).2 k i = vp_updL (σ.2 k i) j v := if_pos ⟨rfl, rfl⟩
-- arrays
theorem m_iald (hx : p.tables.exec = Jvm.exec) (hb : c.code = cc) (hK : KI G s) (hH : Hp G B σ H) {k i n : Nat} (hi : i < B.2 k) (hlay : ∀ f g, lay G B k i f g = aI G n f) {z : Int32} (q : Nat) (hz : z = nI q) (hq : q < n) (hn : n < 2147483648) (hdg : decode cc pc = .ok (.iaload, 1))
    (kk : W p l e R s m args below meth c H locs cells slots Q (F0 m (pc + 1) ls (.int (σ.1 k i q) :: rest))) : W p l e R s m args below meth c H locs cells slots Q (F0 m pc ls (.int z :: .ref (B.1 k i) :: rest)) := by
  subst hz
  refine va_iald hx hb hK.1 (hH.at1 hi (hlay _ _)) 0 0 rfl rfl (c_in hq hn) hdg ?_
  rw [c_cl hq hn]
  exact kk
theorem m_zald (hx : p.tables.exec = Jvm.exec) (hb : c.code = cc) (hK : KI G s) (hH : Hp G B σ H) {k i n : Nat} (hi : i < B.2 k) (hlay : ∀ f g, lay G B k i f g = aZ G n f) {z : Int32} (q : Nat) (hz : z = nI q) (hq : q < n) (hn : n < 2147483648) (hdg : decode cc pc = .ok (.baload, 1))
    (kk : W p l e R s m args below meth c H locs cells slots Q (F0 m (pc + 1) ls (.int (σ.1 k i q) :: rest))) : W p l e R s m args below meth c H locs cells slots Q (F0 m pc ls (.int z :: .ref (B.1 k i) :: rest)) := by
  subst hz
  refine va_zald hx hb hK.1 (hH.at1 hi (hlay _ _)) 0 2 rfl rfl (c_in hq hn) hdg ?_
  rw [c_cl hq hn]
  exact kk
theorem m_lald (hx : p.tables.exec = Jvm.exec) (hb : c.code = cc) (hK : KI G s) (hH : Hp G B σ H) {k i n : Nat} (hi : i < B.2 k) (hlay : ∀ f g, lay G B k i f g = aJ G n g) {z : Int32} (q : Nat) (hz : z = nI q) (hq : q < n) (hn : n < 2147483648) (hdg : decode cc pc = .ok (.laload, 1))
    (kk : W p l e R s m args below meth c H locs cells slots Q (F0 m (pc + 1) ls (.long (σ.2 k i q) :: rest))) : W p l e R s m args below meth c H locs cells slots Q (F0 m pc ls (.int z :: .ref (B.1 k i) :: rest)) := by
  subst hz
  refine va_lald hx hb hK.1 (hH.at1 hi (hlay _ _)) 0 1 rfl rfl (c_in hq hn) hdg ?_
  rw [c_cl hq hn]
  exact kk
/-- a row of a grid, an object of an array: t0 the place of the array's class among tyz -/
theorem m_aald (hx : p.tables.exec = Jvm.exec) (hb : c.code = cc) (hK : KI G s) (hH : Hp G B σ H) {k i n : Nat} {r : Nat → Option Nat} (t0 : Nat) {ty : FieldType} (hi : i < B.2 k) (hlay : ∀ f g, lay G B k i f g = aR G t0 n r) (ht : (tyz G)[t0]? = some (G.2.1 t0, ty)) (hty : ty.isReference = true) {z : Int32} (q : Nat) (hz : z = nI q) (hq : q < n) (hn : n < 2147483648) {v : Value} (hv : va_rf (r q) = v) (hdg : decode cc pc = .ok (.aaload, 1))
    (kk : W p l e R s m args below meth c H locs cells slots Q (F0 m (pc + 1) ls (v :: rest))) : W p l e R s m args below meth c H locs cells slots Q (F0 m pc ls (.int z :: .ref (B.1 k i) :: rest)) := by
  subst hz
  subst hv
  have hP := (hH.at1 hi (hlay _ _)) 0 _ rfl
  exact W.aald (v := va_rf (r q)) (ty := ty) hx hb hP ((hK.1.2 t0 _ ht).1 n (fun j => va_rf (r j))) hty (fun q => by cases q) (by show ¬ (nI q < 0 ∨ (arrV _ _ _).slots.size ≤ _); rw [arrV_size]; exact c_in hq hn) (by show (arrV _ _ _).slots[_]? = _; rw [c_cl hq hn, arrV_read _ _ hq]) rfl rfl hdg kk
theorem m_iast (hx : p.tables.exec = Jvm.exec) (hb : c.code = cc) (hK : KI G s) (hH : Hp G B σ H) (hS : va_S (mA G) s.heap H locs) {k i n : Nat} (hi : i < B.2 k) (hlay : ∀ f g, lay G B k i f g = aI G n f) {z x : Int32} (q : Nat) (hz : z = nI q) (hq : q < n) (hn : n < 2147483648) (hdg : decode cc pc = .ok (.iastore, 1))
    (kk : ∀ (H1 : Heap) (locs1 : List Loc), Hp G B (sI σ k i q x) H1 → va_S (mA G) s.heap H1 locs1 → W p l e R s m args below meth c H1 locs1 cells slots Q (F0 m (pc + 1) ls rest)) : W p l e R s m args below meth c H locs cells slots Q (F0 m pc ls (.int x :: .int z :: .ref (B.1 k i) :: rest)) := by
  subst hz
  have hP := (hH.at1 hi (hlay _ _)) 0 _ rfl
  refine W.iast hx hb hP ((hK.1.2 0 _ rfl).1 n (fun j => .int (σ.1 k i j))) (fun q => by cases q) (by show ¬ (nI q < 0 ∨ (arrV _ _ _).slots.size ≤ _); rw [arrV_size]; exact c_in hq hn) rfl rfl hdg fun H1 e z oq => ?_
  refine kk H1 _ (hH.put hi ?_ oq (sI_off σ k i q x)) (hS.put z oq (hH.1 k i hi).1)
  rw [sI_on, sI_J, hlay]
  show H1[B.1 k i]? = some (vp_cell _ _)
  rw [e, c_cl hq hn, vp_cell_i, vp_cell_i, arrV_store]
  congr 2
  funext j
  by_cases hj : j = q
  · subst hj
    simp [updV, upd]
  · simp [updV, upd, hj]
theorem m_zast (hx : p.tables.exec = Jvm.exec) (hb : c.code = cc) (hK : KI G s) (hH : Hp G B σ H) (hS : va_S (mA G) s.heap H locs) {k i n : Nat} (hi : i < B.2 k) (hlay : ∀ f g, lay G B k i f g = aZ G n f) {z x : Int32} (q : Nat) (hz : z = nI q) (hq : q < n) (hn : n < 2147483648) (hx1 : narrow .boolean (.int x) = .int x) (hdg : decode cc pc = .ok (.bastore, 1))
    (kk : ∀ (H1 : Heap) (locs1 : List Loc), Hp G B (sI σ k i q x) H1 → va_S (mA G) s.heap H1 locs1 → W p l e R s m args below meth c H1 locs1 cells slots Q (F0 m (pc + 1) ls rest)) : W p l e R s m args below meth c H locs cells slots Q (F0 m pc ls (.int x :: .int z :: .ref (B.1 k i) :: rest)) := by
  subst hz
  have hP := (hH.at1 hi (hlay _ _)) 0 _ rfl
  refine W.zast hx hb hP ((hK.1.2 2 _ rfl).1 n (fun j => .int (σ.1 k i j))) (fun q => by cases q) (by show ¬ (nI q < 0 ∨ (arrV _ _ _).slots.size ≤ _); rw [arrV_size]; exact c_in hq hn) rfl rfl hdg fun H1 e z oq => ?_
  refine kk H1 _ (hH.put hi ?_ oq (sI_off σ k i q x)) (hS.put z oq (hH.1 k i hi).1)
  rw [sI_on, sI_J, hlay]
  show H1[B.1 k i]? = some (vp_cell _ _)
  rw [e, c_cl hq hn, hx1, vp_cell_i, vp_cell_i, arrV_store]
  congr 2
  funext j
  by_cases hj : j = q
  · subst hj
    simp [updV, upd]
  · simp [updV, upd, hj]
theorem m_last (hx : p.tables.exec = Jvm.exec) (hb : c.code = cc) (hK : KI G s) (hH : Hp G B σ H) (hS : va_S (mA G) s.heap H locs) {k i n : Nat} (hi : i < B.2 k) (hlay : ∀ f g, lay G B k i f g = aJ G n g) {z : Int32} {x : Int64} (q : Nat) (hz : z = nI q) (hq : q < n) (hn : n < 2147483648) (hdg : decode cc pc = .ok (.lastore, 1))
    (kk : ∀ (H1 : Heap) (locs1 : List Loc), Hp G B (sJ σ k i q x) H1 → va_S (mA G) s.heap H1 locs1 → W p l e R s m args below meth c H1 locs1 cells slots Q (F0 m (pc + 1) ls rest)) : W p l e R s m args below meth c H locs cells slots Q (F0 m pc ls (.long x :: .int z :: .ref (B.1 k i) :: rest)) := by
  subst hz
  have hP := (hH.at1 hi (hlay _ _)) 0 _ rfl
  refine W.last hx hb hP ((hK.1.2 1 _ rfl).1 n (fun j => .long (σ.2 k i j))) (fun q => by cases q) (by show ¬ (nI q < 0 ∨ (arrV _ _ _).slots.size ≤ _); rw [arrV_size]; exact c_in hq hn) rfl rfl hdg fun H1 e z oq => ?_
  refine kk H1 _ (hH.put hi ?_ oq (sJ_off σ k i q x)) (hS.put z oq (hH.1 k i hi).1)
  rw [sJ_on, sJ_I, hlay]
  show H1[B.1 k i]? = some (vp_cell _ _)
  rw [e, c_cl hq hn, vp_cell_l, vp_cell_l, arrV_store]
  congr 2
  funext j
  by_cases hj : j = q
  · subst hj
    simp [updV, vp_updL]
  · simp [updV, vp_updL, hj]
-- ends
theorem m_iret {post : Int32 → gS → Prop} {v : Int32} (hx : p.tables.exec = Jvm.exec) (hb : c.code = cc) (hr : meth.sig.returnType = some .int) (hlk : meth.locks = false) (hH : Hp G B σ H) (hS : va_S (mA G) s.heap H locs) (hdg : decode cc pc = .ok (.ireturn, 1)) (hp : post v σ) : W p l e R s m args below meth c H locs 0 0 (MQ below (mQi G B post) args s 0 0 (mA G)) (F0 m pc ls [.int v]) :=
  W.iret hx hb hr (fun t ht _ => ⟨⟨v, σ, rfl, hp, by show Hp G B σ t.heap; rw [ht]; exact hH⟩, hS.F ht⟩) hS.2.2 hdg hlk
theorem m_zret {post : Int32 → gS → Prop} {v : Int32} (hx : p.tables.exec = Jvm.exec) (hb : c.code = cc) (hr : meth.sig.returnType = some .boolean) (hlk : meth.locks = false) (hH : Hp G B σ H) (hS : va_S (mA G) s.heap H locs) (hdg : decode cc pc = .ok (.ireturn, 1)) (hv : v = 0 ∨ v = 1) (hp : post v σ) : W p l e R s m args below meth c H locs 0 0 (MQ below (mQi G B post) args s 0 0 (mA G)) (F0 m pc ls [.int v]) :=
  W.zret hx hb hr (by rcases hv with rfl | rfl <;> rfl) (fun t ht _ => ⟨⟨v, σ, rfl, hp, by show Hp G B σ t.heap; rw [ht]; exact hH⟩, hS.F ht⟩) hS.2.2 hdg hlk
theorem m_lret {post : Int64 → gS → Prop} {v : Int64} (hx : p.tables.exec = Jvm.exec) (hb : c.code = cc) (hr : meth.sig.returnType = some .long) (hlk : meth.locks = false) (hH : Hp G B σ H) (hS : va_S (mA G) s.heap H locs) (hdg : decode cc pc = .ok (.lreturn, 1)) (hp : post v σ) : W p l e R s m args below meth c H locs 0 0 (MQ below (mQl G B post) args s 0 0 (mA G)) (F0 m pc ls [.long v]) :=
  W.lret hx hb hr (fun t ht _ => ⟨⟨v, σ, rfl, hp, by show Hp G B σ t.heap; rw [ht]; exact hH⟩, hS.F ht⟩) hS.2.2 hdg hlk
theorem m_vret {post : gS → Prop} (hx : p.tables.exec = Jvm.exec) (hb : c.code = cc) (hr : meth.sig.returnType = none) (hlk : meth.locks = false) (hH : Hp G B σ H) (hS : va_S (mA G) s.heap H locs) (hdg : decode cc pc = .ok (.return_, 1)) (hp : post σ) : W p l e R s m args below meth c H locs 0 0 (MQ below (mQv G B post) args s 0 0 (mA G)) (F0 m pc ls []) :=
  W.vret hx hb hr (fun t ht _ => ⟨⟨σ, rfl, hp, by show Hp G B σ t.heap; rw [ht]; exact hH⟩, hS.F ht⟩) hS.2.2 hdg hlk
theorem m_aret {post : Option Nat → gS → Prop} {C : String} {r : Option Nat} (hx : p.tables.exec = Jvm.exec) (hb : c.code = cc) (hr : meth.sig.returnType = some (.object C)) (hlk : meth.locks = false) (hH : Hp G B σ H) (hS : va_S (mA G) s.heap H locs) (hdg : decode cc pc = .ok (.areturn, 1)) (hp : post r σ) : W p l e R s m args below meth c H locs 0 0 (MQ below (mQq G B post) args s 0 0 (mA G)) (F0 m pc ls [va_rf r]) :=
  W.aret hx hb hr (Or.inl ⟨_, rfl⟩) (va_rf_or r) (fun t ht _ => ⟨⟨r, σ, rfl, hp, by show Hp G B σ t.heap; rw [ht]; exact hH⟩, hS.F ht⟩) hS.2.2 hdg hlk
-- calls
/-- the tables' words of a method that is called -/
abbrev mWd (y : MethodName) (cc : ByteArray) (nL : Nat) (ret : Option FieldType) (n : Nat) : Prop := Cond.code y cc nL ret ∈ lw_tbl ∧ Cond.initialized y.cls ∈ lw_tbl ∧ (y.cls ≠ "java/lang/invoke/MethodHandle" ∧ y.cls ≠ "java/lang/invoke/VarHandle" ∧ (parseMethodDescriptor y.desc).map (fun d => d.parameters.length) = some n)
abbrev mWv (y : MethodName) (cc : ByteArray) (nL : Nat) (ret : Option FieldType) (n : Nat) : Prop := mWd y cc nL ret n ∧ Cond.instanceMethod y ∈ lw_tbl ∧ Cond.selects y.cls y y ∈ lw_tbl
abbrev mWs (y : MethodName) (cc : ByteArray) (nL : Nat) (ret : Option FieldType) (n : Nat) : Prop := mWd y cc nL ret n ∧ Cond.static y ∈ lw_tbl
variable {y : MethodName} {bytes : ByteArray} {maxL nL n index mc ms : Nat} {ret : Option FieldType} {rm : Room} {own : String} {As : List Value} {st0 : List Value} {Qc : Array Value → State → Outcome → State → Prop}
theorem m_code (hK : KI G s) (h : Cond.code y bytes maxL ret ∈ lw_tbl) : ∀ w ∈ [Cond.code y bytes maxL ret], w.before args s = true := fun w hw => by
  rw [List.mem_singleton.mp hw]
  exact hK.2 _ h rfl args
theorem m_good : GoodIn [Cond.code y bytes maxL ret] [Cond.code y bytes maxL ret] := fun w hw => ⟨hw, by rw [List.mem_singleton.mp hw]; exact Or.inl rfl⟩
theorem m_cb (hK : KI G s) (hw : mWd y bytes maxL ret n) (hl : Cond.methodLink own index y ∈ lw_tbl) (hR : rm.frames + 1 ≤ R.frames ∧ 8 + (maxL + 11) + rm.locals ≤ R.locals) : CallB R s args own index y bytes maxL ret [.code y bytes maxL ret] rm rm.cells rm.slots n :=
  callB_of n (m_code hK hw.1) m_good rfl rfl rfl (hK.2 _ hw.2.1 rfl args) (hK.2 _ hl rfl args) hw.2.2 hR
theorem m_pre (hK : KI G s) (hz : G.2.2 ≤ s.heap.size) (hH : Hp G B σ H) (hS : va_S (mA G) s.heap H locs) {av : List Value} : ∀ U : State, U.heap = H → s.WarmedH U.vm → mPc G B σ av av.toArray U := fun U hU hW => ⟨rfl, hK.warm hW, by rw [hU]; exact Nat.le_trans hz hS.1, by rw [hU]; exact hH⟩
theorem m_recv (hK : KI G s) (hH : Hp G B σ H) {k i ci : Nat} {C : String} {T : u_T} {N : Nat} {fs : List Value} (hi : i < B.2 k) (hlay : lay G B k i (σ.1 k i) (σ.2 k i) = .inr (ci, fs)) (hc : clsz[ci]? = some (C, T, N)) : ∃ cell : Cell, H[B.1 k i]? = some cell ∧ cell.vm.isStatics = false ∧ s.vm.findClass C = some cell.cls :=
  va_recv hK.1 (hH.at1 hi hlay) hc (q0 := 0) rfl
/-- a call that makes no cells -/
theorem m_runV {own : String} (C0 : p.tables.exec = Jvm.exec ∧ c.code = cc ∧ c.maxLocals = nL ∧ s.vm.findClass own = some m.cls ∧ G.2.2 ≤ s.heap.size) (hK : KI G s) (hH : Hp G B σ H) (hS : va_S (mA G) s.heap H locs) {k i ci : Nat} {T : u_T} {N : Nat} {fs : List Value} (hi : i < B.2 k) (hlay : lay G B k i (σ.1 k i) (σ.2 k i) = .inr (ci, fs)) (hc : clsz[ci]? = some (y.cls, T, N))
    (hM : Met l y [.code y bytes maxL ret] rm (mPc G B σ (.ref (B.1 k i) :: As)) Qc 0 0 (mA G)) (hw : mWv y bytes maxL ret n) (hl : Cond.methodLink own index y ∈ lw_tbl) (hrc : rm.cells = 0 ∧ rm.slots = 0) (hR : rm.frames + 1 ≤ R.frames ∧ 8 + (maxL + 11) + rm.locals ≤ R.locals) (hn : As.length = n) (hsize : ls.size = nL) (hst : st0 = As.reverse ++ .ref (B.1 k i) :: rest) (hrest : (rest.map fun v => v.category).sum ≤ 8) (hdg : decode cc pc = .ok (.invokevirtual index, 3)) (hf : cells ≤ R.cells ∧ slots ≤ R.slots) :
    va_Run p l e R s m args below meth c H locs cells slots 0 0 (F0 m pc ls st0) rest (Qc (Value.ref (B.1 k i) :: As).toArray) (mA G) := by
  obtain ⟨hx, hb, hml, hown, hz⟩ := C0
  have cb := m_cb (args := args) (index := index) (own := own) (rm := rm) (R := R) hK hw.1 hl hR
  rw [hrc.1, hrc.2] at cb
  exact va_runV (Ts := []) (C := y.cls) ⟨hx, hb, hml, hown, fun w h => by cases h⟩ hM ⟨cb, hK.2 _ hw.2.1 rfl args, hK.2 _ hw.2.2 rfl args⟩ ⟨mPc.blind, m_recv hK hH hi hlay hc, m_pre hK hz hH hS⟩ rfl hn hsize hst (lv_room hrest) hdg hf
theorem m_runS {own : String} (C0 : p.tables.exec = Jvm.exec ∧ c.code = cc ∧ c.maxLocals = nL ∧ s.vm.findClass own = some m.cls ∧ G.2.2 ≤ s.heap.size) (hK : KI G s) (hH : Hp G B σ H) (hS : va_S (mA G) s.heap H locs)
    (hM : Met l y [.code y bytes maxL ret] rm (mPc G B σ As) Qc 0 0 (mA G)) (hw : mWs y bytes maxL ret n) (hl : Cond.methodLink own index y ∈ lw_tbl) (hrc : rm.cells = 0 ∧ rm.slots = 0) (hR : rm.frames + 1 ≤ R.frames ∧ 8 + (maxL + 11) + rm.locals ≤ R.locals) (hn : As.length = n) (hsize : ls.size = nL) (hst : st0 = As.reverse ++ rest) (hrest : (rest.map fun v => v.category).sum ≤ 8) (hdg : decode cc pc = .ok (.invokestatic index, 3)) (hf : cells ≤ R.cells ∧ slots ≤ R.slots) :
    va_Run p l e R s m args below meth c H locs cells slots 0 0 (F0 m pc ls st0) rest (Qc As.toArray) (mA G) := by
  obtain ⟨hx, hb, hml, hown, hz⟩ := C0
  have cb := m_cb (args := args) (index := index) (own := own) (rm := rm) (R := R) hK hw.1 hl hR
  rw [hrc.1, hrc.2] at cb
  exact va_runS (Ts := []) ⟨hx, hb, hml, hown, fun w h => by cases h⟩ hM ⟨cb, hK.2 _ hw.2 rfl args⟩ ⟨mPc.blind, m_pre hK hz hH hS⟩ rfl hn hsize hst (lv_room hrest) hdg hf
theorem m_ki {post : Int32 → gS → Prop} {a : Array Value} (hr : va_Run p l e R s m args below meth c H locs cells slots 0 0 (F0 m pc ls st0) rest (mQi G B post a) (mA G)) (hS : va_S (mA G) s.heap H locs)
    (kk : ∀ (r : Int32) (σ' : gS) (H1 : Heap) (locs1 : List Loc), post r σ' → Hp G B σ' H1 → va_S (mA G) s.heap H1 locs1 → W p l e R s m args below meth c H1 locs1 cells slots Q (F0 m (pc + 3) ls (.int r :: rest))) : W p l e R s m args below meth c H locs cells slots Q (F0 m pc ls st0) :=
  va_calli hr hS (fun _ _ h => h) (fun _ h => h) (fun r u t H1 locs1 ht _ hp hB _ _ hS1 => kk r u H1 locs1 hp (ht ▸ hB) hS1)
theorem m_kl {post : Int64 → gS → Prop} {a : Array Value} (hr : va_Run p l e R s m args below meth c H locs cells slots 0 0 (F0 m pc ls st0) rest (mQl G B post a) (mA G)) (hS : va_S (mA G) s.heap H locs)
    (kk : ∀ (r : Int64) (σ' : gS) (H1 : Heap) (locs1 : List Loc), post r σ' → Hp G B σ' H1 → va_S (mA G) s.heap H1 locs1 → W p l e R s m args below meth c H1 locs1 cells slots Q (F0 m (pc + 3) ls (.long r :: rest))) : W p l e R s m args below meth c H locs cells slots Q (F0 m pc ls st0) :=
  va_calll hr hS (fun _ _ h => h) (fun _ h => h) (fun r u t H1 locs1 ht _ hp hB _ _ hS1 => kk r u H1 locs1 hp (ht ▸ hB) hS1)
theorem m_kv {post : gS → Prop} {a : Array Value} (hr : va_Run p l e R s m args below meth c H locs cells slots 0 0 (F0 m pc ls st0) rest (mQv G B post a) (mA G)) (hS : va_S (mA G) s.heap H locs)
    (kk : ∀ (σ' : gS) (H1 : Heap) (locs1 : List Loc), post σ' → Hp G B σ' H1 → va_S (mA G) s.heap H1 locs1 → W p l e R s m args below meth c H1 locs1 cells slots Q (F0 m (pc + 3) ls rest)) : W p l e R s m args below meth c H locs cells slots Q (F0 m pc ls st0) :=
  va_callv hr hS (fun _ _ h => h) (fun _ h => h) (fun u t H1 locs1 ht _ hp hB _ _ hS1 => kk u H1 locs1 hp (ht ▸ hB) hS1)
theorem m_kq {post : Option Nat → gS → Prop} {a : Array Value} (hr : va_Run p l e R s m args below meth c H locs cells slots 0 0 (F0 m pc ls st0) rest (mQq G B post a) (mA G)) (hS : va_S (mA G) s.heap H locs)
    (kk : ∀ (r : Option Nat) (σ' : gS) (H1 : Heap) (locs1 : List Loc), post r σ' → Hp G B σ' H1 → va_S (mA G) s.heap H1 locs1 → W p l e R s m args below meth c H1 locs1 cells slots Q (F0 m (pc + 3) ls (va_rf r :: rest))) : W p l e R s m args below meth c H locs cells slots Q (F0 m pc ls st0) :=
  va_callq hr hS (fun _ _ h => h) (fun _ h => h) (fun r u t H1 locs1 ht _ hp hB _ _ hS1 => kk r u H1 locs1 hp (ht ▸ hB) hS1)
end MR
