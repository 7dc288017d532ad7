/-! the abstract heap: a cell has a label (kind k, number i); a book B gives its address and how many cells a kind has; sigma gives what the cells hold -/
abbrev clsz : List vw_C := [(RX0, TX0, 10), (RX1, TX1, 2), (RX2, TX2, 7), (RX3, TX3, 4), (RX4, TX4, 5), (RX5, TX5, 1), (RX6, TX6, 11), (RX7, TX7, 37)]
/-- class ids and slots; array classes (0 int, 1 long, 2 boolean, 3 Plan, 4 Supplier, 5 Lot, 6 long[]); the first address that the law may write -/
abbrev gG : Type := va_G × (Nat → ClassId) × Nat
abbrev gB : Type := (Nat → Nat → Nat) × (Nat → Nat)
abbrev gS : Type := (Nat → Nat → Nat → Int32) × (Nat → Nat → Nat → Int64)
abbrev aI (G : gG) (n : Nat) (f : Nat → Int32) : va_E := .inl (G.2.1 0, n, .inl f)
abbrev aJ (G : gG) (n : Nat) (g : Nat → Int64) : va_E := .inl (G.2.1 1, n, .inr (.inl g))
abbrev aZ (G : gG) (n : Nat) (f : Nat → Int32) : va_E := .inl (G.2.1 2, n, .inl f)
abbrev aR (G : gG) (c n : Nat) (r : Nat → Option Nat) : va_E := .inl (G.2.1 c, n, .inr (.inr (.inr (.inr r))))
/-- which plans, suppliers, lots there are, as an array of references holds them -/
def rfs (B : gB) (k : Nat) : Nat → Option Nat := fun j => if j < B.2 k then some (B.1 k j) else none
def lay (G : gG) (B : gB) (k i : Nat) (f : Nat → Int32) (g : Nat → Int64) : va_E := match k with
  | 0 => .inr (7, [.int (f 0), .int (f 1), .int (f 2), .ref (B.1 3 0), .ref (B.1 4 0), .ref (B.1 5 0), .ref (B.1 6 0), .long (g 7), .long (g 8), .ref (B.1 9 0), .ref (B.1 10 0), .ref (B.1 11 0), .ref (B.1 12 0), .ref (B.1 13 0), .ref (B.1 14 0), .ref (B.1 15 0), .ref (B.1 16 0), .ref (B.1 17 0), .ref (B.1 18 0), .ref (B.1 19 0), .ref (B.1 20 0), .ref (B.1 21 0), .ref (B.1 22 0), .ref (B.1 23 0), .ref (B.1 24 0), .ref (B.1 25 0), .ref (B.1 26 0), .ref (B.1 27 0), .long (g 28), .long (g 29), .long (g 30), .int (f 31), .int (f 32), .int (f 33), .int (f 34), .ref (B.1 35 0), .ref (B.1 36 0)])
  | 3 => aI G 24 f
  | 4 => aI G 96 f
  | 5 => aI G 96 f
  | 6 => aI G 96 f
  | 9 => aJ G 3721 g
  | 10 => aI G 2 f
  | 11 => aI G 2 f
  | 12 => aI G 2 f
  | 13 => aZ G 2 f
  | 14 => aI G 24 f
  | 15 => aI G 8 f
  | 16 => aI G 8 f
  | 17 => aI G 8 f
  | 18 => aI G 480 f
  | 19 => aI G 60 f
  | 20 => aI G 60 f
  | 21 => aI G 60 f
  | 22 => aI G 60 f
  | 23 => aI G 60 f
  | 24 => aI G 3600 f
  | 25 => aI G 4 f
  | 26 => aJ G 62 g
  | 27 => aJ G 62 g
  | 35 => aZ G 210 f
  | 36 => aZ G 210 f
  | 40 => .inr (6, [.ref (B.1 41 0), .ref (B.1 44 0), .ref (B.1 45 0), .int (f 3), .ref (B.1 49 0), .ref (B.1 49 1), .ref (B.1 46 0), .int (f 7), .ref (B.1 47 0), .int (f 9), .ref (B.1 48 0)])
  | 41 => .inr (5, [.ref (B.1 42 0)])
  | 42 => aR G 6 61 (fun j => some (B.1 43 j))
  | 43 => aJ G 61 g
  | 44 => .inr (1, [.long (g 0), .long (g 1)])
  | 45 => aR G 3 24 (rfs B 50)
  | 46 => aR G 4 8 (rfs B 57)
  | 47 => aR G 5 60 (rfs B 60)
  | 48 => aI G 4 f
  | 49 => .inr (3, [.int (f 0), .int (f 1), .int (f 2), .int (f 3)])
  | 50 => .inr (2, [.ref (B.1 51 i), .ref (B.1 52 i), .ref (B.1 53 i), .ref (B.1 54 i), .ref (B.1 55 i), .int (f 5), .int (f 6)])
  | 51 => aI G 4 f
  | 52 => aI G 4 f
  | 53 => aI G 4 f
  | 54 => aI G 4 f
  | 55 => aR G 6 4 (fun j => some (B.1 56 (4 * i + j)))
  | 56 => aJ G 61 g
  | 57 => .inr (4, [.ref (B.1 58 i), .ref (B.1 59 i), .int (f 2), .int (f 3), .int (f 4)])
  | 58 => aI G 3 f
  | 59 => aI G 60 f
  | 60 => .inr (0, [.int (f 0), .int (f 1), .ref (B.1 50 (f 3).toNatClampNeg), .int (f 3), .int (f 4), .ref (B.1 61 i), .ref (B.1 62 i), .int (f 7), .int (f 8), .int (f 9)])
  | 61 => aI G 60 f
  | _ => aI G 4 f
def Hp (G : gG) (B : gB) (σ : gS) (H : Heap) : Prop := (∀ k i, i < B.2 k → G.2.2 ≤ B.1 k i ∧ va_at G.1 clsz (B.1 k i, lay G B k i (σ.1 k i) (σ.2 k i)) H) ∧ ∀ k i k' i', i < B.2 k → i' < B.2 k' → B.1 k i = B.1 k' i' → k = k' ∧ i = i'
/-- one int, one long changed -/
def sI (σ : gS) (k i j : Nat) (v : Int32) : gS := (fun a b => if a = k ∧ b = i then upd (σ.1 k i) j v else σ.1 a b, σ.2)
def sJ (σ : gS) (k i j : Nat) (v : Int64) : gS := (σ.1, fun a b => if a = k ∧ b = i then vp_updL (σ.2 k i) j v else σ.2 a b)
theorem sI_J (σ : gS) (k i j : Nat) (v : Int32) : (sI σ k i j v).2 = σ.2 := rfl
theorem sJ_I (σ : gS) (k i j : Nat) (v : Int64) : (sJ σ k i j v).1 = σ.1 := rfl
theorem sI_at (σ : gS) (k i j : Nat) (v : Int32) (a b c : Nat) : (sI σ k i j v).1 a b c = if a = k ∧ b = i ∧ c = j then v else σ.1 a b c := by
  show (if a = k ∧ b = i then upd (σ.1 k i) j v else σ.1 a b) c = _
  by_cases h : a = k ∧ b = i
  · obtain ⟨rfl, rfl⟩ := h
    by_cases h2 : c = j
    · subst h2; simp [upd]
    · simp [upd, h2]
  · rw [if_neg h, if_neg (fun q => h ⟨q.1, q.2.1⟩)]
theorem sJ_at (σ : gS) (k i j : Nat) (v : Int64) (a b c : Nat) : (sJ σ k i j v).2 a b c = if a = k ∧ b = i ∧ c = j then v else σ.2 a b c := by
  show (if a = k ∧ b = i then vp_updL (σ.2 k i) j v else σ.2 a b) c = _
  by_cases h : a = k ∧ b = i
  · obtain ⟨rfl, rfl⟩ := h
    by_cases h2 : c = j
    · subst h2; simp [vp_updL]
    · simp [vp_updL, h2]
  · rw [if_neg h, if_neg (fun q => h ⟨q.1, q.2.1⟩)]
/-- the words that stay as the machine goes on -/
def okw (w : Cond) : Bool := goodWord w || (w.onTables && w.keepsH)
def tyz (G : gG) : List (ClassId × FieldType) := [(G.2.1 0, .int), (G.2.1 1, .long), (G.2.1 2, .boolean), (G.2.1 3, .object RX2), (G.2.1 4, .object RX4), (G.2.1 5, .object RX0), (G.2.1 6, .array .long)]
def KI (G : gG) (U : State) : Prop := va_K G.1 clsz (tyz G) U ∧ ∀ w ∈ lw_tbl, okw w = true → ∀ a, w.before a U = true
theorem KI.warm {G : gG} {s U : State} (h : KI G s) (hW : s.WarmedH U.vm) : KI G U := by
  refine ⟨va_K.moved hW.alike h.1, fun w hw ho a => ?_⟩
  have hb := h.2 w hw ho a
  unfold okw at ho
  rcases Bool.or_eq_true_iff.mp ho with q | q
  · exact word_at hW (good_of_word q) hb
  · have q2 := Bool.and_eq_true_iff.mp q
    have h3 := Cond.onTables_warmH (args' := a) (T := U) hW q2.1 q2.2 hb
    rwa [State.setVm_self] at h3
theorem KI.call {G : gG} {U : State} (h : KI G U) (g : JFrame) (mk : MethodId) (a : Array Value) : KI G (U.calling g mk a) := h.warm (U := U.calling g mk a) (State.WarmedH.refl U)
abbrev mA (G : gG) : Nat → Prop := fun q => G.2.2 ≤ q
def mPc (G : gG) (B : gB) (σ : gS) (av : List Value) : Array Value → State → Prop := va_Pc av (fun U => KI G U ∧ G.2.2 ≤ U.heap.size ∧ Hp G B σ U.heap)
abbrev mB (G : gG) (B : gB) : gS → State → Prop := fun σ t => Hp G B σ t.heap
def mQi (G : gG) (B : gB) (post : Int32 → gS → Prop) : Array Value → State → Outcome → State → Prop := va_Qi post (mB G B) (mA G)
def mQl (G : gG) (B : gB) (post : Int64 → gS → Prop) : Array Value → State → Outcome → State → Prop := va_Ql post (mB G B) (mA G)
def mQv (G : gG) (B : gB) (post : gS → Prop) : Array Value → State → Outcome → State → Prop := va_Qv post (mB G B) (mA G)
def mQq (G : gG) (B : gB) (post : Option Nat → gS → Prop) : Array Value → State → Outcome → State → Prop := va_Qq post (mB G B) (mA G)
theorem mPc.blind {G : gG} {B : gB} {σ : gS} {av : List Value} : FrameBlind (mPc G B σ av) := fun a U g mk h => ⟨h.1, h.2.1.call g mk a, h.2.2⟩
/-- what a method's body stands on -/
abbrev mX (p : Program) (s : State) (m : MethodId) (meth : Method) (c : Code) (cc : ByteArray) (nL : Nat) (own : String) (ret : Option FieldType) (G : gG) : Prop :=
  p.tables.exec = Jvm.exec ∧ c.code = cc ∧ meth.sig.returnType = ret ∧ c.maxLocals = nL ∧ s.vm.findClass own = some m.cls ∧ KI G s ∧ meth.locks = false ∧ G.2.2 ≤ s.heap.size
theorem m_start {l : Launch} {y : MethodName} {cc : ByteArray} {nL : Nat} {ret : Option FieldType} {rm : Room} {G : gG} {B : gB} {σ : gS} {av : List Value} {Qc : Array Value → State → Outcome → State → Prop} {mc ms : Nat} (hy : plainName y.cls = true) (hn : (lg_sl av).length ≤ nL)
    (body : ∀ p e s m below meth c, mX p s m meth c cc nL y.cls ret G → Hp G B σ s.heap → va_S (mA G) s.heap s.heap [] → ∀ ls, lv_has ls nL (lv_args 0 av) → W p l e rm s m av.toArray below meth c s.heap [] 0 0 (MQ below Qc av.toArray s mc ms (mA G)) (F0 m 0 ls [])) :
    Met l y [.code y cc nL ret] rm (mPc G B σ av) Qc mc ms (mA G) := by
  refine Met.ofW (cc := cc) (maxL := nL) (ret := ret) hy rfl ?_
  intro p e s m args below meth c s₁ Bd hml hv
  obtain ⟨rfl, hK, hz, hH⟩ := hv
  have hl := lv_entry av (n := nL) hn
  rw [lg_entry_eq]
  exact body p e s m below meth c ⟨Bd.exec, Bd.bytes, Bd.returns, hml, findClass_of_methodNamed Bd.named, hK, Bd.notSynchronized, hz⟩ hH va_S.rf _ hl
theorem m_uws : ∀ (ci : Nat) (C : String) (T : u_T) (N : Nat), clsz[ci]? = some (C, T, N) → ∀ w ∈ u_ws C T N, w ∈ lw_tbl ∧ okw w = true := by
  have h0 : ∀ w ∈ u_ws RX0 TX0 10, w ∈ lw_tbl ∧ okw w = true := by decide +kernel
  have h1 : ∀ w ∈ u_ws RX1 TX1 2, w ∈ lw_tbl ∧ okw w = true := by decide +kernel
  have h2 : ∀ w ∈ u_ws RX2 TX2 7, w ∈ lw_tbl ∧ okw w = true := by decide +kernel
  have h3 : ∀ w ∈ u_ws RX3 TX3 4, w ∈ lw_tbl ∧ okw w = true := by decide +kernel
  have h4 : ∀ w ∈ u_ws RX4 TX4 5, w ∈ lw_tbl ∧ okw w = true := by decide +kernel
  have h5 : ∀ w ∈ u_ws RX5 TX5 1, w ∈ lw_tbl ∧ okw w = true := by decide +kernel
  have h6 : ∀ w ∈ u_ws RX6 TX6 11, w ∈ lw_tbl ∧ okw w = true := by decide +kernel
  have h7 : ∀ w ∈ u_ws RX7 TX7 37, w ∈ lw_tbl ∧ okw w = true := by decide +kernel
  intro ci C T N h
  match ci, h with
  | 0, h => cases h; exact h0
  | 1, h => cases h; exact h1
  | 2, h => cases h; exact h2
  | 3, h => cases h; exact h3
  | 4, h => cases h; exact h4
  | 5, h => cases h; exact h5
  | 6, h => cases h; exact h6
  | 7, h => cases h; exact h7
  | n + 8, h => simp [clsz] at h
theorem m_nm : ∀ (ci : Nat) (C : String) (T : u_T) (N : Nat), clsz[ci]? = some (C, T, N) → (∃ ty : Nat → FieldType, ∀ k, k < N → parseFieldDescriptor (T k).2.2.1 = some (ty k)) ∧ ∀ a, a < N → ∀ b, b < N → a ≠ b → (T a).2.1 ≠ (T b).2.1 := by
  intro ci C T N h
  match ci, h with
  | 0, h => cases h; exact ⟨⟨_, tyX0_ok⟩, nmX0⟩
  | 1, h => cases h; exact ⟨⟨_, tyX1_ok⟩, nmX1⟩
  | 2, h => cases h; exact ⟨⟨_, tyX2_ok⟩, nmX2⟩
  | 3, h => cases h; exact ⟨⟨_, tyX3_ok⟩, nmX3⟩
  | 4, h => cases h; exact ⟨⟨_, tyX4_ok⟩, nmX4⟩
  | 5, h => cases h; exact ⟨⟨_, tyX5_ok⟩, nmX5⟩
  | 6, h => cases h; exact ⟨⟨_, tyX6_ok⟩, nmX6⟩
  | 7, h => cases h; exact ⟨⟨_, tyX7_ok⟩, nmX7⟩
  | n + 8, h => simp [clsz] at h
theorem KI.u {G : gG} {s : State} (h : KI G s) {ci : Nat} {C : String} {T : u_T} {N : Nat} (hc : clsz[ci]? = some (C, T, N)) (args : Array Value) : ∀ w ∈ u_ws C T N, w.before args s = true := fun w hw => h.2 w (m_uws ci C T N hc w hw).1 (m_uws ci C T N hc w hw).2 args
/-- a cell changed: the others stand -/
theorem Hp.put {G : gG} {B : gB} {σ σ' : gS} {H H1 : Heap} {k i : Nat} (h : Hp G B σ H) (hi : i < B.2 k) (he : va_at G.1 clsz (B.1 k i, lay G B k i (σ'.1 k i) (σ'.2 k i)) H1) (oq : ∀ q : Nat, q ≠ B.1 k i → H1[q]? = H[q]?) (hs : ∀ a b, ¬ (a = k ∧ b = i) → σ'.1 a b = σ.1 a b ∧ σ'.2 a b = σ.2 a b) : Hp G B σ' H1 := by
  refine ⟨fun a b hb => ?_, h.2⟩
  by_cases hab : a = k ∧ b = i
  · obtain ⟨rfl, rfl⟩ := hab
    exact ⟨(h.1 a b hb).1, he⟩
  · obtain ⟨h1, h2⟩ := hs a b hab
    rw [h1, h2]
    exact ⟨(h.1 a b hb).1, (h.1 a b hb).2.kept (oq _ (fun z => hab (h.2 a b k i hb hi z)))⟩
theorem Hp.at1 {G : gG} {B : gB} {σ : gS} {H : Heap} (h : Hp G B σ H) {k i : Nat} (hi : i < B.2 k) {e : va_E} (he : lay G B k i (σ.1 k i) (σ.2 k i) = e) : va_P G.1 clsz [(B.1 k i, e)] H := by
  intro q x hx
  have hz : q < 1 := (List.getElem?_eq_some_iff.mp hx).1
  rw [show q = 0 by omega] at hx
  cases hx
  rw [← he]
  exact (h.1 k i hi).2
