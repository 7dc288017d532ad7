/-! cells that are made: the book grows -/
theorem wa_i : Cond.arrayClass .int ∈ lw_tbl := tin1 106 rfl
theorem wa_l : Cond.arrayClass .long ∈ lw_tbl := tin1 29 rfl
theorem wa_z : Cond.arrayClass .boolean ∈ lw_tbl := tin3 153 rfl
theorem wo_l : Cond.arrayOver (.array .long) ∈ lw_tbl := tin1 24 rfl
def va_AOJ (U : State) : Prop := (Cond.arrayOver (.array .long)).before #[] U = true
theorem va_AOJ.moved {u U : State} (hvm : u.vm.Alike U.vm) (h : va_AOJ u) : va_AOJ U := Jvm.Stand.arrayOver_alikeB hvm h
def AOs (U : State) : Prop := va_AO RX2 U ∧ va_AO RX4 U ∧ va_AO RX0 U ∧ va_AOJ U
theorem AOs.moved {u U : State} (hvm : u.vm.Alike U.vm) (h : AOs u) : AOs U := ⟨h.1.moved hvm, h.2.1.moved hvm, h.2.2.1.moved hvm, h.2.2.2.moved hvm⟩
theorem AOs.call {U : State} (h : AOs U) (g : JFrame) (mk : MethodId) (a : Array Value) : AOs (U.calling g mk a) := h.moved (u := U) (U := U.calling g mk a) (Vm.Alike.refl U.vm)
theorem wo_3 : Cond.arrayOver (.object RX2) ∈ lw_tbl := tin1 46 rfl
theorem wo_4 : Cond.arrayOver (.object RX4) ∈ lw_tbl := tin1 69 rfl
theorem wo_5 : Cond.arrayOver (.object RX0) ∈ lw_tbl := tin1 71 rfl
theorem wk_X5_9 : Cond.classLink RX5 9 "[[J" ∈ lw_tbl := tin1 23 rfl
theorem wk_X2_24 : Cond.classLink RX2 24 "[[J" ∈ lw_tbl := tin1 116 rfl
theorem wk_X6_7 : Cond.classLink RX6 7 RX5 ∈ lw_tbl := tin1 17 rfl
theorem wk_X6_16 : Cond.classLink RX6 16 RX1 ∈ lw_tbl := tin1 30 rfl
theorem wk_X6_23 : Cond.classLink RX6 23 RX2 ∈ lw_tbl := tin1 45 rfl
theorem wk_X6_29 : Cond.classLink RX6 29 RX3 ∈ lw_tbl := tin1 47 rfl
theorem wk_X6_39 : Cond.classLink RX6 39 RX4 ∈ lw_tbl := tin1 68 rfl
theorem wk_X6_45 : Cond.classLink RX6 45 RX0 ∈ lw_tbl := tin1 70 rfl
theorem wk_L_7 : Cond.classLink RL 7 RX6 ∈ lw_tbl := tin1 9 rfl
theorem wk_L_10 : Cond.classLink RL 10 RX7 ∈ lw_tbl := tin3 35 rfl
theorem wn_X6 : Cond.instantiable RX6 11 ∈ lw_tbl ∧ Cond.initialized RX6 ∈ lw_tbl := ⟨tin1 10 rfl, tin1 1 rfl⟩
theorem wn_X5 : Cond.instantiable RX5 1 ∈ lw_tbl ∧ Cond.initialized RX5 ∈ lw_tbl := ⟨tin1 18 rfl, tin1 2 rfl⟩
theorem wn_X1 : Cond.instantiable RX1 2 ∈ lw_tbl ∧ Cond.initialized RX1 ∈ lw_tbl := ⟨tin1 31 rfl, tin1 3 rfl⟩
theorem wn_X3 : Cond.instantiable RX3 4 ∈ lw_tbl ∧ Cond.initialized RX3 ∈ lw_tbl := ⟨tin1 48 rfl, tin1 4 rfl⟩
theorem wn_X2 : Cond.instantiable RX2 7 ∈ lw_tbl ∧ Cond.initialized RX2 ∈ lw_tbl := ⟨tin1 111 rfl, tin1 6 rfl⟩
theorem wn_X4 : Cond.instantiable RX4 5 ∈ lw_tbl ∧ Cond.initialized RX4 ∈ lw_tbl := ⟨tin2 76 rfl, tin1 7 rfl⟩
theorem wn_X0 : Cond.instantiable RX0 10 ∈ lw_tbl ∧ Cond.initialized RX0 ∈ lw_tbl := ⟨tin2 111 rfl, tin1 8 rfl⟩
theorem wn_X7 : Cond.instantiable RX7 37 ∈ lw_tbl ∧ Cond.initialized RX7 ∈ lw_tbl := ⟨tin3 36 rfl, tin1 5 rfl⟩
theorem wob : Cond.instanceMethod objectInit ∈ lw_tbl ∧ Cond.code objectInit ⟨#[0xb1]⟩ 1 none ∈ lw_tbl := ⟨tin1 15 rfl, tin1 16 rfl⟩
theorem arrV_cg {cI : ClassId} {N : Nat} {f g : Nat → Value} (h : ∀ j, j < N → f j = g j) : arrV cI N f = arrV cI N g := by
  show ({ cls := cI, slots := Array.ofFn (n := N) fun j => f j.val, vm := .none } : Cell) = { cls := cI, slots := Array.ofFn (n := N) fun j => g j.val, vm := .none }
  congr 2
  funext j
  exact h j.val j.isLt
theorem Hp.keep {G : gG} {B : gB} {σ : gS} {H H1 : Heap} (h : Hp G B σ H) (hk : ∀ k i, i < B.2 k → H1[B.1 k i]? = H[B.1 k i]?) : Hp G B σ H1 := ⟨fun k i hi => ⟨(h.1 k i hi).1, (h.1 k i hi).2.kept (hk k i hi)⟩, h.2⟩
theorem Hp.lt {G : gG} {B : gB} {σ : gS} {H : Heap} (h : Hp G B σ H) {k i : Nat} (hi : i < B.2 k) : B.1 k i < H.size := (h.1 k i hi).2.lt
theorem Hp.low {g1 : va_G} {g2 : Nat → ClassId} {a b : Nat} {B : gB} {σ : gS} {H : Heap} (h : Hp (g1, g2, a) B σ H) (hb : b ≤ a) : Hp (g1, g2, b) B σ H := ⟨fun k i hi => ⟨Nat.le_trans hb (h.1 k i hi).1, (h.1 k i hi).2⟩, h.2⟩
theorem KI.low {g1 : va_G} {g2 : Nat → ClassId} {a : Nat} {U : State} (h : KI (g1, g2, a) U) (b : Nat) : KI (g1, g2, b) U := h
def upc (c : Nat → Nat) (k0 n : Nat) : Nat → Nat := fun x => cond (Nat.beq x k0) n (c x)
def c00 : Nat → Nat := fun _ => 0
theorem upc_at (c : Nat → Nat) (k0 n x : Nat) : upc c k0 n x = if x = k0 then n else c x := by
  unfold upc
  cases h : Nat.beq x k0 with
  | true => rw [if_pos (Nat.eq_of_beq_eq_true h)]; rfl
  | false => rw [if_neg (Nat.ne_of_beq_eq_false h)]; rfl
theorem Hp.nil {G : gG} {A : Nat → Nat → Nat} {σ : gS} {H : Heap} : Hp G (A, c00) σ H := ⟨fun k i hi => absurd hi (Nat.not_lt_zero i), fun k i k' i' hi => absurd hi (Nat.not_lt_zero i)⟩
theorem Hp.add {G : gG} {A : Nat → Nat → Nat} {c c' : Nat → Nat} {σ σ' : gS} {H H1 : Heap} (h : Hp G (A, c) σ H) (hk : ∀ k i, i < c k → H1[A k i]? = H[A k i]?)
    (hl : ∀ k i, i < c k → lay G (A, c') k i (σ'.1 k i) (σ'.2 k i) = lay G (A, c) k i (σ.1 k i) (σ.2 k i))
    (hn : ∀ k i, i < c' k → i < c k ∨ (G.2.2 ≤ A k i ∧ va_at G.1 clsz (A k i, lay G (A, c') k i (σ'.1 k i) (σ'.2 k i)) H1))
    (hd : ∀ k i k' i', i < c' k → ¬ i < c k → i' < c' k' → A k i = A k' i' → k = k' ∧ i = i') : Hp G (A, c') σ' H1 := by
  refine ⟨fun k i hi => ?_, fun k i k' i' hi hi' e => ?_⟩
  · by_cases q : i < c k
    · refine ⟨(h.1 k i q).1, ?_⟩
      show va_at G.1 clsz (A k i, lay G (A, c') k i (σ'.1 k i) (σ'.2 k i)) H1
      rw [hl k i q]
      exact (h.1 k i q).2.kept (hk k i q)
    · exact (hn k i hi).resolve_left q
  · by_cases q : i < c k
    · by_cases q' : i' < c k'
      · exact h.2 k i k' i' q q' e
      · have := hd k' i' k i hi' q' hi e.symm
        exact ⟨this.1.symm, this.2.symm⟩
    · exact hd k i k' i' hi q hi' e
theorem lay_c {G : gG} {A : Nat → Nat → Nat} {c c' : Nat → Nat} (h1 : c' 50 = c 50) (h2 : c' 57 = c 57) (h3 : c' 60 = c 60) (i : Nat) (f : Nat → Int32) (g : Nat → Int64) : ∀ k, lay G (A, c') k i f g = lay G (A, c) k i f g
  | 0 => rfl
  | 1 => rfl
  | 2 => rfl
  | 3 => rfl
  | 4 => rfl
  | 5 => rfl
  | 6 => rfl
  | 7 => rfl
  | 8 => rfl
  | 9 => rfl
  | 10 => rfl
  | 11 => rfl
  | 12 => rfl
  | 13 => rfl
  | 14 => rfl
  | 15 => rfl
  | 16 => rfl
  | 17 => rfl
  | 18 => rfl
  | 19 => rfl
  | 20 => rfl
  | 21 => rfl
  | 22 => rfl
  | 23 => rfl
  | 24 => rfl
  | 25 => rfl
  | 26 => rfl
  | 27 => rfl
  | 28 => rfl
  | 29 => rfl
  | 30 => rfl
  | 31 => rfl
  | 32 => rfl
  | 33 => rfl
  | 34 => rfl
  | 35 => rfl
  | 36 => rfl
  | 37 => rfl
  | 38 => rfl
  | 39 => rfl
  | 40 => rfl
  | 41 => rfl
  | 42 => rfl
  | 43 => rfl
  | 44 => rfl
  | 45 => by
    show aR G 3 24 (rfs (A, c') 50) = aR G 3 24 (rfs (A, c) 50)
    unfold rfs
    rw [show (A, c').2 50 = (A, c).2 50 from h1]
  | 46 => by
    show aR G 4 8 (rfs (A, c') 57) = aR G 4 8 (rfs (A, c) 57)
    unfold rfs
    rw [show (A, c').2 57 = (A, c).2 57 from h2]
  | 47 => by
    show aR G 5 60 (rfs (A, c') 60) = aR G 5 60 (rfs (A, c) 60)
    unfold rfs
    rw [show (A, c').2 60 = (A, c).2 60 from h3]
  | 48 => rfl
  | 49 => rfl
  | 50 => rfl
  | 51 => rfl
  | 52 => rfl
  | 53 => rfl
  | 54 => rfl
  | 55 => rfl
  | 56 => rfl
  | 57 => rfl
  | 58 => rfl
  | 59 => rfl
  | 60 => rfl
  | 61 => rfl
  | 62 => rfl
  | _ + 63 => rfl
theorem lay_o {G : gG} {A : Nat → Nat → Nat} {c c' : Nat → Nat} {k : Nat} (h1 : k ≠ 45) (h2 : k ≠ 46) (h3 : k ≠ 47) (i : Nat) (f : Nat → Int32) (g : Nat → Int64) : lay G (A, c') k i f g = lay G (A, c) k i f g := match k, h1, h2, h3 with
  | 0, _, _, _ => rfl
  | 1, _, _, _ => rfl
  | 2, _, _, _ => rfl
  | 3, _, _, _ => rfl
  | 4, _, _, _ => rfl
  | 5, _, _, _ => rfl
  | 6, _, _, _ => rfl
  | 7, _, _, _ => rfl
  | 8, _, _, _ => rfl
  | 9, _, _, _ => rfl
  | 10, _, _, _ => rfl
  | 11, _, _, _ => rfl
  | 12, _, _, _ => rfl
  | 13, _, _, _ => rfl
  | 14, _, _, _ => rfl
  | 15, _, _, _ => rfl
  | 16, _, _, _ => rfl
  | 17, _, _, _ => rfl
  | 18, _, _, _ => rfl
  | 19, _, _, _ => rfl
  | 20, _, _, _ => rfl
  | 21, _, _, _ => rfl
  | 22, _, _, _ => rfl
  | 23, _, _, _ => rfl
  | 24, _, _, _ => rfl
  | 25, _, _, _ => rfl
  | 26, _, _, _ => rfl
  | 27, _, _, _ => rfl
  | 28, _, _, _ => rfl
  | 29, _, _, _ => rfl
  | 30, _, _, _ => rfl
  | 31, _, _, _ => rfl
  | 32, _, _, _ => rfl
  | 33, _, _, _ => rfl
  | 34, _, _, _ => rfl
  | 35, _, _, _ => rfl
  | 36, _, _, _ => rfl
  | 37, _, _, _ => rfl
  | 38, _, _, _ => rfl
  | 39, _, _, _ => rfl
  | 40, _, _, _ => rfl
  | 41, _, _, _ => rfl
  | 42, _, _, _ => rfl
  | 43, _, _, _ => rfl
  | 44, _, _, _ => rfl
  | 45, h1, _, _ => absurd rfl h1
  | 46, _, h2, _ => absurd rfl h2
  | 47, _, _, h3 => absurd rfl h3
  | 48, _, _, _ => rfl
  | 49, _, _, _ => rfl
  | 50, _, _, _ => rfl
  | 51, _, _, _ => rfl
  | 52, _, _, _ => rfl
  | 53, _, _, _ => rfl
  | 54, _, _, _ => rfl
  | 55, _, _, _ => rfl
  | 56, _, _, _ => rfl
  | 57, _, _, _ => rfl
  | 58, _, _, _ => rfl
  | 59, _, _, _ => rfl
  | 60, _, _, _ => rfl
  | 61, _, _, _ => rfl
  | 62, _, _, _ => rfl
  | _ + 63, _, _, _ => rfl
/-- an object that is being made, beside the cells of the book -/
def NO (G : gG) (A : Nat → Nat → Nat) (c : Nat → Nat) (σ : gS) (a ci : Nat) (fs : List Value) (sz : Nat) (H : Heap) : Prop := Hp G (A, c) σ H ∧ va_at G.1 clsz (a, .inr (ci, fs)) H ∧ H.size = sz ∧ (∀ k i, i < c k → A k i ≠ a) ∧ G.2.2 ≤ a
theorem NO.addi {G : gG} {A : Nat → Nat → Nat} {c : Nat → Nat} {σ σ' : gS} {a ci : Nat} {fs : List Value} {sz : Nat} {H H1 : Heap} (h : NO G A c σ a ci fs sz H) {k0 i0 : Nat} (h0 : c k0 = i0) (h5 : k0 ≠ 50 ∧ k0 ≠ 57 ∧ k0 ≠ 60) (ha : A k0 i0 = sz) (hz : H1.size = sz + 1) (hk : ∀ q, q < sz → H1[q]? = H[q]?) (hσ : ∀ k i, i < c k → σ'.1 k i = σ.1 k i ∧ σ'.2 k i = σ.2 k i) (hat : va_at G.1 clsz (sz, lay G (A, c) k0 i0 (σ'.1 k0 i0) (σ'.2 k0 i0)) H1) : NO G A (upc c k0 (i0 + 1)) σ' a ci fs (sz + 1) H1 := by
  obtain ⟨hH, ho, hs, hna, haG⟩ := h
  have hlt : a < sz := by rw [← hs]; exact ho.lt
  have hlay : ∀ k i f g, lay G (A, upc c k0 (i0 + 1)) k i f g = lay G (A, c) k i f g := fun k i f g => lay_c (by rw [upc_at, if_neg (fun z => h5.1 z.symm)]) (by rw [upc_at, if_neg (fun z => h5.2.1 z.symm)]) (by rw [upc_at, if_neg (fun z => h5.2.2 z.symm)]) i f g k
  have hone : ∀ k i, i < upc c k0 (i0 + 1) k → ¬ i < c k → k = k0 ∧ i = i0 := fun k i hi hn => by
    rw [upc_at] at hi
    by_cases e : k = k0
    · rw [if_pos e] at hi; subst e; exact ⟨rfl, by omega⟩
    · rw [if_neg e] at hi; exact absurd hi hn
  refine ⟨hH.add (fun k i hi => hk _ (by rw [← hs]; exact hH.lt hi)) (fun k i hi => by rw [hlay, (hσ k i hi).1, (hσ k i hi).2]) (fun k i hi => ?_) (fun k i k' i' hi hn hi' e => ?_), ho.kept (hk a hlt), hz, fun k i hi => ?_, haG⟩
  · by_cases q : i < c k
    · exact Or.inl q
    · obtain ⟨rfl, rfl⟩ := hone k i hi q
      refine Or.inr ⟨by rw [ha]; omega, ?_⟩
      rw [hlay, ha]; exact hat
  · obtain ⟨rfl, rfl⟩ := hone k i hi hn
    by_cases q : i' < c k'
    · have h1 : A k' i' < H.size := hH.lt (B := (A, c)) q
      omega
    · obtain ⟨e1, e2⟩ := hone k' i' hi' q
      exact ⟨e1.symm, e2.symm⟩
  · by_cases q : i < c k
    · exact hna k i q
    · obtain ⟨rfl, rfl⟩ := hone k i hi q
      rw [ha]; omega
theorem NO.add1 {G : gG} {A : Nat → Nat → Nat} {c : Nat → Nat} {σ : gS} {a ci : Nat} {fs : List Value} {sz : Nat} {H H1 : Heap} (h : NO G A c σ a ci fs sz H) {k0 : Nat} (h0 : c k0 = 0) (h5 : k0 ≠ 50 ∧ k0 ≠ 57 ∧ k0 ≠ 60) (ha : A k0 0 = sz) (hz : H1.size = sz + 1) (hk : ∀ q, q < sz → H1[q]? = H[q]?) (hat : va_at G.1 clsz (sz, lay G (A, c) k0 0 (σ.1 k0 0) (σ.2 k0 0)) H1) : NO G A (upc c k0 1) σ a ci fs (sz + 1) H1 := h.addi h0 h5 ha hz hk (fun _ _ _ => ⟨rfl, rfl⟩) hat
/-- a grid comes to the book -/
theorem NO.addg {G : gG} {A : Nat → Nat → Nat} {c : Nat → Nat} {σ : gS} {a ci : Nat} {fs : List Value} {sz : Nat} {H H1 : Heap} (h : NO G A c σ a ci fs sz H) {ko kr N K : Nat} (h0 : c ko = 0) (h1 : c kr = 0) (hne : ko ≠ kr) (h5 : (ko ≠ 50 ∧ ko ≠ 57 ∧ ko ≠ 60) ∧ (kr ≠ 50 ∧ kr ≠ 57 ∧ kr ≠ 60)) (ha : A ko 0 = sz) (har : ∀ j, j < N → A kr j = sz + 1 + j) (hz : H1.size = sz + 1 + N) (hk : ∀ q, q < sz → H1[q]? = H[q]?) (lo : ∀ f g, lay G (A, c) ko 0 f g = aR G 6 N (fun j => some (A kr j))) (lr : ∀ j f g, lay G (A, c) kr j f g = aJ G K g) (hσ : ∀ j, j < N → σ.2 kr j = fun _ => 0) (ho1 : H1[sz]? = some (arrV (G.2.1 6) N (fun j => va_rf (if j < N then some (sz + 1 + j) else none)))) (hr1 : ∀ j, j < N → H1[sz + 1 + j]? = some (arrV (G.2.1 1) K (fun _ => .long 0))) : NO G A (upc (upc c ko 1) kr N) σ a ci fs (sz + 1 + N) H1 := by
  obtain ⟨hH, ho, hs, hna, haG⟩ := h
  have hlt : a < sz := by rw [← hs]; exact ho.lt
  have hlay : ∀ k i f g, lay G (A, upc (upc c ko 1) kr N) k i f g = lay G (A, c) k i f g := fun k i f g => lay_c (by rw [upc_at, if_neg (fun z => h5.2.1 z.symm), upc_at, if_neg (fun z => h5.1.1 z.symm)]) (by rw [upc_at, if_neg (fun z => h5.2.2.1 z.symm), upc_at, if_neg (fun z => h5.1.2.1 z.symm)]) (by rw [upc_at, if_neg (fun z => h5.2.2.2 z.symm), upc_at, if_neg (fun z => h5.1.2.2 z.symm)]) i f g k
  have hone : ∀ k i, i < upc (upc c ko 1) kr N k → ¬ i < c k → (k = ko ∧ i = 0) ∨ (k = kr ∧ i < N) := fun k i hi hn => by
    rw [upc_at, upc_at] at hi
    by_cases e : k = kr
    · rw [if_pos e] at hi; exact Or.inr ⟨e, hi⟩
    · rw [if_neg e] at hi
      by_cases e2 : k = ko
      · rw [if_pos e2] at hi; exact Or.inl ⟨e2, by omega⟩
      · rw [if_neg e2] at hi; exact absurd hi hn
  have hge : ∀ k i, i < upc (upc c ko 1) kr N k → ¬ i < c k → sz ≤ A k i := fun k i hi hn => by
    rcases hone k i hi hn with ⟨rfl, rfl⟩ | ⟨rfl, q⟩
    · rw [ha]; exact Nat.le_refl _
    · rw [har i q]; omega
  refine ⟨hH.add (fun k i hi => hk _ (by rw [← hs]; exact hH.lt hi)) (fun k i hi => hlay k i _ _) (fun k i hi => ?_) (fun k i k' i' hi hn hi' e => ?_), ho.kept (hk a hlt), hz, fun k i hi => ?_, haG⟩
  · by_cases q : i < c k
    · exact Or.inl q
    · refine Or.inr ⟨by have := hge k i hi q; omega, ?_⟩
      rcases hone k i hi q with ⟨rfl, rfl⟩ | ⟨rfl, q2⟩
      · rw [hlay, lo, ha]
        show H1[sz]? = some (vp_cell _ _)
        rw [ho1, vp_cell_q]
        exact congrArg some (arrV_cg (fun j hj => by rw [if_pos hj, har j hj]))
      · rw [hlay, lr, har i q2, hσ i q2]
        show H1[sz + 1 + i]? = some (vp_cell _ _)
        rw [hr1 i q2]; rfl
  · by_cases q : i' < c k'
    · have h1 : A k' i' < H.size := hH.lt (B := (A, c)) q
      have := hge k i hi hn
      omega
    · rcases hone k i hi hn with ⟨rfl, rfl⟩ | ⟨rfl, q2⟩
      · rcases hone k' i' hi' q with ⟨rfl, rfl⟩ | ⟨rfl, q3⟩
        · exact ⟨rfl, rfl⟩
        · rw [ha, har i' q3] at e; omega
      · rcases hone k' i' hi' q with ⟨rfl, rfl⟩ | ⟨rfl, q3⟩
        · rw [ha, har i q2] at e; omega
        · rw [har i q2, har i' q3] at e; exact ⟨rfl, by omega⟩
  · by_cases q : i < c k
    · exact hna k i q
    · have := hge k i hi q
      omega
section NR
variable {p : Program} {l : Launch} {e : Env} {R : Room} {s : State} {m : MethodId} {args : Array Value} {below : List Frame} {meth : Method} {c : Code} {H : Heap} {locs : List Loc} {cells slots : Nat} {Q : State → Prop}
variable {cc : ByteArray} {pc : Nat} {ls : Array Slot} {rest : List Value} {G : gG} {A : Nat → Nat → Nat} {cn : Nat → Nat} {σ : gS} {a ci sz : Nat} {fs : List Value}
theorem va_S.grown {A0 : Nat → Prop} {H0 H H1 : Heap} {locs : List Loc} (h : va_S A0 H0 H locs) (hz : H.size ≤ H1.size) (hk : ∀ q, q < H.size → H1[q]? = H[q]?) : va_S A0 H0 H1 locs := ⟨Nat.le_trans h.1 hz, fun q h1 h2 => (hk q (Nat.lt_of_lt_of_le h1 h.1)).trans (h.2.1 q h1 h2), h.2.2⟩
theorem n_size (hN : NO G A cn σ a ci fs sz H) : G.2.2 ≤ sz := by
  have := hN.2.1.lt
  rw [hN.2.2.1] at this
  have := hN.2.2.2.2
  have this2 : a < sz := by assumption
  omega
theorem n_newi (hx : p.tables.exec = Jvm.exec) (hb : c.code = cc) (hK : KI G s) (hN : NO G A cn σ a ci fs sz H) (hS : va_S (mA G) s.heap H locs) {N' : Nat} (k0 : Nat) (hlay : ∀ f g, lay G (A, cn) k0 0 f g = aI G N' f) (h0 : cn k0 = 0) (h5 : k0 ≠ 50 ∧ k0 ≠ 57 ∧ k0 ≠ 60) (ha : A k0 0 = sz) (hσ : σ.1 k0 0 = fun _ => 0) (hn : N' ≤ 10000) (hcells : cells + 1 ≤ R.cells) (hslots : slots + N' ≤ R.slots) (hdg : decode cc pc = .ok (.newarray .int, 2))
    (kk : ∀ H1 : Heap, NO G A (upc cn k0 1) σ a ci fs (sz + 1) H1 → va_S (mA G) s.heap H1 locs → W p l e R s m args below meth c H1 locs (cells + 1) (slots + N') Q (F0 m (pc + 2) ls (.ref (A k0 0) :: rest))) : W p l e R s m args below meth c H locs cells slots Q (F0 m pc ls (.int (nI N') :: rest)) := by
  refine va_newaK hx hb (atype := .int) (hK.2 _ wa_i rfl args) (g := F0 m pc ls (.int (nI N') :: rest)) rfl hdg rfl (nI_pos (by omega)) (nI_clamp (by omega)) (by show N' * _ ≤ _; exact Nat.le_trans (Nat.mul_le_mul_right _ hn) (by decide)) hcells hslots hN.2.2.1 fun H1 cA e1 z1 o1 hAr hNm => ?_
  have ec : cA = G.2.1 0 := Option.some.inj (hNm.symm.trans (hK.1.2 0 _ rfl).2)
  have hN1 : NO G A (upc cn k0 1) σ a ci fs (sz + 1) H1 := hN.add1 h0 h5 ha z1 o1 (by
    rw [hlay, hσ]
    show H1[sz]? = some (vp_cell _ _)
    rw [e1, ec]; rfl)
  have hS1 := hS.grown (H1 := H1) (by rw [z1, hN.2.2.1]; omega) (fun q hq => o1 q (by rw [← hN.2.2.1]; exact hq))
  have := kk H1 hN1 hS1
  rw [ha] at this
  exact this
theorem n_newl (hx : p.tables.exec = Jvm.exec) (hb : c.code = cc) (hK : KI G s) (hN : NO G A cn σ a ci fs sz H) (hS : va_S (mA G) s.heap H locs) {N' : Nat} (k0 : Nat) (hlay : ∀ f g, lay G (A, cn) k0 0 f g = aJ G N' g) (h0 : cn k0 = 0) (h5 : k0 ≠ 50 ∧ k0 ≠ 57 ∧ k0 ≠ 60) (ha : A k0 0 = sz) (hσ : σ.2 k0 0 = fun _ => 0) (hn : N' ≤ 10000) (hcells : cells + 1 ≤ R.cells) (hslots : slots + N' ≤ R.slots) (hdg : decode cc pc = .ok (.newarray .long, 2))
    (kk : ∀ H1 : Heap, NO G A (upc cn k0 1) σ a ci fs (sz + 1) H1 → va_S (mA G) s.heap H1 locs → W p l e R s m args below meth c H1 locs (cells + 1) (slots + N') Q (F0 m (pc + 2) ls (.ref (A k0 0) :: rest))) : W p l e R s m args below meth c H locs cells slots Q (F0 m pc ls (.int (nI N') :: rest)) := by
  refine va_newaK hx hb (atype := .long) (hK.2 _ wa_l rfl args) (g := F0 m pc ls (.int (nI N') :: rest)) rfl hdg rfl (nI_pos (by omega)) (nI_clamp (by omega)) (by show N' * _ ≤ _; exact Nat.le_trans (Nat.mul_le_mul_right _ hn) (by decide)) hcells hslots hN.2.2.1 fun H1 cA e1 z1 o1 hAr hNm => ?_
  have ec : cA = G.2.1 1 := Option.some.inj (hNm.symm.trans (hK.1.2 1 _ rfl).2)
  have hN1 : NO G A (upc cn k0 1) σ a ci fs (sz + 1) H1 := hN.add1 h0 h5 ha z1 o1 (by
    rw [hlay, hσ]
    show H1[sz]? = some (vp_cell _ _)
    rw [e1, ec]; rfl)
  have hS1 := hS.grown (H1 := H1) (by rw [z1, hN.2.2.1]; omega) (fun q hq => o1 q (by rw [← hN.2.2.1]; exact hq))
  have := kk H1 hN1 hS1
  rw [ha] at this
  exact this
theorem n_newz (hx : p.tables.exec = Jvm.exec) (hb : c.code = cc) (hK : KI G s) (hN : NO G A cn σ a ci fs sz H) (hS : va_S (mA G) s.heap H locs) {N' : Nat} (k0 : Nat) (hlay : ∀ f g, lay G (A, cn) k0 0 f g = aZ G N' f) (h0 : cn k0 = 0) (h5 : k0 ≠ 50 ∧ k0 ≠ 57 ∧ k0 ≠ 60) (ha : A k0 0 = sz) (hσ : σ.1 k0 0 = fun _ => 0) (hn : N' ≤ 10000) (hcells : cells + 1 ≤ R.cells) (hslots : slots + N' ≤ R.slots) (hdg : decode cc pc = .ok (.newarray .boolean, 2))
    (kk : ∀ H1 : Heap, NO G A (upc cn k0 1) σ a ci fs (sz + 1) H1 → va_S (mA G) s.heap H1 locs → W p l e R s m args below meth c H1 locs (cells + 1) (slots + N') Q (F0 m (pc + 2) ls (.ref (A k0 0) :: rest))) : W p l e R s m args below meth c H locs cells slots Q (F0 m pc ls (.int (nI N') :: rest)) := by
  refine va_newaK hx hb (atype := .boolean) (hK.2 _ wa_z rfl args) (g := F0 m pc ls (.int (nI N') :: rest)) rfl hdg rfl (nI_pos (by omega)) (nI_clamp (by omega)) (by show N' * _ ≤ _; exact Nat.le_trans (Nat.mul_le_mul_right _ hn) (by decide)) hcells hslots hN.2.2.1 fun H1 cA e1 z1 o1 hAr hNm => ?_
  have ec : cA = G.2.1 2 := Option.some.inj (hNm.symm.trans (hK.1.2 2 _ rfl).2)
  have hN1 : NO G A (upc cn k0 1) σ a ci fs (sz + 1) H1 := hN.add1 h0 h5 ha z1 o1 (by
    rw [hlay, hσ]
    show H1[sz]? = some (vp_cell _ _)
    rw [e1, ec]; rfl)
  have hS1 := hS.grown (H1 := H1) (by rw [z1, hN.2.2.1]; omega) (fun q hq => o1 q (by rw [← hN.2.2.1]; exact hq))
  have := kk H1 hN1 hS1
  rw [ha] at this
  exact this
theorem n_newq (hx : p.tables.exec = Jvm.exec) (hb : c.code = cc) {own : String} (hown : s.vm.findClass own = some m.cls) (hK : KI G s) (hN : NO G A cn σ a ci fs sz H) (hS : va_S (mA G) s.heap H locs) {N' index : Nat} {C : String} (gi : Nat) (hgi : (tyz G)[gi]? = some (G.2.1 gi, .object C)) (hcl : Cond.classLink own index C ∈ lw_tbl) (hov : va_AO C s) (k0 : Nat) (hlay : ∀ f g, lay G (A, cn) k0 0 f g = aR G gi N' (fun _ => none)) (h0 : cn k0 = 0) (h5 : k0 ≠ 50 ∧ k0 ≠ 57 ∧ k0 ≠ 60) (ha : A k0 0 = sz) (hn : N' ≤ 10000) (hcells : cells + 1 ≤ R.cells) (hslots : slots + N' ≤ R.slots) (hdg : decode cc pc = .ok (.anewarray index, 3))
    (kk : ∀ H1 : Heap, NO G A (upc cn k0 1) σ a ci fs (sz + 1) H1 → va_S (mA G) s.heap H1 locs → W p l e R s m args below meth c H1 locs (cells + 1) (slots + N') Q (F0 m (pc + 3) ls (.ref (A k0 0) :: rest))) : W p l e R s m args below meth c H locs cells slots Q (F0 m pc ls (.int (nI N') :: rest)) := by
  have e0 : (nI N').toNatClampNeg = N' := nI_clamp (by omega)
  refine W.anew hx hb hown (hK.2 _ hcl rfl args) (va_AO.use hov) (g := F0 m pc ls (.int (nI N') :: rest)) rfl hdg rfl (nI_pos (by omega)) (by rw [e0]; omega) hcells (by rw [e0]; exact hslots) fun cA kA comp f1 f2 f3 f4 => ?_
  rw [e0]
  generalize hH1 : H.push ({ cls := cA, slots := Array.replicate N' .null, vm := .none } : Cell) = H1
  have hs := hN.2.2.1
  have z1 : H1.size = sz + 1 := by rw [← hH1, Array.size_push, hs]
  have e1 : H1[sz]? = some (arrV cA N' (fun _ => .null)) := by rw [← hH1, ← hs, Array.getElem?_push_size, ← arrV_new]
  have o1 : ∀ q : Nat, q < sz → H1[q]? = H[q]? := fun q hq => by rw [← hH1, Array.getElem?_push, if_neg (Nat.ne_of_lt (by rw [hs]; exact hq))]
  have ec : cA = G.2.1 gi := by
    obtain ⟨_, _, -, -, -, g4⟩ := (hK.1.2 gi _ hgi).2
    exact Option.some.inj (f1.symm.trans g4)
  have hN1 : NO G A (upc cn k0 1) σ a ci fs (sz + 1) H1 := hN.add1 h0 h5 ha z1 o1 (by
    rw [hlay]
    show H1[sz]? = some (vp_cell _ _)
    rw [e1, ec]; rfl)
  have hS1 := hS.grown (H1 := H1) (by rw [z1, hs]; omega) (fun q hq => o1 q (by rw [← hs]; exact hq))
  have := kk H1 hN1 hS1
  rw [ha] at this
  rw [hs]
  exact this
theorem n_putF (hx : p.tables.exec = Jvm.exec) (hb : c.code = cc) {own : String} (hown : s.vm.findClass own = some m.cls) (hK : KI G s) (hN : NO G A cn σ a ci fs sz H) (hS0 : va_S (mA G) s.heap H locs) {index : Nat} {C : String} {T : u_T} {N : Nat} {v : Value} {ty : FieldType} (hc : clsz[ci]? = some (C, T, N)) (j : Nat) (hj : j < N) (hw : Cond.fieldLink own index (T j).1 (T j).2.1 (T j).2.2.1 ∈ lw_tbl) (hfin : (T j).2.2.2 = true) (hin2 : meth.name = "<init>") (hdecl : (T j).1 = own) (hd : parseFieldDescriptor (T j).2.2.1 = some ty) (hn : narrow ty v = v) (hfit : fits ty v = true) (hl : j < fs.length) (hdg : decode cc pc = .ok (.putfield index, 3))
    (kk : ∀ (H1 : Heap) (locs1 : List Loc), NO G A cn σ a ci (fs.set j v) sz H1 → va_S (mA G) s.heap H1 locs1 → W p l e R s m args below meth c H1 locs1 cells slots Q (F0 m (pc + 3) ls rest)) : W p l e R s m args below meth c H locs cells slots Q (F0 m pc ls (v :: .ref a :: rest)) := by
  obtain ⟨⟨ty0, hty⟩, hnm⟩ := m_nm ci C T N hc
  have hts := hK.u hc args
  have hap := va_apart (own := own) hts (fun _ h => h) ty0 hty hnm hK.1 hc
  obtain ⟨hH, ⟨r, h1, cell, q1, q2, q3, q4⟩, hs, hna, haG⟩ := hN
  have hr : r = (C, T, N) := Option.some.inj (h1.symm.trans hc)
  subst hr
  obtain ⟨hS, hfc, kC, hkC, hkind⟩ := hK.1.1 ci _ hc
  obtain ⟨cf, kf, fi, f, hif, hsl⟩ := hS j hj
  have hlw := hts _ (u_in_lay hj)
  unfold u_lay at hlw
  rw [if_pos hfin] at hlw
  have hst := (u_facts hfc hkC (u_lays hts (fun _ h => h) hj) hif).1
  have hcf : m.cls = cf := by
    obtain ⟨_, _, c', _, _, _, -, -, hf', -, -, -, hown2, -⟩ := Cond.laysFinal_spec hlw
    have e1 : c' = cf := by have := hif.symm.trans hf'; simp at this; exact this.1.symm
    rw [hdecl] at hown2
    rw [← e1]; exact Option.some.inj (hown.symm.trans hown2)
  have h6 := u_fits hfc hkC hkind (Or.inr hlw) hif hd hn hfit
  refine W.putFinK hx hb hown (hK.2 _ hw rfl args) hif hst hcf hin2 (by rw [q2]; exact h6) q1 q3 (by rw [hsl]; exact k2_hasslot (q4 j hj)) rfl rfl hdg fun H' e1 e2 e3 => ?_
  rw [hsl] at e1 ⊢
  refine kk H' _ ⟨hH.keep (fun k i hi => e3 _ (hna k i hi)), ⟨_, hc, t_OB.to (V := updV (vp_V fs) j v) ⟨_, e1, q2, q3, t_set q4 hap hj v⟩ (fun j' _ => vp_updV_set hl v j')⟩, by rw [e2, hs], hna, haG⟩ (hS0.put e2 e3 haG)
theorem n_put (hx : p.tables.exec = Jvm.exec) (hb : c.code = cc) {own : String} (hown : s.vm.findClass own = some m.cls) (hK : KI G s) (hN : NO G A cn σ a ci fs sz H) (hS0 : va_S (mA G) s.heap H locs) {index : Nat} {C : String} {T : u_T} {N : Nat} {v : Value} {ty : FieldType} (hc : clsz[ci]? = some (C, T, N)) (j : Nat) (hj : j < N) (hw : Cond.fieldLink own index (T j).1 (T j).2.1 (T j).2.2.1 ∈ lw_tbl) (hfin : (T j).2.2.2 = false) (hd : parseFieldDescriptor (T j).2.2.1 = some ty) (hn : narrow ty v = v) (hfit : fits ty v = true) (hl : j < fs.length) (hdg : decode cc pc = .ok (.putfield index, 3))
    (kk : ∀ (H1 : Heap) (locs1 : List Loc), NO G A cn σ a ci (fs.set j v) sz H1 → va_S (mA G) s.heap H1 locs1 → W p l e R s m args below meth c H1 locs1 cells slots Q (F0 m (pc + 3) ls rest)) : W p l e R s m args below meth c H locs cells slots Q (F0 m pc ls (v :: .ref a :: rest)) := by
  obtain ⟨⟨ty0, hty⟩, hnm⟩ := m_nm ci C T N hc
  have hts := hK.u hc args
  have hap := va_apart (own := own) hts (fun _ h => h) ty0 hty hnm hK.1 hc
  obtain ⟨hH, ⟨r, h1, cell, q1, q2, q3, q4⟩, hs, hna, haG⟩ := hN
  have hr : r = (C, T, N) := Option.some.inj (h1.symm.trans hc)
  subst hr
  obtain ⟨hS, hfc, kC, hkC, hkind⟩ := hK.1.1 ci _ hc
  obtain ⟨cf, kf, fi, f, hif, hsl⟩ := hS j hj
  have hlw := hts _ (u_in_lay hj)
  unfold u_lay at hlw
  rw [if_neg (by rw [hfin]; decide)] at hlw
  have hst := (u_facts hfc hkC (u_lays hts (fun _ h => h) hj) hif).1
  have h6 := u_store hfc hkC hkind hlw hif hd hn hfit
  refine W.putK hx hb (f := f) ⟨hown, hK.2 _ hw rfl args, ⟨_, _, _, hif⟩, hst⟩ (by rw [q2]; exact h6) q1 q3 (by rw [hsl]; exact k2_hasslot (q4 j hj)) rfl rfl hdg fun H' e1 e2 e3 => ?_
  rw [hsl] at e1 ⊢
  refine kk H' _ ⟨hH.keep (fun k i hi => e3 _ (hna k i hi)), ⟨_, hc, t_OB.to (V := updV (vp_V fs) j v) ⟨_, e1, q2, q3, t_set q4 hap hj v⟩ (fun j' _ => vp_updV_set hl v j')⟩, by rw [e2, hs], hna, haG⟩ (hS0.put e2 e3 haG)
/-- the object itself comes to the book -/
theorem NO.fin (h : NO G A cn σ a ci fs sz H) {k0 i0 n0 : Nat} {σ' : gS} (h0 : cn k0 = i0) (hn0 : n0 = i0 + 1) (h5 : k0 ≠ 50 ∧ k0 ≠ 57 ∧ k0 ≠ 60 ∨ (∀ k, k ∈ [45, 46, 47] → cn k = 0)) (ha : A k0 i0 = a) (hσ : ∀ k i, i < cn k → σ'.1 k i = σ.1 k i ∧ σ'.2 k i = σ.2 k i) (hlay : lay G (A, upc cn k0 n0) k0 i0 (σ'.1 k0 i0) (σ'.2 k0 i0) = .inr (ci, fs)) : Hp G (A, upc cn k0 n0) σ' H := by
  subst hn0
  obtain ⟨hH, ho, hs, hna, haG⟩ := h
  have hone : ∀ k i, i < upc cn k0 (i0 + 1) k → ¬ i < cn k → k = k0 ∧ i = i0 := fun k i hi hn => by
    rw [upc_at] at hi
    by_cases e : k = k0
    · rw [if_pos e] at hi; subst e; exact ⟨rfl, by omega⟩
    · rw [if_neg e] at hi; exact absurd hi hn
  refine hH.add (fun k i hi => rfl) (fun k i hi => ?_) (fun k i hi => ?_) (fun k i k' i' hi hn hi' e => ?_)
  · rw [(hσ k i hi).1, (hσ k i hi).2]
    rcases h5 with h5 | h5
    · exact lay_c (by rw [upc_at, if_neg (fun z => h5.1 z.symm)]) (by rw [upc_at, if_neg (fun z => h5.2.1 z.symm)]) (by rw [upc_at, if_neg (fun z => h5.2.2 z.symm)]) i _ _ k
    · have hk : k ≠ 45 ∧ k ≠ 46 ∧ k ≠ 47 := ⟨fun z => by rw [z, h5 45 (by decide)] at hi; omega, fun z => by rw [z, h5 46 (by decide)] at hi; omega, fun z => by rw [z, h5 47 (by decide)] at hi; omega⟩
      exact lay_o hk.1 hk.2.1 hk.2.2 i _ _
  · by_cases q : i < cn k
    · exact Or.inl q
    · obtain ⟨rfl, rfl⟩ := hone k i hi q
      refine Or.inr ⟨by rw [ha]; exact haG, ?_⟩
      rw [hlay, ha]; exact ho
  · obtain ⟨rfl, rfl⟩ := hone k i hi hn
    by_cases q : i' < cn k'
    · exact absurd (e.symm.trans ha) (hna k' i' q)
    · obtain ⟨e1, e2⟩ := hone k' i' hi' q
      exact ⟨e1.symm, e2.symm⟩
end NR
