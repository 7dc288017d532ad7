/-! all orders, item by item: the check's own way, in natural numbers -/
def gAft (og : Nat → Nat) (s : Nat) : Nat := og s + (if s = 0 then 0 else og (s - 1))
def gRf (σ : gS) (p k s : Nat) : Bool := decide (rfI σ p k ≤ (s : Int))
def gTk (σ : gS) (p k m s : Nat) : Bool := !(gRf σ p k s) && decide (m = tot σ p (k + 1)) && decide ((s : Int) ≤ acI σ p k)
def gDc (σ : gS) (p k m s : Nat) : Bool := gRf σ p k s || gTk σ p k m s
def gM (n d m : Nat) (og : Nat → Nat) (s : Nat) : Nat := gAft og s * chZ (n - m) ((d : Int) - (s : Int))
def gNx (σ : gS) (p k m : Nat) (og : Nat → Nat) (s : Nat) : Nat := if gDc σ p k m s then 0 else gAft og s
def fT (σ : gS) (p k m n d : Nat) (og : Nat → Nat) (s : Nat) : Nat := if gTk σ p k m s then gM n d m og s else 0
def fA (σ : gS) (p k m n d : Nat) (og : Nat → Nat) (s : Nat) : Nat := if gDc σ p k m s then gM n d m og s * tot σ p (k + 1) else 0
def fO (σ : gS) (p k m n d : Nat) (og : Nat → Nat) (s : Nat) : Nat := if gTk σ p k m s then gM n d m og s * (d - s) else 0
abbrev gT : Type := Nat × (Nat → Nat) × Nat × Nat × Nat
def gs (σ : gS) (p n d : Nat) : Nat → gT
  | 0 => (0, fun s => if s = 0 then 1 else 0, 0, 0, 0)
  | m + 1 => (if m + 1 = tot σ p ((gs σ p n d m).1 + 1) then (gs σ p n d m).1 + 1 else (gs σ p n d m).1,
      gNx σ p (gs σ p n d m).1 (m + 1) (gs σ p n d m).2.1,
      (gs σ p n d m).2.2.1 + rsum (fT σ p (gs σ p n d m).1 (m + 1) n d (gs σ p n d m).2.1) 62,
      (gs σ p n d m).2.2.2.1 + rsum (fA σ p (gs σ p n d m).1 (m + 1) n d (gs σ p n d m).2.1) 62,
      (gs σ p n d m).2.2.2.2 + rsum (fO σ p (gs σ p n d m).1 (m + 1) n d (gs σ p n d m).2.1) 62)
theorem gs_stg {σ : gS} {p n d : Nat} (hP : WfP1 σ p) {m : Nat} (h : m < tot σ p (stN σ p)) : (gs σ p n d m).1 < stN σ p ∧ tot σ p (gs σ p n d m).1 ≤ m ∧ m < tot σ p ((gs σ p n d m).1 + 1) := by
  induction m with
  | zero =>
    have h0 : 0 < stN σ p := by
      rcases Nat.eq_zero_or_pos (stN σ p) with e | e
      · rw [e] at h; exact absurd h (Nat.lt_irrefl 0)
      · exact e
    have := (hP.2.2.1 0 h0).2.1
    exact ⟨h0, Nat.le_refl 0, by show 0 < 0 + szN σ p 0; omega⟩
  | succ m ih =>
    obtain ⟨a, b, e⟩ := ih (by omega)
    show (if m + 1 = tot σ p ((gs σ p n d m).1 + 1) then (gs σ p n d m).1 + 1 else (gs σ p n d m).1) < stN σ p ∧ tot σ p (if m + 1 = tot σ p ((gs σ p n d m).1 + 1) then (gs σ p n d m).1 + 1 else (gs σ p n d m).1) ≤ m + 1 ∧ m + 1 < tot σ p ((if m + 1 = tot σ p ((gs σ p n d m).1 + 1) then (gs σ p n d m).1 + 1 else (gs σ p n d m).1) + 1)
    by_cases c : m + 1 = tot σ p ((gs σ p n d m).1 + 1)
    · rw [if_pos c]
      have hl : (gs σ p n d m).1 + 1 < stN σ p := by
        rcases Nat.lt_or_ge ((gs σ p n d m).1 + 1) (stN σ p) with z | z
        · exact z
        · have := tot_mono σ p z; omega
      have := (hP.2.2.1 _ hl).2.1
      refine ⟨hl, by omega, ?_⟩
      show m + 1 < tot σ p ((gs σ p n d m).1 + 1) + szN σ p ((gs σ p n d m).1 + 1)
      omega
    · rw [if_neg c]; exact ⟨a, by omega, by omega⟩
def G0 (σ τ : gS) : Prop := τ.1 = σ.1 ∧ ∀ k i j, scJ k j = false → τ.2 k i j = σ.2 k i j
theorem G0.rf (σ : gS) : G0 σ σ := ⟨rfl, fun _ _ _ _ => rfl⟩
theorem G0.sm {σ τ : gS} (h : G0 σ τ) : Sm σ τ := Sm.mk' (fun k i j _ => by rw [h.1]) h.2
theorem G0.put {σ τ : gS} (h : G0 σ τ) {k i j : Nat} {v : Int64} (hs : scJ k j = true) : G0 σ (sJ τ k i j v) := ⟨h.1, fun a b c e => by
  rw [sJ_at, if_neg (fun z => by obtain ⟨rfl, -, rfl⟩ := z; rw [hs] at e; exact absurd e (by decide))]
  exact h.2 a b c e⟩
def GA (σ τ : gS) (og : Nat → Nat) (T A O i : Nat) : Prop := G0 σ τ ∧ (∀ s, s < 62 → τ.2 26 0 s = lN (og s)) ∧ τ.2 0 0 28 = lN T ∧ τ.2 0 0 29 = lN A ∧ τ.2 0 0 30 = lN O ∧ ∀ s, s < i → τ.2 27 0 s = lN (gAft og s)
def GL (σ τ : gS) (p k m n d : Nat) (og : Nat → Nat) (T A O i : Nat) : Prop := G0 σ τ ∧ (∀ s, s < 62 → τ.2 27 0 s = lN (gAft og s)) ∧ (∀ s, s < i → τ.2 26 0 s = lN (gNx σ p k m og s)) ∧ τ.2 0 0 28 = lN (T + rsum (fT σ p k m n d og) i) ∧ τ.2 0 0 29 = lN (A + rsum (fA σ p k m n d og) i) ∧ τ.2 0 0 30 = lN (O + rsum (fO σ p k m n d og) i)
theorem GA_put {σ τ : gS} {og : Nat → Nat} {T A O i : Nat} (h : GA σ τ og T A O i) (v : Nat) (hv : v = gAft og i) : GA σ (sJ τ 27 0 i (lN v)) og T A O (i + 1) := by
  subst hv
  refine ⟨h.1.put rfl, fun s hs => ?_, ?_, ?_, ?_, fun s hs => ?_⟩
  · rw [sJ_at, if_neg (by omega)]; exact h.2.1 s hs
  · rw [sJ_at, if_neg (by omega)]; exact h.2.2.1
  · rw [sJ_at, if_neg (by omega)]; exact h.2.2.2.1
  · rw [sJ_at, if_neg (by omega)]; exact h.2.2.2.2.1
  · rw [sJ_at]
    by_cases e : s = i
    · rw [if_pos ⟨rfl, rfl, e⟩, e]
    · rw [if_neg (fun z => e z.2.2)]; exact h.2.2.2.2.2 s (by omega)
theorem GA_L {σ τ : gS} {og : Nat → Nat} {T A O : Nat} (p k m n d : Nat) (h : GA σ τ og T A O 62) : GL σ τ p k m n d og T A O 0 := ⟨h.1, h.2.2.2.2.2, fun s hs => absurd hs (by omega), h.2.2.1, h.2.2.2.1, h.2.2.2.2.1⟩
theorem GL_A {σ τ : gS} {p k m n d : Nat} {og : Nat → Nat} {T A O : Nat} (h : GL σ τ p k m n d og T A O 62) : GA σ τ (gNx σ p k m og) (T + rsum (fT σ p k m n d og) 62) (A + rsum (fA σ p k m n d og) 62) (O + rsum (fO σ p k m n d og) 62) 0 := ⟨h.1, h.2.2.1, h.2.2.2.1, h.2.2.2.2.1, h.2.2.2.2.2, fun s hs => absurd hs (by omega)⟩
theorem lN_z {a b : Nat} (h : lN a = lN 0) : lN (a * b) = lN 0 := by rw [← lN_m, h, lN_m, Nat.zero_mul]
theorem lN_add0 {x y : Nat} (h : lN y = lN 0) : lN (x + y) = lN x := by rw [← lN_a, h, lN_a, Nat.add_zero]
theorem GL_skip {σ τ : gS} {p k m n d : Nat} {og : Nat → Nat} {T A O i : Nat} (h : GL σ τ p k m n d og T A O i) (hd : gDc σ p k m i = false ∨ lN (gAft og i) = lN 0) : GL σ (sJ τ 26 0 i (lN (gAft og i))) p k m n d og T A O (i + 1) := by
  have e28 : ∀ j, (sJ τ 26 0 i (lN (gAft og i))).2 0 0 j = τ.2 0 0 j := fun j => by rw [sJ_at, if_neg (by omega)]
  have zT : lN (fT σ p k m n d og i) = lN 0 := by
    unfold fT
    rcases hd with q | q
    · unfold gDc at q
      rw [(Bool.or_eq_false_iff.mp q).2]; rfl
    · split
      · unfold gM; exact lN_z q
      · rfl
  have zA : lN (fA σ p k m n d og i) = lN 0 := by
    unfold fA
    rcases hd with q | q
    · rw [q]; rfl
    · split
      · unfold gM; rw [Nat.mul_assoc]; exact lN_z q
      · rfl
  have zO : lN (fO σ p k m n d og i) = lN 0 := by
    unfold fO
    rcases hd with q | q
    · unfold gDc at q
      rw [(Bool.or_eq_false_iff.mp q).2]; rfl
    · split
      · unfold gM; rw [Nat.mul_assoc]; exact lN_z q
      · rfl
  refine ⟨h.1.put rfl, fun s hs => ?_, fun s hs => ?_, ?_, ?_, ?_⟩
  · rw [sJ_at, if_neg (by omega)]; exact h.2.1 s hs
  · rw [sJ_at]
    by_cases e : s = i
    · rw [if_pos ⟨rfl, rfl, e⟩, e]
      unfold gNx
      rcases hd with q | q
      · rw [q]; rfl
      · split
        · exact q
        · rfl
    · rw [if_neg (fun z => e z.2.2)]; exact h.2.2.1 s (by omega)
  · rw [e28, show rsum (fT σ p k m n d og) (i + 1) = rsum (fT σ p k m n d og) i + fT σ p k m n d og i from rfl, ← Nat.add_assoc, lN_add0 zT]; exact h.2.2.2.1
  · rw [e28, show rsum (fA σ p k m n d og) (i + 1) = rsum (fA σ p k m n d og) i + fA σ p k m n d og i from rfl, ← Nat.add_assoc, lN_add0 zA]; exact h.2.2.2.2.1
  · rw [e28, show rsum (fO σ p k m n d og) (i + 1) = rsum (fO σ p k m n d og) i + fO σ p k m n d og i from rfl, ← Nat.add_assoc, lN_add0 zO]; exact h.2.2.2.2.2
theorem GL_dec {σ τ : gS} {p k m n d : Nat} {og : Nat → Nat} {T A O i : Nat} {v : Int64} {a b e : Nat} (h : GL σ τ p k m n d og T A O i) (hd : gDc σ p k m i = true) (ha : a = A + rsum (fA σ p k m n d og) i + gM n d m og i * tot σ p (k + 1)) (hb : b = T + rsum (fT σ p k m n d og) i + fT σ p k m n d og i) (he : e = O + rsum (fO σ p k m n d og) i + fO σ p k m n d og i) : GL σ (sJ (sJ (sJ (sJ (sJ τ 26 0 i v) 0 0 29 (lN a)) 0 0 28 (lN b)) 0 0 30 (lN e)) 26 0 i (lN 0)) p k m n d og T A O (i + 1) := by
  refine ⟨((((h.1.put rfl).put rfl).put rfl).put rfl).put rfl, fun s hs => ?_, fun s hs => ?_, ?_, ?_, ?_⟩
  · rw [sJ_at, if_neg (by omega), sJ_at, if_neg (by omega), sJ_at, if_neg (by omega), sJ_at, if_neg (by omega), sJ_at, if_neg (by omega)]; exact h.2.1 s hs
  · rw [sJ_at]
    by_cases z : s = i
    · rw [if_pos ⟨rfl, rfl, z⟩, z]
      unfold gNx
      rw [hd]; rfl
    · rw [if_neg (fun y => z y.2.2), sJ_at, if_neg (by omega), sJ_at, if_neg (by omega), sJ_at, if_neg (by omega), sJ_at, if_neg (fun y => z y.2.2)]; exact h.2.2.1 s (by omega)
  · rw [sJ_at, if_neg (by omega), sJ_at, if_neg (by omega), sJ_at, if_pos ⟨rfl, rfl, rfl⟩, hb, Nat.add_assoc]; rfl
  · rw [sJ_at, if_neg (by omega), sJ_at, if_neg (by omega), sJ_at, if_neg (by omega), sJ_at, if_pos ⟨rfl, rfl, rfl⟩, ha, Nat.add_assoc]
    show _ = lN (A + (rsum (fA σ p k m n d og) i + fA σ p k m n d og i))
    unfold fA
    rw [hd]
    rfl
  · rw [sJ_at, if_neg (by omega), sJ_at, if_pos ⟨rfl, rfl, rfl⟩, he, Nat.add_assoc]; rfl
theorem go_st (a N d i : Nat) (hd : d ≤ 60) (hi : i < 62) : lN (a * chZ N ((d : Int) - (i : Int))) * (nI d - nI i).toInt64 = lN (a * chZ N ((d : Int) - (i : Int)) * (d - i)) := by
  rcases Nat.lt_or_ge d i with q | q
  · rw [chZ_neg (by omega)]
    simp only [Nat.mul_zero, Nat.zero_mul]
    show (0 : Int64) * _ = 0
    rw [Int64.zero_mul]
  · rw [pk_sub q, nI_l (by omega), lN_m]
theorem G0.eqP {σ τ : gS} (h : G0 σ τ) : eqP σ τ := fun k j _ _ => by rw [h.1]
