/-! a lot, as the class has it -/
section MO
variable {p : Program} {l : Launch} {e : Env} {R : Room} {s : State} {m : MethodId} {args : Array Value} {below : List Frame} {meth : Method} {c : Code} {H : Heap} {locs : List Loc} {cells slots : Nat} {Q : State → Prop}
variable {cc : ByteArray} {pc : Nat} {ls : Array Slot} {rest : List Value} {G : gG} {B : gB} {σ : gS}
theorem m_tor {x : Nat} (y : Nat) (h : x = y) (k : W p l e R s m args below meth c H locs cells slots Q (F0 m pc ls (.ref y :: rest))) : W p l e R s m args below meth c H locs cells slots Q (F0 m pc ls (.ref x :: rest)) := h ▸ k
theorem m_alen (hx : p.tables.exec = Jvm.exec) (hb : c.code = cc) (hK : KI G s) (hH : Hp G B σ H) {k i n : Nat} (hi : i < B.2 k) (hlay : ∀ f g, lay G B k i f g = aI G n f) (hdg : decode cc pc = .ok (.arraylength, 1))
    (kk : W p l e R s m args below meth c H locs cells slots Q (F0 m (pc + 1) ls (.int (nI n) :: rest))) : W p l e R s m args below meth c H locs cells slots Q (F0 m pc ls (.ref (B.1 k i) :: rest)) :=
  va_alen hx hb hK.1 (hH.at1 hi (hlay _ _)) 0 0 rfl rfl rfl hdg kk
end MO
def tal (f : Nat → Nat) (v : Nat) : Nat → Nat
  | 0 => 0
  | n + 1 => tal f v n + (if f n = v then 1 else 0)
theorem tal_le (f : Nat → Nat) (v n : Nat) : tal f v n ≤ n := by
  induction n with
  | zero => exact Nat.le_refl 0
  | succ n ih => show tal f v n + (if f n = v then 1 else 0) ≤ n + 1; split <;> omega
theorem tal_cong {f g : Nat → Nat} {v n : Nat} (h : ∀ k, k < n → f k = g k) : tal f v n = tal g v n := by
  induction n with
  | zero => rfl
  | succ n ih => show tal f v n + _ = tal g v n + _; rw [ih (fun k hk => h k (by omega)), h n (by omega)]
def updN (f : Nat → Nat) (n v : Nat) : Nat → Nat := fun k => if k = n then v else f k
theorem updN_same (f : Nat → Nat) (n : Nat) : updN f n (f n) = f := by
  funext k
  unfold updN
  by_cases h : k = n
  · rw [if_pos h, h]
  · rw [if_neg h]
theorem tal_upd (f : Nat → Nat) (n v w : Nat) : tal (updN f n v) w (n + 1) = tal f w n + (if v = w then 1 else 0) := by
  show tal (updN f n v) w n + (if updN f n v n = w then 1 else 0) = _
  rw [tal_cong (g := f) (fun k hk => by unfold updN; rw [if_neg (by omega)])]
  unfold updN
  rw [if_pos rfl]
/-- nothing but this lot's own numbers -/
def LF (σ τ : gS) (q : Nat) : Prop := (∀ k i j, ¬ (i = q ∧ ((k = 60 ∧ 7 ≤ j) ∨ k = 61 ∨ k = 62)) → τ.1 k i j = σ.1 k i j) ∧ τ.2 = σ.2
def LZ (σ : gS) (q : Nat) (t : jT) (f : Nat → Nat) : Prop := σ.1 60 q 9 = nI t.1 ∧ σ.1 60 q 7 = nI t.2.1 ∧ σ.1 60 q 8 = nI t.2.2.1 ∧ ∀ v, v < 4 → σ.1 62 q v = nI (tal f v t.2.1)
theorem LF.rf (σ : gS) (q : Nat) : LF σ σ q := ⟨fun _ _ _ _ => rfl, rfl⟩
theorem LF.tr {σ τ υ : gS} {q : Nat} (h : LF σ τ q) (h2 : LF τ υ q) : LF σ υ q := ⟨fun k i j z => (h2.1 k i j z).trans (h.1 k i j z), h2.2.trans h.2⟩
theorem LF.put {σ τ : gS} {q k j : Nat} {v : Int32} (h : LF σ τ q) (hk : (k = 60 ∧ 7 ≤ j) ∨ k = 61 ∨ k = 62) : LF σ (sI τ k q j v) q := ⟨fun k1 i1 j1 z => by
  rw [sI_at, if_neg (fun y => z ⟨y.2.1, by obtain ⟨y1, -, y3⟩ := y; subst y1; subst y3; exact hk⟩)]; exact h.1 k1 i1 j1 z, h.2⟩
theorem LF.eqP {σ τ : gS} {q : Nat} (h : LF σ τ q) : eqP σ τ := fun k j h1 h2 => h.1 k 0 j (by omega)
theorem LF.pr {σ τ : gS} {q p : Nat} (h : LF σ τ q) (hR : PR σ p) : PR τ p := hR.cong h.eqP ⟨h.1 _ _ _ (by omega), h.1 _ _ _ (by omega)⟩ (fun k hk => ⟨h.1 _ _ _ (by omega), h.1 _ _ _ (by omega), h.1 _ _ _ (by omega), h.1 _ _ _ (by omega)⟩) (fun k x hk hx => by rw [h.2])
theorem eqP.tk {σ τ : gS} (h : eqP σ τ) (p k x : Nat) : tkB τ p k x = tkB σ p k x := by unfold tkB; rw [h.st, h.ac]
theorem eqP.rfb {σ τ : gS} (h : eqP σ τ) (p k x : Nat) : rfB τ p k x = rfB σ p k x := by unfold rfB; rw [h.st, h.rf]
theorem eqP.en {σ τ : gS} (h : eqP σ τ) (p k x : Nat) : enB τ p k x = enB σ p k x := by unfold enB; rw [h.st, h.to]
/-- one item more -/
def SEE (σ τ : gS) (q p : Nat) (t : jT) (f : Nat → Nat) (v : Nat) : Prop := LF σ τ q ∧ (t.1 = 0 → LZ τ q (jstep σ p t v) (updN f t.2.1 v) ∧ ∀ k, τ.1 61 q k = if k = t.2.1 then nI v else σ.1 61 q k) ∧ (t.1 ≠ 0 → τ = σ)
def SV (σ υ : gS) (q : Nat) (t : jT) (f : Nat → Nat) (v : Nat) : Prop := LF σ υ q ∧ υ.1 60 q 9 = nI 0 ∧ υ.1 60 q 7 = nI (t.2.1 + 1) ∧ υ.1 60 q 8 = nI t.2.2.1 ∧ (∀ w, w < 4 → υ.1 62 q w = nI (tal (updN f t.2.1 v) w (t.2.1 + 1))) ∧ ∀ k, υ.1 61 q k = if k = t.2.1 then nI v else σ.1 61 q k
theorem SV_mk {σ : gS} {q : Nat} {t : jT} {f : Nat → Nat} {v : Nat} (h : LZ σ q t f) (ht : t.1 = 0) : SV σ (sI (sI (sI σ 61 q t.2.1 (nI v)) 60 q 7 (nI (t.2.1 + 1))) 62 q v (nI (tal f v t.2.1 + 1))) q t f v := by
  refine ⟨(((LF.rf σ q).put (by omega)).put (by omega)).put (by omega), ?_, ?_, ?_, fun w hw => ?_, fun k => ?_⟩
  · rw [sI_at, if_neg (by omega), sI_at, if_neg (by omega), sI_at, if_neg (by omega), h.1, ht]
  · rw [sI_at, if_neg (by omega), sI_at, if_pos ⟨rfl, rfl, rfl⟩]
  · rw [sI_at, if_neg (by omega), sI_at, if_neg (by omega), sI_at, if_neg (by omega), h.2.2.1]
  · rw [tal_upd, sI_at]
    by_cases e : w = v
    · rw [if_pos ⟨rfl, rfl, e⟩, if_pos e.symm, e]
    · rw [if_neg (fun z => e z.2.2), if_neg (fun z => e z.symm), sI_at, if_neg (by omega), sI_at, if_neg (by omega), h.2.2.2 w hw]; rfl
  · rw [sI_at, if_neg (by omega), sI_at, if_neg (by omega), sI_at]
    by_cases e : k = t.2.1
    · rw [if_pos ⟨rfl, rfl, e⟩, if_pos e]
    · rw [if_neg (fun z => e z.2.2), if_neg e]
theorem SV_tl {σ υ : gS} {q : Nat} {t : jT} {f : Nat → Nat} {v : Nat} (h : SV σ υ q t f v) (hv : v ≤ 3) (h1 : t.2.2.2.1 = tal f 1 t.2.1) (h2 : t.2.2.2.2 = tal f 2 t.2.1 + tal f 3 t.2.1) : tal (updN f t.2.1 v) 2 (t.2.1 + 1) + tal (updN f t.2.1 v) 3 (t.2.1 + 1) + tal (updN f t.2.1 v) 1 (t.2.1 + 1) / 3 = jD (jadd t v) := by
  rw [tal_upd, tal_upd, tal_upd]
  show _ = t.2.2.2.2 + isB v + (t.2.2.2.1 + isM v) / 3
  rw [h1, h2]
  rcases (show v = 0 ∨ v = 1 ∨ v = 2 ∨ v = 3 by omega) with rfl | rfl | rfl | rfl
  · rw [if_neg (by decide), if_neg (by decide), if_neg (by decide), show isB 0 = 0 from rfl, show isM 0 = 0 from rfl]; omega
  · rw [if_neg (by decide), if_neg (by decide), if_pos rfl, show isB 1 = 0 from rfl, show isM 1 = 1 from rfl]; omega
  · rw [if_pos rfl, if_neg (by decide), if_neg (by decide), show isB 2 = 1 from rfl, show isM 2 = 0 from rfl]; omega
  · rw [if_neg (by decide), if_pos rfl, if_neg (by decide), show isB 3 = 1 from rfl, show isM 3 = 0 from rfl]; omega
theorem SEE_of {σ υ τ : gS} {q p : Nat} {t u : jT} {f : Nat → Nat} {v : Nat} (h : SV σ υ q t f v) (ht : t.1 = 0) (hu : jstep σ p t v = u) (hF : LF υ τ q) (h9 : τ.1 60 q 9 = nI u.1) (h8 : τ.1 60 q 8 = nI u.2.2.1) (hn : u.2.1 = t.2.1 + 1) (h7 : τ.1 60 q 7 = υ.1 60 q 7) (h62 : ∀ w, τ.1 62 q w = υ.1 62 q w) (h61 : ∀ w, τ.1 61 q w = υ.1 61 q w) : SEE σ τ q p t f v := by
  refine ⟨h.1.tr hF, fun _ => ⟨?_, fun k => (h61 k).trans (h.2.2.2.2.2 k)⟩, fun z => absurd ht z⟩
  rw [hu]
  exact ⟨h9, h7.trans (by rw [hn]; exact h.2.2.1), h8, fun w hw => (h62 w).trans (by rw [hn]; exact h.2.2.2.2.1 w hw)⟩
theorem jstep_u {σ : gS} {p : Nat} {t : jT} {v : Nat} (ht : t.1 = 0) : jstep σ p t v = jdec σ p (jadd t v) v := by unfold jstep; rw [if_pos ht]
theorem rfB_i {σ : gS} {p k x : Nat} (hk : k < stN σ p) : rfB σ p k x = true ↔ rfI σ p k ≤ (x : Int) := by unfold rfB; rw [decide_eq_true_iff]; exact ⟨fun h => h.2, fun h => ⟨hk, h⟩⟩
theorem tkB_i {σ : gS} {p k x : Nat} (hk : k < stN σ p) : tkB σ p k x = true ↔ (x : Int) ≤ acI σ p k := by unfold tkB; rw [decide_eq_true_iff]; exact ⟨fun h => h.2, fun h => ⟨hk, h⟩⟩
theorem enB_i {σ : gS} {p k x : Nat} (hk : k < stN σ p) : enB σ p k x = true ↔ x = tot σ p (k + 1) := by unfold enB; rw [decide_eq_true_iff]; exact ⟨fun h => h.2, fun h => ⟨hk, h⟩⟩
theorem SEE_2 {σ υ : gS} {q p : Nat} {t : jT} {f : Nat → Nat} {v : Nat} (h : SV σ υ q t f v) (ht : t.1 = 0) (hk : t.2.2.1 < stN σ p) (hc : v = 3 ∨ rfB σ p t.2.2.1 (jD (jadd t v)) = true) : SEE σ (sI υ 60 q 9 (nI 2)) q p t f v := by
  refine SEE_of (u := (2, (jadd t v).2)) h ht ?_ ((LF.rf υ q).put (by omega)) ?_ ?_ rfl ?_ (fun w => ?_) (fun w => ?_)
  · rw [jstep_u ht]; unfold jdec; exact if_pos (hc.imp id (rfB_i hk).mp)
  · rw [sI_at, if_pos ⟨rfl, rfl, rfl⟩]
  · rw [sI_at, if_neg (by omega)]; exact h.2.2.2.1
  · rw [sI_at, if_neg (by omega)]
  · rw [sI_at, if_neg (by omega)]
  · rw [sI_at, if_neg (by omega)]
theorem SEE_1 {σ υ : gS} {q p : Nat} {t : jT} {f : Nat → Nat} {v : Nat} (h : SV σ υ q t f v) (ht : t.1 = 0) (hk : t.2.2.1 < stN σ p) (h3 : v ≠ 3) (hr : rfB σ p t.2.2.1 (jD (jadd t v)) = false) (he : enB σ p t.2.2.1 (t.2.1 + 1) = true) (hc : tkB σ p t.2.2.1 (jD (jadd t v)) = true) : SEE σ (sI υ 60 q 9 (nI 1)) q p t f v := by
  refine SEE_of (u := (1, (jadd t v).2)) h ht ?_ ((LF.rf υ q).put (by omega)) ?_ ?_ rfl ?_ (fun w => ?_) (fun w => ?_)
  · rw [jstep_u ht]; unfold jdec
    exact (if_neg (fun z => z.elim h3 (fun y => by rw [(rfB_i hk).mpr y] at hr; exact absurd hr (by decide)))).trans ((if_pos ((enB_i hk).mp he)).trans (if_pos ((tkB_i hk).mp hc)))
  · rw [sI_at, if_pos ⟨rfl, rfl, rfl⟩]
  · rw [sI_at, if_neg (by omega)]; exact h.2.2.2.1
  · rw [sI_at, if_neg (by omega)]
  · rw [sI_at, if_neg (by omega)]
  · rw [sI_at, if_neg (by omega)]
theorem SEE_s {σ υ : gS} {q p : Nat} {t : jT} {f : Nat → Nat} {v : Nat} (h : SV σ υ q t f v) (ht : t.1 = 0) (hk : t.2.2.1 < stN σ p) (h3 : v ≠ 3) (hr : rfB σ p t.2.2.1 (jD (jadd t v)) = false) (he : enB σ p t.2.2.1 (t.2.1 + 1) = true) (hc : tkB σ p t.2.2.1 (jD (jadd t v)) = false) : SEE σ (sI υ 60 q 8 (nI (t.2.2.1 + 1))) q p t f v := by
  refine SEE_of (u := (0, (jadd t v).2.1, (jadd t v).2.2.1 + 1, (jadd t v).2.2.2)) h ht ?_ ((LF.rf υ q).put (by omega)) ?_ ?_ rfl ?_ (fun w => ?_) (fun w => ?_)
  · rw [jstep_u ht]; unfold jdec
    exact (if_neg (fun z => z.elim h3 (fun y => by rw [(rfB_i hk).mpr y] at hr; exact absurd hr (by decide)))).trans ((if_pos ((enB_i hk).mp he)).trans (if_neg (fun y => by rw [(tkB_i hk).mpr y] at hc; exact absurd hc (by decide))))
  · rw [sI_at, if_neg (by omega)]; exact h.2.1
  · rw [sI_at, if_pos ⟨rfl, rfl, rfl⟩]; rfl
  · rw [sI_at, if_neg (by omega)]
  · rw [sI_at, if_neg (by omega)]
  · rw [sI_at, if_neg (by omega)]
theorem SEE_0 {σ υ : gS} {q p : Nat} {t : jT} {f : Nat → Nat} {v : Nat} (h : SV σ υ q t f v) (ht : t.1 = 0) (hk : t.2.2.1 < stN σ p) (h3 : v ≠ 3) (hr : rfB σ p t.2.2.1 (jD (jadd t v)) = false) (he : enB σ p t.2.2.1 (t.2.1 + 1) = false) : SEE σ υ q p t f v := by
  refine SEE_of (u := jadd t v) h ht ?_ (LF.rf υ q) ?_ h.2.2.2.1 rfl rfl (fun w => rfl) (fun w => rfl)
  · rw [jstep_u ht]; unfold jdec
    exact (if_neg (fun z => z.elim h3 (fun y => by rw [(rfB_i hk).mpr y] at hr; exact absurd hr (by decide)))).trans (if_neg (fun y => absurd (((enB_i hk).mpr (show t.2.1 + 1 = tot σ p (t.2.2.1 + 1) from y)).symm.trans he) (by decide)))
  · rw [h.2.1]; show nI 0 = nI t.1; rw [ht]
/-- counts of the fold -/
theorem jd_tal {ρ : gS} {q p n : Nat} (h : ∀ k, k < n → itm ρ q k ≤ 3) : (jd ρ q p n).2.2.2.1 = tal (itm ρ q) 1 (jd ρ q p n).2.1 ∧ (jd ρ q p n).2.2.2.2 = tal (itm ρ q) 2 (jd ρ q p n).2.1 + tal (itm ρ q) 3 (jd ρ q p n).2.1 := by
  induction n with
  | zero => exact ⟨rfl, rfl⟩
  | succ n ih =>
    obtain ⟨a, b⟩ := ih (fun k hk => h k (by omega))
    by_cases h0 : (jd ρ q p n).1 = 0
    · have hc := jd_cnt h0
      rw [jd_s h0, (jdec_cnt _ _ _ _).1, (jdec_cnt _ _ _ _).2]
      show (jd ρ q p n).2.2.2.1 + isM (itm ρ q n) = tal (itm ρ q) 1 ((jd ρ q p n).2.1 + 1) ∧ (jd ρ q p n).2.2.2.2 + isB (itm ρ q n) = tal (itm ρ q) 2 ((jd ρ q p n).2.1 + 1) + tal (itm ρ q) 3 ((jd ρ q p n).2.1 + 1)
      rw [a, b, hc]
      show tal (itm ρ q) 1 n + isM (itm ρ q n) = tal (itm ρ q) 1 n + (if itm ρ q n = 1 then 1 else 0) ∧ _ = tal (itm ρ q) 2 n + (if itm ρ q n = 2 then 1 else 0) + (tal (itm ρ q) 3 n + (if itm ρ q n = 3 then 1 else 0))
      refine ⟨rfl, ?_⟩
      have h3 := h n (by omega)
      unfold isB
      rcases (show itm ρ q n = 0 ∨ itm ρ q n = 1 ∨ itm ρ q n = 2 ∨ itm ρ q n = 3 by omega) with z | z | z | z <;> rw [z] <;> simp <;> omega
    · rw [jd_fix h0 (Nat.le_succ n)]; exact ⟨a, b⟩
/-- the first items come anew -/
def SA (σ τ : gS) (q : Nat) (t : jT) (f : Nat → Nat) : Prop := LF σ τ q ∧ (∀ k, τ.1 61 q k = σ.1 61 q k) ∧ LZ τ q t f
def lfA (σ : gS) (p sn st D : Nat) : Int32 := match fnd (ndH σ p sn st D) 60 with
  | none => -1
  | some j => nI (j + 1)
theorem ndA_lf (σ : gS) (q : Nat) : ndA σ q = if (jq σ q).1 = 0 then lfA σ (lPl σ q) (lSn σ q) (jq σ q).2.2.1 (jD (jq σ q)) else 0 := by
  unfold ndA lfA
  generalize fnd (ndH σ (lPl σ q) (lSn σ q) (jq σ q).2.2.1 (jD (jq σ q))) 60 = o
  cases o <;> rfl
theorem lf_hit {σ : gS} {p sn st D j : Nat} (hn : fnd (ndH σ p sn st D) j = none) (hj : j < 60) (h : ndH σ p sn st D j = true) : lfA σ p sn st D = nI (j + 1) := by
  have h3 := fnd_up (fnd_hit hn h) (show j + 1 ≤ 60 by omega)
  unfold lfA
  rw [h3]
theorem ndH_c {σ : gS} {p sn st D j : Nat} (hk : ns σ p sn st j < stN σ p) : ndH σ p sn st D j = (rfB σ p (ns σ p sn st j) (D + (j + 1)) || (enB σ p (ns σ p sn st j) (sn + (j + 1)) && tkB σ p (ns σ p sn st j) D)) := by
  unfold ndH rfB enB tkB
  simp only [hk, true_and]
theorem ns_c {σ : gS} {p sn st j : Nat} (hk : ns σ p sn st j < stN σ p) : ns σ p sn st (j + 1) = (if enB σ p (ns σ p sn st j) (sn + (j + 1)) = true then ns σ p sn st j + 1 else ns σ p sn st j) := by
  show (if _ then _ else _) = _
  by_cases h : sn + (j + 1) = tot σ p (ns σ p sn st j + 1)
  · rw [if_pos h, if_pos ((enB_i hk).mpr h)]
  · rw [if_neg h, if_neg (fun z => h ((enB_i hk).mp z))]
