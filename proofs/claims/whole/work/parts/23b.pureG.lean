theorem Sm.rlE {σ τ : gS} (h : Sm σ τ) (s : Nat) : rl τ s = rl σ s := Sm.cg (fun z => rl z s) h
theorem Sm.lSuE {σ τ : gS} (h : Sm σ τ) (q : Nat) : lSu τ q = lSu σ q := Sm.cg (fun z => lSu z q) h
theorem Sm.lSnE {σ τ : gS} (h : Sm σ τ) (q : Nat) : lSn τ q = lSn σ q := Sm.cg (fun z => lSn z q) h
theorem Sm.lPlE {σ τ : gS} (h : Sm σ τ) (q : Nat) : lPl τ q = lPl σ q := Sm.cg (fun z => lPl z q) h
theorem Sm.itmE {σ τ : gS} (h : Sm σ τ) (q k : Nat) : itm τ q k = itm σ q k := Sm.cg (fun z => itm z q k) h
theorem Sm.nPE {σ τ : gS} (h : Sm σ τ) : nP τ = nP σ := Sm.cg nP h
theorem Sm.nLE {σ τ : gS} (h : Sm σ τ) : nL τ = nL σ := Sm.cg nL h
theorem Sm.rcAm {σ τ : gS} (h : Sm σ τ) (s a : Nat) : Sm (rcA σ s a) (rcA τ s a) := by
  show Sm (sI (sI σ 18 0 (60 * s + rn σ s) (nI a)) 17 0 s (nI (rn σ s + 1))) (sI (sI τ 18 0 (60 * s + rn τ s) (nI a)) 17 0 s (nI (rn τ s + 1)))
  rw [h.rnE s]
  exact (h.put 18 0 _ _).put 17 0 _ _
theorem Sm.rcvm {σ τ : gS} (h : Sm σ τ) (s a : Nat) : Sm (rcv σ s a) (rcv τ s a) := by
  have hA := Sm.rcAm h s a
  have e : nxr (rl τ s) a (rv (rcA τ s a) s) = nxr (rl σ s) a (rv (rcA σ s a) s) := by rw [hA.rvE s, h.rlE s]
  by_cases c : nxr (rl σ s) a (rv (rcA σ s a) s) = rl σ s
  · rw [rcv_same c, rcv_same (by rw [e, h.rlE s]; exact c)]; exact hA
  · rw [rcv_new c, rcv_new (by rw [e, h.rlE s]; exact c), e, h.rd 16 0 s rfl]
    exact ((hA.put 15 0 _ _).put 16 0 _ _).put 17 0 _ _
theorem Sm.hrsm {σ τ : gS} (h : Sm σ τ) (q : Nat) : Sm (hrs σ q) (hrs τ q) := by
  by_cases c : (jq σ q).1 = 0
  · rw [hrs_0 c, hrs_0 (by rw [h.jqE]; exact c), h.jqE]; exact h.put 23 0 _ _
  · rw [hrs_1 c, hrs_1 (by rw [h.jqE]; exact c), h.jqE, h.lSuE]; exact Sm.rcvm (h.put 23 0 _ _) _ _
theorem Sm.jh {σ τ : gS} (h : Sm σ τ) {q p n : Nat} (hJ : JH σ q p n) : JH τ q p n :=
  ⟨hJ.1, hJ.2.1, h.eqP.wf hJ.2.2.1, by rw [h.eqP.cl]; exact hJ.2.2.2.1, (h.rd 21 0 q rfl).trans hJ.2.2.2.2.1, (h.rd 23 0 q rfl).trans hJ.2.2.2.2.2.1, hJ.2.2.2.2.2.2.1, fun k hk => ⟨by rw [h.rd 24 0 _ rfl, h.itmE]; exact (hJ.2.2.2.2.2.2.2 k hk).1, by rw [h.itmE]; exact (hJ.2.2.2.2.2.2.2 k hk).2⟩⟩
/-- an item more; an item corrected -/
def itUp (σ : gS) (q : Nat) (v : Int32) : gS := sI (sI σ 24 0 (60 * q + lSn σ q) v) 23 0 q (nI (lSn σ q + 1))
def coUp (σ : gS) (q k : Nat) (v : Int32) : gS := sI σ 24 0 (60 * q + k) v
def itOK (σ : gS) (x v : Int32) : Bool := opn σ x && decide (0 ≤ v.toInt ∧ v.toInt ≤ 3)
def ctOK (σ : gS) (x i v : Int32) : Bool := opn σ x && decide ((0 ≤ i.toInt ∧ i.toInt < (lSn σ x.toNatClampNeg : Int)) ∧ (0 ≤ v.toInt ∧ v.toInt ≤ 3))
theorem lSn_lt {σ : gS} {q : Nat} (hP : WfP σ) (h : WfL1 σ q) (ho : (jq σ q).1 = 0) : lSn σ q < 60 := by
  have hP1 := hP.2.2 _ h.2.2.2.2.2.1
  have h1 := jd_inv (q := q) hP1 h.2.2.2.2.2.2.1 (n := lSn σ q) ho
  have h2 := tot_le hP1 (show (jd σ q (lPl σ q) (lSn σ q)).2.2.1 + 1 ≤ stN σ (lPl σ q) by have := h1.1; omega)
  omega
theorem itUp_S {σ : gS} {q : Nat} {v : Int32} (h : WfS σ) : WfS (itUp σ q v) := h
theorem coUp_S {σ : gS} {q k : Nat} {v : Int32} (h : WfS σ) : WfS (coUp σ q k v) := h
theorem eqP_it (σ : gS) (q : Nat) (v : Int32) : eqP σ (itUp σ q v) := fun k j h1 h2 => by
  unfold itUp
  rw [sI_at, if_neg (by omega), sI_at, if_neg (by omega)]
theorem eqP_co (σ : gS) (q k : Nat) (v : Int32) : eqP σ (coUp σ q k v) := fun a j h1 h2 => by
  unfold coUp
  rw [sI_at, if_neg (by omega)]
theorem it_sn {σ : gS} {q : Nat} {v : Int32} (h : lSn σ q < 60) : lSn (itUp σ q v) q = lSn σ q + 1 := by
  show ((itUp σ q v).1 23 0 q).toNatClampNeg = _
  unfold itUp
  rw [sI_at, if_pos ⟨rfl, rfl, rfl⟩]
  exact nI_clamp (by omega)
theorem it_24 {σ : gS} {q k : Nat} {v : Int32} : (itUp σ q v).1 24 0 (60 * q + k) = if k = lSn σ q then v else σ.1 24 0 (60 * q + k) := by
  unfold itUp
  rw [sI_at, if_neg (by omega), sI_at]
  by_cases e : k = lSn σ q
  · rw [if_pos e, if_pos ⟨rfl, rfl, by omega⟩]
  · rw [if_neg e, if_neg (by omega)]
theorem it_JH {σ : gS} {q vn : Nat} (hP : WfP σ) (hq : q < 60) (h : WfL1 σ q) (ho : (jq σ q).1 = 0) (hv : vn ≤ 3) : JH (itUp σ q (nI vn)) q (lPl (itUp σ q (nI vn)) q) (lSn (itUp σ q (nI vn)) q) := by
  have h60 := lSn_lt hP h ho
  have hJ := h.jh hP hq
  have e1 : lPl (itUp σ q (nI vn)) q = lPl σ q := rfl
  rw [it_sn h60, e1]
  refine ⟨hq, hJ.2.1, (eqP_it σ q _).wf hJ.2.2.1, by rw [(eqP_it σ q _).cl]; exact hJ.2.2.2.1, hJ.2.2.2.2.1, ?_, by omega, fun k hk => ?_⟩
  · unfold itUp
    rw [sI_at, if_pos ⟨rfl, rfl, rfl⟩]
  · unfold itm
    rw [it_24]
    by_cases e : k = lSn σ q
    · rw [if_pos e, nI_clamp (by omega)]; exact ⟨rfl, hv⟩
    · rw [if_neg e]; exact hJ.2.2.2.2.2.2.2 k (by omega)
theorem co_24 {σ : gS} {q k j : Nat} {v : Int32} : (coUp σ q k v).1 24 0 (60 * q + j) = if j = k then v else σ.1 24 0 (60 * q + j) := by
  unfold coUp
  rw [sI_at]
  by_cases e : j = k
  · rw [if_pos e, if_pos ⟨rfl, rfl, by omega⟩]
  · rw [if_neg e, if_neg (by omega)]
theorem co_JH {σ : gS} {q k vn : Nat} (hP : WfP σ) (hq : q < 60) (h : WfL1 σ q) (hv : vn ≤ 3) : JH (coUp σ q k (nI vn)) q (lPl (coUp σ q k (nI vn)) q) (lSn (coUp σ q k (nI vn)) q) := by
  have hJ := h.jh hP hq
  have e1 : lPl (coUp σ q k (nI vn)) q = lPl σ q := rfl
  have e2 : lSn (coUp σ q k (nI vn)) q = lSn σ q := rfl
  rw [e2, e1]
  refine ⟨hq, hJ.2.1, (eqP_co σ q k _).wf hJ.2.2.1, by rw [(eqP_co σ q k _).cl]; exact hJ.2.2.2.1, hJ.2.2.2.2.1, hJ.2.2.2.2.2.1, hJ.2.2.2.2.2.2.1, fun j hj => ?_⟩
  unfold itm
  rw [co_24]
  by_cases e : j = k
  · rw [if_pos e, nI_clamp (by omega)]; exact ⟨rfl, hv⟩
  · rw [if_neg e]; exact hJ.2.2.2.2.2.2.2 j hj
/-- the RUN of an undecided lot's supplier has room -/
def RunOK (σ : gS) : Prop := ∀ q, q < nL σ → (jq σ q).1 = 0 → rn σ (lSu σ q) < 60
def cnt (P : Nat → Bool) : Nat → Nat
  | 0 => 0
  | n + 1 => cnt P n + (if P n then 1 else 0)
theorem cnt_le (P : Nat → Bool) (n : Nat) : cnt P n ≤ n := by
  induction n with
  | zero => exact Nat.le_refl 0
  | succ n ih => show cnt P n + (if P n then 1 else 0) ≤ n + 1; split <;> omega
def cuA (σ : gS) (w : Int32) : Int32 := if w = nI 0 then nI (nP σ) else if w = nI 1 then nI (cnt (clo σ) (nP σ)) else if w = nI 2 then nI (nS σ) else if w = nI 3 then nI (nL σ) else if w = nI 4 then nI (cnt (fun q => !decide ((jq σ q).1 = 0)) (nL σ)) else if w = nI 5 then nI (rkN σ) else -2
def s64 (f : Nat → Int64) : Nat → Int64
  | 0 => 0
  | n + 1 => s64 f n + f n
def tgt (w : Nat) : Nat := if w = 0 then 1 else if w = 1 then 2 else 0
def itv (σ : gS) (w v : Nat) : Int64 := if w = 3 then lN 1 else if w = 4 then (if 0 < v then lN 1 else lN 0) else (σ.1 25 0 v).toInt64
def slv (σ : gS) (w q : Nat) : Int64 := if w < 3 then (if (jq σ q).1 = tgt w then lN 1 else lN 0) else s64 (fun k => itv σ w (itm σ q k)) (lSn σ q)
def scA (σ : gS) (s w : Nat) : Int64 := s64 (fun q => if lSu σ q = s then slv σ w q else 0) (nL σ)
theorem s64_no {σ : gS} {s w q : Nat} (h : ¬ lSu σ q = s) : s64 (fun q => if lSu σ q = s then slv σ w q else 0) (q + 1) = s64 (fun q => if lSu σ q = s then slv σ w q else 0) q := by
  show _ + (if lSu σ q = s then slv σ w q else 0) = _
  rw [if_neg h, Int64.add_zero]
theorem s64_yes {σ : gS} {s w q : Nat} (h : lSu σ q = s) : s64 (fun q => if lSu σ q = s then slv σ w q else 0) (q + 1) = s64 (fun q => if lSu σ q = s then slv σ w q else 0) q + slv σ w q := by
  show _ + (if lSu σ q = s then slv σ w q else 0) = _
  rw [if_pos h]
