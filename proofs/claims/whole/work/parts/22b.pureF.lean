theorem x23_S {σ : gS} {q : Nat} {v : Int32} (h : WfS σ) : WfS (sI σ 23 0 q v) := h
theorem x23_n (σ : gS) (q : Nat) (v : Int32) : nS (sI σ 23 0 q v) = nS σ := rfl
theorem x23_rn (σ : gS) (q : Nat) (v : Int32) (s : Nat) : rn (sI σ 23 0 q v) s = rn σ s := rfl
theorem x23_rl (σ : gS) (q : Nat) (v : Int32) (s : Nat) : rl (sI σ 23 0 q v) s = rl σ s := rfl
theorem x23_16 (σ : gS) (q : Nat) (v : Int32) (s : Nat) : (sI σ 23 0 q v).1 16 0 s = σ.1 16 0 s := rfl
theorem rcA_n (σ : gS) (s a : Nat) : nS (rcA σ s a) = nS σ := rfl
theorem rcA_15 (σ : gS) (s a t : Nat) : (rcA σ s a).1 15 0 t = σ.1 15 0 t := rfl
theorem rcA_16 (σ : gS) (s a t : Nat) : (rcA σ s a).1 16 0 t = σ.1 16 0 t := rfl
theorem Sm.nSE {σ τ : gS} (h : Sm σ τ) : nS τ = nS σ := Sm.cg nS h
theorem Sm.rnE {σ τ : gS} (h : Sm σ τ) (s : Nat) : rn τ s = rn σ s := Sm.cg (fun z => rn z s) h
theorem Sm.rvE {σ τ : gS} (h : Sm σ τ) (s : Nat) : rv τ s = rv σ s := Sm.cg (fun z => rv z s) h
theorem rcv_same {σ : gS} {s a : Nat} (h : nxr (rl σ s) a (rv (rcA σ s a) s) = rl σ s) : rcv σ s a = rcA σ s a := if_pos h
theorem rcv_new {σ : gS} {s a : Nat} (h : ¬ nxr (rl σ s) a (rv (rcA σ s a) s) = rl σ s) : rcv σ s a = sI (sI (sI (rcA σ s a) 15 0 s (nI (nxr (rl σ s) a (rv (rcA σ s a) s)))) 16 0 s (σ.1 16 0 s + nI 1)) 17 0 s (nI 0) := if_neg h
theorem hrs_0 {σ : gS} {q : Nat} (h : (jq σ q).1 = 0) : hrs σ q = sI σ 23 0 q (nI (jq σ q).2.1) := if_pos h
theorem hrs_1 {σ : gS} {q : Nat} (h : ¬ (jq σ q).1 = 0) : hrs σ q = rcv (sI σ 23 0 q (nI (jq σ q).2.1)) (lSu σ q) (jq σ q).1 := if_neg h
