/-! suppliers and lots, over states that differ in scratch alone -/
theorem Sm.wfS {σ τ : gS} (h : Sm σ τ) (hW : WfS σ) : WfS τ := Eq.mpr (show WfS τ = WfS σ from Sm.cg WfS h) hW
theorem Sm.wfL1 {σ τ : gS} (h : Sm σ τ) {q : Nat} (hW : WfL1 σ q) : WfL1 τ q := by
  unfold WfL1 at hW ⊢
  rw [h.jqE, show lSu τ q = lSu σ q from Sm.cg (fun z => lSu z q) h, show lSz τ q = lSz σ q from Sm.cg (fun z => lSz z q) h, show lRu τ q = lRu σ q from Sm.cg (fun z => lRu z q) h, show lPl τ q = lPl σ q from Sm.cg (fun z => lPl z q) h, show lSn τ q = lSn σ q from Sm.cg (fun z => lSn z q) h, show nS τ = nS σ from Sm.cg nS h, show nP τ = nP σ from Sm.cg nP h, h.eqP.cl, h.rd 19 0 q rfl, h.rd 20 0 q rfl, h.rd 21 0 q rfl, h.rd 22 0 q rfl, h.rd 23 0 q rfl]
  refine ⟨hW.1, hW.2.1, hW.2.2.1, hW.2.2.2.1, hW.2.2.2.2.1, hW.2.2.2.2.2.1, hW.2.2.2.2.2.2.1, hW.2.2.2.2.2.2.2.1, hW.2.2.2.2.2.2.2.2.1, fun k hk => ?_, hW.2.2.2.2.2.2.2.2.2.2⟩
  rw [h.rd 24 0 _ rfl, show itm τ q k = itm σ q k from Sm.cg (fun z => itm z q k) h]
  exact hW.2.2.2.2.2.2.2.2.2.1 k hk
theorem Sm.wfL {σ τ : gS} (h : Sm σ τ) (hW : WfL σ) : WfL τ := by
  have e : nL τ = nL σ := Sm.cg nL h
  exact ⟨by rw [e, h.rd 0 0 2 rfl]; exact hW.1, by rw [e]; exact hW.2.1, fun q hq => h.wfL1 (hW.2.2 q (by rw [← e]; exact hq))⟩
theorem Sm.opnE {σ τ : gS} (h : Sm σ τ) (x : Int32) : opn τ x = opn σ x := by
  unfold opn
  rw [h.jqE, show isLo τ x = isLo σ x from Sm.cg (fun z => isLo z x) h]
/-- the RUN's room: one more decision -/
theorem rcA_wfS {σ : gS} {s a : Nat} (hW : WfS σ) (hs : s < nS σ) (hr : rn σ s < 60) : WfS (rcA σ s a) := by
  have hcell : ∀ k j, k ≠ 18 → k ≠ 17 → (rcA σ s a).1 k 0 j = σ.1 k 0 j := fun k j h1 h2 => by
    unfold rcA
    rw [sI_at, if_neg (fun z => h2 z.1), sI_at, if_neg (fun z => h1 z.1)]
  have h17 : ∀ j, (rcA σ s a).1 17 0 j = if j = s then nI (rn σ s + 1) else σ.1 17 0 j := fun j => by
    unfold rcA
    rw [sI_at]
    by_cases e : j = s
    · rw [if_pos ⟨rfl, rfl, e⟩, if_pos e]
    · rw [if_neg (fun z => e z.2.2), if_neg e, sI_at, if_neg (by omega)]
  have hn : nS (rcA σ s a) = nS σ := rfl
  refine ⟨by rw [hn]; exact hW.1, by rw [hn]; exact hW.2.1, fun t ht => ?_, fun t h1 h2 => ?_⟩
  · obtain ⟨a1, a2, a3, a4, a5⟩ := hW.2.2.1 t ht
    have hrn : rn (rcA σ s a) t = if t = s then rn σ s + 1 else rn σ t := by
      unfold rn
      rw [h17 t]
      by_cases e : t = s
      · rw [if_pos e, if_pos e]; exact nI_clamp (by omega)
      · rw [if_neg e, if_neg e]
    refine ⟨a1, a2, a3, ?_, ?_⟩
    · rw [h17 t, hrn]
      by_cases e : t = s
      · rw [if_pos e, if_pos e]
      · rw [if_neg e, if_neg e]; exact a4
    · rw [hrn]
      by_cases e : t = s
      · rw [if_pos e]; omega
      · rw [if_neg e]; exact a5
  · have := hW.2.2.2 t h1 h2
    exact ⟨this.1, by rw [h17 t, if_neg (by omega)]; exact this.2⟩
theorem rn_rcA {σ : gS} {s a : Nat} (hr : rn σ s < 60) : rn (rcA σ s a) s = rn σ s + 1 := by
  unfold rn rcA
  rw [sI_at, if_pos ⟨rfl, rfl, rfl⟩]
  exact nI_clamp (by omega)
theorem rv_1 {σ : gS} {s k : Nat} (h : rv σ s k = nI 1) : k < rn σ s := by
  unfold rv at h
  rcases Nat.lt_or_ge k (rn σ s) with q | q
  · exact q
  · rw [if_neg (by omega)] at h; exact absurd h (by decide)
