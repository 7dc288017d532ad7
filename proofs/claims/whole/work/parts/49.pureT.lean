/-! the class' sums are the check's: weight is kept from item to item (Pascal) and from STAGE to STAGE -/
def phi (n d : Nat) (f : Nat → Nat) (m : Nat) : Nat := rsum (fun s => f s * chZ (n - m) ((d : Int) - (s : Int))) 62
theorem pas_sum {f c : Nat → Nat} (N : Nat) (hN : f N = 0) : rsum (fun s => gAft f s * c s) (N + 1) = rsum (fun s => f s * c s) (N + 1) + rsum (fun s => f s * c (s + 1)) (N + 1) := by
  have e1 : ∀ s, gAft f s * c s = f s * c s + (if s = 0 then 0 else f (s - 1)) * c s := fun s => by
    unfold gAft; rw [Nat.add_mul]
  have e2 : rsum (fun s => (if s = 0 then 0 else f (s - 1)) * c s) (N + 1) = rsum (fun s => f s * c (s + 1)) (N + 1) := by
    rw [rsum_front (fun s => (if s = 0 then 0 else f (s - 1)) * c s) N]
    have e3 : rsum (fun s => f s * c (s + 1)) (N + 1) = rsum (fun s => f s * c (s + 1)) N := by
      show rsum (fun s => f s * c (s + 1)) N + f N * c (N + 1) = _
      rw [hN, Nat.zero_mul, Nat.add_zero]
    rw [e3, if_pos rfl, Nat.zero_mul, Nat.zero_add]
    exact rsum_cong (fun s _ => by rw [if_neg (Nat.succ_ne_zero s), Nat.add_sub_cancel])
  rw [rsum_cong (fun s _ => e1 s), rsum_add, e2]
theorem phi_pas {n d : Nat} {f : Nat → Nat} {m : Nat} (hm : m < n) (h61 : f 61 = 0) : phi n d (gAft f) (m + 1) = phi n d f m := by
  have h := pas_sum (f := f) (c := fun s => chZ (n - (m + 1)) ((d : Int) - (s : Int))) 61 h61
  have h2 : rsum (fun s => f s * chZ (n - m) ((d : Int) - (s : Int))) (61 + 1) = rsum (fun s => f s * chZ (n - (m + 1)) ((d : Int) - (s : Int))) (61 + 1) + rsum (fun s => f s * chZ (n - (m + 1)) ((d : Int) - ((s + 1 : Nat) : Int))) (61 + 1) := by
    rw [← rsum_add]
    refine rsum_cong (fun s _ => ?_)
    have e3 : chZ (n - m) ((d : Int) - (s : Int)) = chZ (n - (m + 1)) ((d : Int) - ((s + 1 : Nat) : Int)) + chZ (n - (m + 1)) ((d : Int) - (s : Int)) := by
      rw [show n - m = (n - (m + 1)) + 1 by omega, chZ_succ, show (d : Int) - ((s + 1 : Nat) : Int) = (d : Int) - (s : Int) - 1 by omega]
    rw [e3, Nat.mul_add, Nat.add_comm]
  unfold phi
  exact h.trans h2.symm
/-- ways behind j items of STAGE k, if none of them decided -/
def fr (σ : gS) (p k j s : Nat) : Nat := rsum (fun b => opw σ p k b * chZ j ((s : Int) - (b : Int))) (tot σ p k + 1)
theorem fr_rch (σ : gS) (p : Nat) : ∀ k s, rch σ p k s = fr σ p k (szN σ p k) s
  | 0, _ => rfl
  | _ + 1, _ => rfl
theorem fr_pas (σ : gS) (p k j : Nat) : gAft (fr σ p k j) = fr σ p k (j + 1) := by
  funext s
  have e : fr σ p k (j + 1) s = fr σ p k j s + rsum (fun b => opw σ p k b * chZ j ((s : Int) - (b : Int) - 1)) (tot σ p k + 1) := by
    unfold fr
    rw [← rsum_add]
    refine rsum_cong (fun b _ => ?_)
    rw [chZ_succ, Nat.mul_add, Nat.add_comm]
  rw [e]
  show fr σ p k j s + (if s = 0 then 0 else fr σ p k j (s - 1)) = _
  congr 1
  by_cases h : s = 0
  · rw [if_pos h, rsum_0 (fun b _ => by rw [chZ_neg (by omega), Nat.mul_zero])]
  · rw [if_neg h]
    exact rsum_cong (fun b _ => by rw [show ((s - 1 : Nat) : Int) - (b : Int) = (s : Int) - (b : Int) - 1 by omega])
theorem fr_big {σ : gS} {p k j s : Nat} (h : tot σ p k + j < s) : fr σ p k j s = 0 := rsum_0 (fun b hb => by
  rw [show (s : Int) - (b : Int) = ((s - b : Nat) : Int) by omega, chZ_nat, ch_big (by omega), Nat.mul_zero])
theorem opw_big {σ : gS} {p : Nat} : ∀ {k s : Nat}, tot σ p k < s → opw σ p k s = 0
  | 0, s, h => if_neg (by have : tot σ p 0 = 0 := rfl; omega)
  | k + 1, s, h => by
    show (if dcB σ p k s then 0 else rch σ p k s) = 0
    rw [fr_rch, fr_big h]
    split <;> rfl
theorem fr_0 (σ : gS) (p k s : Nat) : fr σ p k 0 s = opw σ p k s := by
  unfold fr
  have key : ∀ n, rsum (fun b => opw σ p k b * chZ 0 ((s : Int) - (b : Int))) n = if s < n then opw σ p k s else 0 := fun n => by
    induction n with
    | zero => rfl
    | succ n ih =>
      show rsum (fun b => opw σ p k b * chZ 0 ((s : Int) - (b : Int))) n + opw σ p k n * chZ 0 ((s : Int) - (n : Int)) = _
      rw [ih]
      by_cases e : s = n
      · subst e
        rw [if_neg (by omega), if_pos (by omega), show (s : Int) - (s : Int) = ((0 : Nat) : Int) by omega, chZ_nat, ch_0]; omega
      · have hz : chZ 0 ((s : Int) - (n : Int)) = 0 := by
          by_cases q : s < n
          · exact chZ_neg (by omega)
          · rw [show (s : Int) - (n : Int) = ((s - n : Nat) : Int) by omega, chZ_nat, ch_big (by omega)]
        rw [hz, Nat.mul_zero, Nat.add_zero]
        by_cases q : s < n
        · rw [if_pos q, if_pos (by omega)]
        · rw [if_neg q, if_neg (by omega)]
  rw [key]
  by_cases q : s < tot σ p k + 1
  · rw [if_pos q]
  · rw [if_neg q, opw_big (by omega)]
theorem phi_fr {σ : gS} {p k n d : Nat} (hk : tot σ p k + szN σ p k ≤ 60) (hn : tot σ p k + szN σ p k ≤ n) : ∀ j, j ≤ szN σ p k → phi n d (fr σ p k j) (tot σ p k + j) = phi n d (opw σ p k) (tot σ p k)
  | 0, _ => by rw [show fr σ p k 0 = opw σ p k from funext (fr_0 σ p k)]; rfl
  | j + 1, h => by
    rw [← fr_pas, ← Nat.add_assoc, phi_pas (by omega) (fr_big (by omega))]
    exact phi_fr hk hn j (by omega)
/-- what is decided at the end of STAGE k; what is taken there -/
def dW (σ : gS) (p n d k : Nat) : Nat := rsum (fun s => if dcB σ p k s then rch σ p k s * chZ (n - tot σ p (k + 1)) ((d : Int) - (s : Int)) else 0) 62
def tW (σ : gS) (p n d k : Nat) : Nat := rsum (fun s => if tkB σ p k s then rch σ p k s * chZ (n - tot σ p (k + 1)) ((d : Int) - (s : Int)) else 0) 62
def oW (σ : gS) (p n d k : Nat) : Nat := rsum (fun s => if tkB σ p k s then rch σ p k s * chZ (n - tot σ p (k + 1)) ((d : Int) - (s : Int)) * (d - s) else 0) 62
theorem dW_eq {σ : gS} {p k n d : Nat} (hk : tot σ p k + szN σ p k ≤ 60) (hn : tot σ p k + szN σ p k ≤ n) : dW σ p n d k + phi n d (opw σ p (k + 1)) (tot σ p (k + 1)) = phi n d (opw σ p k) (tot σ p k) := by
  rw [← phi_fr hk hn (szN σ p k) (Nat.le_refl _)]
  unfold dW phi
  rw [← rsum_add]
  refine rsum_cong (fun s _ => ?_)
  rw [← fr_rch]
  show (if dcB σ p k s then rch σ p k s * chZ (n - tot σ p (k + 1)) ((d : Int) - (s : Int)) else 0) + (if dcB σ p k s then 0 else rch σ p k s) * chZ (n - tot σ p (k + 1)) ((d : Int) - (s : Int)) = rch σ p k s * chZ (n - tot σ p (k + 1)) ((d : Int) - (s : Int))
  by_cases q : dcB σ p k s = true
  · rw [if_pos q, if_pos q, Nat.zero_mul, Nat.add_zero]
  · rw [if_neg q, if_neg q, Nat.zero_add]
theorem rem_eq (σ : gS) (p k m n d : Nat) (og : Nat → Nat) : rsum (fun s => if gDc σ p k m s then gM n d m og s else 0) 62 + phi n d (gNx σ p k m og) m = phi n d (gAft og) m := by
  unfold phi
  rw [← rsum_add]
  refine rsum_cong (fun s _ => ?_)
  unfold gNx gM
  by_cases q : gDc σ p k m s = true
  · rw [if_pos q, if_pos q, Nat.zero_mul, Nat.add_zero]
  · rw [if_neg q, if_neg q, Nat.zero_add]
theorem fA_eq (σ : gS) (p k m n d : Nat) (og : Nat → Nat) : rsum (fA σ p k m n d og) 62 = rsum (fun s => if gDc σ p k m s then gM n d m og s else 0) 62 * tot σ p (k + 1) := by
  rw [← rsum_mulr]
  refine rsum_cong (fun s _ => ?_)
  unfold fA
  by_cases q : gDc σ p k m s = true
  · rw [if_pos q, if_pos q]
  · rw [if_neg q, if_neg q, Nat.zero_mul]
/-- within STAGE k, behind j of its items -/
def gI (σ : gS) (p n d k j T A O : Nat) (g : gT) : Prop := g.1 = k ∧ (∀ s : Nat, (s : Int) < rfI σ p k → g.2.1 s = fr σ p k j s) ∧ (∀ s, tot σ p k + j < s → g.2.1 s = 0) ∧ g.2.2.1 = T ∧ g.2.2.2.2 = O ∧ ∃ R, g.2.2.2.1 = A + R * tot σ p (k + 1) ∧ R + phi n d g.2.1 (tot σ p k + j) = phi n d (opw σ p k) (tot σ p k)
theorem gI_0 {σ : gS} {p n d k T A O : Nat} {g : gT} (h1 : g.1 = k) (h2 : g.2.1 = opw σ p k) (h3 : g.2.2.1 = T) (h4 : g.2.2.2.1 = A) (h5 : g.2.2.2.2 = O) : gI σ p n d k 0 T A O g := by
  refine ⟨h1, fun s _ => by rw [h2, fr_0], fun s hs => by rw [h2, opw_big (by omega)], h3, h5, 0, by rw [h4, Nat.zero_mul, Nat.add_zero], by rw [h2, Nat.zero_add]; rfl⟩
theorem gAft_fr {σ : gS} {p k j s : Nat} {og : Nat → Nat} (h : ∀ s : Nat, (s : Int) < rfI σ p k → og s = fr σ p k j s) (hs : (s : Int) < rfI σ p k) : gAft og s = fr σ p k (j + 1) s := by
  rw [← fr_pas]
  unfold gAft
  rw [h s hs]
  by_cases z : s = 0
  · rw [if_pos z, if_pos z]
  · rw [if_neg z, if_neg z, h (s - 1) (by omega)]
theorem gAft_0 {og : Nat → Nat} {m s : Nat} (h : ∀ s, m < s → og s = 0) (hs : m + 1 < s) : gAft og s = 0 := by
  unfold gAft
  rw [h s (by omega), if_neg (by omega), h (s - 1) (by omega)]
theorem gI_s {σ : gS} {p n d k j T A O : Nat} (hk : tot σ p k + szN σ p k ≤ 60) (hn : tot σ p k + szN σ p k ≤ n) (hj : j + 1 < szN σ p k) (h : gI σ p n d k j T A O (gs σ p n d (tot σ p k + j))) : gI σ p n d k (j + 1) T A O (gs σ p n d (tot σ p k + (j + 1))) := by
  rw [← Nat.add_assoc]
  obtain ⟨h1, h2, h3, h4, h5, R, h6, h7⟩ := h
  have ht : tot σ p (k + 1) = tot σ p k + szN σ p k := rfl
  have hm : ¬ tot σ p k + j + 1 = tot σ p (k + 1) := by omega
  have hT : ∀ s, gTk σ p k (tot σ p k + j + 1) s = false := fun s => by unfold gTk; rw [decide_eq_false hm]; simp
  unfold gI
  show (if tot σ p k + j + 1 = tot σ p ((gs σ p n d (tot σ p k + j)).1 + 1) then _ else _) = k ∧ (∀ s : Nat, (s : Int) < rfI σ p k → gNx σ p (gs σ p n d (tot σ p k + j)).1 (tot σ p k + j + 1) (gs σ p n d (tot σ p k + j)).2.1 s = _) ∧ (∀ s, _ → gNx σ p (gs σ p n d (tot σ p k + j)).1 (tot σ p k + j + 1) (gs σ p n d (tot σ p k + j)).2.1 s = _) ∧ _ + rsum (fT σ p (gs σ p n d (tot σ p k + j)).1 (tot σ p k + j + 1) n d (gs σ p n d (tot σ p k + j)).2.1) 62 = T ∧ _ + rsum (fO σ p (gs σ p n d (tot σ p k + j)).1 (tot σ p k + j + 1) n d (gs σ p n d (tot σ p k + j)).2.1) 62 = O ∧ ∃ R, _ + rsum (fA σ p (gs σ p n d (tot σ p k + j)).1 (tot σ p k + j + 1) n d (gs σ p n d (tot σ p k + j)).2.1) 62 = _ ∧ R + phi n d (gNx σ p (gs σ p n d (tot σ p k + j)).1 (tot σ p k + j + 1) (gs σ p n d (tot σ p k + j)).2.1) (tot σ p k + j + 1) = _
  rw [h1, h4, h5, h6]
  generalize (gs σ p n d (tot σ p k + j)).2.1 = og at *
  refine ⟨if_neg hm, fun s hs => ?_, fun s hs => ?_, ?_, ?_, R + rsum (fun s => if gDc σ p k (tot σ p k + j + 1) s then gM n d (tot σ p k + j + 1) og s else 0) 62, ?_, ?_⟩
  · unfold gNx gDc gRf
    rw [hT s, decide_eq_false (by omega), if_neg (by decide)]
    exact gAft_fr h2 hs
  · unfold gNx
    rw [gAft_0 h3 (by omega)]
    split <;> rfl
  · rw [rsum_0 (fun s _ => by unfold fT; rw [hT s]; rfl)]; rfl
  · rw [rsum_0 (fun s _ => by unfold fO; rw [hT s]; rfl)]; rfl
  · rw [fA_eq, Nat.add_mul, Nat.add_assoc]
  · rw [Nat.add_assoc, rem_eq, phi_pas (by omega) (h3 61 (by omega))]; exact h7
theorem gI_e {σ : gS} {p n d k j T A O : Nat} (hks : k < stN σ p) (har : acI σ p k < rfI σ p k) (hk : tot σ p k + szN σ p k ≤ 60) (hn : tot σ p k + szN σ p k ≤ n) (hj : j + 1 = szN σ p k) (h : gI σ p n d k j T A O (gs σ p n d (tot σ p k + j))) : gs σ p n d (tot σ p (k + 1)) = (k + 1, opw σ p (k + 1), T + tW σ p n d k, A + dW σ p n d k * tot σ p (k + 1), O + oW σ p n d k) := by
  have ht : tot σ p (k + 1) = tot σ p k + j + 1 := by show tot σ p k + szN σ p k = _; omega
  obtain ⟨h1, h2, h3, h4, h5, R, h6, h7⟩ := h
  have hD := dW_eq (d := d) hk hn
  have hT : ∀ s, gTk σ p k (tot σ p k + j + 1) s = tkB σ p k s := fun s => by
    unfold gTk tkB gRf
    rw [decide_eq_true ht.symm, Bool.eq_iff_iff]
    simp only [Bool.and_true, Bool.and_eq_true, Bool.not_eq_true', decide_eq_false_iff_not, decide_eq_true_eq]
    exact ⟨fun z => ⟨hks, z.2⟩, fun z => ⟨by omega, z.2⟩⟩
  have hDc : ∀ s, gDc σ p k (tot σ p k + j + 1) s = dcB σ p k s := fun s => by
    unfold gDc dcB
    rw [hT s, Bool.or_comm]
    congr 1
    unfold gRf rfB
    by_cases q : rfI σ p k ≤ (s : Int)
    · rw [decide_eq_true q, decide_eq_true ⟨hks, q⟩]
    · rw [decide_eq_false q, decide_eq_false (fun z => q z.2)]
  have hA : ∀ s : Nat, (s : Int) < rfI σ p k → gAft (gs σ p n d (tot σ p k + j)).2.1 s = rch σ p k s := fun s hs => by
    rw [gAft_fr h2 hs, hj, ← fr_rch]
  have hop : gNx σ p k (tot σ p k + j + 1) (gs σ p n d (tot σ p k + j)).2.1 = opw σ p (k + 1) := by
    funext s
    unfold gNx
    rw [hDc]
    show _ = (if dcB σ p k s then 0 else rch σ p k s)
    by_cases q : dcB σ p k s = true
    · rw [if_pos q, if_pos q]
    · rw [if_neg q, if_neg q]
      refine hA s ?_
      rcases Int.lt_or_le (s : Int) (rfI σ p k) with z | z
      · exact z
      · exact absurd (show dcB σ p k s = true by unfold dcB rfB; rw [decide_eq_true (p := k < stN σ p ∧ rfI σ p k ≤ (s : Int)) ⟨hks, z⟩, Bool.or_true]) q
  have tk_lt : ∀ s, tkB σ p k s = true → (s : Int) < rfI σ p k := fun s hs => by
    have := (of_decide_eq_true hs).2; omega
  have eT : rsum (fT σ p k (tot σ p k + j + 1) n d (gs σ p n d (tot σ p k + j)).2.1) 62 = tW σ p n d k := rsum_cong (fun s _ => by
    unfold fT gM
    rw [hT s, ht]
    by_cases q : tkB σ p k s = true
    · rw [if_pos q, if_pos q, hA s (tk_lt s q)]
    · rw [if_neg q, if_neg q])
  have eO : rsum (fO σ p k (tot σ p k + j + 1) n d (gs σ p n d (tot σ p k + j)).2.1) 62 = oW σ p n d k := rsum_cong (fun s _ => by
    unfold fO gM
    rw [hT s, ht]
    by_cases q : tkB σ p k s = true
    · rw [if_pos q, if_pos q, hA s (tk_lt s q)]
    · rw [if_neg q, if_neg q])
  have hr := rem_eq σ p k (tot σ p k + j + 1) n d (gs σ p n d (tot σ p k + j)).2.1
  rw [hop, phi_pas (by omega) (h3 61 (by omega))] at hr
  rw [← ht] at hr
  have eR : R + rsum (fun s => if gDc σ p k (tot σ p (k + 1)) s then gM n d (tot σ p (k + 1)) (gs σ p n d (tot σ p k + j)).2.1 s else 0) 62 = dW σ p n d k := by omega
  have eA : A + R * tot σ p (k + 1) + rsum (fA σ p k (tot σ p k + j + 1) n d (gs σ p n d (tot σ p k + j)).2.1) 62 = A + dW σ p n d k * tot σ p (k + 1) := by
    rw [fA_eq, Nat.add_assoc, ← Nat.add_mul, ← ht, eR]
  have key : gs σ p n d (tot σ p k + j + 1) = (k + 1, opw σ p (k + 1), T + tW σ p n d k, A + dW σ p n d k * tot σ p (k + 1), O + oW σ p n d k) := by
    show (_, _, _, _, _) = _
    rw [h1, h4, h5, h6, hop, eT, eO, eA, if_pos ht.symm]
  rw [ht]
  rw [ht] at key
  exact key
theorem gs_stage {σ : gS} {p n d k T A O : Nat} (hks : k < stN σ p) (hs1 : 1 ≤ szN σ p k) (har : acI σ p k < rfI σ p k) (hk : tot σ p k + szN σ p k ≤ 60) (hn : tot σ p k + szN σ p k ≤ n) (h : gs σ p n d (tot σ p k) = (k, opw σ p k, T, A, O)) : gs σ p n d (tot σ p (k + 1)) = (k + 1, opw σ p (k + 1), T + tW σ p n d k, A + dW σ p n d k * tot σ p (k + 1), O + oW σ p n d k) := by
  have hI : ∀ j, j < szN σ p k → gI σ p n d k j T A O (gs σ p n d (tot σ p k + j)) := fun j => by
    induction j with
    | zero => intro _; rw [Nat.add_zero, h]; exact gI_0 rfl rfl rfl rfl rfl
    | succ j ih => intro hj; exact gI_s hk hn hj (ih (by omega))
  exact gI_e (j := szN σ p k - 1) hks har hk hn (by omega) (hI _ (by omega))
theorem gs_all {σ : gS} {p n d : Nat} (hP : WfP1 σ p) (hn : tot σ p (stN σ p) ≤ n) : ∀ k, k ≤ stN σ p → gs σ p n d (tot σ p k) = (k, opw σ p k, rsum (tW σ p n d) k, rsum (fun k => dW σ p n d k * tot σ p (k + 1)) k, rsum (oW σ p n d) k)
  | 0, _ => rfl
  | k + 1, hk => by
    have h1 := hP.2.2.1 k hk
    have h2 := tot_mono σ p hk
    have h3 := hP.2.2.2.1
    have ht : tot σ p (k + 1) = tot σ p k + szN σ p k := rfl
    exact gs_stage hk h1.2.1 h1.2.2.2.2.1 (by omega) (by omega) (gs_all hP hn k (by omega))
theorem soK_62 {σ : gS} {p n d w k : Nat} (hk : tot σ p (k + 1) ≤ 60) : soK σ p n d w k = rsum (soT σ p n d w k) 62 := by
  unfold soK
  refine (rsum_tail (by omega) (fun s h1 h2 => ?_)).symm
  unfold soT
  by_cases q : tot σ p (k + 1) < s
  · rw [fr_rch, fr_big q, Nat.mul_zero, Nat.zero_mul]
  · rw [chZ_neg (by omega), Nat.mul_zero]
theorem soK_0 {σ : gS} {p n d k : Nat} (hk : tot σ p (k + 1) ≤ 60) : soK σ p n d 0 k = tW σ p n d k := by
  rw [soK_62 hk]
  refine rsum_cong (fun s _ => ?_)
  unfold soT wgt
  rw [if_pos rfl]
  by_cases q : tkB σ p k s = true
  · rw [if_pos q, if_pos q, Nat.one_mul]
  · rw [if_neg q, if_neg q, Nat.zero_mul, Nat.zero_mul]
theorem soK_1 {σ : gS} {p n d k : Nat} (hk : tot σ p (k + 1) ≤ 60) : soK σ p n d 1 k = dW σ p n d k * tot σ p (k + 1) := by
  rw [soK_62 hk]
  unfold dW
  rw [← rsum_mulr]
  refine rsum_cong (fun s _ => ?_)
  unfold soT wgt
  rw [if_neg (by decide), if_pos rfl]
  by_cases q : dcB σ p k s = true
  · rw [if_pos q, if_pos q, Nat.mul_assoc, Nat.mul_comm]
  · rw [if_neg q, if_neg q, Nat.zero_mul, Nat.zero_mul, Nat.zero_mul]
theorem soK_2 {σ : gS} {p n d k : Nat} (hk : tot σ p (k + 1) ≤ 60) : soK σ p n d 2 k = oW σ p n d k := by
  rw [soK_62 hk]
  refine rsum_cong (fun s _ => ?_)
  unfold soT wgt
  rw [if_neg (by decide), if_neg (by decide)]
  by_cases q : tkB σ p k s = true
  · rw [if_pos q, if_pos q, Nat.mul_assoc, Nat.mul_comm]
  · rw [if_neg q, if_neg q, Nat.zero_mul, Nat.zero_mul]
theorem so_eq {σ : gS} {p n d w : Nat} (hP : WfP1 σ p) (hn : tot σ p (stN σ p) ≤ n) (hw : w ≤ 2) : soo σ p n d w = paN σ p n d w := by
  have h := gs_all (d := d) hP hn (stN σ p) (Nat.le_refl _)
  have hb : ∀ k, k < stN σ p → tot σ p (k + 1) ≤ 60 := fun k hk => tot_le hP hk
  unfold paN TK AV OU soo
  rw [h]
  rcases (show w = 0 ∨ w = 1 ∨ w = 2 by omega) with rfl | rfl | rfl
  · exact rsum_cong (fun k hk => soK_0 (hb k hk))
  · exact rsum_cong (fun k hk => soK_1 (hb k hk))
  · exact rsum_cong (fun k hk => soK_2 (hb k hk))
theorem dW_sum {σ : gS} {p n d : Nat} (hP : WfP1 σ p) (hn : tot σ p (stN σ p) ≤ n) : ∀ k, k ≤ stN σ p → rsum (dW σ p n d) k + phi n d (opw σ p k) (tot σ p k) = ch n d
  | 0, _ => by
    show 0 + phi n d (opw σ p 0) 0 = ch n d
    unfold phi
    rw [rsum_front, Nat.zero_add, rsum_0 (fun s _ => by
      show (if s + 1 = 0 then 1 else 0) * _ = 0
      rw [if_neg (Nat.succ_ne_zero s), Nat.zero_mul])]
    show (if (0 : Nat) = 0 then 1 else 0) * chZ n ((d : Int) - ((0 : Nat) : Int)) + 0 = ch n d
    rw [if_pos rfl, show (d : Int) - ((0 : Nat) : Int) = (d : Int) by omega, chZ_nat]; omega
  | k + 1, hk => by
    have h2 := tot_mono σ p hk
    have h3 := hP.2.2.2.1
    have ht : tot σ p (k + 1) = tot σ p k + szN σ p k := rfl
    have h := dW_eq (σ := σ) (p := p) (k := k) (n := n) (d := d) (by omega) (by omega)
    have ih := dW_sum (d := d) hP hn k (by omega)
    show rsum (dW σ p n d) k + dW σ p n d k + _ = _
    omega
theorem tk_dc {σ : gS} {p k s : Nat} (h : tkB σ p k s = true) : dcB σ p k s = true := by unfold dcB; rw [h]; rfl
theorem tW_le (σ : gS) (p n d k : Nat) : tW σ p n d k ≤ dW σ p n d k := rsum_le (fun s _ => by
  by_cases q : tkB σ p k s = true
  · rw [if_pos q, if_pos (tk_dc q)]; exact Nat.le_refl _
  · rw [if_neg q]; exact Nat.zero_le _)
theorem oW_le (σ : gS) (p n d k : Nat) : oW σ p n d k ≤ dW σ p n d k * d := by
  unfold oW dW
  rw [← rsum_mulr]
  exact rsum_le (fun s _ => by
    by_cases q : tkB σ p k s = true
    · rw [if_pos q, if_pos (tk_dc q)]; exact Nat.mul_le_mul_left _ (Nat.sub_le d s)
    · rw [if_neg q]; exact Nat.zero_le _)
theorem so_bd {σ : gS} {p n d w : Nat} (hP : WfP1 σ p) (hn : tot σ p (stN σ p) ≤ n) (hdn : d ≤ n) (hw : w ≤ 2) : paN σ p n d w ≤ (if w = 2 then n else 60) * ch n d ∧ (w = 0 → paN σ p n d w ≤ ch n d) := by
  have h := gs_all (d := d) hP hn (stN σ p) (Nat.le_refl _)
  have hb : ∀ k, k < stN σ p → tot σ p (k + 1) ≤ 60 := fun k hk => tot_le hP hk
  have hs : rsum (dW σ p n d) (stN σ p) ≤ ch n d := by have := dW_sum (d := d) hP hn (stN σ p) (Nat.le_refl _); omega
  have hT : rsum (tW σ p n d) (stN σ p) ≤ ch n d := Nat.le_trans (rsum_le (fun k _ => tW_le σ p n d k)) hs
  unfold paN TK AV OU
  rw [h]
  rcases (show w = 0 ∨ w = 1 ∨ w = 2 by omega) with rfl | rfl | rfl
  · exact ⟨by show rsum (tW σ p n d) (stN σ p) ≤ 60 * ch n d; omega, fun _ => hT⟩
  · refine ⟨?_, fun z => absurd z (by decide)⟩
    show rsum (fun k => dW σ p n d k * tot σ p (k + 1)) (stN σ p) ≤ 60 * ch n d
    refine Nat.le_trans (rsum_le (g := fun k => 60 * dW σ p n d k) (fun k hk => ?_)) ?_
    · rw [Nat.mul_comm]; exact Nat.mul_le_mul_right _ (hb k hk)
    · rw [rsum_mul]; exact Nat.mul_le_mul_left _ hs
  · refine ⟨?_, fun z => absurd z (by decide)⟩
    show rsum (oW σ p n d) (stN σ p) ≤ n * ch n d
    refine Nat.le_trans (rsum_le (g := fun k => n * dW σ p n d k) (fun k hk => ?_)) ?_
    · refine Nat.le_trans (oW_le σ p n d k) ?_
      rw [Nat.mul_comm]; exact Nat.mul_le_mul_right _ hdn
    · rw [rsum_mul]; exact Nat.mul_le_mul_left _ hs
theorem SO_of {σ : gS} (hP : WfP σ) : SO σ := fun p n d w hp _ h60 hn hd hw => by
  refine ⟨so_eq (hP.2.2 p hp) hn hw, ?_⟩
  have h1 := (so_bd (hP.2.2 p hp) hn hd hw).1
  have h2 := ch_lt (n := n) (k := d) h60
  refine Nat.lt_of_le_of_lt h1 ?_
  by_cases q : w = 2
  · rw [if_pos q]
    exact Nat.lt_of_le_of_lt (Nat.mul_le_mul_right _ h60) h2
  · rw [if_neg q]; exact h2
/-- the part at hand behind part() -/
theorem paN_60 {σ : gS} {p n d w : Nat} (hP : WfP1 σ p) (hn : tot σ p (stN σ p) ≤ n) (hd : d ≤ n) (hw : w ≤ 2) : paN σ p n d w ≤ 60 * pbN n d w := by
  have h1 := (so_bd hP hn hd hw).1
  unfold pbN
  by_cases q : w = 2
  · rw [if_pos q] at h1 ⊢; omega
  · rw [if_neg q] at h1 ⊢; exact h1
