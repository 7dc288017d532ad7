/-! the book grows by a plan, a supplier, a lot -/
theorem Hp.grow {G : gG} {B B' : gB} {σ σ' : gS} {H H' : Heap} {q : Nat} (h : Hp G B σ H) (hB : ∀ k i, i < B.2 k → B'.1 k i = B.1 k i) (hold : ∀ k i, i < B.2 k → va_at G.1 clsz (B.1 k i, lay G B' k i (σ'.1 k i) (σ'.2 k i)) H')
    (hnew : ∀ k i, i < B'.2 k → ¬ i < B.2 k → q ≤ B'.1 k i ∧ va_at G.1 clsz (B'.1 k i, lay G B' k i (σ'.1 k i) (σ'.2 k i)) H') (hq : ∀ k i, i < B.2 k → B.1 k i < q) (hGq : G.2.2 ≤ q)
    (hinj : ∀ k i k' i', i < B'.2 k → ¬ i < B.2 k → i' < B'.2 k' → ¬ i' < B.2 k' → B'.1 k i = B'.1 k' i' → k = k' ∧ i = i') : Hp G B' σ' H' := by
  refine ⟨fun k i hi => ?_, fun k i k' i' hi hi' e => ?_⟩
  · by_cases z : i < B.2 k
    · rw [hB k i z]; exact ⟨(h.1 k i z).1, hold k i z⟩
    · have := hnew k i hi z
      exact ⟨by omega, this.2⟩
  · by_cases z : i < B.2 k
    · by_cases z' : i' < B.2 k'
      · rw [hB k i z, hB k' i' z'] at e; exact h.2 k i k' i' z z' e
      · have h1 := hq k i z
        have h2 := (hnew k' i' hi' z').1
        rw [hB k i z] at e; omega
    · by_cases z' : i' < B.2 k'
      · have h1 := hq k' i' z'
        have h2 := (hnew k i hi z).1
        rw [hB k' i' z'] at e; omega
      · exact hinj k i k' i' hi z hi' z' e
def in1 (lo hi n k i : Nat) : Bool := Nat.ble lo k && Nat.ble k hi && Nat.beq i n
theorem in1_t {lo hi n k i : Nat} (h : in1 lo hi n k i = true) : lo ≤ k ∧ k ≤ hi ∧ i = n := by
  unfold in1 at h
  rw [Bool.and_eq_true, Bool.and_eq_true] at h
  exact ⟨Nat.le_of_ble_eq_true h.1.1, Nat.le_of_ble_eq_true h.1.2, Nat.eq_of_beq_eq_true h.2⟩
theorem in1_y {lo hi n k : Nat} (h1 : lo ≤ k) (h2 : k ≤ hi) : in1 lo hi n k n = true := by
  unfold in1
  rw [Nat.ble_eq_true_of_le h1, Nat.ble_eq_true_of_le h2, Nat.beq_refl]; rfl
theorem in1_f {lo hi n k i : Nat} (h : ¬ (lo ≤ k ∧ k ≤ hi ∧ i = n)) : in1 lo hi n k i = false := by
  cases e : in1 lo hi n k i with
  | false => rfl
  | true => exact absurd (in1_t e) h
def in5 (n k i : Nat) : Bool := Nat.beq k 56 && Nat.ble (4 * n) i
theorem in5_t {n k i : Nat} (h : in5 n k i = true) : k = 56 ∧ 4 * n ≤ i := by
  unfold in5 at h
  rw [Bool.and_eq_true] at h
  exact ⟨Nat.eq_of_beq_eq_true h.1, Nat.le_of_ble_eq_true h.2⟩
theorem in5_f {n k i : Nat} (h : ¬ (k = 56 ∧ 4 * n ≤ i)) : in5 n k i = false := by
  cases e : in5 n k i with
  | false => rfl
  | true => exact absurd (in5_t e) h
theorem in5_y (n j : Nat) : in5 n 56 (4 * n + j) = true := by
  unfold in5
  rw [Nat.ble_eq_true_of_le (Nat.le_add_right _ _)]; rfl
/-- a plan more -/
def gP (B : gB) (n q : Nat) : gB := (fun k i => bif in1 50 55 n k i then q + (k - 50) else bif in5 n k i then q + 6 + (i - 4 * n) else B.1 k i, fun k => bif Nat.ble 50 k && Nat.ble k 55 then B.2 k + 1 else bif Nat.beq k 56 then B.2 56 + 4 else B.2 k)
def sP (σ : gS) (n : Nat) : gS := (fun k i j => bif in1 50 55 n k i then 0 else σ.1 k i j, fun k i j => bif in5 n k i then 0 else σ.2 k i j)
def aP (q : Nat) : Nat → Nat → Nat := fun k i => bif Nat.beq k 56 then q + 6 + i else q + (k - 50)
theorem k5 {B : gB} {n : Nat} (hC : BkC B) (hn : B.2 50 = n) {k : Nat} (h1 : 50 ≤ k) (h2 : k ≤ 55) : B.2 k = n := by
  rcases (show k = 50 ∨ k = 51 ∨ k = 52 ∨ k = 53 ∨ k = 54 ∨ k = 55 by omega) with rfl | rfl | rfl | rfl | rfl | rfl
  · exact hn
  all_goals exact (hC.2.2.2.1 _ (by decide)).trans hn
theorem gP_old {B : gB} {n q k i : Nat} (hC : BkC B) (hn : B.2 50 = n) (hi : i < B.2 k) : (gP B n q).1 k i = B.1 k i := by
  show (bif in1 50 55 n k i then q + (k - 50) else bif in5 n k i then q + 6 + (i - 4 * n) else B.1 k i) = _
  rw [in1_f (fun z => by have := k5 hC hn z.1 z.2.1; omega), in5_f (fun z => by have h56 := hC.2.2.2.2.1; rw [z.1] at hi; omega)]; rfl
theorem gP_new {B : gB} {n q k : Nat} (h1 : 50 ≤ k) (h2 : k ≤ 55) : (gP B n q).1 k n = q + (k - 50) := by
  show (bif in1 50 55 n k n then _ else _) = _
  rw [in1_y h1 h2]; rfl
theorem gP_56 {B : gB} {n q j : Nat} : (gP B n q).1 56 (4 * n + j) = q + 6 + j := by
  show (bif in1 50 55 n 56 (4 * n + j) then q + (56 - 50) else bif in5 n 56 (4 * n + j) then q + 6 + (4 * n + j - 4 * n) else B.1 56 (4 * n + j)) = _
  rw [in1_f (by omega), in5_y, Nat.add_sub_cancel_left]; rfl
theorem sP_old {B : gB} {σ : gS} {n k i : Nat} (hC : BkC B) (hn : B.2 50 = n) (hi : i < B.2 k) : (sP σ n).1 k i = σ.1 k i ∧ (sP σ n).2 k i = σ.2 k i := by
  refine ⟨?_, ?_⟩
  · funext j
    show (bif in1 50 55 n k i then 0 else σ.1 k i j) = _
    rw [in1_f (fun z => by have := k5 hC hn z.1 z.2.1; omega)]; rfl
  · funext j
    show (bif in5 n k i then 0 else σ.2 k i j) = _
    rw [in5_f (fun z => by have h56 := hC.2.2.2.2.1; rw [z.1] at hi; omega)]; rfl
theorem sP_new {σ : gS} {n k : Nat} (h1 : 50 ≤ k) (h2 : k ≤ 55) : (sP σ n).1 k n = fun _ => 0 := by
  funext j
  show (bif in1 50 55 n k n then 0 else σ.1 k n j) = _
  rw [in1_y h1 h2]; rfl
theorem sP_56 {σ : gS} {n j : Nat} : (sP σ n).2 56 (4 * n + j) = fun _ => 0 := by
  funext x
  show (bif in5 n 56 (4 * n + j) then 0 else σ.2 56 (4 * n + j) x) = _
  rw [in5_y]; rfl
theorem gP_c {B : gB} {n q k i : Nat} (hC : BkC B) (hn : B.2 50 = n) (hi : i < (gP B n q).2 k) (hni : ¬ i < B.2 k) : (50 ≤ k ∧ k ≤ 55 ∧ i = n) ∨ (k = 56 ∧ ∃ j, j < 4 ∧ i = 4 * n + j) := by
  have hi : i < (bif Nat.ble 50 k && Nat.ble k 55 then B.2 k + 1 else bif Nat.beq k 56 then B.2 56 + 4 else B.2 k) := hi
  cases e : (Nat.ble 50 k && Nat.ble k 55) with
  | true =>
    rw [e] at hi
    have hi : i < B.2 k + 1 := hi
    rw [Bool.and_eq_true] at e
    have e1 := Nat.le_of_ble_eq_true e.1
    have e2 := Nat.le_of_ble_eq_true e.2
    have := k5 hC hn e1 e2
    exact Or.inl ⟨e1, e2, by omega⟩
  | false =>
    rw [e] at hi
    cases e2 : Nat.beq k 56 with
    | true =>
      rw [e2] at hi
      have hi : i < B.2 56 + 4 := hi
      have hk := Nat.eq_of_beq_eq_true e2
      have h56 := hC.2.2.2.2.1
      rw [hk] at hni
      exact Or.inr ⟨hk, i - 4 * n, by omega, by omega⟩
    | false => rw [e2] at hi; exact absurd hi hni
theorem vP_old {G : gG} {B : gB} {n q i a : Nat} {f : Nat → Int32} {g : Nat → Int64} {H : Heap} (hC : BkC B) (hn : B.2 50 = n) : ∀ k, i < B.2 k → k ≠ 45 → (k = 60 → (f 3).toNatClampNeg < n) → va_at G.1 clsz (a, lay G B k i f g) H → va_at G.1 clsz (a, lay G (gP B n q) k i f g) H
  | 0, _, _, _, h => h
  | 1, _, _, _, h => h
  | 2, _, _, _, h => h
  | 3, _, _, _, h => h
  | 4, _, _, _, h => h
  | 5, _, _, _, h => h
  | 6, _, _, _, h => h
  | 7, _, _, _, h => h
  | 8, _, _, _, h => h
  | 9, _, _, _, h => h
  | 10, _, _, _, h => h
  | 11, _, _, _, h => h
  | 12, _, _, _, h => h
  | 13, _, _, _, h => h
  | 14, _, _, _, h => h
  | 15, _, _, _, h => h
  | 16, _, _, _, h => h
  | 17, _, _, _, h => h
  | 18, _, _, _, h => h
  | 19, _, _, _, h => h
  | 20, _, _, _, h => h
  | 21, _, _, _, h => h
  | 22, _, _, _, h => h
  | 23, _, _, _, h => h
  | 24, _, _, _, h => h
  | 25, _, _, _, h => h
  | 26, _, _, _, h => h
  | 27, _, _, _, h => h
  | 28, _, _, _, h => h
  | 29, _, _, _, h => h
  | 30, _, _, _, h => h
  | 31, _, _, _, h => h
  | 32, _, _, _, h => h
  | 33, _, _, _, h => h
  | 34, _, _, _, h => h
  | 35, _, _, _, h => h
  | 36, _, _, _, h => h
  | 37, _, _, _, h => h
  | 38, _, _, _, h => h
  | 39, _, _, _, h => h
  | 40, _, _, _, h => h
  | 41, _, _, _, h => h
  | 42, _, _, _, h => h
  | 43, _, _, _, h => h
  | 44, _, _, _, h => h
  | 45, _, h, _, _ => absurd rfl h
  | 46, _, _, _, h => h
  | 47, _, _, _, h => h
  | 48, _, _, _, h => h
  | 49, _, _, _, h => h
  | 50, hi, _, _, h => by
    have e : ∀ k, 51 ≤ k → k ≤ 55 → (gP B n q).1 k i = B.1 k i := fun k h1 h2 => gP_old hC hn (by rw [k5 hC hn (by omega) h2]; omega)
    show va_at G.1 clsz (a, .inr (2, [.ref ((gP B n q).1 51 i), .ref ((gP B n q).1 52 i), .ref ((gP B n q).1 53 i), .ref ((gP B n q).1 54 i), .ref ((gP B n q).1 55 i), .int (f 5), .int (f 6)])) H
    rw [e 51 (by decide) (by decide), e 52 (by decide) (by decide), e 53 (by decide) (by decide), e 54 (by decide) (by decide), e 55 (by decide) (by decide)]
    exact h
  | 51, _, _, _, h => h
  | 52, _, _, _, h => h
  | 53, _, _, _, h => h
  | 54, _, _, _, h => h
  | 55, hi, _, _, h => by
    have h55 := k5 hC hn (k := 55) (by decide) (by decide)
    have h56 := hC.2.2.2.2.1
    have h : H[a]? = some (vp_cell (G.2.1 6) (4, .inr (.inr (.inr (.inr (fun j => some (B.1 56 (4 * i + j)))))))) := h
    show H[a]? = some (vp_cell (G.2.1 6) (4, .inr (.inr (.inr (.inr (fun j => some ((gP B n q).1 56 (4 * i + j))))))))
    rw [h, vp_cell_q, vp_cell_q]
    exact congrArg some (arrV_cg (fun j hj => by rw [gP_old hC hn (by omega)]))
  | 56, _, _, _, h => h
  | 57, _, _, _, h => h
  | 58, _, _, _, h => h
  | 59, _, _, _, h => h
  | 60, hi, _, h60, h => by
    show va_at G.1 clsz (a, .inr (0, [.int (f 0), .int (f 1), .ref ((gP B n q).1 50 (f 3).toNatClampNeg), .int (f 3), .int (f 4), .ref (B.1 61 i), .ref (B.1 62 i), .int (f 7), .int (f 8), .int (f 9)])) H
    rw [gP_old hC hn (by rw [hn]; exact h60 rfl)]
    exact h
  | 61, _, _, _, h => h
  | 62, _, _, _, h => h
  | _ + 63, _, _, _, h => h
def cP : Nat → Nat := upc (upc (upc (upc (upc (upc (upc c00 51 1) 52 1) 53 1) 54 1) 55 1) 56 4) 50 1
theorem grow_plan {G : gG} {B : gB} {σ : gS} {H2 H3 : Heap} {n q : Nat} (hC : BkC B) (hn : B.2 50 = n) (h : Hp G B σ H2) (hq : ∀ k i, i < B.2 k → B.1 k i < q) (hGq : G.2.2 ≤ q) (hW : Hp (G.1, G.2.1, q) (aP q, cP) z00 H2) (h60 : ∀ i, i < B.2 60 → (σ.1 60 i 3).toNatClampNeg < n) (h24 : n < 24)
    (h45 : H3[B.1 45 0]? = some (vp_cell (G.2.1 3) (24, .inr (.inr (.inr (.inr (va_up (rfs B 50) n (some q)))))))) (hk : ∀ r, r ≠ B.1 45 0 → H3[r]? = H2[r]?) : Hp G (gP B n q) (sP σ n) H3 := by
  have b45 := bc hC 45
  refine h.grow (q := q) (fun k i hi => gP_old hC hn hi) (fun k i hi => ?_) (fun k i hi hni => ?_) hq hGq (fun k i k' i' hi hni hi' hni' e => ?_)
  · rw [(sP_old hC hn hi).1, (sP_old hC hn hi).2]
    by_cases e : k = 45
    · subst e
      have hi0 : i = 0 := by have := hC.1 45 (by decide); omega
      subst hi0
      show H3[B.1 45 0]? = some (vp_cell (G.2.1 3) (24, .inr (.inr (.inr (.inr (rfs (gP B n q) 50))))))
      rw [h45, vp_cell_q, vp_cell_q]
      refine congrArg some (arrV_cg (fun j hj => ?_))
      congr 1
      show _ = (if j < (gP B n q).2 50 then some ((gP B n q).1 50 j) else none)
      have e2 : (gP B n q).2 50 = n + 1 := by rw [← hn]; rfl
      rw [e2]
      by_cases z : j = n
      · subst z
        rw [va_up_self, if_pos (by omega), gP_new (by decide) (by decide)]; rfl
      · rw [va_up_ne _ _ z]
        unfold rfs
        rw [hn]
        by_cases z2 : j < n
        · rw [if_pos z2, if_pos (by omega), gP_old hC hn (by omega)]
        · rw [if_neg z2, if_neg (by omega)]
    · have h1 := vP_old (G := G) (f := σ.1 k i) (g := σ.2 k i) (H := H2) (a := B.1 k i) (q := q) hC hn k hi e (fun z => by subst z; exact h60 i hi) (h.1 k i hi).2
      exact h1.kept (hk _ (fun z => e (h.2 k i 45 0 hi b45 z).1))
  · have hne : ∀ r, q ≤ r → H3[r]? = H2[r]? := fun r hr => hk r (fun z => by have := hq 45 0 b45; omega)
    rcases gP_c hC hn hi hni with ⟨h1, h2, rfl⟩ | ⟨rfl, j, hj, rfl⟩
    · rw [gP_new h1 h2]
      refine ⟨by omega, va_at.kept ?_ (hne _ (by show q ≤ q + (k - 50); omega))⟩
      rcases (show k = 50 ∨ k = 51 ∨ k = 52 ∨ k = 53 ∨ k = 54 ∨ k = 55 by omega) with rfl | rfl | rfl | rfl | rfl | rfl
      · show va_at G.1 clsz (q + (50 - 50), .inr (2, [.ref ((gP B i q).1 51 i), .ref ((gP B i q).1 52 i), .ref ((gP B i q).1 53 i), .ref ((gP B i q).1 54 i), .ref ((gP B i q).1 55 i), .int ((sP σ i).1 50 i 5), .int ((sP σ i).1 50 i 6)])) H2
        rw [gP_new (k := 51) (by decide) (by decide), gP_new (k := 52) (by decide) (by decide), gP_new (k := 53) (by decide) (by decide), gP_new (k := 54) (by decide) (by decide), gP_new (k := 55) (by decide) (by decide), sP_new (k := 50) (by decide) (by decide)]
        exact (hW.1 50 0 (Nat.le_of_ble_eq_true rfl)).2
      · rw [sP_new (by decide) (by decide)]; exact (hW.1 51 0 (Nat.le_of_ble_eq_true rfl)).2
      · rw [sP_new (by decide) (by decide)]; exact (hW.1 52 0 (Nat.le_of_ble_eq_true rfl)).2
      · rw [sP_new (by decide) (by decide)]; exact (hW.1 53 0 (Nat.le_of_ble_eq_true rfl)).2
      · rw [sP_new (by decide) (by decide)]; exact (hW.1 54 0 (Nat.le_of_ble_eq_true rfl)).2
      · have h5 : H2[q + 5]? = some (vp_cell (G.2.1 6) (4, .inr (.inr (.inr (.inr (fun j => some (aP q 56 (4 * 0 + j)))))))) := (hW.1 55 0 (Nat.le_of_ble_eq_true rfl)).2
        show H2[q + 5]? = some (vp_cell (G.2.1 6) (4, .inr (.inr (.inr (.inr (fun j => some ((gP B i q).1 56 (4 * i + j))))))))
        rw [h5, vp_cell_q, vp_cell_q]
        refine congrArg some (arrV_cg (fun j hj => ?_))
        rw [gP_56]
        show va_rf (some (q + 6 + (4 * 0 + j))) = _
        rw [show 4 * 0 + j = j by omega]
    · rw [gP_56, sP_56]
      refine ⟨by omega, va_at.kept ?_ (hne _ (by show q ≤ q + 6 + j; omega))⟩
      exact (hW.1 56 j (by show j < 4; exact hj)).2
  · rcases gP_c hC hn hi hni with ⟨h1, h2, rfl⟩ | ⟨rfl, j, hj, rfl⟩
    · rcases gP_c hC hn hi' hni' with ⟨h1', h2', rfl⟩ | ⟨rfl, j', hj', rfl⟩
      · rw [gP_new h1 h2, gP_new h1' h2'] at e; exact ⟨by omega, rfl⟩
      · rw [gP_new h1 h2, gP_56] at e; omega
    · rcases gP_c hC hn hi' hni' with ⟨h1', h2', rfl⟩ | ⟨rfl, j', hj', rfl⟩
      · rw [gP_56, gP_new h1' h2'] at e; omega
      · rw [gP_56, gP_56] at e; exact ⟨rfl, by omega⟩
/-- a supplier more -/
def gU (B : gB) (n q : Nat) : gB := (fun k i => bif in1 57 59 n k i then q + (k - 57) else B.1 k i, fun k => bif Nat.ble 57 k && Nat.ble k 59 then B.2 k + 1 else B.2 k)
def sU (σ u : gS) (n : Nat) : gS := (fun k i j => bif in1 57 59 n k i then u.1 k 0 j else σ.1 k i j, σ.2)
def cU : Nat → Nat := upc (upc (upc c00 58 1) 59 1) 57 1
theorem kU {B : gB} {n : Nat} (hC : BkC B) (hn : B.2 57 = n) {k : Nat} (h1 : 57 ≤ k) (h2 : k ≤ 59) : B.2 k = n := by
  rcases (show k = 57 ∨ k = 58 ∨ k = 59 by omega) with rfl | rfl | rfl
  · exact hn
  all_goals exact (hC.2.2.2.2.2.1 _ (by decide)).trans hn
theorem gU_old {B : gB} {n q k i : Nat} (hC : BkC B) (hn : B.2 57 = n) (hi : i < B.2 k) : (gU B n q).1 k i = B.1 k i := by
  show (bif in1 57 59 n k i then q + (k - 57) else B.1 k i) = _
  rw [in1_f (fun z => by have := kU hC hn z.1 z.2.1; omega)]; rfl
theorem gU_new {B : gB} {n q k : Nat} (h1 : 57 ≤ k) (h2 : k ≤ 59) : (gU B n q).1 k n = q + (k - 57) := by
  show (bif in1 57 59 n k n then _ else _) = _
  rw [in1_y h1 h2]; rfl
theorem sU_old {B : gB} {σ u : gS} {n k i : Nat} (hC : BkC B) (hn : B.2 57 = n) (hi : i < B.2 k) : (sU σ u n).1 k i = σ.1 k i := by
  funext j
  show (bif in1 57 59 n k i then u.1 k 0 j else σ.1 k i j) = _
  rw [in1_f (fun z => by have := kU hC hn z.1 z.2.1; omega)]; rfl
theorem sU_new {σ u : gS} {n k : Nat} (h1 : 57 ≤ k) (h2 : k ≤ 59) : (sU σ u n).1 k n = u.1 k 0 := by
  funext j
  show (bif in1 57 59 n k n then u.1 k 0 j else σ.1 k n j) = _
  rw [in1_y h1 h2]; rfl
theorem gU_c {B : gB} {n q k i : Nat} (hC : BkC B) (hn : B.2 57 = n) (hi : i < (gU B n q).2 k) (hni : ¬ i < B.2 k) : 57 ≤ k ∧ k ≤ 59 ∧ i = n := by
  have hi : i < (bif Nat.ble 57 k && Nat.ble k 59 then B.2 k + 1 else B.2 k) := hi
  cases e : (Nat.ble 57 k && Nat.ble k 59) with
  | true =>
    rw [e] at hi
    have hi : i < B.2 k + 1 := hi
    rw [Bool.and_eq_true] at e
    have e1 := Nat.le_of_ble_eq_true e.1
    have e2 := Nat.le_of_ble_eq_true e.2
    have := kU hC hn e1 e2
    exact ⟨e1, e2, by omega⟩
  | false => rw [e] at hi; exact absurd hi hni
theorem vU_old {G : gG} {B : gB} {n q i a : Nat} {f : Nat → Int32} {g : Nat → Int64} {H : Heap} (hC : BkC B) (hn : B.2 57 = n) : ∀ k, i < B.2 k → k ≠ 46 → va_at G.1 clsz (a, lay G B k i f g) H → va_at G.1 clsz (a, lay G (gU B n q) k i f g) H
  | 0, _, _, h => h
  | 1, _, _, h => h
  | 2, _, _, h => h
  | 3, _, _, h => h
  | 4, _, _, h => h
  | 5, _, _, h => h
  | 6, _, _, h => h
  | 7, _, _, h => h
  | 8, _, _, h => h
  | 9, _, _, h => h
  | 10, _, _, h => h
  | 11, _, _, h => h
  | 12, _, _, h => h
  | 13, _, _, h => h
  | 14, _, _, h => h
  | 15, _, _, h => h
  | 16, _, _, h => h
  | 17, _, _, h => h
  | 18, _, _, h => h
  | 19, _, _, h => h
  | 20, _, _, h => h
  | 21, _, _, h => h
  | 22, _, _, h => h
  | 23, _, _, h => h
  | 24, _, _, h => h
  | 25, _, _, h => h
  | 26, _, _, h => h
  | 27, _, _, h => h
  | 28, _, _, h => h
  | 29, _, _, h => h
  | 30, _, _, h => h
  | 31, _, _, h => h
  | 32, _, _, h => h
  | 33, _, _, h => h
  | 34, _, _, h => h
  | 35, _, _, h => h
  | 36, _, _, h => h
  | 37, _, _, h => h
  | 38, _, _, h => h
  | 39, _, _, h => h
  | 40, _, _, h => h
  | 41, _, _, h => h
  | 42, _, _, h => h
  | 43, _, _, h => h
  | 44, _, _, h => h
  | 45, _, _, h => h
  | 46, _, h, _ => absurd rfl h
  | 47, _, _, h => h
  | 48, _, _, h => h
  | 49, _, _, h => h
  | 50, _, _, h => h
  | 51, _, _, h => h
  | 52, _, _, h => h
  | 53, _, _, h => h
  | 54, _, _, h => h
  | 55, _, _, h => h
  | 56, _, _, h => h
  | 57, hi, _, h => by
    have e : ∀ k, 57 ≤ k → k ≤ 59 → (gU B n q).1 k i = B.1 k i := fun k h1 h2 => gU_old hC hn (by rw [kU hC hn (by omega) h2]; omega)
    show va_at G.1 clsz (a, .inr (4, [.ref ((gU B n q).1 58 i), .ref ((gU B n q).1 59 i), .int (f 2), .int (f 3), .int (f 4)])) H
    rw [e 58 (by decide) (by decide), e 59 (by decide) (by decide)]
    exact h
  | 58, _, _, h => h
  | 59, _, _, h => h
  | 60, _, _, h => h
  | 61, _, _, h => h
  | 62, _, _, h => h
  | _ + 63, _, _, h => h
def aU (q : Nat) : Nat → Nat → Nat := fun k _ => q + (k - 57)
theorem grow_U {G : gG} {B : gB} {σ u : gS} {H2 H3 : Heap} {n q : Nat} (hC : BkC B) (hn : B.2 57 = n) (h : Hp G B σ H2) (hq : ∀ k i, i < B.2 k → B.1 k i < q) (hGq : G.2.2 ≤ q) (hW : Hp (G.1, G.2.1, q) (aU q, cU) u H2)
    (h45 : H3[B.1 46 0]? = some (vp_cell (G.2.1 4) (8, .inr (.inr (.inr (.inr (va_up (rfs B 57) n (some q)))))))) (hk : ∀ r, r ≠ B.1 46 0 → H3[r]? = H2[r]?) : Hp G (gU B n q) (sU σ u n) H3 := by
  have b45 := bc hC 46
  refine h.grow (q := q) (fun k i hi => gU_old hC hn hi) (fun k i hi => ?_) (fun k i hi hni => ?_) hq hGq (fun k i k' i' hi hni hi' hni' e => ?_)
  · rw [sU_old hC hn hi]
    by_cases e : k = 46
    · subst e
      have hi0 : i = 0 := by have := hC.1 46 (by decide); omega
      subst hi0
      show H3[B.1 46 0]? = some (vp_cell (G.2.1 4) (8, .inr (.inr (.inr (.inr (rfs (gU B n q) 57))))))
      rw [h45, vp_cell_q, vp_cell_q]
      refine congrArg some (arrV_cg (fun j hj => ?_))
      congr 1
      show _ = (if j < (gU B n q).2 57 then some ((gU B n q).1 57 j) else none)
      have e2 : (gU B n q).2 57 = n + 1 := by rw [← hn]; rfl
      rw [e2]
      by_cases z : j = n
      · subst z
        rw [va_up_self, if_pos (by omega), gU_new (by decide) (by decide)]; rfl
      · rw [va_up_ne _ _ z]
        unfold rfs
        rw [hn]
        by_cases z2 : j < n
        · rw [if_pos z2, if_pos (by omega), gU_old hC hn (by omega)]
        · rw [if_neg z2, if_neg (by omega)]
    · have h1 := vU_old (q := q) hC hn k hi e (h.1 k i hi).2
      exact h1.kept (hk _ (fun z => e (h.2 k i 46 0 hi b45 z).1))
  · have hne : ∀ r, q ≤ r → H3[r]? = H2[r]? := fun r hr => hk r (fun z => by have := hq 46 0 b45; omega)
    obtain ⟨h1, h2, rfl⟩ := gU_c hC hn hi hni
    rw [gU_new h1 h2]
    refine ⟨by omega, va_at.kept ?_ (hne _ (by show q ≤ q + (k - 57); omega))⟩
    rcases (show k = 57 ∨ k = 58 ∨ k = 59 by omega) with rfl | rfl | rfl
    · show va_at G.1 clsz (q + (57 - 57), .inr (4, [.ref ((gU B i q).1 58 i), .ref ((gU B i q).1 59 i), .int ((sU σ u i).1 57 i 2), .int ((sU σ u i).1 57 i 3), .int ((sU σ u i).1 57 i 4)])) H2
      rw [gU_new (k := 58) (by decide) (by decide), gU_new (k := 59) (by decide) (by decide), sU_new (k := 57) (by decide) (by decide)]
      exact (hW.1 57 0 (Nat.le_of_ble_eq_true rfl)).2
    · rw [sU_new (by decide) (by decide)]; exact (hW.1 58 0 (Nat.le_of_ble_eq_true rfl)).2
    · rw [sU_new (by decide) (by decide)]; exact (hW.1 59 0 (Nat.le_of_ble_eq_true rfl)).2
  · obtain ⟨h1, h2, rfl⟩ := gU_c hC hn hi hni
    obtain ⟨h1', h2', rfl⟩ := gU_c hC hn hi' hni'
    rw [gU_new h1 h2, gU_new h1' h2'] at e
    exact ⟨by omega, rfl⟩
/-- a lot more -/
def gL (B : gB) (n q : Nat) : gB := (fun k i => bif in1 60 62 n k i then q + (k - 60) else B.1 k i, fun k => bif Nat.ble 60 k && Nat.ble k 62 then B.2 k + 1 else B.2 k)
def sL (σ u : gS) (n : Nat) : gS := (fun k i j => bif in1 60 62 n k i then u.1 k 0 j else σ.1 k i j, σ.2)
def cL : Nat → Nat := upc (upc (upc c00 61 1) 62 1) 60 1
theorem kL {B : gB} {n : Nat} (hC : BkC B) (hn : B.2 60 = n) {k : Nat} (h1 : 60 ≤ k) (h2 : k ≤ 62) : B.2 k = n := by
  rcases (show k = 60 ∨ k = 61 ∨ k = 62 by omega) with rfl | rfl | rfl
  · exact hn
  all_goals exact (hC.2.2.2.2.2.2 _ (by decide)).trans hn
theorem gL_old {B : gB} {n q k i : Nat} (hC : BkC B) (hn : B.2 60 = n) (hi : i < B.2 k) : (gL B n q).1 k i = B.1 k i := by
  show (bif in1 60 62 n k i then q + (k - 60) else B.1 k i) = _
  rw [in1_f (fun z => by have := kL hC hn z.1 z.2.1; omega)]; rfl
theorem gL_new {B : gB} {n q k : Nat} (h1 : 60 ≤ k) (h2 : k ≤ 62) : (gL B n q).1 k n = q + (k - 60) := by
  show (bif in1 60 62 n k n then _ else _) = _
  rw [in1_y h1 h2]; rfl
theorem sL_old {B : gB} {σ u : gS} {n k i : Nat} (hC : BkC B) (hn : B.2 60 = n) (hi : i < B.2 k) : (sL σ u n).1 k i = σ.1 k i := by
  funext j
  show (bif in1 60 62 n k i then u.1 k 0 j else σ.1 k i j) = _
  rw [in1_f (fun z => by have := kL hC hn z.1 z.2.1; omega)]; rfl
theorem sL_new {σ u : gS} {n k : Nat} (h1 : 60 ≤ k) (h2 : k ≤ 62) : (sL σ u n).1 k n = u.1 k 0 := by
  funext j
  show (bif in1 60 62 n k n then u.1 k 0 j else σ.1 k n j) = _
  rw [in1_y h1 h2]; rfl
theorem gL_c {B : gB} {n q k i : Nat} (hC : BkC B) (hn : B.2 60 = n) (hi : i < (gL B n q).2 k) (hni : ¬ i < B.2 k) : 60 ≤ k ∧ k ≤ 62 ∧ i = n := by
  have hi : i < (bif Nat.ble 60 k && Nat.ble k 62 then B.2 k + 1 else B.2 k) := hi
  cases e : (Nat.ble 60 k && Nat.ble k 62) with
  | true =>
    rw [e] at hi
    have hi : i < B.2 k + 1 := hi
    rw [Bool.and_eq_true] at e
    have e1 := Nat.le_of_ble_eq_true e.1
    have e2 := Nat.le_of_ble_eq_true e.2
    have := kL hC hn e1 e2
    exact ⟨e1, e2, by omega⟩
  | false => rw [e] at hi; exact absurd hi hni
theorem vL_old {G : gG} {B : gB} {n q i a : Nat} {f : Nat → Int32} {g : Nat → Int64} {H : Heap} (hC : BkC B) (hn : B.2 60 = n) : ∀ k, i < B.2 k → k ≠ 47 → va_at G.1 clsz (a, lay G B k i f g) H → va_at G.1 clsz (a, lay G (gL B n q) k i f g) H
  | 0, _, _, h => h
  | 1, _, _, h => h
  | 2, _, _, h => h
  | 3, _, _, h => h
  | 4, _, _, h => h
  | 5, _, _, h => h
  | 6, _, _, h => h
  | 7, _, _, h => h
  | 8, _, _, h => h
  | 9, _, _, h => h
  | 10, _, _, h => h
  | 11, _, _, h => h
  | 12, _, _, h => h
  | 13, _, _, h => h
  | 14, _, _, h => h
  | 15, _, _, h => h
  | 16, _, _, h => h
  | 17, _, _, h => h
  | 18, _, _, h => h
  | 19, _, _, h => h
  | 20, _, _, h => h
  | 21, _, _, h => h
  | 22, _, _, h => h
  | 23, _, _, h => h
  | 24, _, _, h => h
  | 25, _, _, h => h
  | 26, _, _, h => h
  | 27, _, _, h => h
  | 28, _, _, h => h
  | 29, _, _, h => h
  | 30, _, _, h => h
  | 31, _, _, h => h
  | 32, _, _, h => h
  | 33, _, _, h => h
  | 34, _, _, h => h
  | 35, _, _, h => h
  | 36, _, _, h => h
  | 37, _, _, h => h
  | 38, _, _, h => h
  | 39, _, _, h => h
  | 40, _, _, h => h
  | 41, _, _, h => h
  | 42, _, _, h => h
  | 43, _, _, h => h
  | 44, _, _, h => h
  | 45, _, _, h => h
  | 46, _, _, h => h
  | 47, _, h, _ => absurd rfl h
  | 48, _, _, h => h
  | 49, _, _, h => h
  | 50, _, _, h => h
  | 51, _, _, h => h
  | 52, _, _, h => h
  | 53, _, _, h => h
  | 54, _, _, h => h
  | 55, _, _, h => h
  | 56, _, _, h => h
  | 57, _, _, h => h
  | 58, _, _, h => h
  | 59, _, _, h => h
  | 60, hi, _, h => by
    have e : ∀ k, 60 ≤ k → k ≤ 62 → (gL B n q).1 k i = B.1 k i := fun k h1 h2 => gL_old hC hn (by rw [kL hC hn (by omega) h2]; omega)
    show va_at G.1 clsz (a, .inr (0, [.int (f 0), .int (f 1), .ref (B.1 50 (f 3).toNatClampNeg), .int (f 3), .int (f 4), .ref ((gL B n q).1 61 i), .ref ((gL B n q).1 62 i), .int (f 7), .int (f 8), .int (f 9)])) H
    rw [e 61 (by decide) (by decide), e 62 (by decide) (by decide)]
    exact h
  | 61, _, _, h => h
  | 62, _, _, h => h
  | _ + 63, _, _, h => h
def aL (B : gB) (q : Nat) : Nat → Nat → Nat := fun k i => bif Nat.beq k 50 then B.1 50 i else q + (k - 60)
theorem grow_L {G : gG} {B : gB} {σ u : gS} {H2 H3 : Heap} {n q : Nat} (hC : BkC B) (hn : B.2 60 = n) (h : Hp G B σ H2) (hq : ∀ k i, i < B.2 k → B.1 k i < q) (hGq : G.2.2 ≤ q) (hW : Hp (G.1, G.2.1, q) (aL B q, cL) u H2)
    (h45 : H3[B.1 47 0]? = some (vp_cell (G.2.1 5) (60, .inr (.inr (.inr (.inr (va_up (rfs B 60) n (some q)))))))) (hk : ∀ r, r ≠ B.1 47 0 → H3[r]? = H2[r]?) : Hp G (gL B n q) (sL σ u n) H3 := by
  have b45 := bc hC 47
  refine h.grow (q := q) (fun k i hi => gL_old hC hn hi) (fun k i hi => ?_) (fun k i hi hni => ?_) hq hGq (fun k i k' i' hi hni hi' hni' e => ?_)
  · rw [sL_old hC hn hi]
    by_cases e : k = 47
    · subst e
      have hi0 : i = 0 := by have := hC.1 47 (by decide); omega
      subst hi0
      show H3[B.1 47 0]? = some (vp_cell (G.2.1 5) (60, .inr (.inr (.inr (.inr (rfs (gL B n q) 60))))))
      rw [h45, vp_cell_q, vp_cell_q]
      refine congrArg some (arrV_cg (fun j hj => ?_))
      congr 1
      show _ = (if j < (gL B n q).2 60 then some ((gL B n q).1 60 j) else none)
      have e2 : (gL B n q).2 60 = n + 1 := by rw [← hn]; rfl
      rw [e2]
      by_cases z : j = n
      · subst z
        rw [va_up_self, if_pos (by omega), gL_new (by decide) (by decide)]; rfl
      · rw [va_up_ne _ _ z]
        unfold rfs
        rw [hn]
        by_cases z2 : j < n
        · rw [if_pos z2, if_pos (by omega), gL_old hC hn (by omega)]
        · rw [if_neg z2, if_neg (by omega)]
    · have h1 := vL_old (q := q) hC hn k hi e (h.1 k i hi).2
      exact h1.kept (hk _ (fun z => e (h.2 k i 47 0 hi b45 z).1))
  · have hne : ∀ r, q ≤ r → H3[r]? = H2[r]? := fun r hr => hk r (fun z => by have := hq 47 0 b45; omega)
    obtain ⟨h1, h2, rfl⟩ := gL_c hC hn hi hni
    rw [gL_new h1 h2]
    refine ⟨by omega, va_at.kept ?_ (hne _ (by show q ≤ q + (k - 60); omega))⟩
    rcases (show k = 60 ∨ k = 61 ∨ k = 62 by omega) with rfl | rfl | rfl
    · show va_at G.1 clsz (q + (60 - 60), .inr (0, [.int ((sL σ u i).1 60 i 0), .int ((sL σ u i).1 60 i 1), .ref (B.1 50 ((sL σ u i).1 60 i 3).toNatClampNeg), .int ((sL σ u i).1 60 i 3), .int ((sL σ u i).1 60 i 4), .ref ((gL B i q).1 61 i), .ref ((gL B i q).1 62 i), .int ((sL σ u i).1 60 i 7), .int ((sL σ u i).1 60 i 8), .int ((sL σ u i).1 60 i 9)])) H2
      rw [gL_new (k := 61) (by decide) (by decide), gL_new (k := 62) (by decide) (by decide), sL_new (k := 60) (by decide) (by decide)]
      exact (hW.1 60 0 (Nat.le_of_ble_eq_true rfl)).2
    · rw [sL_new (by decide) (by decide)]; exact (hW.1 61 0 (Nat.le_of_ble_eq_true rfl)).2
    · rw [sL_new (by decide) (by decide)]; exact (hW.1 62 0 (Nat.le_of_ble_eq_true rfl)).2
  · obtain ⟨h1, h2, rfl⟩ := gL_c hC hn hi hni
    obtain ⟨h1', h2', rfl⟩ := gL_c hC hn hi' hni'
    rw [gL_new h1 h2, gL_new h1' h2'] at e
    exact ⟨by omega, rfl⟩
/-! ends and starts of methods that make cells; a reference stored -/
def oPc (G : gG) (B : gB) (σ : gS) (av : List Value) : Array Value → State → Prop := va_Pc av (fun U => (KI G U ∧ AOs U) ∧ G.2.2 ≤ U.heap.size ∧ Hp G B σ U.heap)
def oQ (G : gG) (post : Int32 → gB × gS → Prop) : Array Value → State → Outcome → State → Prop := va_Qi post (fun (u : gB × gS) t => Hp G u.1 u.2 t.heap) (mA G)
theorem oPc.blind {G : gG} {B : gB} {σ : gS} {av : List Value} : FrameBlind (oPc G B σ av) := fun a U g mk h => ⟨h.1, ⟨h.2.1.1.call g mk a, h.2.1.2.call g mk a⟩, h.2.2⟩
theorem o_start {l : Launch} {y : MethodName} {cc : ByteArray} {nL : Nat} {ret : Option FieldType} {rm : Room} {G : gG} {B : gB} {σ : gS} {av : List Value} {Qc : Array Value → State → Outcome → State → Prop} {mc ms : Nat} (hy : plainName y.cls = true) (hn : (lg_sl av).length ≤ nL)
    (body : ∀ p e s m below meth c, mX p s m meth c cc nL y.cls ret G → AOs s → Hp G B σ s.heap → va_S (mA G) s.heap s.heap [] → ∀ ls, lv_has ls nL (lv_args 0 av) → W p l e rm s m av.toArray below meth c s.heap [] 0 0 (MQ below Qc av.toArray s mc ms (mA G)) (F0 m 0 ls [])) :
    Met l y [.code y cc nL ret] rm (oPc G B σ av) Qc mc ms (mA G) := by
  refine Met.ofW (cc := cc) (maxL := nL) (ret := ret) hy rfl ?_
  intro p e s m args below meth c s₁ Bd hml hv
  obtain ⟨rfl, ⟨hK, hAO⟩, hz, hH⟩ := hv
  have hl := lv_entry av (n := nL) hn
  rw [lg_entry_eq]
  exact body p e s m below meth c ⟨Bd.exec, Bd.bytes, Bd.returns, hml, findClass_of_methodNamed Bd.named, hK, Bd.notSynchronized, hz⟩ hAO hH va_S.rf _ hl
section NV
variable {p : Program} {l : Launch} {e : Env} {R : Room} {s : State} {m : MethodId} {args : Array Value} {below : List Frame} {meth : Method} {c : Code} {H : Heap} {locs : List Loc} {cells slots : Nat} {Q : State → Prop}
variable {cc : ByteArray} {pc : Nat} {ls : Array Slot} {rest : List Value} {G : gG} {B : gB} {σ : gS}
theorem o_iret {post : Int32 → gB × gS → Prop} {v : Int32} {mc ms : Nat} (hx : p.tables.exec = Jvm.exec) (hb : c.code = cc) (hr : meth.sig.returnType = some .int) (hlk : meth.locks = false) (hH : Hp G B σ H) (hS : va_S (mA G) s.heap H locs) (hdg : decode cc pc = .ok (.ireturn, 1)) (hp : post v (B, σ)) (h1 : cells ≤ mc) (h2 : slots ≤ ms) : W p l e R s m args below meth c H locs cells slots (MQ below (oQ G post) args s mc ms (mA G)) (F0 m pc ls [.int v]) :=
  W.widen h1 h2 (W.iret hx hb hr (fun t ht _ => ⟨⟨v, (B, σ), rfl, hp, by show Hp G B σ t.heap; rw [ht]; exact hH⟩, hS.F ht⟩) hS.2.2 hdg hlk)
theorem n_aast (hx : p.tables.exec = Jvm.exec) (hb : c.code = cc) (hK : KI G s) (hH : Hp G B σ H) (hS : va_S (mA G) s.heap H locs) {k0 N gi ci NN v : Nat} {C : String} {T : u_T} {fs : List Value} {r : Nat → Option Nat} (hi : 0 < B.2 k0) (hlay : ∀ f g, lay G B k0 0 f g = aR G gi N r) (ht : (tyz G)[gi]? = some (G.2.1 gi, .object C)) (hv : va_at G.1 clsz (v, .inr (ci, fs)) H) (hc : clsz[ci]? = some (C, T, NN)) (jn : Nat) (hj : jn < N) (hn : N < 2147483648) (hdg : decode cc pc = .ok (.aastore, 1))
    (kk : ∀ (H1 : Heap) (locs1 : List Loc), H1[B.1 k0 0]? = some (vp_cell (G.2.1 gi) (N, .inr (.inr (.inr (.inr (va_up r jn (some v))))))) → (∀ x, x ≠ B.1 k0 0 → H1[x]? = H[x]?) → va_S (mA G) s.heap H1 locs1 → W p l e R s m args below meth c H1 locs1 cells slots Q (F0 m (pc + 1) ls rest)) : W p l e R s m args below meth c H locs cells slots Q (F0 m pc ls (.ref v :: .int (nI jn) :: .ref (B.1 k0 0) :: rest)) := by
  have ha : H[B.1 k0 0]? = some (vp_cell (G.2.1 gi) (N, .inr (.inr (.inr (.inr r))))) := (hH.at1 hi (hlay _ _)) 0 _ rfl
  obtain ⟨r', hr', cellV, g1, g2, g3, -⟩ := hv
  have hcls := (hK.1.1 ci _ hc).2
  obtain ⟨kA, comp, k1, k2, k3, -⟩ := (hK.1.2 gi _ ht).2
  have hcomp : comp = G.1.1 ci := Option.some.inj (k3.symm.trans hcls.1)
  subst hcomp
  obtain ⟨kC, hkC, -⟩ := hcls.2
  have hin := c_in hj hn
  refine W.aast hx hb ha (fun q h => by cases h) (fun h => by cases h) k1 k2 rfl hkC ⟨fun q => hin (Or.inl q), by show _ < (arrV _ _ _).slots.size; rw [arrV_size, c_cl hj hn]; exact hj⟩ g1 (fun q h => by rw [g3] at h; cases h) (by rw [g2]; exact hkC) (by rw [g2]; exact va_assign hcls) rfl rfl hdg fun H1 e z oq => ?_
  refine kk H1 _ ?_ oq (hS.put z oq (hH.1 k0 0 hi).1)
  rw [e, c_cl hj hn, vp_cell_q, vp_cell_q, arrV_store]
  congr 2
  funext q
  by_cases hq : q = jn
  · subst hq
    simp [updV, va_up, va_rf]
  · simp [updV, va_up, hq]
end NV
