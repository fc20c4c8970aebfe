/-! TEXTS: steps that mean something -/
section CO
/-- the words that may matter -/
def agr (S : Nat → Int32) (a b : Nat) (w w' : Nat → Int32) : Prop := ∀ q, q < 11 → (∃ i, a ≤ i ∧ i < b ∧ S i = nI (1001 + pw q)) → w q = w' q
theorem agr_m {S : Nat → Int32} {a b a' b' : Nat} {w w' : Nat → Int32} (h : agr S a b w w') (h1 : a ≤ a') (h2 : b' ≤ b) : agr S a' b' w w' := fun q hq ⟨i, x, y, z⟩ => h q hq ⟨i, by omega, by omega, z⟩
/-- the steps from a to b come to a number -/
def CI (S : Nat → Int32) (a b k : Nat) (D : DI) : Prop := (a < b ∧ 1 ≤ k) ∧ DBd D ∧ (∀ w w', agr S a b w w' → D w = D w') ∧ ∀ S', (∀ i, a ≤ i → i < b → S' i = S i) → ∀ (w : Nat → Int32) to B P, WV w → b ≤ to → Cl S' w to B P → ∀ s : List Int32, s.length + k ≤ 64 → (match D w with
  | some v => P b (Int32.ofInt v :: s)
  | none => B) → P a s
/-- .. to 1 or 0 -/
def CB (S : Nat → Int32) (a b k : Nat) (D : DB) : Prop := (a < b ∧ 1 ≤ k) ∧ (∀ w w', agr S a b w w' → D w = D w') ∧ ∀ S', (∀ i, a ≤ i → i < b → S' i = S i) → ∀ (w : Nat → Int32) to B P, WV w → b ≤ to → Cl S' w to B P → ∀ s : List Int32, s.length + k ≤ 64 → (match D w with
  | some v => P b ((if v = true then 1 else 0) :: s)
  | none => B) → P a s
theorem CI_s {S S2 : Nat → Int32} {a b k : Nat} {D : DI} (h : CI S a b k D) (hs : ∀ i, a ≤ i → i < b → S2 i = S i) : CI S2 a b k D := by
  obtain ⟨h1, h2, h3, h4⟩ := h
  refine ⟨h1, h2, fun w w' hw => h3 w w' (fun q hq ⟨i, x, y, z⟩ => hw q hq ⟨i, x, y, by rw [hs i x y]; exact z⟩), fun S' hS' => h4 S' (fun i x y => by rw [hS' i x y, hs i x y])⟩
theorem CB_s {S S2 : Nat → Int32} {a b k : Nat} {D : DB} (h : CB S a b k D) (hs : ∀ i, a ≤ i → i < b → S2 i = S i) : CB S2 a b k D := by
  obtain ⟨h1, h3, h4⟩ := h
  refine ⟨h1, fun w w' hw => h3 w w' (fun q hq ⟨i, x, y, z⟩ => hw q hq ⟨i, x, y, by rw [hs i x y]; exact z⟩), fun S' hS' => h4 S' (fun i x y => by rw [hS' i x y, hs i x y])⟩
theorem CI_k {S : Nat → Int32} {a b k k' : Nat} {D : DI} (h : CI S a b k D) (hk : k ≤ k') : CI S a b k' D := by
  obtain ⟨h1, h2, h3, h4⟩ := h
  exact ⟨⟨h1.1, by omega⟩, h2, h3, fun S' hS' w to B P hw ht hC s hs => h4 S' hS' w to B P hw ht hC s (by omega)⟩
theorem CB_k {S : Nat → Int32} {a b k k' : Nat} {D : DB} (h : CB S a b k D) (hk : k ≤ k') : CB S a b k' D := by
  obtain ⟨h1, h3, h4⟩ := h
  exact ⟨⟨h1.1, by omega⟩, h3, fun S' hS' w to B P hw ht hC s hs => h4 S' hS' w to B P hw ht hC s (by omega)⟩
theorem CI_num {S : Nat → Int32} {a v : Nat} (hv : v ≤ 1000) (h : S a = nI v) : CI S a (a + 1) 1 (fun _ => some (v : Int)) := by
  refine ⟨⟨by omega, by omega⟩, fun w u _ e => ?_, fun _ _ _ => rfl, fun S' hS' w to B P hw ht hC s hs hP => ?_⟩
  · cases e
    omega
  · have e1 : Int32.ofInt (v : Int) = nI v := Int32.ofInt_eq_ofNat
    dsimp only at hP
    rw [e1] at hP
    exact hC.1 a s v (by omega) (by omega) hv (by rw [hS' a (by omega) (by omega)]; exact h) hP
theorem CI_word {S : Nat → Int32} {a k : Nat} (hk : k < 11) (h : S a = nI (1001 + pw k)) : CI S a (a + 1) 1 (fun w => some (w k).toInt) := by
  refine ⟨⟨by omega, by omega⟩, fun w u hw e => ?_, fun w w' ha => ?_, fun S' hS' w to B P hw ht hC s hs hP => ?_⟩
  · cases e
    obtain ⟨x, hx, ex⟩ := hw k hk
    rw [ex, nI_toInt (by omega)]
    omega
  · have := ha k hk ⟨a, by omega, by omega, h⟩
    dsimp only
    rw [this]
  · dsimp only at hP
    rw [Int32.ofInt_toInt] at hP
    exact hC.2.1 a s k (by omega) (by omega) hk (by rw [hS' a (by omega) (by omega)]; exact h) hP
theorem CI_bin {S : Nat → Int32} {a b c k1 k2 op : Nat} {D E : DI} {f : Int → Int → Option Int} (h1 : CI S a b k1 D) (h2 : CI S b c k2 E) (ho : 1100 ≤ op ∧ op ≤ 1103) (hS : S c = nI op) (hf : ∀ x y, f x y = jnD op x y) : CI S a (c + 1) (k1 + k2) (bi f D E) := by
  obtain ⟨⟨a1, a0⟩, a2, a3, a4⟩ := h1
  obtain ⟨⟨b1, b0⟩, b2, b3, b4⟩ := h2
  refine ⟨⟨by omega, by omega⟩, ?_, fun w w' ha => ?_, fun S' hS' w to B P hw ht hC s hs hP => ?_⟩
  · exact bi_b (fun x y u e => by rw [hf] at e; exact jnD_b e)
  · unfold bi
    rw [a3 w w' (agr_m ha (Nat.le_refl _) (by omega)), b3 w w' (agr_m ha (by omega) (by omega))]
  · refine a4 S' (fun i x y => hS' i x (by omega)) w to B P hw (by omega) hC s (by omega) ?_
    unfold bi at hP
    cases eD : D w with
    | none => rw [eD] at hP; exact hP
    | some x =>
      rw [eD] at hP
      dsimp only at hP ⊢
      refine b4 S' (fun i x y => hS' i (by omega) (by omega)) w to B P hw (by omega) hC _ (by rw [List.length_cons]; omega) ?_
      cases eE : E w with
      | none => rw [eE] at hP; exact hP
      | some y =>
        rw [eE] at hP
        dsimp only at hP ⊢
        rw [hf] at hP
        exact hC.2.2.2.2.2 c s x y op (by omega) (a2 w x hw eD) (b2 w y hw eE) ho.1 (by omega) (by rw [hS' c (by omega) (by omega)]; exact hS) hP
theorem CB_cmp {S : Nat → Int32} {a b c k1 k2 op cc : Nat} {D E : DI} (h1 : CI S a b k1 D) (h2 : CI S b c k2 E) (ho : (op = 1104 ∧ cc = 160) ∨ (op = 1105 ∧ cc = 162) ∨ (op = 1106 ∧ cc = 161)) (hS : S c = nI op) : CB S a (c + 1) (k1 + k2) (cmD cc D E) := by
  obtain ⟨⟨a1, a0⟩, a2, a3, a4⟩ := h1
  obtain ⟨⟨b1, b0⟩, b2, b3, b4⟩ := h2
  have key : ∀ x y, jnD op x y = some (if cmpI cc x y = true then 1 else 0) := by
    intro x y
    rcases ho with ⟨rfl, rfl⟩ | ⟨rfl, rfl⟩ | ⟨rfl, rfl⟩
    · show some (if x < y then (1 : Int) else 0) = some (if decide (x < y) = true then 1 else 0)
      simp only [decide_eq_true_eq]
    · show some (if y < x then (1 : Int) else 0) = some (if decide (y < x) = true then 1 else 0)
      simp only [decide_eq_true_eq]
    · show some (if x = y then (1 : Int) else 0) = some (if decide (x = y) = true then 1 else 0)
      simp only [decide_eq_true_eq]
  refine ⟨⟨by omega, by omega⟩, fun w w' ha => ?_, fun S' hS' w to B P hw ht hC s hs hP => ?_⟩
  · unfold cmD
    rw [a3 w w' (agr_m ha (Nat.le_refl _) (by omega)), b3 w w' (agr_m ha (by omega) (by omega))]
  · refine a4 S' (fun i x y => hS' i x (by omega)) w to B P hw (by omega) hC s (by omega) ?_
    unfold cmD at hP
    cases eD : D w with
    | none => rw [eD] at hP; exact hP
    | some x =>
      rw [eD] at hP
      dsimp only at hP ⊢
      refine b4 S' (fun i x y => hS' i (by omega) (by omega)) w to B P hw (by omega) hC _ (by rw [List.length_cons]; omega) ?_
      cases eE : E w with
      | none => rw [eE] at hP; exact hP
      | some y =>
        rw [eE] at hP
        dsimp only at hP ⊢
        have hj := hC.2.2.2.2.2 c s x y op (by omega) (a2 w x hw eD) (b2 w y hw eE) (by omega) (by omega) (by rw [hS' c (by omega) (by omega)]; exact hS)
        have hk := key x y
        unfold jnD at hk
        rw [hk] at hj
        dsimp only at hj
        refine hj ?_
        revert hP
        cases cmpI cc x y
        · exact id
        · exact id
theorem ntD_f {D : DB} : ntD false D = D := by
  funext w
  unfold ntD
  cases D w with
  | none => rfl
  | some x => cases x <;> rfl
theorem CB_not {S : Nat → Int32} {a b k : Nat} {D : DB} (h1 : CB S a b k D) (hS : S b = nI 1107) : CB S a (b + 1) k (ntD true D) := by
  obtain ⟨⟨a1, a0⟩, a3, a4⟩ := h1
  refine ⟨⟨by omega, a0⟩, fun w w' ha => ?_, fun S' hS' w to B P hw ht hC s hs hP => ?_⟩
  · unfold ntD
    rw [a3 w w' (agr_m ha (Nat.le_refl _) (by omega))]
  · refine a4 S' (fun i x y => hS' i x (by omega)) w to B P hw (by omega) hC s hs ?_
    unfold ntD at hP
    cases eD : D w with
    | none => rw [eD] at hP; exact hP
    | some x =>
      rw [eD] at hP
      dsimp only at hP ⊢
      refine hC.2.2.1 b s _ (by omega) (by rw [hS' b (by omega) (by omega)]; exact hS) ?_
      cases x
      · exact hP
      · exact hP
theorem CB_and {S : Nat → Int32} {a b c k1 k2 : Nat} {D E : DB} (h1 : CB S a b k1 D) (h2 : CB S (b + 1) c k2 E) (hc : c ≤ 400) (hS : S b = nI (2000 + c)) : CB S a c (k1 + k2) (anD D E) := by
  obtain ⟨⟨a1, a0⟩, a3, a4⟩ := h1
  obtain ⟨⟨b1, b0⟩, b3, b4⟩ := h2
  refine ⟨⟨by omega, by omega⟩, fun w w' ha => ?_, fun S' hS' w to B P hw ht hC s hs hP => ?_⟩
  · unfold anD
    rw [a3 w w' (agr_m ha (Nat.le_refl _) (by omega)), b3 w w' (agr_m ha (by omega) (by omega))]
  · refine a4 S' (fun i x y => hS' i x (by omega)) w to B P hw (by omega) hC s (by omega) ?_
    unfold anD at hP
    cases eD : D w with
    | none => rw [eD] at hP; exact hP
    | some x =>
      rw [eD] at hP
      dsimp only at hP ⊢
      refine hC.2.2.2.1 b s _ c (by omega) (by omega) hc (by rw [hS' b (by omega) (by omega)]; exact hS) (fun hx => ?_) (fun hx => ?_)
      · cases x
        · exact hP
        · exact absurd hx (by decide)
      · cases x
        · exact absurd rfl hx
        · exact b4 S' (fun i x y => hS' i (by omega) (by omega)) w to B P hw ht hC s (by omega) hP
theorem CB_or {S : Nat → Int32} {a b c k1 k2 : Nat} {D E : DB} (h1 : CB S a b k1 D) (h2 : CB S (b + 1) c k2 E) (hc : c ≤ 400) (hS : S b = nI (3000 + c)) : CB S a c (k1 + k2) (orD D E) := by
  obtain ⟨⟨a1, a0⟩, a3, a4⟩ := h1
  obtain ⟨⟨b1, b0⟩, b3, b4⟩ := h2
  refine ⟨⟨by omega, by omega⟩, fun w w' ha => ?_, fun S' hS' w to B P hw ht hC s hs hP => ?_⟩
  · unfold orD
    rw [a3 w w' (agr_m ha (Nat.le_refl _) (by omega)), b3 w w' (agr_m ha (by omega) (by omega))]
  · refine a4 S' (fun i x y => hS' i x (by omega)) w to B P hw (by omega) hC s (by omega) ?_
    unfold orD at hP
    cases eD : D w with
    | none => rw [eD] at hP; exact hP
    | some x =>
      rw [eD] at hP
      dsimp only at hP ⊢
      refine hC.2.2.2.2.1 b s _ c (by omega) (by omega) hc (by rw [hS' b (by omega) (by omega)]; exact hS) (fun hx => ?_) (fun hx => ?_)
      · cases x
        · exact absurd hx (by decide)
        · exact hP
      · cases x
        · exact b4 S' (fun i x y => hS' i (by omega) (by omega)) w to B P hw ht hC s (by omega) hP
        · exact absurd rfl hx
end CO
