/-! TEXTS: how far a reader comes -/
section BD
variable {tk tv : Nat → Nat} {NT : Nat}
def BD {α : Type} (NT : Nat) (P : Nat → Nat → RD α) : Prop := ∀ i q, i ≤ NT → q ≤ 50 → (∀ r, P i q = .ok r → i < r.1 ∧ r.1 ≤ NT ∧ q ≤ r.2.1 ∧ r.2.1 ≤ 50) ∧ ∀ x, P i q = .error x → x ≤ NT
theorem tok_lt {i : Nat} (h0 : tk NT = 0) (hi : i ≤ NT) (h : tk i ≠ 0) : i < NT := Nat.lt_of_le_of_ne hi (fun e => h (e ▸ h0))
theorem BD_more {α : Type} {sep : Nat → Bool} {P : Nat → Nat → RD α} {cb : Nat → α → α → α} (h0 : tk NT = 0) (hs : sep 0 = false) (hP : BD NT P) : ∀ g i q D, i ≤ NT → q ≤ 50 → (∀ r, pMore tk sep P cb g i q D = .ok r → i ≤ r.1 ∧ r.1 ≤ NT ∧ q ≤ r.2.1 ∧ r.2.1 ≤ 50) ∧ ∀ x, pMore tk sep P cb g i q D = .error x → x ≤ NT := by
  intro g
  induction g with
  | zero =>
    intro i q D hi hq
    refine ⟨fun r h => ?_, fun x h => ?_⟩
    · rw [pMore] at h
      cases h
      exact ⟨Nat.le_refl _, hi, Nat.le_refl _, hq⟩
    · rw [pMore] at h
      cases h
  | succ g ih =>
    intro i q D hi hq
    rw [pMore]
    by_cases hc : sep (tk i) = true
    · rw [if_pos hc]
      have hl : i < NT := tok_lt h0 hi (fun e => by rw [e, hs] at hc; cases hc)
      have h1 := hP (i + 1) q hl hq
      cases e : P (i + 1) q with
      | error x =>
        refine ⟨fun r h => (by cases h), fun y h => ?_⟩
        cases h
        exact h1.2 x e
      | ok r =>
        obtain ⟨a1, a2, a3, a4⟩ := h1.1 r e
        have h2 := ih r.1 r.2.1 (cb (tk i) D r.2.2) a2 a4
        refine ⟨fun r' h => ?_, fun y h => h2.2 y h⟩
        obtain ⟨b1, b2, b3, b4⟩ := h2.1 r' h
        exact ⟨by omega, b2, by omega, b4⟩
    · rw [if_neg hc]
      refine ⟨fun r h => ?_, fun x h => by cases h⟩
      cases h
      exact ⟨Nat.le_refl _, hi, Nat.le_refl _, hq⟩
theorem BD_then {α : Type} {sep : Nat → Bool} {P : Nat → Nat → RD α} {cb : Nat → α → α → α} (h0 : tk NT = 0) (hs : sep 0 = false) (hP : BD NT P) : BD NT (pThen tk sep P cb) := by
  intro i q hi hq
  unfold pThen
  have h1 := hP i q hi hq
  cases e : P i q with
  | error x =>
    refine ⟨fun r h => (by cases h), fun y h => ?_⟩
    cases h
    exact h1.2 x e
  | ok r =>
    obtain ⟨a1, a2, a3, a4⟩ := h1.1 r e
    have h2 := BD_more (cb := cb) h0 hs hP 400 r.1 r.2.1 r.2.2 a2 a4
    refine ⟨fun r' h => ?_, fun y h => h2.2 y h⟩
    obtain ⟨b1, b2, b3, b4⟩ := h2.1 r' h
    exact ⟨by omega, b2, by omega, b4⟩
theorem BD_part {S : Option (Nat → Nat → RD DI)} (h0 : tk NT = 0) (hS : ∀ P, S = some P → BD NT P) : BD NT (pPart tk tv S) := by
  intro i q hi hq
  unfold pPart
  by_cases h1 : tk i = 191
  · have hl : i < NT := tok_lt h0 hi (by omega)
    rw [if_pos h1]
    cases S with
    | none =>
      refine ⟨fun r h => (by cases h), fun y h => ?_⟩
      cases h
      exact hi
    | some P =>
      have h2 := hS P rfl (i + 1) q hl hq
      dsimp only
      cases e : P (i + 1) q with
      | error x =>
        refine ⟨fun r h => (by cases h), fun y h => ?_⟩
        cases h
        exact h2.2 x e
      | ok r =>
        obtain ⟨a1, a2, a3, a4⟩ := h2.1 r e
        dsimp only
        by_cases h3 : tk r.1 = 193
        · have hl2 : r.1 < NT := tok_lt h0 a2 (by omega)
          rw [if_pos h3]
          refine ⟨fun r' h => ?_, fun y h => by cases h⟩
          cases h
          exact ⟨by dsimp only; omega, hl2, a3, a4⟩
        · rw [if_neg h3]
          refine ⟨fun r' h => (by cases h), fun y h => ?_⟩
          cases h
          exact a2
  · rw [if_neg h1]
    by_cases h2 : (tk i = 50 ∧ tv i ≤ 1000) ∨ (9 ≤ tk i ∧ tk i ≤ 19)
    · have hl : i < NT := tok_lt h0 hi (by omega)
      rw [if_pos h2]
      by_cases h3 : q = 50
      · rw [if_pos h3]
        refine ⟨fun r' h => (by cases h), fun y h => ?_⟩
        cases h
        exact hi
      · rw [if_neg h3]
        refine ⟨fun r' h => ?_, fun y h => by cases h⟩
        cases h
        exact ⟨Nat.lt_succ_self i, hl, Nat.le_succ q, by dsimp only; omega⟩
    · rw [if_neg h2]
      refine ⟨fun r' h => (by cases h), fun y h => ?_⟩
      cases h
      exact hi
theorem BD_sumS {S : Option (Nat → Nat → RD DI)} (h0 : tk NT = 0) (hS : ∀ P, S = some P → BD NT P) : BD NT (pSumS tk tv S) := BD_then h0 rfl (BD_then h0 rfl (BD_part h0 hS))
def sPr (tk tv : Nat → Nat) : Nat → Option (Nat → Nat → RD DI)
  | 0 => none
  | e + 1 => some (pSum tk tv e)
theorem pSum_e (e : Nat) : pSum tk tv e = pSumS tk tv (sPr tk tv e) := by
  cases e <;> rfl
theorem BD_sum (h0 : tk NT = 0) : ∀ e, BD NT (pSum tk tv e) := by
  intro e
  induction e with
  | zero => exact BD_sumS h0 (fun P h => by cases h)
  | succ e ih => exact BD_sumS h0 (fun P h => by cases h; exact ih)
theorem nots_b (h0 : tk NT = 0) : ∀ g i b, i ≤ NT → i ≤ (pNots tk g i b).1 ∧ (pNots tk g i b).1 ≤ NT := by
  intro g
  induction g with
  | zero => intro i b hi; exact ⟨Nat.le_refl _, hi⟩
  | succ g ih =>
    intro i b hi
    rw [pNots]
    by_cases h : tk i = 8
    · have hl : i < NT := tok_lt h0 hi (by omega)
      rw [if_pos h]
      have := ih (i + 1) (!b) hl
      omega
    · rw [if_neg h]
      exact ⟨Nat.le_refl _, hi⟩
theorem BD_plain {P : Nat → Nat → RD DI} {T : Option (Nat → Nat → RD DB)} (h0 : tk NT = 0) (hP : BD NT P) (hT : ∀ P, T = some P → BD NT P) : BD NT (pPlain tk P T) := by
  intro i0 q hi0 hq
  unfold pPlain
  obtain ⟨n1, n2⟩ := nots_b h0 400 i0 false hi0
  generalize (pNots tk 400 i0 false).1 = i at n1 n2
  generalize (pNots tk 400 i0 false).2 = b
  by_cases h1 : tk i = 140
  · have hl : i < NT := tok_lt h0 n2 (by omega)
    rw [if_pos h1]
    cases T with
    | none =>
      refine ⟨fun r h => (by cases h), fun y h => ?_⟩
      cases h
      exact n2
    | some T =>
      have h2 := hT T rfl (i + 1) q hl hq
      dsimp only
      cases e : T (i + 1) q with
      | error x =>
        refine ⟨fun r h => (by cases h), fun y h => ?_⟩
        cases h
        exact h2.2 x e
      | ok r =>
        obtain ⟨a1, a2, a3, a4⟩ := h2.1 r e
        dsimp only
        by_cases h3 : tk r.1 = 141
        · have hl2 : r.1 < NT := tok_lt h0 a2 (by omega)
          rw [if_pos h3]
          refine ⟨fun r' h => ?_, fun y h => by cases h⟩
          cases h
          exact ⟨by dsimp only; omega, hl2, a3, a4⟩
        · rw [if_neg h3]
          refine ⟨fun r' h => (by cases h), fun y h => ?_⟩
          cases h
          exact a2
  · rw [if_neg h1]
    have h2 := hP i q n2 hq
    cases e : P i q with
    | error x =>
      refine ⟨fun r h => (by cases h), fun y h => ?_⟩
      cases h
      exact h2.2 x e
    | ok s =>
      obtain ⟨a1, a2, a3, a4⟩ := h2.1 s e
      dsimp only
      by_cases h3 : tk s.1 = 160 ∨ tk s.1 = 162 ∨ tk s.1 = 161
      · have hl2 : s.1 < NT := tok_lt h0 a2 (by omega)
        have h4 := hP (s.1 + 1) s.2.1 hl2 a4
        rw [if_pos h3]
        cases e2 : P (s.1 + 1) s.2.1 with
        | error x =>
          refine ⟨fun r h => (by cases h), fun y h => ?_⟩
          cases h
          exact h4.2 x e2
        | ok u =>
          obtain ⟨c1, c2, c3, c4⟩ := h4.1 u e2
          refine ⟨fun r' h => ?_, fun y h => by cases h⟩
          cases h
          exact ⟨by dsimp only; omega, c2, by dsimp only; omega, c4⟩
      · rw [if_neg h3]
        refine ⟨fun r h => (by cases h), fun y h => ?_⟩
        cases h
        exact a2
def tPr (tk tv : Nat → Nat) : Nat → Option (Nat → Nat → RD DB)
  | 0 => none
  | e + 1 => some (pTest tk tv e)
theorem pTest_e (e : Nat) : pTest tk tv e = pTestS tk (pSum tk tv e) (tPr tk tv e) := by
  cases e <;> rfl
theorem BD_test (h0 : tk NT = 0) : ∀ e, BD NT (pTest tk tv e) := by
  intro e
  induction e with
  | zero => exact BD_then h0 rfl (BD_then h0 rfl (BD_plain h0 (BD_sum h0 0) (fun P h => by cases h)))
  | succ e ih => exact BD_then h0 rfl (BD_then h0 rfl (BD_plain h0 (BD_sum h0 (e + 1)) (fun P h => by cases h; exact ih)))
end BD
