/-! both objects are made -/
section NW
variable {X : am_X} {d : Nat} {Q : Option Value → am_H → Prop} {n sl : Nat} {t : Nat → Nat × Nat} {I : Nat → Nat → Int32} {J : Nat → Nat → Int64} {F : Nat → Nat → Option Nat} {h : am_H}
def am_h0 : am_H := (0, 0, fun _ => (0, 0), fun _ _ => 0, fun _ _ => 0, fun _ _ => none)
/-- what holds before the first call, as it can be looked up -/
def N0 (h : am_H) : Prop := (h.1 = 73 ∧ h.2.1 ≤ 100000) ∧ (∀ a, a < 73 → h.2.2.1 a = am_wt a) ∧ (∀ a, a < 73 → ∀ k, k < 44 → (am_wf a k).isSome = true → h.2.2.2.2.2 a k = am_wf a k) ∧
  (h.2.2.2.1 1 4 = 0 ∧ h.2.2.2.1 1 5 = 0 ∧ (∀ j, j < 3 → h.2.2.2.1 3 j = h.2.2.2.1 49 (1808 + j)) ∧ (∀ j, j < 8 → h.2.2.2.1 4 j = h.2.2.2.1 49 (1800 + j))) ∧
  (h.2.2.2.1 49 1811 = 0 ∧ h.2.2.2.1 49 1812 = 0 ∧ h.2.2.2.1 49 1808 = nI 100 ∧ h.2.2.2.1 49 1809 = 0 ∧ h.2.2.2.1 49 1810 = nI 15 ∧ ∀ f, f < 8 → h.2.2.2.1 49 (1800 + f) = 0) ∧
  ((∀ j, j < 7 → h.2.2.2.1 46 j = h.2.2.2.1 48 j) ∧ h.2.2.2.1 0 14 = h.2.2.2.1 47 0 ∧ h.2.2.2.1 9 10 = h.2.2.2.1 47 9 ∧ h.2.2.2.1 7 1 = 0 ∧ h.2.2.2.1 47 8 = 0) ∧
  (∀ j, j < 103 → h.2.2.2.1 52 j = wordsL.getD j 0) ∧ (h.2.2.2.1 41 3 = 0 ∧ h.2.2.2.1 47 38 = -1) ∧ (∀ j, j < 10 → h.2.2.2.2.2 5 j = none) ∧ ∀ k, k < 2 → h.2.2.2.1 51 k = 0 ∧ h.2.2.2.2.2 6 k = none
theorem wf_b : ∀ a k, (am_wf a k).isSome = true → a < 73 ∧ k < 44 := by
  intro a k h
  unfold am_wf at h
  split at h <;> first | (split at h <;> first | (exact ⟨by decide, by decide⟩) | cases h) | cases h
theorem N0_Inv {h : am_H} (q : N0 h) : Inv 0 h := by
  obtain ⟨n, sl, t, I, J, F⟩ := h
  obtain ⟨⟨q1, q2⟩, q3, q4, ⟨q5, q6, q7, q8⟩, ⟨q9, q10, q11, q12, q13, q14⟩, ⟨q15, q16, q17, q18, q19⟩, q20, ⟨q21, q22⟩, q23, q24⟩ := q
  dsimp only at *
  subst q1
  refine ⟨⟨fun a ha => ha, show 73 ≤ 1000000 by decide, q3, fun a k hk => q4 a (wf_b a k hk).1 k (wf_b a k hk).2 hk⟩, ⟨by dsimp only; omega, by dsimp only; omega, by omega⟩, ⟨0, 0, ⟨by decide, by decide, q9, q10, fun c hc => absurd hc (Nat.not_lt_zero c), ⟨100, by decide, q11⟩, ⟨0, by decide, q12⟩, ⟨15, by decide, by decide, q13⟩, fun f hf => ⟨0, by decide, q14 f hf⟩⟩, q5, q6, fun j hj => absurd hj (by omega), q7, q8⟩, ⟨q15, q16⟩, q17, ⟨0, by decide, q18, q19, fun j hj => absurd hj (Nat.not_lt_zero j)⟩, q20, Or.inl ⟨q21, q22⟩, fun _ => 0, ⟨fun j a hj e => ?_, fun j hj => ?_⟩, fun k hk => Or.inl (q24 k hk)⟩
  · dsimp only at e
    rw [q23 j hj] at e
    cases e
  · dsimp only at hj
    rw [q10] at hj
    exact absurd hj (Nat.not_lt_zero j)
end NW
