/-! sets of facts handed down bit by bit: what holds after b bits -/
section SE
/-- e counts at s after the bits below b: alike from b on, s within e below -/
def sub8 (b e s : Nat) : Prop := ∀ i, i < 8 → (s.testBit i = true → e.testBit i = true) ∧ (b ≤ i → e.testBit i = true → s.testBit i = true)
theorem sub8_t {b e s : Nat} (h : s.testBit b = true) : sub8 (b + 1) e s ↔ sub8 b e s := by
  constructor
  · intro q i hi
    refine ⟨(q i hi).1, fun hb he => ?_⟩
    by_cases hib : i = b
    · subst hib; exact h
    · exact (q i hi).2 (by omega) he
  · intro q i hi
    exact ⟨(q i hi).1, fun hb he => (q i hi).2 (by omega) he⟩
theorem orb {b s i : Nat} : (s ||| 2 ^ b).testBit i = (s.testBit i || decide (b = i)) := by
  rw [Nat.testBit_or, Nat.testBit_two_pow]
theorem sub8_f {b e s : Nat} (hb : b < 8) (h : s.testBit b = false) (he : e.testBit b = true) : ¬ sub8 b e s ∧ (sub8 (b + 1) e s ↔ sub8 b e (s ||| 2 ^ b)) := by
  constructor
  · intro q
    have := (q b hb).2 (Nat.le_refl _) he
    rw [h] at this
    exact absurd this (by decide)
  · constructor
    · intro q i hi
      rw [orb]
      by_cases hib : b = i
      · subst hib
        exact ⟨fun _ => he, fun _ _ => by simp⟩
      · rw [decide_eq_false hib, Bool.or_false]
        exact ⟨(q i hi).1, fun h1 h2 => (q i hi).2 (by omega) h2⟩
    · intro q i hi
      have qi := q i hi
      rw [orb] at qi
      by_cases hib : b = i
      · subst hib
        exact ⟨fun _ => he, fun h1 _ => absurd h1 (by omega)⟩
      · rw [decide_eq_false hib, Bool.or_false] at qi
        exact ⟨qi.1, fun h1 h2 => qi.2 (by omega) h2⟩
theorem sub8_g {b e s : Nat} (hb : b < 8) (h : s.testBit b = false) (he : e.testBit b = false) : ¬ sub8 b e (s ||| 2 ^ b) ∧ (sub8 (b + 1) e s ↔ sub8 b e s) := by
  constructor
  · intro q
    have := (q b hb).1 (by rw [orb]; simp)
    rw [he] at this
    exact absurd this (by decide)
  · constructor
    · intro q i hi
      refine ⟨(q i hi).1, fun h1 h2 => ?_⟩
      by_cases hib : i = b
      · subst hib; rw [he] at h2; exact absurd h2 (by decide)
      · exact (q i hi).2 (by omega) h2
    · intro q i hi
      exact ⟨(q i hi).1, fun h1 h2 => (q i hi).2 (by omega) h2⟩
/-- before any bit: e itself -/
theorem sub8_0 {e s : Nat} (he : e < 256) (hs : s < 256) : sub8 0 e s ↔ e = s := by
  constructor
  · intro q
    apply Nat.eq_of_testBit_eq
    intro i
    by_cases hi : i < 8
    · have := q i hi
      cases h1 : e.testBit i <;> cases h2 : s.testBit i <;> simp_all
    · have h8 : 2 ^ 8 ≤ 2 ^ i := Nat.pow_le_pow_right (by decide) (by omega)
      rw [Nat.testBit_lt_two_pow (show e < 2 ^ i by omega), Nat.testBit_lt_two_pow (show s < 2 ^ i by omega)]
  · rintro rfl i hi
    exact ⟨id, fun _ => id⟩
/-- after all bits: s within e -/
theorem sub8_8 {e s : Nat} (hs : s < 256) : sub8 8 e s ↔ s &&& e = s := by
  constructor
  · intro q
    apply Nat.eq_of_testBit_eq
    intro i
    rw [Nat.testBit_and]
    by_cases hi : i < 8
    · have := q i hi
      cases h1 : e.testBit i <;> cases h2 : s.testBit i <;> simp_all
    · have h8 : 2 ^ 8 ≤ 2 ^ i := Nat.pow_le_pow_right (by decide) (by omega)
      rw [Nat.testBit_lt_two_pow (show s < 2 ^ i by omega), Bool.false_and]
  · intro q i hi
    refine ⟨fun h => ?_, fun h => absurd h (by omega)⟩
    rw [← q, Nat.testBit_and] at h
    simp only [Bool.and_eq_true] at h
    exact h.2
end SE
