/-! TEXTS: the class's tokens -/
section CJ
variable {X : am_X} {d : Nat} {Q : Option Value → am_H → Prop} {n sl : Nat} {t : Nat → Nat × Nat} {I : Nat → Nat → Int32} {J : Nat → Nat → Int64} {F : Nat → Nat → Option Nat} {h : am_H}
variable {u : Nat → Nat} {m : Nat}
def tkB (u : Nat → Nat) (m i : Nat) : Nat := if kdB u m (plB u m i) = 0 then 0 else if kdB u m (plB u m i) = 1 then wcB (blB u (plB u m i) (enB u m (plB u m i))) else if kdB u m (plB u m i) = 2 then 50 else 100 + u (plB u m i)
def ktB (u : Nat → Nat) (m i : Nat) : Nat := kdB u m (plB u m i)
def eB (u : Nat → Nat) (m i : Nat) : Nat := enB u m (plB u m i)
def nmB (u : Nat → Nat) (m i : Nat) : Nat := vcB u m (plB u m i)
def tvB (u : Nat → Nat) (m i : Nat) : Nat := vrB u m (plB u m i)
theorem cR_g {kT pl en nm : Nat → Nat} {i j sc q cc : Nat} {S C : Nat → Int32} : gQ (cR I kT pl en nm i sc q cc S C) (kT j) (pl j) (en j) (nm j) = cR I kT pl en nm j sc q cc S C := by
  funext s
  by_cases h : s = 9
  · subst h
    funext k
    show g9 (q9 (I 9) kT pl en nm i sc q cc) (kT j) (pl j) (en j) (nm j) k = q9 (I 9) kT pl en nm j sc q cc k
    unfold g9 q9 upd
    by_cases h1 : k = 9
    · simp [h1]
    · by_cases h2 : k = 8
      · simp [h2]
      · by_cases h3 : k = 7
        · simp [h3]
        · by_cases h4 : k = 6
          · simp [h4]
          · simp [h1, h2, h3, h4]
  · rw [gQ_n h]
    unfold cR
    by_cases h3 : s = 11
    · subst h3; rfl
    · rw [pu_rne h3, pu_rne h3]
      by_cases h2 : s = 10
      · subst h2; rfl
      · rw [pu_rne h2, pu_rne h2, pu_rne h, pu_rne h]
theorem TPB_c {kT pl en nm : Nat → Nat} {i sc q cc : Nat} {S C : Nat → Int32} (h : TPB I u m) : TPB (cR I kT pl en nm i sc q cc S C) u m := by
  unfold TPB
  rw [cR_n (by decide) (by decide) (by decide), cR_n (by decide) (by decide) (by decide)]
  exact h
theorem c_tok {N : Nat} (hW : WS n t F) (hT : TPB I u m) (hN : N ≤ m) (hN1 : plB u m N = m) (hN2 : ∀ i, i < N → plB u m i < m) : TKC X n sl t I J F (tkB u m) (tvB u m) (plB u m) (ktB u m) (eB u m) (nmB u m) N := by
  obtain ⟨h1, h2, h3⟩ := id hT
  have hpl := plB_le (u := u) (m := m)
  have k0 : ∀ i, i ≤ N → (kdB u m (plB u m i) = 0 ↔ i = N) := by
    intro i hi
    rw [kdB_0]
    constructor
    · intro h
      by_cases c : i < N
      · have := hN2 i c
        omega
      · omega
    · intro h
      rw [h, hN1]
      exact Nat.le_refl _
  have hu : ∀ i, ¬ kdB u m (plB u m i) = 0 → u (plB u m i) < 256 := fun i h => (h3 _ (by
    have := hpl i
    by_cases c : m ≤ plB u m i
    · exact absurd (kdB_0.2 c) h
    · omega)).2
  have hen : ∀ i, plB u m i ≤ eB u m i ∧ eB u m i ≤ m := fun i => by
    have := enB_b (u := u) (hpl i)
    unfold eB
    by_cases c : plB u m i < m
    · have := this.2.1 c
      omega
    · have := hpl i
      omega
  refine ⟨hW, ⟨by omega, ?_⟩, fun i hi => ?_, ?_, ?_, ?_⟩
  · unfold tkB
    rw [if_pos ((k0 N (Nat.le_refl _)).2 rfl)]
  · have hk := kdB_le (u := u) (m := m) (j := plB u m i)
    have hw := wcB_le (l := blB u (plB u m i) (enB u m (plB u m i)))
    have hv := vcB_r (u := u) (m := m) (p := plB u m i)
    have hu' := hu i
    have hp := hpl i
    unfold ktB tkB nmB tvB
    refine ⟨?_, k0 i hi, ?_, hk, fun h => by omega, fun h => by omega, by omega, ?_⟩
    · split
      · omega
      · split
        · omega
        · split <;> omega
    · split
      · omega
      · split
        · intros; assumption
        · split <;> omega
    · split
      · omega
      · split
        · omega
        · split
          · omega
          · have := hu' (by assumption)
            omega
  · intro d Q i sc q cc S C hi
    have hb := hen i
    have := c_goB (X := X) (d := d) (Q := Q) (sl := sl) (J := J) (a := ktB u m i) (b := plB u m i) (c := eB u m i) (v := nmB u m i) hW (TPB_c (kT := ktB u m) (pl := plB u m) (en := eB u m) (nm := nmB u m) (i := i) (sc := sc) (q := q) (cc := cc) (S := S) (C := C) hT) (by omega)
    rw [cR_g] at this
    have e : gQ (cR I (ktB u m) (plB u m) (eB u m) (nmB u m) i sc q cc S C) (kdB u m (skF u m 400 (eB u m i))) (skF u m 400 (eB u m i)) (enB u m (skF u m 400 (eB u m i))) (vcB u m (skF u m 400 (eB u m i))) = cR I (ktB u m) (plB u m) (eB u m) (nmB u m) (i + 1) sc q cc S C := cR_g (j := i + 1)
    rw [e] at this
    exact this
  · intro d Q i sc q cc S C s hi hs
    have hp := hpl i
    have := c_signB (X := X) (d := d) (Q := Q) (sl := sl) (J := J) (b := plB u m i) (c := eB u m i) (v := nmB u m i) (s := s) hW (TPB_c (kT := ktB u m) (pl := plB u m) (en := eB u m) (nm := nmB u m) (i := i) (sc := sc) (q := q) (cc := cc) (S := S) (C := C) hT) (by omega) hs
    have e0 : kdB u m (plB u m i) = ktB u m i := rfl
    have e1 : (kdB u m (plB u m i) = 3 ∧ u (plB u m i) = s) = (tkB u m i = 100 + s) := by
      have hk := kdB_le (u := u) (m := m) (j := plB u m i)
      have hw := wcB_le (l := blB u (plB u m i) (enB u m (plB u m i)))
      apply propext
      unfold tkB
      split
      · omega
      · split
        · omega
        · split <;> omega
    simp only [e1] at this
    rw [e0, cR_g] at this
    exact this
  · intro d Q i sc q cc S C k hi hk
    have hp := hpl i
    have hb := hen i
    obtain ⟨x1, x2, x3, x4, x5⟩ := tx_w k hk
    have := c_wordB (X := X) (d := d) (Q := Q) (sl := sl) (J := J) (b := plB u m i) (c := eB u m i) (v := nmB u m i) (k := k) hW (TPB_c (kT := ktB u m) (pl := plB u m) (en := eB u m) (nm := nmB u m) (i := i) (sc := sc) (q := q) (cc := cc) (S := S) (C := C) hT) hk hb.1 hb.2
    have e0 : kdB u m (plB u m i) = ktB u m i := rfl
    have e1 : (kdB u m (plB u m i) = 1 ∧ blB u (plB u m i) (eB u m i) = am_tx k) = (tkB u m i = tcd k) := by
      have hwi := wcB_i (l := blB u (plB u m i) (enB u m (plB u m i))) (c := tcd k - 1) (by omega)
      have ec : tcd k - 1 + 1 = tcd k := by omega
      rw [ec, ← x1] at hwi
      apply propext
      unfold tkB
      split
      · omega
      · split
        · rw [hwi]
          exact ⟨fun h => h.2, fun h => ⟨by assumption, h⟩⟩
        · split <;> omega
    simp only [e1] at this
    rw [e0, cR_g] at this
    exact this
end CJ
