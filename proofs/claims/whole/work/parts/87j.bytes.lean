/-! TEXTS: bytes and tokens -/
section BY
set_option maxRecDepth 20000 in
theorem by_all : ∀ k, k < 256 → (Int8.ofNat k).toInt32 &&& 255 = nI k ∧ (k < 128 → (Int8.ofNat k).toInt32 = nI k) ∧ (128 ≤ k → (Int8.ofNat k).toInt32 < 0) := by
  decide
theorem by_u {x : Int32} (h : x.toInt8.toInt32 = x) : ∃ v, v < 256 ∧ x &&& 255 = nI v ∧ (v < 128 → x = nI v) ∧ (128 ≤ v → x < 0) := by
  have e : x.toInt8 = Int8.ofNat x.toInt8.toBitVec.toNat := by
    show x.toInt8 = Int8.ofBitVec (BitVec.ofNat 8 x.toInt8.toBitVec.toNat)
    rw [BitVec.ofNat_toNat, BitVec.setWidth_eq]
    rfl
  have hk : x.toInt8.toBitVec.toNat < 256 := x.toInt8.toBitVec.isLt
  have := by_all _ hk
  rw [← e, h] at this
  exact ⟨_, hk, this⟩
variable (u : Nat → Nat) (m : Nat)
/-- the kind of a byte: 0 none, 1 a letter, 2 a digit, 3 a sign -/
def kdB (j : Nat) : Nat := if m ≤ j then 0 else if 97 ≤ u j ∧ u j ≤ 122 then 1 else if 48 ≤ u j ∧ u j ≤ 57 then 2 else 3
/-- behind spaces -/
def skF : Nat → Nat → Nat
  | 0, j => j
  | g + 1, j => if j < m ∧ u j = 32 then skF g (j + 1) else j
/-- behind a run of one kind -/
def rnF (k : Nat) : Nat → Nat → Nat
  | 0, j => j
  | g + 1, j => if kdB u m j = k then rnF k g (j + 1) else j
/-- the number up to there: the class's, the reference's -/
def vcF : Nat → Nat → Nat → Nat
  | 0, _, v => v
  | g + 1, j, v => if kdB u m j = 2 then vcF g (j + 1) (min (10 * v + u j - 48) 1001) else v
def vrF : Nat → Nat → Nat → Nat
  | 0, _, v => v
  | g + 1, j, v => if kdB u m j = 2 then vrF g (j + 1) (if 1000000 < v then v else 10 * v + u j - 48) else v
def enB (p : Nat) : Nat := if kdB u m p = 0 then p else if kdB u m p = 3 then p + 1 else rnF u m (kdB u m p) 400 p
def vcB (p : Nat) : Nat := if kdB u m p = 2 then vcF u m 400 p 0 else 0
def vrB (p : Nat) : Nat := if kdB u m p = 2 then vrF u m 400 p 0 else 0
/-- where the tokens lie -/
def plB : Nat → Nat
  | 0 => skF u m 400 0
  | i + 1 => skF u m 400 (enB u m (plB i))
variable {u m}
theorem kdB_le {j : Nat} : kdB u m j ≤ 3 := by
  unfold kdB
  split
  · omega
  · split
    · omega
    · split <;> omega
theorem kdB_0 {j : Nat} : kdB u m j = 0 ↔ m ≤ j := by
  unfold kdB
  split
  · exact ⟨fun _ => by assumption, fun _ => rfl⟩
  · split
    · exact ⟨fun h => by omega, fun h => by omega⟩
    · split <;> exact ⟨fun h => by omega, fun h => by omega⟩
theorem kdB_2 {j : Nat} : kdB u m j = 2 → j < m ∧ 48 ≤ u j ∧ u j ≤ 57 := by
  unfold kdB
  split
  · intro h; omega
  · split
    · intro h; omega
    · split
      · intro _; omega
      · intro h; omega
theorem skF_b : ∀ g j, j ≤ skF u m g j ∧ (j ≤ m → skF u m g j ≤ m) := by
  intro g
  induction g with
  | zero => intro j; exact ⟨Nat.le_refl _, fun h => h⟩
  | succ g ih =>
    intro j
    rw [skF]
    by_cases c : j < m ∧ u j = 32
    · rw [if_pos c]
      obtain ⟨h1, h2⟩ := ih (j + 1)
      exact ⟨by omega, fun h => h2 (by omega)⟩
    · rw [if_neg c]
      exact ⟨Nat.le_refl _, fun h => h⟩
theorem skF_n : ∀ g j, m < j + g + 1 → ¬ (skF u m g j < m ∧ u (skF u m g j) = 32) := by
  intro g
  induction g with
  | zero => intro j h; rw [skF]; omega
  | succ g ih =>
    intro j h
    rw [skF]
    by_cases c : j < m ∧ u j = 32
    · rw [if_pos c]
      exact ih (j + 1) (by omega)
    · rw [if_neg c]
      exact c
theorem rnF_b {k : Nat} (hk : k ≠ 0) : ∀ g j, j ≤ rnF u m k g j ∧ (j ≤ m → rnF u m k g j ≤ m) := by
  intro g
  induction g with
  | zero => intro j; exact ⟨Nat.le_refl _, fun h => h⟩
  | succ g ih =>
    intro j
    rw [rnF]
    by_cases c : kdB u m j = k
    · rw [if_pos c]
      obtain ⟨h1, h2⟩ := ih (j + 1)
      have : ¬ m ≤ j := fun h => hk (by rw [← c]; exact kdB_0.2 h)
      exact ⟨by omega, fun h => h2 (by omega)⟩
    · rw [if_neg c]
      exact ⟨Nat.le_refl _, fun h => h⟩
theorem enB_b {p : Nat} (hp : p ≤ m) : enB u m p ≤ m ∧ (p < m → p < enB u m p) ∧ (p = m → enB u m p = m) := by
  have h3 := kdB_le (u := u) (m := m) (j := p)
  unfold enB
  by_cases c0 : kdB u m p = 0
  · have := kdB_0.1 c0
    rw [if_pos c0]
    exact ⟨hp, fun h => by omega, fun h => h⟩
  · have c0' : ¬ m ≤ p := fun h => c0 (kdB_0.2 h)
    rw [if_neg c0]
    by_cases c3 : kdB u m p = 3
    · rw [if_pos c3]
      exact ⟨by omega, fun h => by omega, fun h => by omega⟩
    · rw [if_neg c3]
      have h1 := (rnF_b (u := u) (m := m) c0 400 p).2 hp
      refine ⟨h1, fun _ => ?_, fun h => by omega⟩
      rw [rnF, if_pos rfl]
      have := (rnF_b (u := u) (m := m) c0 399 (p + 1)).1
      omega
theorem plB_le : ∀ i, plB u m i ≤ m := by
  intro i
  induction i with
  | zero => exact (skF_b 400 0).2 (Nat.zero_le _)
  | succ i ih => exact (skF_b 400 _).2 (enB_b ih).1
theorem plB_s {i : Nat} (h : plB u m i < m) : plB u m i < plB u m (i + 1) := by
  have h1 := (enB_b (u := u) (plB_le i)).2.1 h
  have h2 := (skF_b (u := u) (m := m) 400 (enB u m (plB u m i))).1
  rw [plB]
  omega
theorem plB_n (hm : m ≤ 400) (i : Nat) : ¬ (plB u m i < m ∧ u (plB u m i) = 32) := by
  cases i with
  | zero => exact skF_n 400 0 (by omega)
  | succ i => exact skF_n 400 _ (by omega)
/-- how many tokens -/
theorem ntB : ∃ N, N ≤ m ∧ plB u m N = m ∧ ∀ i, i < N → plB u m i < m := by
  have key : ∀ k, (∃ N, N < k ∧ plB u m N = m ∧ ∀ i, i < N → plB u m i < m) ∨ (∀ i, i < k → plB u m i < m ∧ i ≤ plB u m i) := by
    intro k
    induction k with
    | zero => exact Or.inr (fun i h => absurd h (Nat.not_lt_zero _))
    | succ k ih =>
      rcases ih with ⟨N, h1, h2, h3⟩ | h
      · exact Or.inl ⟨N, by omega, h2, h3⟩
      · by_cases c : plB u m k = m
        · exact Or.inl ⟨k, by omega, c, fun i hi => (h i hi).1⟩
        · have := plB_le (u := u) (m := m) k
          refine Or.inr (fun i hi => ?_)
          by_cases c2 : i < k
          · exact h i c2
          · have ei : i = k := by omega
            subst ei
            refine ⟨by omega, ?_⟩
            cases i with
            | zero => exact Nat.zero_le _
            | succ i =>
              have h1 := h i (by omega)
              have h2 := plB_s h1.1
              omega
  rcases key (m + 1) with ⟨N, h1, h2, h3⟩ | h
  · exact ⟨N, by omega, h2, h3⟩
  · have := h m (by omega)
    omega
/-- the two numbers -/
theorem vcr : ∀ g j v, v < 20000000 → (vrF u m g j v < 20000000) ∧ vcF u m g j (min v 1001) = min (vrF u m g j v) 1001 := by
  intro g
  induction g with
  | zero => intro j v hv; exact ⟨hv, rfl⟩
  | succ g ih =>
    intro j v hv
    rw [vcF, vrF]
    by_cases c : kdB u m j = 2
    · have := kdB_2 c
      rw [if_pos c, if_pos c]
      by_cases c2 : 1000000 < v
      · rw [if_pos c2]
        have e : min (10 * min v 1001 + u j - 48) 1001 = min v 1001 := by omega
        rw [e]
        exact ih (j + 1) v hv
      · rw [if_neg c2]
        have e : min (10 * min v 1001 + u j - 48) 1001 = min (10 * v + u j - 48) 1001 := by omega
        rw [e]
        exact ih (j + 1) _ (by omega)
    · rw [if_neg c, if_neg c]
      exact ⟨hv, rfl⟩
theorem vcB_r {p : Nat} : vrB u m p < 20000000 ∧ vcB u m p = min (vrB u m p) 1001 := by
  unfold vcB vrB
  by_cases c : kdB u m p = 2
  · rw [if_pos c, if_pos c]
    exact vcr 400 p 0 (by omega)
  · rw [if_neg c, if_neg c]
    exact ⟨by omega, rfl⟩
/-- the words, in the order of their codes -/
def wdsL : List (List Nat) := [[99, 104, 97, 110, 99, 101], [119, 97, 105, 116, 115], [108, 97, 116, 101, 114], [105, 110], [105, 102], [111, 114], [97, 110, 100], [110, 111, 116], [104, 111, 117, 115, 101], [119, 105, 116], [108, 105, 107, 101, 115], [104, 117, 110, 103, 114, 121], [110, 117, 114, 115, 101, 114, 121], [119, 97, 121], [107, 101, 112, 116], [98, 114, 111, 107, 101, 110], [100, 101, 97, 108, 116], [109, 105, 110, 117, 116, 101], [119, 97, 105, 116, 101, 100]]
def wcB (l : List Nat) : Nat := if wdsL.idxOf l < 19 then wdsL.idxOf l + 1 else 0
def blB (u : Nat → Nat) (p e : Nat) : List Nat := (List.range (e - p)).map (fun j => u (p + j))
theorem wcB_le {l : List Nat} : wcB l ≤ 19 := by
  unfold wcB
  split <;> omega
theorem wcB_i {l : List Nat} {c : Nat} (hc : c < 19) : wcB l = c + 1 ↔ l = wdsL.getD c [] := by
  constructor
  · intro h
    unfold wcB at h
    split at h
    · have e : wdsL.idxOf l = c := by omega
      have hl : wdsL.idxOf l < wdsL.length := by rw [e]; exact hc
      have := List.getElem_idxOf hl
      rw [List.getD_eq_getElem?_getD, List.getElem?_eq_getElem (show c < wdsL.length from hc), Option.getD_some]
      simp only [e] at this
      exact this.symm
    · omega
  · intro h
    subst h
    have : ∀ c, c < 19 → wcB (wdsL.getD c []) = c + 1 := by decide
    exact this c hc
end BY
