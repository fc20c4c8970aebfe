/-! the sums of a set, handed down bit by bit -/
section SD
noncomputable def sI (b : Nat) (v : Int32) (e s : Nat) : Int32 := @ite _ (sub8 b e s) (Classical.propDecidable _) v 0
theorem sI_t {b e s : Nat} {v : Int32} (h : s.testBit b = true) : sI (b + 1) v e s = sI b v e s := by
  unfold sI
  by_cases q : sub8 b e s
  · rw [if_pos q, if_pos ((sub8_t h).2 q)]
  · rw [if_neg q, if_neg (fun w => q ((sub8_t h).1 w))]
theorem sI_f {b e s : Nat} {v : Int32} (hb : b < 8) (h : s.testBit b = false) : sI (b + 1) v e s = sI b v e s + sI b v e (s ||| 2 ^ b) := by
  unfold sI
  cases he : e.testBit b
  · obtain ⟨a1, a2⟩ := sub8_g hb h he
    rw [if_neg a1]
    by_cases q : sub8 b e s
    · rw [if_pos q, if_pos (a2.2 q), Int32.add_zero]
    · rw [if_neg q, if_neg (fun w => q (a2.1 w)), Int32.add_zero]
  · obtain ⟨a1, a2⟩ := sub8_f hb h he
    rw [if_neg a1]
    by_cases q : sub8 b e (s ||| 2 ^ b)
    · rw [if_pos q, if_pos (a2.2 q), Int32.zero_add]
    · rw [if_neg q, if_neg (fun w => q (a2.1 w)), Int32.zero_add]
theorem smI_add {f g : Nat → Int32} : ∀ j, smI (fun i => f i + g i) j = smI f j + smI g j := by
  intro j
  induction j with
  | zero => simp only [smI, Int32.add_zero]
  | succ j ih => simp only [smI, ih]; ac_rfl
/-- the sum of v over the pairs whose set counts at s after b bits -/
noncomputable def bal (b : Nat) (v : Nat → Nat → Int32) (e : Nat → Nat → Nat) (A B s : Nat) : Int32 := smI (fun i => smI (fun k => sI b (v i k) (e i k) s) B) A
theorem bal_t {b A B s : Nat} {v : Nat → Nat → Int32} {e : Nat → Nat → Nat} (h : s.testBit b = true) : bal (b + 1) v e A B s = bal b v e A B s := by
  unfold bal
  exact smI_c _ (fun i _ => smI_c _ (fun k _ => sI_t h))
theorem bal_f {b A B s : Nat} {v : Nat → Nat → Int32} {e : Nat → Nat → Nat} (hb : b < 8) (h : s.testBit b = false) : bal (b + 1) v e A B s = bal b v e A B s + bal b v e A B (s ||| 2 ^ b) := by
  unfold bal
  rw [← smI_add]
  refine smI_c _ (fun i _ => ?_)
  rw [← smI_add]
  exact smI_c _ (fun k _ => sI_f hb h)
theorem sI_0 {e s : Nat} {v : Int32} (he : e < 256) (hs : s < 256) : sI 0 v e s = if e = s then v else 0 := by
  unfold sI
  by_cases q : e = s
  · rw [if_pos q, if_pos ((sub8_0 he hs).2 q)]
  · rw [if_neg q, if_neg (fun w => q ((sub8_0 he hs).1 w))]
theorem sI_8 {e s : Nat} {v : Int32} (hs : s < 256) : sI 8 v e s = if e &&& s = s then v else 0 := by
  unfold sI
  rw [Nat.and_comm e s]
  by_cases q : s &&& e = s
  · rw [if_pos q, if_pos ((sub8_8 hs).2 q)]
  · rw [if_neg q, if_neg (fun w => q ((sub8_8 hs).1 w))]
theorem bal_0 {A B s : Nat} {v : Nat → Nat → Int32} {e : Nat → Nat → Nat} (he : ∀ i k, e i k < 256) (hs : s < 256) : bal 0 v e A B s = smI (fun i => smI (fun k => if e i k = s then v i k else 0) B) A := by
  unfold bal
  exact smI_c _ (fun i _ => smI_c _ (fun k _ => sI_0 (he i k) hs))
theorem bal_8 {A B s : Nat} {v : Nat → Nat → Int32} {e : Nat → Nat → Nat} (hs : s < 256) : bal 8 v e A B s = smI (fun i => smI (fun k => if e i k &&& s = s then v i k else 0) B) A := by
  unfold bal
  exact smI_c _ (fun i _ => smI_c _ (fun k _ => sI_8 hs))
end SD
