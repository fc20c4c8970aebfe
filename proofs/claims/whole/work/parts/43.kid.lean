/-! a child as both sides read it -/
section KI
variable {X : am_X} {d : Nat} {Q : Option Value → am_H → Prop} {n sl : Nat} {t : Nat → Nat × Nat} {I : Nat → Nat → Int32} {J : Nat → Nat → Int64} {F : Nat → Nat → Option Nat} {h : am_H}
variable {K : Nat → Int32} {N T : Nat} {lw : Nat → List CL}
def CK (n : Nat) (t : Nat → Nat × Nat) (F : Nat → Nat → Option Nat) (s : Int32) (r u k : Nat → Int32) (K : Nat → Int32) (N : Nat) : Prop := WS n t F ∧ (∃ T, KW K N T) ∧ s = nI N ∧ (∀ j, j < 15 * N → r j = K j) ∧ (∀ j, j < 3 → u j = K (1808 + j)) ∧ k = K
theorem CK_of (hC : CX n t I F K N T lw) : CK n t F (I 1 4) (I 2) (I 3) (I 49) K N := ⟨hC.1, ⟨T, hC.2.1⟩, hC.2.2.2.1.1, hC.2.2.2.1.2.2.1, hC.2.2.2.1.2.2.2.1, hC.2.2.1⟩
def thN (K : Nat → Int32) : Nat := (K 1809).toNatClampNeg
theorem thN_lt (h : KW K N T) : thN K < 4 ∧ K 1809 = nI (thN K) := by
  obtain ⟨v, hv, e⟩ := h.2.2.2.2.2.2.1
  unfold thN
  rw [e, nI_clamp (by omega)]
  exact ⟨hv, rfl⟩
def fTr (K : Nat → Int32) (c : Nat) : Bool := decide (K (15 * c + 10) < nI 2)
def fLo (K : Nat → Int32) (c : Nat) : Bool := decide (K (15 * c + 10) < nI 2 ∧ K 1808 ≤ K (15 * c + 9))
def fSh (K : Nat → Int32) (c : Nat) : Bool := decide (K (15 * c + 10) = 0 ∧ K (15 * c + 9) < K 1808)
def fTh (K : Nat → Int32) (c : Nat) : Int32 := K (15 * c + (11 + thN K))
def fFo (K : Nat → Int32) (c : Nat) : Bool := !decide (fTh K c = -1)
theorem how_tr {w : Nat} (hw : w ≤ 3) : (nI w = 0 ∨ nI w = 1) ↔ nI w < nI 2 := by
  rw [nI_ltI (by omega) (by decide)]
  have h0 : (nI w = 0) ↔ w = 0 := nI_eq (b := 0) (by omega) (by decide)
  have h1 : (nI w = 1) ↔ w = 1 := nI_eq (b := 1) (by omega) (by decide)
  rw [h0, h1]
  omega
theorem kid_how {c : Nat} (h : KW K N T) (hc : c < N) : ∃ w, w ≤ 3 ∧ K (15 * c + 10) = nI w := RW_lt (h.2.2.2.2.1 c hc) (f := 10) (by decide)
theorem kid_ten {c : Nat} (h : KW K N T) (hc : c < N) : ∃ w, w ≤ 200 ∧ K (15 * c + 9) = nI w := RW_lt (h.2.2.2.2.1 c hc) (f := 9) (by decide)
theorem kid_th {c : Nat} (h : KW K N T) (hc : c < N) : fTh K c = -1 ∨ ∃ w, w ≤ 999 ∧ fTh K c = nI w := by
  have h4 := (thN_lt h).1
  rcases h.2.2.2.2.1 c hc (11 + thN K) (by omega) with q | ⟨w, hw, e⟩
  · exact Or.inl q.2
  · exact Or.inr ⟨w, by have := fm_le (11 + thN K); omega, e⟩
theorem k_at {c f : Nat} (hC : CK n t F (I 1 4) (I 2) (I 3) (I 49) K N) (hc : c < N) (hf : f < 15) : am_W X d 17 0 [some (.ref 1), some (.int (nI c)), some (.int (nI f)), none] [] (n, sl, t, I, J, F) Q ↔ Q (some (.int (K (15 * c + f)))) (n, sl, t, I, J, F) := by
  obtain ⟨hW, ⟨T, hK⟩, hs, hr, hu, h49⟩ := hC
  rw [c_at hW hc hK.1 hs hf, hr _ (by omega)]
theorem k_isTried {c : Nat} (hC : CK n t F (I 1 4) (I 2) (I 3) (I 49) K N) (hc : c < N) : am_W X (d + 1) 28 0 [some (.ref 1), some (.int (nI c))] [] (n, sl, t, I, J, F) Q ↔ Q (some (.int (if fTr K c = true then 1 else 0))) (n, sl, t, I, J, F) := by
  obtain ⟨hW, ⟨T, hK⟩, hs, hr, hu, h49⟩ := hC
  rw [c_isTried hW hc hK.1 hs, hr _ (by omega)]
  obtain ⟨w, hw, e⟩ := kid_how hK hc
  unfold fTr
  rw [e]
  simp only [decide_eq_true_eq, how_tr hw]
theorem k_side {c : Nat} (hC : CK n t F (I 1 4) (I 2) (I 3) (I 49) K N) (hc : c < N) : am_W X (d + 2) 27 0 [some (.ref 1), some (.int (nI c))] [] (n, sl, t, I, J, F) Q ↔ Q (some (.int (if fLo K c = true then 1 else if fSh K c = true then nI 2 else 0))) (n, sl, t, I, J, F) := by
  obtain ⟨hW, ⟨T, hK⟩, hs, hr, hu, h49⟩ := hC
  rw [c_side hW hc hK.1 hs, hr _ (by omega), hr _ (by omega), hu 0 (by decide)]
  obtain ⟨w, hw, e⟩ := kid_how hK hc
  unfold fLo fSh
  rw [e]
  simp only [decide_eq_true_eq, how_tr hw, Nat.add_zero]
  by_cases h1 : nI w < nI 2
  · by_cases h2 : K 1808 ≤ K (15 * c + 9)
    · simp only [h1, h2, and_self, if_true]
    · simp only [h1, h2, and_false, if_true, if_false, Int32.not_le.mp h2, and_true]
  · have h3 : ¬ nI w = 0 := fun q => h1 ((how_tr hw).mp (Or.inl q))
    simp only [h1, h3, false_and, if_false]
theorem k_thing {c : Nat} (hC : CK n t F (I 1 4) (I 2) (I 3) (I 49) K N) (hc : c < N) : am_W X (d + 1) 77 0 [some (.ref 1), some (.int (nI c))] [] (n, sl, t, I, J, F) Q ↔ Q (some (.int (fTh K c))) (n, sl, t, I, J, F) := by
  obtain ⟨hW, ⟨T, hK⟩, hs, hr, hu, h49⟩ := hC
  obtain ⟨h4, h5⟩ := thN_lt hK
  rw [c_thing hW hc hK.1 hs h4 ((hu 1 (by decide)).trans h5), hr _ (by omega)]
  rfl
theorem k_isFound {c : Nat} (hC : CK n t F (I 1 4) (I 2) (I 3) (I 49) K N) (hc : c < N) : am_W X (d + 2) 76 0 [some (.ref 1), some (.int (nI c))] [] (n, sl, t, I, J, F) Q ↔ Q (some (.int (if fFo K c = true then 1 else 0))) (n, sl, t, I, J, F) := by
  obtain ⟨hW, ⟨T, hK⟩, hs, hr, hu, h49⟩ := hC
  obtain ⟨h4, h5⟩ := thN_lt hK
  rw [c_isFound hW hc hK.1 hs h4 ((hu 1 (by decide)).trans h5), hr _ (by omega)]
  unfold fFo fTh
  simp only [Bool.not_eq_true', decide_eq_false_iff_not]
theorem m_factOf {c f : Nat} (hC : CK n t F (I 1 4) (I 2) (I 3) (I 49) K N) (hc : c < N) (hf : f < 15) : am_W X d 184 0 [some (.ref 47), some (.int (nI c)), some (.int (nI f))] [] (n, sl, t, I, J, F) Q ↔ Q (some (.int (K (15 * c + f)))) (n, sl, t, I, J, F) := by
  obtain ⟨hW, ⟨T, hK⟩, hs, hr, hu, h49⟩ := hC
  have := hK.1
  rw [s_factOf hW (by omega), h49]
theorem m_isTried {c : Nat} (hC : CK n t F (I 1 4) (I 2) (I 3) (I 49) K N) (hc : c < N) : am_W X (d + 1) 186 0 [some (.ref 47), some (.int (nI c))] [] (n, sl, t, I, J, F) Q ↔ Q (some (.int (if fTr K c = true then 1 else 0))) (n, sl, t, I, J, F) := by
  obtain ⟨hW, ⟨T, hK⟩, hs, hr, hu, h49⟩ := hC
  have := hK.1
  rw [s_isTried hW (by omega), h49]
  unfold fTr
  simp only [decide_eq_true_eq]
  exact Iff.rfl
theorem m_took {c : Nat} (hC : CK n t F (I 1 4) (I 2) (I 3) (I 49) K N) (hc : c < N) : am_W X (d + 1) 190 0 [some (.ref 47), some (.int (nI c))] [] (n, sl, t, I, J, F) Q ↔ Q (some (.int (if K (15 * c + 10) = 0 then 1 else 0))) (n, sl, t, I, J, F) := by
  obtain ⟨hW, ⟨T, hK⟩, hs, hr, hu, h49⟩ := hC
  have := hK.1
  rw [s_took hW (by omega), h49]
theorem m_waited {c : Nat} (hC : CK n t F (I 1 4) (I 2) (I 3) (I 49) K N) (hc : c < N) : am_W X (d + 1) 187 0 [some (.ref 47), some (.int (nI c))] [] (n, sl, t, I, J, F) Q ↔ Q (some (.int (K (15 * c + 9)))) (n, sl, t, I, J, F) := by
  obtain ⟨hW, ⟨T, hK⟩, hs, hr, hu, h49⟩ := hC
  have := hK.1
  rw [s_waited hW (by omega), h49]
theorem m_isLong {c : Nat} (hC : CK n t F (I 1 4) (I 2) (I 3) (I 49) K N) (hc : c < N) : am_W X (d + 2) 185 0 [some (.ref 47), some (.int (nI c))] [] (n, sl, t, I, J, F) Q ↔ Q (some (.int (if fLo K c = true then 1 else 0))) (n, sl, t, I, J, F) := by
  obtain ⟨hW, ⟨T, hK⟩, hs, hr, hu, h49⟩ := hC
  have := hK.1
  rw [s_isLong hW (by omega), h49]
  unfold fLo
  simp only [decide_eq_true_eq]
theorem m_isShort {c : Nat} (hC : CK n t F (I 1 4) (I 2) (I 3) (I 49) K N) (hc : c < N) : am_W X (d + 2) 189 0 [some (.ref 47), some (.int (nI c))] [] (n, sl, t, I, J, F) Q ↔ Q (some (.int (if fSh K c = true then 1 else 0))) (n, sl, t, I, J, F) := by
  obtain ⟨hW, ⟨T, hK⟩, hs, hr, hu, h49⟩ := hC
  have := hK.1
  rw [s_isShort hW (by omega), h49]
  unfold fSh
  simp only [decide_eq_true_eq]
theorem m_thingOf {c : Nat} (hC : CK n t F (I 1 4) (I 2) (I 3) (I 49) K N) (hc : c < N) : am_W X (d + 1) 233 0 [some (.ref 47), some (.int (nI c))] [] (n, sl, t, I, J, F) Q ↔ Q (some (.int (fTh K c))) (n, sl, t, I, J, F) := by
  obtain ⟨hW, ⟨T, hK⟩, hs, hr, hu, h49⟩ := hC
  obtain ⟨h4, h5⟩ := thN_lt hK
  have := hK.1
  rw [s_thingOf hW (by omega) h4 (by rw [h49]; exact h5), h49]
  rfl
theorem m_isFound {c : Nat} (hC : CK n t F (I 1 4) (I 2) (I 3) (I 49) K N) (hc : c < N) : am_W X (d + 2) 232 0 [some (.ref 47), some (.int (nI c))] [] (n, sl, t, I, J, F) Q ↔ Q (some (.int (if fFo K c = true then 1 else 0))) (n, sl, t, I, J, F) := by
  obtain ⟨hW, ⟨T, hK⟩, hs, hr, hu, h49⟩ := hC
  obtain ⟨h4, h5⟩ := thN_lt hK
  have := hK.1
  rw [s_isFound hW (by omega) h4 (by rw [h49]; exact h5), h49]
  unfold fFo fTh
  simp only [Bool.not_eq_true', decide_eq_false_iff_not]
theorem m_many (hC : CK n t F (I 1 4) (I 2) (I 3) (I 49) K N) : am_W X d 173 0 [some (.ref 47)] [] (n, sl, t, I, J, F) Q ↔ Q (some (.int (nI N))) (n, sl, t, I, J, F) := by
  obtain ⟨hW, ⟨T, hK⟩, hs, hr, hu, h49⟩ := hC
  rw [s_many hW, h49, hK.2.2.1]
theorem b01 (b : Bool) : ((if b = true then (1 : Int32) else 0) = 0) = (b = false) := by cases b <;> simp
theorem b11 (b : Bool) : ((if b = true then (1 : Int32) else 0) = 1) = (b = true) := by cases b <;> simp
theorem CK_N (hC : CK n t F (I 1 4) (I 2) (I 3) (I 49) K N) : N ≤ 120 := by
  obtain ⟨_, ⟨T, hK⟩, _⟩ := hC
  exact hK.1
/-- a group that lies here -/
def GH (s : Int32) (f : Nat → Int32) (l : List Nat) (N : Nat) : Prop := s = nI l.length ∧ l.length ≤ 120 ∧ ∀ k, k < l.length → f k = nI (l.getD k 0) ∧ l.getD k 0 < N
theorem GH_g {p : Nat → Bool} {f : Nat → Int32} (hN : N ≤ 120) : GH (nI (grp p N).length) (ro_g f (grp p N)) (grp p N) N := ⟨rfl, by have := grp_le p N; omega, fun k hk => ⟨ro_gk hk, grp_at hk⟩⟩
end KI
