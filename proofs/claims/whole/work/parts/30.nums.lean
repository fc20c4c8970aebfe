/-! rows on numbers that the methods' rules need -/
theorem ps_b01 (p : Prop) [Decidable p] : ((if p then (1 : Int32) else 0) = 0 ∨ (if p then (1 : Int32) else 0) = 1) = True := by
  by_cases h : p
  · rw [if_pos h]; simp
  · rw [if_neg h]; simp
theorem ps_e0 (p : Prop) [Decidable p] : ((if p then (1 : Int32) else 0) = 0) = ¬ p := by
  by_cases h : p
  · rw [if_pos h]; simp [h]
  · rw [if_neg h]; simp [h]
theorem ps_lit (n : Nat) : (OfNat.ofNat (n + 2) : Int32) = nI (n + 2) := rfl
theorem ps_ix {k N : Nat} (h : k < N) (hN : N ≤ 2000000) : (¬ (nI k < 0 ∨ N ≤ (nI k).toNatClampNeg)) = True := by
  have h1 := nI_clamp (n := k) (by omega)
  have h2 := nI_pos (n := k) (by omega)
  simp only [eq_iff_iff, iff_true]
  rw [h1]
  intro q
  rcases q with q | q
  · exact h2 q
  · omega
theorem ps_cl {k : Nat} (h : k < 2000000) : (nI k).toNatClampNeg = k := nI_clamp (by omega)
theorem ps_c0 : (0 : Int32).toNatClampNeg = 0 := rfl
theorem ps_c1 : (1 : Int32).toNatClampNeg = 1 := rfl
theorem ps_n01 : ((0 : Int32) = 0 ∨ (0 : Int32) = 1) = True := by simp
theorem ps_n11 : ((1 : Int32) = 0 ∨ (1 : Int32) = 1) = True := by simp
theorem ps_10 : ((1 : Int32) = 0) = False := by simp
theorem ps_neg {k : Nat} (h : k < 2000000) : (nI k < 0) = False := by
  have := nI_pos (n := k) (by omega)
  simp [this]
theorem pu_Ine {I : Nat → Nat → Int32} {a k b : Nat} {v : Int32} (h : b ≠ a) : am_uI I a k v b = I b := by unfold am_uI; rw [if_neg h]
theorem pu_Ieq {I : Nat → Nat → Int32} {a k : Nat} {v : Int32} : am_uI I a k v a = upd (I a) k v := by unfold am_uI; rw [if_pos rfl]
theorem pu_Jne {I : Nat → Nat → Int64} {a k b : Nat} {v : Int64} (h : b ≠ a) : am_uJ I a k v b = I b := by unfold am_uJ; rw [if_neg h]
theorem pu_Jeq {I : Nat → Nat → Int64} {a k : Nat} {v : Int64} : am_uJ I a k v a = vp_updL (I a) k v := by unfold am_uJ; rw [if_pos rfl]
theorem pu_Fne {I : Nat → Nat → Option Nat} {a k b : Nat} {v : Option Nat} (h : b ≠ a) : am_uF I a k v b = I b := by unfold am_uF; rw [if_neg h]
theorem pu_Feq {I : Nat → Nat → Option Nat} {a k : Nat} {v : Option Nat} : am_uF I a k v a = va_up (I a) k v := by unfold am_uF; rw [if_pos rfl]
theorem pu_ne {f : Nat → Int32} {k j : Nat} {x : Int32} (h : j ≠ k) : upd f k x j = f j := by unfold upd; rw [if_neg h]
theorem pu_eq {f : Nat → Int32} {k : Nat} {x : Int32} : upd f k x k = x := by unfold upd; rw [if_pos rfl]
theorem pu_rne {α : Type} {T : Nat → α} {a b : Nat} {f : α} (h : b ≠ a) : am_ro T a f b = T b := by unfold am_ro; rw [if_neg h]
theorem pu_req {α : Type} {T : Nat → α} {a : Nat} {f : α} : am_ro T a f a = f := by unfold am_ro; rw [if_pos rfl]
theorem ps_e1 (p : Prop) [Decidable p] : ((if p then (1 : Int32) else 0) = 1) = p := by
  by_cases h : p
  · rw [if_pos h]; simp [h]
  · rw [if_neg h]; simp [h]
theorem ps_em (p : Prop) : (¬ p ∨ p) = True := by simp [Classical.em, Or.comm]
theorem ps_z (x : Int32) : 0 + x = x := Int32.zero_add x
theorem ps_chT {k N : Nat} (h : k < N) (hN : N ≤ 2000) : (0 ≤ nI k ∧ nI k ≤ nI N - 1) = True := by
  obtain ⟨N', rfl⟩ : ∃ N', N = N' + 1 := ⟨N - 1, by omega⟩
  rw [nI_pred]
  simp only [eq_iff_iff, iff_true]
  exact ⟨nI_le (a := 0) (Nat.zero_le k) (by omega), nI_le (by omega) (by omega)⟩
theorem ps_chE {c : Int32} {N : Nat} (hN : N ≤ 2000) (h : 0 ≤ c ∧ c ≤ nI N - 1) : ∃ k, k < N ∧ c = nI k := by
  have h0 : ¬ c < 0 := Int32.not_lt.mpr h.1
  obtain ⟨k, hk, rfl⟩ := nI_of h0
  refine ⟨k, ?_, rfl⟩
  cases N with
  | zero =>
    exfalso
    have h2 := h.2
    have e : nI 0 - 1 = -1 := by decide
    rw [e] at h2
    have h3 := Int32.le_iff_toInt_le.mp h2
    rw [nI_toInt hk] at h3
    have e2 : (-1 : Int32).toInt = -1 := by decide
    rw [e2] at h3
    omega
  | succ N =>
    have h2 := h.2
    rw [nI_pred] at h2
    have := (nI_leI hk (by omega)).mp h2
    omega
theorem ps_rng {v : Int32} {M : Nat} (hM : M < 2000000) (h : 0 ≤ v ∧ v ≤ nI M) : ∃ j, j ≤ M ∧ v = nI j := by
  have h0 : ¬ v < 0 := Int32.not_lt.mpr h.1
  obtain ⟨k, hk, rfl⟩ := nI_of h0
  exact ⟨k, (nI_leI hk (by omega)).mp h.2, rfl⟩
theorem ps_rngT {j M : Nat} (h : j ≤ M) (hM : M < 2000000) : (0 ≤ nI j ∧ nI j ≤ nI M) = True := by
  simp only [eq_iff_iff, iff_true]
  exact ⟨nI_le (a := 0) (Nat.zero_le j) (by omega), nI_le h (by omega)⟩
theorem pu_uro {I : Nat → Nat → Int32} {a k : Nat} {f : Nat → Int32} {v : Int32} : am_uI (am_ro I a f) a k v = am_ro I a (upd f k v) := by
  funext b
  unfold am_uI am_ro
  by_cases h : b = a
  · simp [h]
  · simp [h]
theorem pu_roI {I : Nat → Nat → Int32} {a : Nat} : am_ro I a (I a) = I := by
  funext b
  unfold am_ro
  by_cases h : b = a
  · simp [h]
  · simp [h]
theorem pu_uI {I : Nat → Nat → Int32} {a k : Nat} {v : Int32} : am_uI I a k v = am_ro I a (upd (I a) k v) := rfl
theorem ps_01 : ((0 : Int32) = 1) = False := by simp
theorem ps_1n : ((1 : Int32) < 0) = False := by simp
theorem ps_0n : ((0 : Int32) < 0) = False := by simp
theorem ps_0le (k : Nat) (h : k < 2000000) : ((0 : Int32) ≤ nI k) = True := by
  simp only [eq_iff_iff, iff_true]
  exact nI_le (a := 0) (Nat.zero_le k) (by omega)
theorem ps_m10 : ((-1 : Int32) = 0) = False := by simp
theorem ps_m1n : ((-1 : Int32) < 0) = True := by simp
/-- a call refused for the reason j -/
def RFc (I : Nat → Nat → Int32) (j : Nat) : Nat → Nat → Int32 := am_uI (am_uI I 0 14 (-nI j)) 46 j (I 46 j + 1)
theorem RFc_n {I : Nat → Nat → Int32} {j a : Nat} (h0 : a ≠ 0) (h1 : a ≠ 46) : RFc I j a = I a := by
  unfold RFc
  rw [pu_Ine h1, pu_Ine h0]
