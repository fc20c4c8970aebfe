/-! rows on numbers that the methods' rules need -/
theorem ps_b01 (p : Prop) [Decidable p] : ((if p then (1 : Int32) else 0) = 0 ∨ (if p then (1 : Int32) else 0) = 1) = True := by
  by_cases h : p
  · rw [if_pos h]; simp
  · rw [if_neg h]; simp
theorem ps_e0 (p : Prop) [Decidable p] : ((if p then (1 : Int32) else 0) = 0) = ¬ p := by
  by_cases h : p
  · rw [if_pos h]; simp [h]
  · rw [if_neg h]; simp [h]
theorem ps_lit (n : Nat) : (OfNat.ofNat (n + 2) : Int32) = nI (n + 2) := rfl
theorem ps_ix {k N : Nat} (h : k < N) (hN : N ≤ 2000000) : (¬ (nI k < 0 ∨ N ≤ (nI k).toNatClampNeg)) = True := by
  have h1 := nI_clamp (n := k) (by omega)
  have h2 := nI_pos (n := k) (by omega)
  simp only [eq_iff_iff, iff_true]
  rw [h1]
  intro q
  rcases q with q | q
  · exact h2 q
  · omega
theorem ps_cl {k : Nat} (h : k < 2000000) : (nI k).toNatClampNeg = k := nI_clamp (by omega)
theorem ps_c0 : (0 : Int32).toNatClampNeg = 0 := rfl
theorem ps_c1 : (1 : Int32).toNatClampNeg = 1 := rfl
theorem ps_n01 : ((0 : Int32) = 0 ∨ (0 : Int32) = 1) = True := by simp
theorem ps_n11 : ((1 : Int32) = 0 ∨ (1 : Int32) = 1) = True := by simp
theorem ps_10 : ((1 : Int32) = 0) = False := by simp
theorem ps_neg {k : Nat} (h : k < 2000000) : (nI k < 0) = False := by
  have := nI_pos (n := k) (by omega)
  simp [this]
theorem pu_Ine {I : Nat → Nat → Int32} {a k b : Nat} {v : Int32} (h : b ≠ a) : am_uI I a k v b = I b := by unfold am_uI; rw [if_neg h]
theorem pu_Ieq {I : Nat → Nat → Int32} {a k : Nat} {v : Int32} : am_uI I a k v a = upd (I a) k v := by unfold am_uI; rw [if_pos rfl]
theorem pu_Jne {I : Nat → Nat → Int64} {a k b : Nat} {v : Int64} (h : b ≠ a) : am_uJ I a k v b = I b := by unfold am_uJ; rw [if_neg h]
theorem pu_Jeq {I : Nat → Nat → Int64} {a k : Nat} {v : Int64} : am_uJ I a k v a = vp_updL (I a) k v := by unfold am_uJ; rw [if_pos rfl]
theorem pu_Fne {I : Nat → Nat → Option Nat} {a k b : Nat} {v : Option Nat} (h : b ≠ a) : am_uF I a k v b = I b := by unfold am_uF; rw [if_neg h]
theorem pu_Feq {I : Nat → Nat → Option Nat} {a k : Nat} {v : Option Nat} : am_uF I a k v a = va_up (I a) k v := by unfold am_uF; rw [if_pos rfl]
theorem pu_ne {f : Nat → Int32} {k j : Nat} {x : Int32} (h : j ≠ k) : upd f k x j = f j := by unfold upd; rw [if_neg h]
theorem pu_eq {f : Nat → Int32} {k : Nat} {x : Int32} : upd f k x k = x := by unfold upd; rw [if_pos rfl]
theorem pu_rne {α : Type} {T : Nat → α} {a b : Nat} {f : α} (h : b ≠ a) : am_ro T a f b = T b := by unfold am_ro; rw [if_neg h]
theorem pu_req {α : Type} {T : Nat → α} {a : Nat} {f : α} : am_ro T a f a = f := by unfold am_ro; rw [if_pos rfl]
theorem ps_e1 (p : Prop) [Decidable p] : ((if p then (1 : Int32) else 0) = 1) = p := by
  by_cases h : p
  · rw [if_pos h]; simp [h]
  · rw [if_neg h]; simp [h]
theorem ps_em (p : Prop) : (¬ p ∨ p) = True := by simp [Classical.em, Or.comm]
theorem ps_z (x : Int32) : 0 + x = x := Int32.zero_add x
