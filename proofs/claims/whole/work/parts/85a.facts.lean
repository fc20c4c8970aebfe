/-! products by factors -/
section FP
/-- the product of all factors below k, as often as they come -/
def fp (c : Nat → Nat) : Nat → Nat
  | 0 => 1
  | k + 1 => fp c k * k ^ c k
theorem fp_c {c c' : Nat → Nat} : ∀ k, (∀ i, i < k → c i = c' i) → fp c k = fp c' k := by
  intro k
  induction k with
  | zero => intro _; rfl
  | succ k ih =>
    intro h
    rw [fp, fp, ih (fun i hi => h i (by omega)), h k (by omega)]
theorem fp_z : ∀ k, fp (fun _ => 0) k = 1 := by
  intro k
  induction k with
  | zero => rfl
  | succ k ih => rw [fp, ih, Nat.pow_zero]
theorem fp_add {c : Nat → Nat} {x : Nat} : ∀ k, fp (fun f => c f + (if x = f then 1 else 0)) k = fp c k * (if x < k then x else 1) := by
  intro k
  induction k with
  | zero => rw [if_neg (by omega)]; rfl
  | succ k ih =>
    rw [fp, fp, ih]
    by_cases h : x = k
    · subst h
      rw [if_neg (by omega), if_pos rfl, if_pos (by omega), Nat.pow_succ, Nat.mul_one, Nat.mul_assoc]
    · rw [if_neg h, Nat.add_zero]
      by_cases h2 : x < k
      · rw [if_pos h2, if_pos (by omega), Nat.mul_right_comm]
      · rw [if_neg h2, if_neg (by omega), Nat.mul_one, Nat.mul_one]
theorem fp_a {c : Nat → Nat} {x : Nat} (h : x < 100) : fp (fun f => c f + (if x = f then 1 else 0)) 100 = fp c 100 * x := by
  rw [fp_add, if_pos h]
def fpd (h t : Nat → Nat) : Nat → Nat := fp (fun f => h f - t f)
def fpm (h t : Nat → Nat) : Nat → Nat := fp (fun f => min (h f) (t f))
theorem fp_sp {h t : Nat → Nat} : ∀ k, fp h k = fpd h t k * fpm h t k := by
  intro k
  unfold fpd fpm
  induction k with
  | zero => rfl
  | succ k ih =>
    rw [fp, fp, fp, ih]
    have e : h k = (h k - t k) + min (h k) (t k) := by omega
    have e2 : k ^ h k = k ^ (h k - t k) * k ^ min (h k) (t k) := by rw [← Nat.pow_add, ← e]
    rw [e2]
    ac_rfl
theorem fpm_comm {h t : Nat → Nat} {k : Nat} : fpm h t k = fpm t h k := fp_c k (fun i _ => by rw [Nat.min_comm])
theorem fp_pos {c : Nat → Nat} (h0 : c 0 = 0) : ∀ k, 0 < fp c k := by
  intro k
  induction k with
  | zero => exact Nat.one_pos
  | succ k ih =>
    rw [fp]
    by_cases h : k = 0
    · subst h
      rw [h0, Nat.pow_zero, Nat.mul_one]
      exact ih
    · exact Nat.mul_pos ih (Nat.pow_pos (by omega))
theorem fp_div {h t : Nat → Nat} (h0 : h 0 = 0) (t0 : t 0 = 0) : fp h 100 / fp t 100 = fpd h t 100 / fpd t h 100 := by
  rw [fp_sp (h := h) (t := t), fp_sp (h := t) (t := h), fpm_comm (h := t) (t := h)]
  refine Nat.mul_div_mul_right _ _ (fp_pos ?_ 100)
  rw [h0, t0]
  rfl
theorem fp_lt {h t : Nat → Nat} (h0 : h 0 = 0) (t0 : t 0 = 0) : (fp h 100 < fp t 100) ↔ (fpd h t 100 < fpd t h 100) := by
  rw [fp_sp (h := h) (t := t), fp_sp (h := t) (t := h), fpm_comm (h := t) (t := h)]
  have : 0 < fpm h t 100 := fp_pos (by rw [h0, t0]; rfl) 100
  exact Nat.mul_lt_mul_right this
theorem fpd_le {h t : Nat → Nat} (h0 : h 0 = 0) (t0 : t 0 = 0) : fpd h t 100 ≤ fp h 100 := by
  rw [fp_sp (h := h) (t := t)]
  exact Nat.le_mul_of_pos_right _ (fp_pos (by rw [h0, t0]; rfl) 100)
theorem fp_mono {c c' : Nat → Nat} (h0 : c' 0 = 0) (h : ∀ f, c f ≤ c' f) : ∀ k, fp c k ≤ fp c' k := by
  intro k
  induction k with
  | zero => exact Nat.le_refl _
  | succ k ih =>
    rw [fp, fp]
    by_cases hk : k = 0
    · subst hk
      have : c 0 = 0 := by have := h 0; omega
      rw [this, h0]
      exact Nat.mul_le_mul_right _ ih
    · exact Nat.mul_le_mul ih (Nat.pow_le_pow_right (by omega) (h k))
/-! logarithms -/
def lgL : List Nat := [0, 0, 1048576, 1661953, 2097152, 2434718, 2710529, 2943724, 3145728, 3323907,
  3483294, 3627476, 3759105, 3880192, 3992300, 4096671, 4194304, 4286015, 4372483, 4454274,
  4531870, 4605678, 4676052, 4743298, 4807681, 4869436, 4928768, 4985860, 5040876, 5093962,
  5145247, 5194851, 5242880, 5289430, 5334591, 5378443, 5421059, 5462507, 5502850, 5542145,
  5580446, 5617800, 5654254, 5689850, 5724628, 5758625, 5791874, 5824408, 5856257, 5887449,
  5918012, 5947969, 5977344, 6006159, 6034436, 6062195, 6089452, 6116228, 6142538, 6168398,
  6193823, 6218828, 6243427, 6267632, 6291456, 6314910, 6338006, 6360755, 6383167, 6405252,
  6427019, 6448477, 6469635, 6490501, 6511083, 6531389, 6551426, 6571201, 6590721, 6609993,
  6629022, 6647814, 6666376, 6684713, 6702830, 6720733, 6738426, 6755915, 6773204, 6790298,
  6807201, 6823917, 6840450, 6856804, 6872984, 6888992, 6904833, 6920510, 6936025, 6951384]
def lgN (f : Nat) : Nat := lgL.getD f 0
def bM : Nat := 1048576
theorem lg_ok : ∀ f, f < 100 → 1 ≤ f → 2 ^ lgN f ≤ f ^ bM ∧ f ^ bM ≤ 2 ^ (lgN f + 1) := by decide +kernel
theorem lg_b : ∀ f, f < 100 → lgN f ≤ 7000000 := by decide +kernel
/-- sums of logarithms and of powers -/
def aL (e : Nat → Nat) : Nat → Nat
  | 0 => 0
  | k + 1 => aL e k + e k * lgN k
def dL (e : Nat → Nat) : Nat → Nat
  | 0 => 0
  | k + 1 => dL e k + e k
theorem lg_lo {e : Nat → Nat} (e0 : e 0 = 0) : ∀ k, k ≤ 100 → 2 ^ aL e k ≤ fp e k ^ bM := by
  intro k
  induction k with
  | zero => intro _; show 2 ^ 0 ≤ 1 ^ bM; rw [Nat.one_pow bM]; exact Nat.le_refl 1
  | succ k ih =>
    intro hk
    have ih := ih (by omega)
    rw [aL, fp, Nat.mul_pow, Nat.pow_add]
    refine Nat.mul_le_mul ih ?_
    by_cases h : k = 0
    · subst h
      rw [e0, Nat.zero_mul, Nat.pow_zero, Nat.one_pow]
      exact Nat.le_refl 1
    · have h1 := (lg_ok k (by omega) (by omega)).1
      rw [Nat.mul_comm (e k), Nat.pow_mul, ← Nat.pow_mul k, Nat.mul_comm (e k), Nat.pow_mul k]
      exact Nat.pow_le_pow_left h1 _
theorem lg_hi {e : Nat → Nat} (e0 : e 0 = 0) : ∀ k, k ≤ 100 → fp e k ^ bM ≤ 2 ^ (aL e k + dL e k) := by
  intro k
  induction k with
  | zero => intro _; show 1 ^ bM ≤ 2 ^ 0; rw [Nat.one_pow bM]; exact Nat.le_refl 1
  | succ k ih =>
    intro hk
    have ih := ih (by omega)
    have e1 : aL e (k + 1) + dL e (k + 1) = (aL e k + dL e k) + (lgN k + 1) * e k := by
      rw [aL, dL, Nat.add_mul, Nat.one_mul, Nat.mul_comm (lgN k)]
      omega
    rw [e1, fp, Nat.mul_pow, Nat.pow_add]
    refine Nat.mul_le_mul ih ?_
    by_cases h : k = 0
    · subst h
      rw [e0, Nat.mul_zero, Nat.pow_zero, Nat.one_pow]
      exact Nat.le_refl 1
    · have h1 := (lg_ok k (by omega) (by omega)).2
      rw [Nat.pow_mul 2, ← Nat.pow_mul k, Nat.mul_comm (e k), Nat.pow_mul k]
      exact Nat.pow_le_pow_left h1 _
theorem bM_p : bM ≠ 0 := by decide
theorem two_lt {a b : Nat} (h : a < b) : 2 ^ a < 2 ^ b := Nat.pow_lt_pow_right (by decide) h
/-- less for sure -/
theorem lg_less {h t : Nat → Nat} (h0 : h 0 = 0) (t0 : t 0 = 0) (hlt : aL (fun f => h f - t f) 100 + dL (fun f => h f - t f) 100 < aL (fun f => t f - h f) 100) : fpd h t 100 < fpd t h 100 := by
  have a1 := lg_hi (e := fun f => h f - t f) (by rw [h0, t0]) 100 (Nat.le_refl _)
  have a2 := lg_lo (e := fun f => t f - h f) (by rw [h0, t0]) 100 (Nat.le_refl _)
  exact (Nat.pow_lt_pow_iff_left bM_p).mp (Nat.lt_of_le_of_lt a1 (Nat.lt_of_lt_of_le (two_lt hlt) a2))
/-- a million times for sure -/
theorem lg_mill {h t : Nat → Nat} (h0 : h 0 = 0) (t0 : t 0 = 0) (hlt : aL (fun f => t f - h f) 100 + dL (fun f => t f - h f) 100 + 20971520 ≤ aL (fun f => h f - t f) 100) : 1000000 * fpd t h 100 ≤ fpd h t 100 := by
  have a1 := lg_lo (e := fun f => h f - t f) (by rw [h0, t0]) 100 (Nat.le_refl _)
  have a2 := lg_hi (e := fun f => t f - h f) (by rw [h0, t0]) 100 (Nat.le_refl _)
  have h3 : (fpd t h 100 * 2 ^ 20) ^ bM ≤ fpd h t 100 ^ bM := by
    rw [Nat.mul_pow, ← Nat.pow_mul]
    refine Nat.le_trans (Nat.mul_le_mul_right _ a2) ?_
    rw [← Nat.pow_add]
    exact Nat.le_trans (Nat.pow_le_pow_right (by decide) (show _ ≤ aL (fun f => h f - t f) 100 by rw [show 20 * bM = 20971520 from rfl]; exact hlt)) a1
  have h4 := (Nat.pow_le_pow_iff_left bM_p).mp h3
  have h5 : 1000000 * fpd t h 100 ≤ 2 ^ 20 * fpd t h 100 := Nat.mul_le_mul_right _ (by decide)
  rw [Nat.mul_comm (fpd t h 100)] at h4
  exact Nat.le_trans h5 h4
/-- how it is weighed -/
def wA (h t : Nat → Nat) : Nat → Int
  | 0 => 0
  | k + 1 => wA h t k + ((h k : Int) - (t k : Int)) * (lgN k : Int)
def wD (h t : Nat → Nat) : Nat → Nat
  | 0 => 0
  | k + 1 => wD h t k + farN (h k) (t k)
theorem wA_e {h t : Nat → Nat} : ∀ k, wA h t k = (aL (fun f => h f - t f) k : Int) - (aL (fun f => t f - h f) k : Int) := by
  intro k
  induction k with
  | zero => rfl
  | succ k ih =>
    rw [wA, aL, aL, ih]
    by_cases c : t k ≤ h k
    · have e1 : t k - h k = 0 := by omega
      have e2 : ((h k : Int) - (t k : Int)) = ((h k - t k : Nat) : Int) := by omega
      rw [e1, e2, Nat.zero_mul, Nat.add_zero, Int.natCast_add, Int.natCast_mul]
      omega
    · have e1 : h k - t k = 0 := by omega
      have e2 : ((h k : Int) - (t k : Int)) = -((t k - h k : Nat) : Int) := by omega
      rw [e1, e2, Nat.zero_mul, Nat.add_zero, Int.natCast_add, Int.natCast_mul, Int.neg_mul]
      omega
theorem wD_e {h t : Nat → Nat} : ∀ k, wD h t k = dL (fun f => h f - t f) k + dL (fun f => t f - h f) k := by
  intro k
  induction k with
  | zero => rfl
  | succ k ih =>
    rw [wD, dL, dL, ih]
    unfold farN
    split <;> omega
theorem wA_b {h t : Nat → Nat} (hb : ∀ f, h f ≤ 2400 ∧ t f ≤ 2400) : ∀ k : Nat, k ≤ 100 → -(16800000000 * (k : Int)) ≤ wA h t k ∧ wA h t k ≤ 16800000000 * (k : Int) := by
  intro k
  induction k with
  | zero => intro _; rw [wA]; omega
  | succ k ih =>
    intro hk
    have ih := ih (by omega)
    obtain ⟨b1, b2⟩ := hb k
    have b3 := lg_b k (by omega)
    rw [wA]
    by_cases c : t k ≤ h k
    · have e2 : ((h k : Int) - (t k : Int)) = ((h k - t k : Nat) : Int) := by omega
      have e3 : (h k - t k) * lgN k ≤ 2400 * 7000000 := Nat.mul_le_mul (by omega) b3
      rw [e2, ← Int.natCast_mul]
      omega
    · have e2 : ((h k : Int) - (t k : Int)) = -((t k - h k : Nat) : Int) := by omega
      have e3 : (t k - h k) * lgN k ≤ 2400 * 7000000 := Nat.mul_le_mul (by omega) b3
      rw [e2, Int.neg_mul, ← Int.natCast_mul]
      omega
theorem wD_b {h t : Nat → Nat} (hb : ∀ f, h f ≤ 2400 ∧ t f ≤ 2400) : ∀ k, wD h t k ≤ 2400 * k := by
  intro k
  induction k with
  | zero => exact Nat.le_refl _
  | succ k ih =>
    obtain ⟨b1, b2⟩ := hb k
    rw [wD]
    unfold farN
    split <;> omega
end FP
