/-! TEXTS: the reference splits its tape into tokens -/
section MX
variable {X : am_X} {d : Nat} {Q : Option Value → am_H → Prop} {n sl : Nat} {t : Nat → Nat × Nat} {I : Nat → Nat → Int32} {J : Nat → Nat → Int64} {F : Nat → Nat → Option Nat} {h : am_H}
variable {u : Nat → Nat} {m : Nat}
def tQ (I : Nat → Nat → Int32) (k : Nat) (A B P : Nat → Int32) : Nat → Nat → Int32 := am_ro (am_ro (am_ro (am_ro I 47 (upd (I 47) 13 (nI k))) 55 A) 56 B) 57 P
variable {k : Nat} {A B P : Nat → Int32}
theorem tQ_13 : tQ I k A B P 47 13 = nI k := rfl
theorem tQ_55 : tQ I k A B P 55 = A := rfl
theorem tQ_56 : tQ I k A B P 56 = B := rfl
theorem tQ_57 : tQ I k A B P 57 = P := rfl
theorem tQ_52 : tQ I k A B P 52 = I 52 := rfl
theorem tQ_53 : tQ I k A B P 53 = I 53 := rfl
theorem tQ_n {s : Nat} (h1 : s ≠ 47) (h2 : s ≠ 55) (h3 : s ≠ 56) (h4 : s ≠ 57) : tQ I k A B P s = I s := by
  unfold tQ
  rw [pu_rne h4, pu_rne h3, pu_rne h2, pu_rne h1]
theorem tQ_u13 {j : Nat} : am_uI (tQ I k A B P) 47 13 (nI j) = tQ I j A B P := by
  funext s
  by_cases h1 : s = 47
  · subst h1
    rw [pu_Ieq]
    funext i
    show upd (upd (I 47) 13 (nI k)) 13 (nI j) i = upd (I 47) 13 (nI j) i
    unfold upd
    by_cases h : i = 13
    · simp [h]
    · simp [h]
  · rw [pu_Ine h1]
    by_cases h2 : s = 55
    · subst h2; rfl
    · by_cases h3 : s = 56
      · subst h3; rfl
      · by_cases h4 : s = 57
        · subst h4; rfl
        · rw [tQ_n h1 h2 h3 h4, tQ_n h1 h2 h3 h4]
theorem tQ_u55 {j : Nat} {x : Int32} : am_uI (tQ I k A B P) 55 j x = tQ I k (upd A j x) B P := by
  funext s
  by_cases h2 : s = 55
  · subst h2; rw [pu_Ieq]; rfl
  · rw [pu_Ine h2]
    by_cases h1 : s = 47
    · subst h1; rfl
    · by_cases h3 : s = 56
      · subst h3; rfl
      · by_cases h4 : s = 57
        · subst h4; rfl
        · rw [tQ_n h1 h2 h3 h4, tQ_n h1 h2 h3 h4]
theorem tQ_u56 {j : Nat} {x : Int32} : am_uI (tQ I k A B P) 56 j x = tQ I k A (upd B j x) P := by
  funext s
  by_cases h3 : s = 56
  · subst h3; rw [pu_Ieq]; rfl
  · rw [pu_Ine h3]
    by_cases h1 : s = 47
    · subst h1; rfl
    · by_cases h2 : s = 55
      · subst h2; rfl
      · by_cases h4 : s = 57
        · subst h4; rfl
        · rw [tQ_n h1 h2 h3 h4, tQ_n h1 h2 h3 h4]
theorem tQ_u57 {j : Nat} {x : Int32} : am_uI (tQ I k A B P) 57 j x = tQ I k A B (upd P j x) := by
  funext s
  by_cases h4 : s = 57
  · subst h4; rw [pu_Ieq]; rfl
  · rw [pu_Ine h4]
    by_cases h1 : s = 47
    · subst h1; rfl
    · by_cases h2 : s = 55
      · subst h2; rfl
      · by_cases h3 : s = 56
        · subst h3; rfl
        · rw [tQ_n h1 h2 h3 h4, tQ_n h1 h2 h3 h4]
theorem tQ_0 : am_uI I 47 13 0 = tQ I 0 (I 55) (I 56) (I 57) := by
  funext s
  by_cases h1 : s = 47
  · subst h1
    rw [pu_Ieq]
    rfl
  · rw [pu_Ine h1]
    by_cases h2 : s = 55
    · subst h2; rfl
    · by_cases h3 : s = 56
      · subst h3; rfl
      · by_cases h4 : s = 57
        · subst h4; rfl
        · rw [tQ_n h1 h2 h3 h4]
theorem TPR_q (h : TPR I u m) : TPR (tQ I k A B P) u m := h
/-- a signed byte -/
def BYv (x : Int32) (v : Nat) : Prop := v < 256 ∧ (v < 128 → x = nI v) ∧ (128 ≤ v → x < 0)
theorem neg_lt {x : Int32} (h : x < 0) {w : Nat} (hw : w < 2000000) : x < nI w := by
  rw [Int32.lt_iff_toInt_lt] at h ⊢
  have e : (nI w).toInt = (w : Int) := by
    show (Int32.ofNat w).toInt = (w : Int)
    rw [Int32.toInt_ofNat_of_lt (by omega)]
  rw [e]
  have : (0 : Int32).toInt = 0 := rfl
  omega
theorem m_small {x : Int32} {v : Nat} (h : BYv x v) : am_W X d 198 0 [some (.int x)] [] (n, sl, t, I, J, F) Q ↔ Q (some (.int (if 97 ≤ v ∧ v ≤ 122 then 1 else 0))) (n, sl, t, I, J, F) := by
  obtain ⟨h1, h2, h3⟩ := h
  by_cases c : v < 128
  · rw [h2 c]
    have z : v < 2000000 := by omega
    by_cases c1 : v < 97
    · rw [if_neg (by omega)]
      simp only [↓r198_0, ↓r198_1, ↓r198_3, ↓r198_6, ↓r198_7, ↓r198_9, ↓r198_12, ↓r198_13, ↓r198_16, ↓r198_17, q_le, q_lt, q_eq, q_e0, q_e1, q_0e, q_1e, ps_n0, q_0le, q_le0, q_0lt, q_m1e, q_em1, z, c1, Bool.false_eq_true, ps_lit, nI_add, nI_1, pk_mul, ps_cl, ps_neg, ps_c0, ps_c1, ps_n01, ps_n11, ps_10, ps_01, ps_1n, ps_0n, ps_b01, ps_e0, am_k_n, am_k_i, am_k_r, am_k_u, am_k_l, am_sz_0, am_sz_i, am_sz_r, am_sz_u, am_sz_l, Option.toList_some, Option.toList_none, List.cons_append, List.nil_append, true_and, and_true, or_false, false_or, or_self, or_true, true_or, and_self, if_true, if_false, not_false_eq_true, not_true_eq_false, Classical.not_not, ne_eq, ps_e1, ps_em, ps_z, Nat.not_le, false_implies, true_implies, forall_const, Nat.reduceAdd, Nat.reduceMul, Nat.reduceLT, Nat.reduceLeDiff, Nat.reduceEqDiff, Nat.reduceSub]
    · by_cases c2 : 122 < v
      · rw [if_neg (by omega)]
        simp only [↓r198_0, ↓r198_1, ↓r198_3, ↓r198_6, ↓r198_7, ↓r198_9, ↓r198_12, ↓r198_13, ↓r198_16, ↓r198_17, q_le, q_lt, q_eq, q_e0, q_e1, q_0e, q_1e, ps_n0, q_0le, q_le0, q_0lt, q_m1e, q_em1, z, c1, c2, Bool.false_eq_true, ps_lit, nI_add, nI_1, pk_mul, ps_cl, ps_neg, ps_c0, ps_c1, ps_n01, ps_n11, ps_10, ps_01, ps_1n, ps_0n, ps_b01, ps_e0, am_k_n, am_k_i, am_k_r, am_k_u, am_k_l, am_sz_0, am_sz_i, am_sz_r, am_sz_u, am_sz_l, Option.toList_some, Option.toList_none, List.cons_append, List.nil_append, true_and, and_true, or_false, false_or, or_self, or_true, true_or, and_self, if_true, if_false, not_false_eq_true, not_true_eq_false, Classical.not_not, ne_eq, ps_e1, ps_em, ps_z, Nat.not_le, false_implies, true_implies, forall_const, Nat.reduceAdd, Nat.reduceMul, Nat.reduceLT, Nat.reduceLeDiff, Nat.reduceEqDiff, Nat.reduceSub]
      · rw [if_pos (by omega)]
        simp only [↓r198_0, ↓r198_1, ↓r198_3, ↓r198_6, ↓r198_7, ↓r198_9, ↓r198_12, ↓r198_13, ↓r198_16, ↓r198_17, q_le, q_lt, q_eq, q_e0, q_e1, q_0e, q_1e, ps_n0, q_0le, q_le0, q_0lt, q_m1e, q_em1, z, c1, c2, Bool.false_eq_true, ps_lit, nI_add, nI_1, pk_mul, ps_cl, ps_neg, ps_c0, ps_c1, ps_n01, ps_n11, ps_10, ps_01, ps_1n, ps_0n, ps_b01, ps_e0, am_k_n, am_k_i, am_k_r, am_k_u, am_k_l, am_sz_0, am_sz_i, am_sz_r, am_sz_u, am_sz_l, Option.toList_some, Option.toList_none, List.cons_append, List.nil_append, true_and, and_true, or_false, false_or, or_self, or_true, true_or, and_self, if_true, if_false, not_false_eq_true, not_true_eq_false, Classical.not_not, ne_eq, ps_e1, ps_em, ps_z, Nat.not_le, false_implies, true_implies, forall_const, Nat.reduceAdd, Nat.reduceMul, Nat.reduceLT, Nat.reduceLeDiff, Nat.reduceEqDiff, Nat.reduceSub]
  · have h4 := neg_lt (h3 (by omega)) (w := 97) (by decide)
    rw [if_neg (by omega)]
    simp only [↓r198_0, ↓r198_1, ↓r198_3, ↓r198_6, ↓r198_7, ↓r198_9, ↓r198_12, ↓r198_13, ↓r198_16, ↓r198_17, h4, Bool.false_eq_true, ps_lit, nI_add, nI_1, pk_mul, ps_cl, ps_neg, ps_c0, ps_c1, ps_n01, ps_n11, ps_10, ps_01, ps_1n, ps_0n, ps_b01, ps_e0, am_k_n, am_k_i, am_k_r, am_k_u, am_k_l, am_sz_0, am_sz_i, am_sz_r, am_sz_u, am_sz_l, Option.toList_some, Option.toList_none, List.cons_append, List.nil_append, true_and, and_true, or_false, false_or, or_self, or_true, true_or, and_self, if_true, if_false, not_false_eq_true, not_true_eq_false, Classical.not_not, ne_eq, ps_e1, ps_em, ps_z, Nat.not_le, false_implies, true_implies, forall_const, Nat.reduceAdd, Nat.reduceMul, Nat.reduceLT, Nat.reduceLeDiff, Nat.reduceEqDiff, Nat.reduceSub]
theorem m_digit {x : Int32} {v : Nat} (h : BYv x v) : am_W X d 199 0 [some (.int x)] [] (n, sl, t, I, J, F) Q ↔ Q (some (.int (if 48 ≤ v ∧ v ≤ 57 then 1 else 0))) (n, sl, t, I, J, F) := by
  obtain ⟨h1, h2, h3⟩ := h
  by_cases c : v < 128
  · rw [h2 c]
    have z : v < 2000000 := by omega
    by_cases c1 : v < 48
    · rw [if_neg (by omega)]
      simp only [↓r199_0, ↓r199_1, ↓r199_3, ↓r199_6, ↓r199_7, ↓r199_9, ↓r199_12, ↓r199_13, ↓r199_16, ↓r199_17, q_le, q_lt, q_eq, q_e0, q_e1, q_0e, q_1e, ps_n0, q_0le, q_le0, q_0lt, q_m1e, q_em1, z, c1, Bool.false_eq_true, ps_lit, nI_add, nI_1, pk_mul, ps_cl, ps_neg, ps_c0, ps_c1, ps_n01, ps_n11, ps_10, ps_01, ps_1n, ps_0n, ps_b01, ps_e0, am_k_n, am_k_i, am_k_r, am_k_u, am_k_l, am_sz_0, am_sz_i, am_sz_r, am_sz_u, am_sz_l, Option.toList_some, Option.toList_none, List.cons_append, List.nil_append, true_and, and_true, or_false, false_or, or_self, or_true, true_or, and_self, if_true, if_false, not_false_eq_true, not_true_eq_false, Classical.not_not, ne_eq, ps_e1, ps_em, ps_z, Nat.not_le, false_implies, true_implies, forall_const, Nat.reduceAdd, Nat.reduceMul, Nat.reduceLT, Nat.reduceLeDiff, Nat.reduceEqDiff, Nat.reduceSub]
    · by_cases c2 : 57 < v
      · rw [if_neg (by omega)]
        simp only [↓r199_0, ↓r199_1, ↓r199_3, ↓r199_6, ↓r199_7, ↓r199_9, ↓r199_12, ↓r199_13, ↓r199_16, ↓r199_17, q_le, q_lt, q_eq, q_e0, q_e1, q_0e, q_1e, ps_n0, q_0le, q_le0, q_0lt, q_m1e, q_em1, z, c1, c2, Bool.false_eq_true, ps_lit, nI_add, nI_1, pk_mul, ps_cl, ps_neg, ps_c0, ps_c1, ps_n01, ps_n11, ps_10, ps_01, ps_1n, ps_0n, ps_b01, ps_e0, am_k_n, am_k_i, am_k_r, am_k_u, am_k_l, am_sz_0, am_sz_i, am_sz_r, am_sz_u, am_sz_l, Option.toList_some, Option.toList_none, List.cons_append, List.nil_append, true_and, and_true, or_false, false_or, or_self, or_true, true_or, and_self, if_true, if_false, not_false_eq_true, not_true_eq_false, Classical.not_not, ne_eq, ps_e1, ps_em, ps_z, Nat.not_le, false_implies, true_implies, forall_const, Nat.reduceAdd, Nat.reduceMul, Nat.reduceLT, Nat.reduceLeDiff, Nat.reduceEqDiff, Nat.reduceSub]
      · rw [if_pos (by omega)]
        simp only [↓r199_0, ↓r199_1, ↓r199_3, ↓r199_6, ↓r199_7, ↓r199_9, ↓r199_12, ↓r199_13, ↓r199_16, ↓r199_17, q_le, q_lt, q_eq, q_e0, q_e1, q_0e, q_1e, ps_n0, q_0le, q_le0, q_0lt, q_m1e, q_em1, z, c1, c2, Bool.false_eq_true, ps_lit, nI_add, nI_1, pk_mul, ps_cl, ps_neg, ps_c0, ps_c1, ps_n01, ps_n11, ps_10, ps_01, ps_1n, ps_0n, ps_b01, ps_e0, am_k_n, am_k_i, am_k_r, am_k_u, am_k_l, am_sz_0, am_sz_i, am_sz_r, am_sz_u, am_sz_l, Option.toList_some, Option.toList_none, List.cons_append, List.nil_append, true_and, and_true, or_false, false_or, or_self, or_true, true_or, and_self, if_true, if_false, not_false_eq_true, not_true_eq_false, Classical.not_not, ne_eq, ps_e1, ps_em, ps_z, Nat.not_le, false_implies, true_implies, forall_const, Nat.reduceAdd, Nat.reduceMul, Nat.reduceLT, Nat.reduceLeDiff, Nat.reduceEqDiff, Nat.reduceSub]
  · have h4 := neg_lt (h3 (by omega)) (w := 48) (by decide)
    rw [if_neg (by omega)]
    simp only [↓r199_0, ↓r199_1, ↓r199_3, ↓r199_6, ↓r199_7, ↓r199_9, ↓r199_12, ↓r199_13, ↓r199_16, ↓r199_17, h4, Bool.false_eq_true, ps_lit, nI_add, nI_1, pk_mul, ps_cl, ps_neg, ps_c0, ps_c1, ps_n01, ps_n11, ps_10, ps_01, ps_1n, ps_0n, ps_b01, ps_e0, am_k_n, am_k_i, am_k_r, am_k_u, am_k_l, am_sz_0, am_sz_i, am_sz_r, am_sz_u, am_sz_l, Option.toList_some, Option.toList_none, List.cons_append, List.nil_append, true_and, and_true, or_false, false_or, or_self, or_true, true_or, and_self, if_true, if_false, not_false_eq_true, not_true_eq_false, Classical.not_not, ne_eq, ps_e1, ps_em, ps_z, Nat.not_le, false_implies, true_implies, forall_const, Nat.reduceAdd, Nat.reduceMul, Nat.reduceLT, Nat.reduceLeDiff, Nat.reduceEqDiff, Nat.reduceSub]
theorem kdB_s {j : Nat} (hj : j < m) : (97 ≤ u j ∧ u j ≤ 122) = (kdB u m j = 1) ∧ (48 ≤ u j ∧ u j ≤ 57) = (kdB u m j = 2) := by
  unfold kdB
  rw [if_neg (by omega)]
  constructor
  · apply propext
    split
    · omega
    · split <;> omega
  · apply propext
    split
    · omega
    · split <;> omega
end MX
