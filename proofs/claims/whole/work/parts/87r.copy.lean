/-! TEXTS: an array is copied into a new cell -/
section CX
variable {X : am_X} {d : Nat} {Q : Option Value → am_H → Prop} {n sl : Nat} {t : Nat → Nat × Nat} {I : Nat → Nat → Int32} {J : Nat → Nat → Int64} {F : Nat → Nat → Option Nat} {h : am_H}
theorem c_copyOf {a q len : Nat} (ha : a < n) (hn6 : n < 600000) (hta : t a = (20, len)) (hq : q ≤ len) (hl : len ≤ 400) (hQ : ∀ f, (∀ j, j < q → f j = I a j) → Q (some (.ref n)) (n + 1, sl + q, am_ro t n (20, q), am_ro I n f, am_ro J n (fun _ => 0), am_ro F n (fun _ => none))) : am_W X d 59 0 [some (.ref a), some (.int (nI q)), none] [] (n, sl, t, I, J, F) Q := by
  have z : q < 2000000 ∧ len < 2000000 ∧ a < 1000000 ∧ n < n + 1 ∧ a < n + 1 ∧ a ≠ n ∧ q ≤ 1000000 := by omega
  by_cases c : q = len
  · subst c
    have := hQ (I a) (fun _ _ => rfl)
    simp only [↓r59_0, ↓r59_1, ↓r59_1n, ↓r59_2, ↓r59_2k, ↓r59_3, ↓r59_6, ↓r59_6n, ↓r59_7, ↓r59_10, ↓r59_13, am_nw_t, hta, ha, hn6, z, pu_req, q_le, q_lt, q_eq, q_e0, q_e1, q_0e, q_1e, ps_n0, q_0le, q_le0, q_0lt, q_m1e, q_em1, Bool.false_eq_true, ps_lit, nI_add, nI_1, pk_mul, ps_cl, ps_neg, ps_c0, ps_c1, ps_n01, ps_n11, ps_10, ps_01, ps_1n, ps_0n, ps_b01, ps_e0, am_k_n, am_k_i, am_k_r, am_k_u, am_k_l, am_sz_0, am_sz_i, am_sz_r, am_sz_u, am_sz_l, Option.toList_some, Option.toList_none, List.cons_append, List.nil_append, true_and, and_true, or_false, false_or, or_self, or_true, true_or, and_self, if_true, if_false, not_false_eq_true, not_true_eq_false, Classical.not_not, ne_eq, ps_e1, ps_em, ps_z, Nat.not_le, false_implies, true_implies, forall_const, Nat.reduceAdd, Nat.reduceMul, Nat.reduceLT, Nat.reduceLeDiff, Nat.reduceEqDiff, Nat.reduceSub]
    exact this
  · have c2 : q < len := by omega
    have := hQ (va_cpy (I a) (fun _ => 0) 0 0 q) (fun j hj => by unfold va_cpy; simp [hj])
    have e : am_ro (am_ro I n (fun _ => 0)) n (va_cpy (I a) (fun _ => 0) 0 0 q) = am_ro I n (va_cpy (I a) (fun _ => 0) 0 0 q) := pu_ror
    rw [← e] at this
    simp only [↓r59_0, ↓r59_1, ↓r59_1n, ↓r59_2, ↓r59_2k, ↓r59_3, ↓r59_14, ↓r59_15, ↓r59_17, ↓r59_17n, ↓r59_18, ↓r59_18n, ↓r59_19, ↓r59_20, ↓r59_20n, ↓r59_21, ↓r59_22, ↓r59_22n, ↓r59_23, ↓r59_23k, ↓r59_24, ↓r59_25, ↓r59_28, ↓r59_31, ↓r59_31n, ↓r59_32, am_nw_t, hta, ha, hn6, z, c, c2, pu_req, pu_rne, q_le, q_lt, q_eq, q_e0, q_e1, q_0e, q_1e, ps_n0, q_0le, q_le0, q_0lt, q_m1e, q_em1, if_true, Bool.false_eq_true, ps_lit, nI_add, nI_1, pk_mul, ps_cl, ps_neg, ps_c0, ps_c1, ps_n01, ps_n11, ps_10, ps_01, ps_1n, ps_0n, ps_b01, ps_e0, am_k_n, am_k_i, am_k_r, am_k_u, am_k_l, am_sz_0, am_sz_i, am_sz_r, am_sz_u, am_sz_l, Option.toList_some, Option.toList_none, List.cons_append, List.nil_append, true_and, and_true, or_false, false_or, or_self, or_true, true_or, and_self, if_true, if_false, not_false_eq_true, not_true_eq_false, Classical.not_not, ne_eq, ps_e1, ps_em, ps_z, Nat.not_le, false_implies, true_implies, forall_const, Nat.reduceAdd, Nat.reduceMul, Nat.reduceLT, Nat.reduceLeDiff, Nat.reduceEqDiff, Nat.reduceSub]
    exact ⟨⟨by omega, by omega⟩, this⟩
end CX
