/-! TEXTS: the reference keeps a text -/
section MK
variable {X : am_X} {d : Nat} {Q : Option Value → am_H → Prop} {n sl : Nat} {t : Nat → Nat × Nat} {I : Nat → Nat → Int32} {J : Nat → Nat → Int64} {F : Nat → Nat → Option Nat} {h : am_H}
theorem m_keep {T N : Nat} {K : Nat → Int32} (hW : WS n t F) (hT : T < 10) (hN : N ≤ 400) (h13 : I 47 13 = nI N) (hQ : ∀ K' : Nat → Int32, (∀ i, i < N → K' (1823 + (400 * T + i)) = I 55 i ∧ K' (5823 + (400 * T + i)) = I 56 i) → (∀ x, (x < 1823 + 400 * T ∨ 1823 + 400 * T + N ≤ x) → (x < 5823 + 400 * T ∨ 5823 + 400 * T + N ≤ x) → K' x = K x) → ∀ l2 : Option Value, am_W X d 195 122 [some (.ref 47), some (.int (nI T)), l2] [] (n, sl, t, am_ro I 49 K', J, F) Q) : am_W X d 195 62 [some (.ref 47), some (.int (nI T)), none] [] (n, sl, t, am_ro I 49 K, J, F) Q := by
  obtain ⟨hn, hn2, ht, hF⟩ := id hW
  have hl : ∀ g j (K' : Nat → Int32), j + g = N → (∀ i, i < j → K' (1823 + (400 * T + i)) = I 55 i ∧ K' (5823 + (400 * T + i)) = I 56 i) → (∀ x, (x < 1823 + 400 * T ∨ 1823 + 400 * T + N ≤ x) → (x < 5823 + 400 * T ∨ 5823 + 400 * T + N ≤ x) → K' x = K x) → am_W X d 195 64 [some (.ref 47), some (.int (nI T)), some (.int (nI j))] [] (n, sl, t, am_ro I 49 K', J, F) Q := by
    intro g
    induction g with
    | zero =>
      intro j K' hj h1 h2
      have z : j < 2000000 ∧ N < 2000000 ∧ N ≤ j := by omega
      have := hQ K' (fun i hi => h1 i (by omega)) h2 (some (.int (nI j)))
      rw [r195_64]
      simp only [↓r195_65, ↓r195_66, ↓r195_69, pu_rne, h13, q_le, q_lt, q_eq, q_e0, q_e1, q_0e, q_1e, ps_n0, q_0le, q_le0, q_0lt, q_m1e, q_em1, z, Bool.false_eq_true, hn, hn2, ht, hF, am_wt, am_wf, Option.isSome_some, am_rf_s, am_rf_n, ps_lit, nI_add, nI_1, pk_mul, ps_cl, ps_neg, ps_c0, ps_c1, ps_n01, ps_n11, ps_10, ps_b01, ps_e0, pu_Ine, pu_Ieq, pu_ne, pu_eq, am_k_n, am_k_i, am_k_r, am_k_u, am_k_l, am_sz_0, am_sz_i, am_sz_r, am_sz_u, am_sz_l, Option.toList_some, Option.toList_none, List.cons_append, List.nil_append, true_and, and_true, or_false, false_or, or_self, or_true, true_or, not_false_eq_true, not_true_eq_false, Classical.not_not, ne_eq, ps_e1, ps_em, ps_z, Nat.not_le, false_implies, true_implies, forall_const, ps_01, ps_1n, ps_0n, ps_m10, ps_m1n, lg_cmp_gt, lg_cmp_ge, lg_cmp_le, lg_cmp_lt, lg_cmp_eq, pu_rne, pu_req, pu_uro, RFc_n, Nat.reduceAdd, Nat.reduceMul, Nat.reduceLT, Nat.reduceLeDiff, Nat.reduceEqDiff, Nat.reduceSub]
      exact this
    | succ g ih =>
      intro j K' hj h1 h2
      have z : j < 2000000 ∧ N < 2000000 ∧ ¬ N ≤ j ∧ j < 401 ∧ 1823 + 400 * T + j < 2000000 ∧ 5823 + 400 * T + j < 2000000 ∧ 1823 + 400 * T + j < 9823 ∧ 5823 + 400 * T + j < 9823 := by omega
      have := ih (j + 1) (upd (upd K' (1823 + 400 * T + j) (I 55 j)) (5823 + 400 * T + j) (I 56 j)) (by omega) (fun i hi => by
        by_cases c : i = j
        · subst c
          rw [Nat.add_assoc 1823, Nat.add_assoc 5823]
          refine ⟨?_, pu_eq⟩
          rw [pu_ne (by omega), pu_eq]
        · rw [pu_ne (by omega), pu_ne (by omega), pu_ne (by omega), pu_ne (by omega)]
          exact h1 i (by omega)) (fun x x1 x2 => by rw [pu_ne (by omega), pu_ne (by omega)]; exact h2 x x1 x2)
      rw [r195_64]
      simp only [↓r195_65, ↓r195_66, ↓r195_69, ↓r195_72, ↓r195_73, ↓r195_76, ↓r195_79, ↓r195_82, ↓r195_83, ↓r195_84, ↓r195_85, ↓r195_86, ↓r195_87, ↓r195_88, ↓r195_91, ↓r195_92, ↓r195_92k, ↓r195_93, ↓r195_94, ↓r195_95, ↓r195_98, ↓r195_101, ↓r195_104, ↓r195_105, ↓r195_106, ↓r195_107, ↓r195_108, ↓r195_109, ↓r195_110, ↓r195_113, ↓r195_114, ↓r195_114k, ↓r195_115, ↓r195_116, ↓r195_119, pu_rne, pu_req, pu_uro, h13, q_le, q_lt, q_eq, q_e0, q_e1, q_0e, q_1e, ps_n0, q_0le, q_le0, q_0lt, q_m1e, q_em1, z, Bool.false_eq_true, hn, hn2, ht, hF, am_wt, am_wf, Option.isSome_some, am_rf_s, am_rf_n, ps_lit, nI_add, nI_1, pk_mul, ps_cl, ps_neg, ps_c0, ps_c1, ps_n01, ps_n11, ps_10, ps_b01, ps_e0, pu_Ine, pu_Ieq, pu_ne, pu_eq, am_k_n, am_k_i, am_k_r, am_k_u, am_k_l, am_sz_0, am_sz_i, am_sz_r, am_sz_u, am_sz_l, Option.toList_some, Option.toList_none, List.cons_append, List.nil_append, true_and, and_true, or_false, false_or, or_self, or_true, true_or, not_false_eq_true, not_true_eq_false, Classical.not_not, ne_eq, ps_e1, ps_em, ps_z, Nat.not_le, false_implies, true_implies, forall_const, ps_01, ps_1n, ps_0n, ps_m10, ps_m1n, lg_cmp_gt, lg_cmp_ge, lg_cmp_le, lg_cmp_lt, lg_cmp_eq, pu_rne, pu_req, pu_uro, RFc_n, Nat.reduceAdd, Nat.reduceMul, Nat.reduceLT, Nat.reduceLeDiff, Nat.reduceEqDiff, Nat.reduceSub]
      exact this
  have := hl N 0 K (by omega) (fun i hi => absurd hi (Nat.not_lt_zero _)) (fun x _ _ => rfl)
  simp only [↓r195_62, ↓r195_63, Bool.false_eq_true, hn, hn2, ht, hF, am_wt, am_wf, Option.isSome_some, am_rf_s, am_rf_n, ps_lit, nI_add, nI_1, pk_mul, ps_cl, ps_neg, ps_c0, ps_c1, ps_n01, ps_n11, ps_10, ps_b01, ps_e0, pu_Ine, pu_Ieq, pu_ne, pu_eq, am_k_n, am_k_i, am_k_r, am_k_u, am_k_l, am_sz_0, am_sz_i, am_sz_r, am_sz_u, am_sz_l, Option.toList_some, Option.toList_none, List.cons_append, List.nil_append, true_and, and_true, or_false, false_or, or_self, or_true, true_or, not_false_eq_true, not_true_eq_false, Classical.not_not, ne_eq, ps_e1, ps_em, ps_z, Nat.not_le, false_implies, true_implies, forall_const, ps_01, ps_1n, ps_0n, ps_m10, ps_m1n, lg_cmp_gt, lg_cmp_ge, lg_cmp_le, lg_cmp_lt, lg_cmp_eq, pu_rne, pu_req, pu_uro, RFc_n, Nat.reduceAdd, Nat.reduceMul, Nat.reduceLT, Nat.reduceLeDiff, Nat.reduceEqDiff, Nat.reduceSub]
  exact this
end MK
