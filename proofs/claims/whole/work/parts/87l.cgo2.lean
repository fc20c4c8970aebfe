/-! TEXTS: the class goes on to the next token: spaces, runs -/
section CH
variable {X : am_X} {d : Nat} {Q : Option Value → am_H → Prop} {n sl : Nat} {t : Nat → Nat × Nat} {I : Nat → Nat → Int32} {J : Nat → Nat → Int64} {F : Nat → Nat → Option Nat} {h : am_H}
variable {u : Nat → Nat} {m : Nat}
variable {a b c v : Nat}
theorem gQ_u60 : am_uI (gQ I a b c v) 9 6 0 = gQ I 0 b c v := gQ_u6 (w := 0)
theorem gQ_u90 : am_uI (gQ I a b c v) 9 9 0 = gQ I a b c 0 := gQ_u9 (w := 0)
theorem gQ_u61 : am_uI (gQ I a b c v) 9 6 1 = gQ I 1 b c v := gQ_u6 (w := 1)
theorem gQ_u80 : am_uI (gQ I a b c v) 9 8 0 = gQ I a b 0 v := gQ_u8 (w := 0)
theorem c_goB (hW : WS n t F) (hT : TPB I u m) (hc : c ≤ 400) : am_W X (d + 2) 41 0 [some (.ref 9), none, none] [] (n, sl, t, gQ I a b c v, J, F) Q ↔ Q none (n, sl, t, gQ I (kdB u m (skF u m 400 c)) (skF u m 400 c) (enB u m (skF u m 400 c)) (vcB u m (skF u m 400 c)), J, F) := by
  obtain ⟨hn, hn2, ht, hF⟩ := id hW
  obtain ⟨h1, h2, h3⟩ := id hT
  -- spaces
  have sk : ∀ (R : Prop) g cnt p, cnt + g = 400 → p ≤ cnt + 400 → (∀ l1 : Option Value, (am_W X (d + 2) 41 49 [some (.ref 9), l1, none] [] (n, sl, t, gQ I a (skF u m g p) c v, J, F) Q ↔ R)) → (am_W X (d + 2) 41 10 [some (.ref 9), some (.int (nI cnt)), none] [] (n, sl, t, gQ I a p c v, J, F) Q ↔ R) := by
    intro R g
    induction g with
    | zero =>
      intro cnt p hg hp hR
      have e : cnt = 400 := by omega
      subst e
      rw [r41_10]
      simp only [↓r41_11, ↓r41_14, q_le, q_lt, q_eq, q_e0, q_e1, q_0e, q_1e, ps_n0, q_0le, q_le0, q_0lt, q_m1e, q_em1, Bool.false_eq_true, hn, hn2, ht, hF, am_wt, am_wf, Option.isSome_some, am_rf_s, am_rf_n, ps_lit, nI_add, nI_1, pk_mul, ps_cl, ps_neg, ps_c0, ps_c1, ps_n01, ps_n11, ps_10, ps_b01, ps_e0, pu_Ine, pu_Ieq, pu_ne, pu_eq, am_k_n, am_k_i, am_k_r, am_k_u, am_k_l, am_sz_0, am_sz_i, am_sz_r, am_sz_u, am_sz_l, Option.toList_some, Option.toList_none, List.cons_append, List.nil_append, true_and, and_true, or_false, false_or, or_self, or_true, true_or, not_false_eq_true, not_true_eq_false, Classical.not_not, ne_eq, ps_e1, ps_em, ps_z, Nat.not_le, false_implies, true_implies, forall_const, ps_01, ps_1n, ps_0n, ps_m10, ps_m1n, lg_cmp_gt, lg_cmp_ge, lg_cmp_le, lg_cmp_lt, lg_cmp_eq, pu_rne, pu_req, pu_uro, RFc_n, Nat.reduceAdd, Nat.reduceMul, Nat.reduceLT, Nat.reduceLeDiff, Nat.reduceEqDiff, Nat.reduceSub]
      exact hR _
    | succ g ih =>
      intro cnt p hg hp hR
      have z : cnt < 2000000 ∧ ¬ 400 ≤ cnt := by omega
      have hp2 : p < 2000 := by omega
      rw [skF] at hR
      rw [r41_10]
      by_cases c1 : p < m ∧ u p = 32
      · rw [if_pos c1] at hR
        have eb : byB u m p = nI 32 := by unfold byB; rw [if_pos c1.1, c1.2]
        simp only [↓r41_11, ↓r41_14, ↓r41_17, ↓r41_18, ↓r41_21, ↓r41_22, ↓r41_25, ↓r41_28, ↓r41_30, ↓r41_33, ↓r41_34, ↓r41_34r, ↓r41_35, ↓r41_38, ↓r41_39, ↓r41_40, ↓r41_43, ↓r41_46, ↓c_byteB hW hT hp2, gQ_9, g9_7, gQ_u7, q_le, q_lt, q_eq, q_e0, q_e1, q_0e, q_1e, ps_n0, q_0le, q_le0, q_0lt, q_m1e, q_em1, z, eb, Bool.false_eq_true, hn, hn2, ht, hF, am_wt, am_wf, Option.isSome_some, am_rf_s, am_rf_n, ps_lit, nI_add, nI_1, pk_mul, ps_cl, ps_neg, ps_c0, ps_c1, ps_n01, ps_n11, ps_10, ps_b01, ps_e0, pu_Ine, pu_Ieq, pu_ne, pu_eq, am_k_n, am_k_i, am_k_r, am_k_u, am_k_l, am_sz_0, am_sz_i, am_sz_r, am_sz_u, am_sz_l, Option.toList_some, Option.toList_none, List.cons_append, List.nil_append, true_and, and_true, or_false, false_or, or_self, or_true, true_or, not_false_eq_true, not_true_eq_false, Classical.not_not, ne_eq, ps_e1, ps_em, ps_z, Nat.not_le, false_implies, true_implies, forall_const, ps_01, ps_1n, ps_0n, ps_m10, ps_m1n, lg_cmp_gt, lg_cmp_ge, lg_cmp_le, lg_cmp_lt, lg_cmp_eq, pu_rne, pu_req, pu_uro, RFc_n, Nat.reduceAdd, Nat.reduceMul, Nat.reduceLT, Nat.reduceLeDiff, Nat.reduceEqDiff, Nat.reduceSub]
        exact ih (cnt + 1) (p + 1) (by omega) (by omega) hR
      · rw [if_neg c1] at hR
        have eb : ¬ byB u m p = nI 32 := by
          unfold byB
          by_cases c2 : p < m
          · have := (h3 p c2).2
            rw [if_pos c2]
            intro e
            rw [q_eq (by omega) (by omega)] at e
            exact c1 ⟨c2, e⟩
          · rw [if_neg c2]
            decide
        simp only [↓r41_11, ↓r41_14, ↓r41_17, ↓r41_18, ↓r41_21, ↓r41_22, ↓r41_25, ↓r41_28, ↓r41_30, ↓r41_33, ↓r41_34, ↓r41_34r, ↓r41_35, ↓r41_38, ↓r41_39, ↓r41_40, ↓r41_43, ↓r41_46, ↓c_byteB hW hT hp2, gQ_9, g9_7, q_le, q_lt, q_eq, q_e0, q_e1, q_0e, q_1e, ps_n0, q_0le, q_le0, q_0lt, q_m1e, q_em1, z, eb, Bool.false_eq_true, hn, hn2, ht, hF, am_wt, am_wf, Option.isSome_some, am_rf_s, am_rf_n, ps_lit, nI_add, nI_1, pk_mul, ps_cl, ps_neg, ps_c0, ps_c1, ps_n01, ps_n11, ps_10, ps_b01, ps_e0, pu_Ine, pu_Ieq, pu_ne, pu_eq, am_k_n, am_k_i, am_k_r, am_k_u, am_k_l, am_sz_0, am_sz_i, am_sz_r, am_sz_u, am_sz_l, Option.toList_some, Option.toList_none, List.cons_append, List.nil_append, true_and, and_true, or_false, false_or, or_self, or_true, true_or, not_false_eq_true, not_true_eq_false, Classical.not_not, ne_eq, ps_e1, ps_em, ps_z, Nat.not_le, false_implies, true_implies, forall_const, ps_01, ps_1n, ps_0n, ps_m10, ps_m1n, lg_cmp_gt, lg_cmp_ge, lg_cmp_le, lg_cmp_lt, lg_cmp_eq, pu_rne, pu_req, pu_uro, RFc_n, Nat.reduceAdd, Nat.reduceMul, Nat.reduceLT, Nat.reduceLeDiff, Nat.reduceEqDiff, Nat.reduceSub]
        exact hR _
  -- letters
  have rl1 : ∀ (R : Prop) p w g cnt e, cnt + g = 400 → e ≤ cnt + 400 → ((Q none (n, sl, t, gQ I 1 p (rnF u m 1 g e) w, J, F)) ↔ R) → (am_W X (d + 2) 41 106 [some (.ref 9), some (.int (nI 400)), some (.int (nI cnt))] [] (n, sl, t, gQ I 1 p e w, J, F) Q ↔ R) := by
    intro R p w g
    induction g with
    | zero =>
      intro cnt e hg hp hR
      have e : cnt = 400 := by omega
      subst e
      rw [r41_106]
      simp only [↓r41_107, ↓r41_108, ↓r41_195, q_le, q_lt, q_eq, q_e0, q_e1, q_0e, q_1e, ps_n0, q_0le, q_le0, q_0lt, q_m1e, q_em1, Bool.false_eq_true, hn, hn2, ht, hF, am_wt, am_wf, Option.isSome_some, am_rf_s, am_rf_n, ps_lit, nI_add, nI_1, pk_mul, ps_cl, ps_neg, ps_c0, ps_c1, ps_n01, ps_n11, ps_10, ps_b01, ps_e0, pu_Ine, pu_Ieq, pu_ne, pu_eq, am_k_n, am_k_i, am_k_r, am_k_u, am_k_l, am_sz_0, am_sz_i, am_sz_r, am_sz_u, am_sz_l, Option.toList_some, Option.toList_none, List.cons_append, List.nil_append, true_and, and_true, or_false, false_or, or_self, or_true, true_or, not_false_eq_true, not_true_eq_false, Classical.not_not, ne_eq, ps_e1, ps_em, ps_z, Nat.not_le, false_implies, true_implies, forall_const, ps_01, ps_1n, ps_0n, ps_m10, ps_m1n, lg_cmp_gt, lg_cmp_ge, lg_cmp_le, lg_cmp_lt, lg_cmp_eq, pu_rne, pu_req, pu_uro, RFc_n, Nat.reduceAdd, Nat.reduceMul, Nat.reduceLT, Nat.reduceLeDiff, Nat.reduceEqDiff, Nat.reduceSub]
      exact hR
    | succ g ih =>
      intro cnt e hg hp hR
      have z : cnt < 2000000 ∧ ¬ 400 ≤ cnt := by omega
      have hp2 : e < 2000 := by omega
      have zk := kdB_le (u := u) (m := m) (j := e)
      have z2 : kdB u m e < 2000000 := by omega
      rw [rnF] at hR
      rw [r41_106]
      by_cases c1 : kdB u m e = 1
      · rw [if_pos c1] at hR
        simp only [↓r41_107, ↓r41_108, ↓r41_111, ↓r41_112, ↓r41_115, ↓r41_118, ↓r41_119, ↓r41_122, ↓r41_123, ↓r41_126, ↓r41_129, ↓r41_132, ↓r41_133, ↓r41_136, ↓r41_139, ↓r41_140, ↓r41_143, ↓r41_144, ↓r41_179, ↓r41_180, ↓r41_180r, ↓r41_181, ↓r41_184, ↓r41_185, ↓r41_186, ↓r41_189, ↓r41_192, ↓c_byteB hW hT hp2, ↓c_kindB hT, gQ_9, g9_6, g9_8, gQ_u8, q_le, q_lt, q_eq, q_e0, q_e1, q_0e, q_1e, ps_n0, q_0le, q_le0, q_0lt, q_m1e, q_em1, z, c1, Bool.false_eq_true, hn, hn2, ht, hF, am_wt, am_wf, Option.isSome_some, am_rf_s, am_rf_n, ps_lit, nI_add, nI_1, pk_mul, ps_cl, ps_neg, ps_c0, ps_c1, ps_n01, ps_n11, ps_10, ps_b01, ps_e0, pu_Ine, pu_Ieq, pu_ne, pu_eq, am_k_n, am_k_i, am_k_r, am_k_u, am_k_l, am_sz_0, am_sz_i, am_sz_r, am_sz_u, am_sz_l, Option.toList_some, Option.toList_none, List.cons_append, List.nil_append, true_and, and_true, or_false, false_or, or_self, or_true, true_or, not_false_eq_true, not_true_eq_false, Classical.not_not, ne_eq, ps_e1, ps_em, ps_z, Nat.not_le, false_implies, true_implies, forall_const, ps_01, ps_1n, ps_0n, ps_m10, ps_m1n, lg_cmp_gt, lg_cmp_ge, lg_cmp_le, lg_cmp_lt, lg_cmp_eq, pu_rne, pu_req, pu_uro, RFc_n, Nat.reduceAdd, Nat.reduceMul, Nat.reduceLT, Nat.reduceLeDiff, Nat.reduceEqDiff, Nat.reduceSub]
        exact ih (cnt + 1) (e + 1) (by omega) (by omega) hR
      · rw [if_neg c1] at hR
        simp only [↓r41_107, ↓r41_108, ↓r41_111, ↓r41_112, ↓r41_115, ↓r41_118, ↓r41_119, ↓r41_122, ↓r41_123, ↓r41_126, ↓r41_129, ↓r41_132, ↓r41_133, ↓r41_136, ↓r41_195, ↓c_byteB hW hT hp2, ↓c_kindB hT, gQ_9, g9_6, g9_8, q_le, q_lt, q_eq, q_e0, q_e1, q_0e, q_1e, ps_n0, q_0le, q_le0, q_0lt, q_m1e, q_em1, z, z2, c1, Bool.false_eq_true, hn, hn2, ht, hF, am_wt, am_wf, Option.isSome_some, am_rf_s, am_rf_n, ps_lit, nI_add, nI_1, pk_mul, ps_cl, ps_neg, ps_c0, ps_c1, ps_n01, ps_n11, ps_10, ps_b01, ps_e0, pu_Ine, pu_Ieq, pu_ne, pu_eq, am_k_n, am_k_i, am_k_r, am_k_u, am_k_l, am_sz_0, am_sz_i, am_sz_r, am_sz_u, am_sz_l, Option.toList_some, Option.toList_none, List.cons_append, List.nil_append, true_and, and_true, or_false, false_or, or_self, or_true, true_or, not_false_eq_true, not_true_eq_false, Classical.not_not, ne_eq, ps_e1, ps_em, ps_z, Nat.not_le, false_implies, true_implies, forall_const, ps_01, ps_1n, ps_0n, ps_m10, ps_m1n, lg_cmp_gt, lg_cmp_ge, lg_cmp_le, lg_cmp_lt, lg_cmp_eq, pu_rne, pu_req, pu_uro, RFc_n, Nat.reduceAdd, Nat.reduceMul, Nat.reduceLT, Nat.reduceLeDiff, Nat.reduceEqDiff, Nat.reduceSub]
        exact hR
  -- digits
  have rl2 : ∀ (R : Prop) p g cnt e w, cnt + g = 400 → e ≤ cnt + 400 → w ≤ 1001 → ((Q none (n, sl, t, gQ I 2 p (rnF u m 2 g e) (vcF u m g e w), J, F)) ↔ R) → (am_W X (d + 2) 41 106 [some (.ref 9), some (.int (nI 400)), some (.int (nI cnt))] [] (n, sl, t, gQ I 2 p e w, J, F) Q ↔ R) := by
    intro R p g
    induction g with
    | zero =>
      intro cnt e w hg hp hw hR
      have e : cnt = 400 := by omega
      subst e
      rw [r41_106]
      simp only [↓r41_107, ↓r41_108, ↓r41_195, q_le, q_lt, q_eq, q_e0, q_e1, q_0e, q_1e, ps_n0, q_0le, q_le0, q_0lt, q_m1e, q_em1, Bool.false_eq_true, hn, hn2, ht, hF, am_wt, am_wf, Option.isSome_some, am_rf_s, am_rf_n, ps_lit, nI_add, nI_1, pk_mul, ps_cl, ps_neg, ps_c0, ps_c1, ps_n01, ps_n11, ps_10, ps_b01, ps_e0, pu_Ine, pu_Ieq, pu_ne, pu_eq, am_k_n, am_k_i, am_k_r, am_k_u, am_k_l, am_sz_0, am_sz_i, am_sz_r, am_sz_u, am_sz_l, Option.toList_some, Option.toList_none, List.cons_append, List.nil_append, true_and, and_true, or_false, false_or, or_self, or_true, true_or, not_false_eq_true, not_true_eq_false, Classical.not_not, ne_eq, ps_e1, ps_em, ps_z, Nat.not_le, false_implies, true_implies, forall_const, ps_01, ps_1n, ps_0n, ps_m10, ps_m1n, lg_cmp_gt, lg_cmp_ge, lg_cmp_le, lg_cmp_lt, lg_cmp_eq, pu_rne, pu_req, pu_uro, RFc_n, Nat.reduceAdd, Nat.reduceMul, Nat.reduceLT, Nat.reduceLeDiff, Nat.reduceEqDiff, Nat.reduceSub]
      exact hR
    | succ g ih =>
      intro cnt e w hg hp hw hR
      have z : cnt < 2000000 ∧ ¬ 400 ≤ cnt := by omega
      have hp2 : e < 2000 := by omega
      have zk := kdB_le (u := u) (m := m) (j := e)
      have z2 : kdB u m e < 2000000 := by omega
      rw [rnF, vcF] at hR
      rw [r41_106]
      by_cases c1 : kdB u m e = 2
      · rw [if_pos c1, if_pos c1] at hR
        obtain ⟨k1, k2, k3⟩ := kdB_2 c1
        have eb : byB u m e = nI (u e) := if_pos k1
        have ev : nI (w * 10 + u e) - nI 48 = nI (10 * w + u e - 48) := by
          rw [nI_sub (by omega), Nat.mul_comm w 10]
        have zv : 10 * w + u e - 48 < 2000000 := by omega
        have := ih (cnt + 1) (e + 1) (min (10 * w + u e - 48) 1001) (by omega) (by omega) (by omega) hR
        by_cases c2 : 1001 < 10 * w + u e - 48
        · have em : min (10 * w + u e - 48) 1001 = 1001 := by omega
          rw [em] at this
          simp only [↓r41_107, ↓r41_108, ↓r41_111, ↓r41_112, ↓r41_115, ↓r41_118, ↓r41_119, ↓r41_122, ↓r41_123, ↓r41_126, ↓r41_129, ↓r41_132, ↓r41_133, ↓r41_136, ↓r41_139, ↓r41_140, ↓r41_143, ↓r41_144, ↓c_byteB hW hT hp2, ↓c_kindB hT, gQ_9, g9_6, g9_8, q_le, q_lt, q_eq, q_e0, q_e1, q_0e, q_1e, ps_n0, q_0le, q_le0, q_0lt, q_m1e, q_em1, z, c1, Bool.false_eq_true, hn, hn2, ht, hF, am_wt, am_wf, Option.isSome_some, am_rf_s, am_rf_n, ps_lit, nI_add, nI_1, pk_mul, ps_cl, ps_neg, ps_c0, ps_c1, ps_n01, ps_n11, ps_10, ps_b01, ps_e0, pu_Ine, pu_Ieq, pu_ne, pu_eq, am_k_n, am_k_i, am_k_r, am_k_u, am_k_l, am_sz_0, am_sz_i, am_sz_r, am_sz_u, am_sz_l, Option.toList_some, Option.toList_none, List.cons_append, List.nil_append, true_and, and_true, or_false, false_or, or_self, or_true, true_or, not_false_eq_true, not_true_eq_false, Classical.not_not, ne_eq, ps_e1, ps_em, ps_z, Nat.not_le, false_implies, true_implies, forall_const, ps_01, ps_1n, ps_0n, ps_m10, ps_m1n, lg_cmp_gt, lg_cmp_ge, lg_cmp_le, lg_cmp_lt, lg_cmp_eq, pu_rne, pu_req, pu_uro, RFc_n, Nat.reduceAdd, Nat.reduceMul, Nat.reduceLT, Nat.reduceLeDiff, Nat.reduceEqDiff, Nat.reduceSub]
          simp only [↓r41_147, ↓r41_148, ↓r41_149, ↓r41_152, ↓r41_154, ↓r41_155, ↓r41_156, ↓r41_159, ↓r41_160, ↓r41_163, ↓r41_166, ↓r41_167, ↓r41_169, ↓r41_170, ↓r41_173, ↓r41_176, ↓r41_179, ↓r41_180, ↓r41_180r, ↓r41_181, ↓r41_184, ↓r41_185, ↓r41_186, ↓r41_189, ↓r41_192, ↓c_byteB hW hT hp2, gQ_9, g9_8, g9_9, gQ_u8, gQ_u9, q_le, q_lt, q_eq, q_e0, q_e1, q_0e, q_1e, ps_n0, q_0le, q_le0, q_0lt, q_m1e, q_em1, zv, c2, ev, eb, if_true, Bool.false_eq_true, hn, hn2, ht, hF, am_wt, am_wf, Option.isSome_some, am_rf_s, am_rf_n, ps_lit, nI_add, nI_1, pk_mul, ps_cl, ps_neg, ps_c0, ps_c1, ps_n01, ps_n11, ps_10, ps_b01, ps_e0, pu_Ine, pu_Ieq, pu_ne, pu_eq, am_k_n, am_k_i, am_k_r, am_k_u, am_k_l, am_sz_0, am_sz_i, am_sz_r, am_sz_u, am_sz_l, Option.toList_some, Option.toList_none, List.cons_append, List.nil_append, true_and, and_true, or_false, false_or, or_self, or_true, true_or, not_false_eq_true, not_true_eq_false, Classical.not_not, ne_eq, ps_e1, ps_em, ps_z, Nat.not_le, false_implies, true_implies, forall_const, ps_01, ps_1n, ps_0n, ps_m10, ps_m1n, lg_cmp_gt, lg_cmp_ge, lg_cmp_le, lg_cmp_lt, lg_cmp_eq, pu_rne, pu_req, pu_uro, RFc_n, Nat.reduceAdd, Nat.reduceMul, Nat.reduceLT, Nat.reduceLeDiff, Nat.reduceEqDiff, Nat.reduceSub]
          exact this
        · have em : min (10 * w + u e - 48) 1001 = 10 * w + u e - 48 := by omega
          rw [em] at this
          simp only [↓r41_107, ↓r41_108, ↓r41_111, ↓r41_112, ↓r41_115, ↓r41_118, ↓r41_119, ↓r41_122, ↓r41_123, ↓r41_126, ↓r41_129, ↓r41_132, ↓r41_133, ↓r41_136, ↓r41_139, ↓r41_140, ↓r41_143, ↓r41_144, ↓c_byteB hW hT hp2, ↓c_kindB hT, gQ_9, g9_6, g9_8, q_le, q_lt, q_eq, q_e0, q_e1, q_0e, q_1e, ps_n0, q_0le, q_le0, q_0lt, q_m1e, q_em1, z, c1, Bool.false_eq_true, hn, hn2, ht, hF, am_wt, am_wf, Option.isSome_some, am_rf_s, am_rf_n, ps_lit, nI_add, nI_1, pk_mul, ps_cl, ps_neg, ps_c0, ps_c1, ps_n01, ps_n11, ps_10, ps_b01, ps_e0, pu_Ine, pu_Ieq, pu_ne, pu_eq, am_k_n, am_k_i, am_k_r, am_k_u, am_k_l, am_sz_0, am_sz_i, am_sz_r, am_sz_u, am_sz_l, Option.toList_some, Option.toList_none, List.cons_append, List.nil_append, true_and, and_true, or_false, false_or, or_self, or_true, true_or, not_false_eq_true, not_true_eq_false, Classical.not_not, ne_eq, ps_e1, ps_em, ps_z, Nat.not_le, false_implies, true_implies, forall_const, ps_01, ps_1n, ps_0n, ps_m10, ps_m1n, lg_cmp_gt, lg_cmp_ge, lg_cmp_le, lg_cmp_lt, lg_cmp_eq, pu_rne, pu_req, pu_uro, RFc_n, Nat.reduceAdd, Nat.reduceMul, Nat.reduceLT, Nat.reduceLeDiff, Nat.reduceEqDiff, Nat.reduceSub]
          simp only [↓r41_147, ↓r41_148, ↓r41_149, ↓r41_152, ↓r41_154, ↓r41_155, ↓r41_156, ↓r41_159, ↓r41_160, ↓r41_163, ↓r41_166, ↓r41_167, ↓r41_169, ↓r41_170, ↓r41_173, ↓r41_176, ↓r41_179, ↓r41_180, ↓r41_180r, ↓r41_181, ↓r41_184, ↓r41_185, ↓r41_186, ↓r41_189, ↓r41_192, ↓c_byteB hW hT hp2, gQ_9, g9_8, g9_9, gQ_u8, gQ_u9, q_le, q_lt, q_eq, q_e0, q_e1, q_0e, q_1e, ps_n0, q_0le, q_le0, q_0lt, q_m1e, q_em1, zv, c2, ev, eb, if_false, Bool.false_eq_true, hn, hn2, ht, hF, am_wt, am_wf, Option.isSome_some, am_rf_s, am_rf_n, ps_lit, nI_add, nI_1, pk_mul, ps_cl, ps_neg, ps_c0, ps_c1, ps_n01, ps_n11, ps_10, ps_b01, ps_e0, pu_Ine, pu_Ieq, pu_ne, pu_eq, am_k_n, am_k_i, am_k_r, am_k_u, am_k_l, am_sz_0, am_sz_i, am_sz_r, am_sz_u, am_sz_l, Option.toList_some, Option.toList_none, List.cons_append, List.nil_append, true_and, and_true, or_false, false_or, or_self, or_true, true_or, not_false_eq_true, not_true_eq_false, Classical.not_not, ne_eq, ps_e1, ps_em, ps_z, Nat.not_le, false_implies, true_implies, forall_const, ps_01, ps_1n, ps_0n, ps_m10, ps_m1n, lg_cmp_gt, lg_cmp_ge, lg_cmp_le, lg_cmp_lt, lg_cmp_eq, pu_rne, pu_req, pu_uro, RFc_n, Nat.reduceAdd, Nat.reduceMul, Nat.reduceLT, Nat.reduceLeDiff, Nat.reduceEqDiff, Nat.reduceSub]
          exact this
      · rw [if_neg c1, if_neg c1] at hR
        simp only [↓r41_107, ↓r41_108, ↓r41_111, ↓r41_112, ↓r41_115, ↓r41_118, ↓r41_119, ↓r41_122, ↓r41_123, ↓r41_126, ↓r41_129, ↓r41_132, ↓r41_133, ↓r41_136, ↓r41_195, ↓c_byteB hW hT hp2, ↓c_kindB hT, gQ_9, g9_6, g9_8, q_le, q_lt, q_eq, q_e0, q_e1, q_0e, q_1e, ps_n0, q_0le, q_le0, q_0lt, q_m1e, q_em1, z, z2, c1, Bool.false_eq_true, hn, hn2, ht, hF, am_wt, am_wf, Option.isSome_some, am_rf_s, am_rf_n, ps_lit, nI_add, nI_1, pk_mul, ps_cl, ps_neg, ps_c0, ps_c1, ps_n01, ps_n11, ps_10, ps_b01, ps_e0, pu_Ine, pu_Ieq, pu_ne, pu_eq, am_k_n, am_k_i, am_k_r, am_k_u, am_k_l, am_sz_0, am_sz_i, am_sz_r, am_sz_u, am_sz_l, Option.toList_some, Option.toList_none, List.cons_append, List.nil_append, true_and, and_true, or_false, false_or, or_self, or_true, true_or, not_false_eq_true, not_true_eq_false, Classical.not_not, ne_eq, ps_e1, ps_em, ps_z, Nat.not_le, false_implies, true_implies, forall_const, ps_01, ps_1n, ps_0n, ps_m10, ps_m1n, lg_cmp_gt, lg_cmp_ge, lg_cmp_le, lg_cmp_lt, lg_cmp_eq, pu_rne, pu_req, pu_uro, RFc_n, Nat.reduceAdd, Nat.reduceMul, Nat.reduceLT, Nat.reduceLeDiff, Nat.reduceEqDiff, Nat.reduceSub]
        exact hR
  have main : ∀ (l1 : Option Value) p, p ≤ 400 → (am_W X (d + 2) 41 49 [some (.ref 9), l1, none] [] (n, sl, t, gQ I a p c v, J, F) Q ↔ Q none (n, sl, t, gQ I (kdB u m p) p (enB u m p) (vcB u m p), J, F)) := by
    intro l1 p hp
    have hp2 : p < 2000 := by omega
    have zk := kdB_le (u := u) (m := m) (j := p)
    have hk : kdB u m p = 0 ∨ kdB u m p = 1 ∨ kdB u m p = 2 ∨ kdB u m p = 3 := by omega
    have f1 : ¬ (1 : Int32) ≤ 0 := by decide
    rcases hk with k | k | k | k
    · have e1 : enB u m p = p := by unfold enB; rw [if_pos k]
      have e2 : vcB u m p = 0 := by unfold vcB; rw [if_neg (by omega)]
      rw [e1, e2, k]
      simp only [↓r41_49, ↓r41_50, ↓r41_51, ↓r41_54, ↓r41_55, ↓r41_58, ↓r41_61, ↓r41_64, ↓r41_67, ↓r41_68, ↓r41_69, ↓r41_72, ↓r41_73, ↓r41_76, ↓r41_77, ↓r41_80, ↓r41_81, ↓r41_84, ↓r41_85, ↓r41_88, ↓r41_91, ↓r41_94, ↓r41_95, ↓r41_96, ↓r41_97, ↓r41_98, ↓r41_101, ↓r41_104, ↓r41_105, ↓c_byteB hW hT hp2, ↓c_kindB hT, gQ_9, g9_6, g9_7, gQ_u6, gQ_u8, gQ_u9, gQ_u60, gQ_u90, q_le, q_lt, q_eq, q_e0, q_e1, q_0e, q_1e, ps_n0, q_0le, q_le0, q_0lt, q_m1e, q_em1, k, Bool.false_eq_true, hn, hn2, ht, hF, am_wt, am_wf, Option.isSome_some, am_rf_s, am_rf_n, ps_lit, nI_add, nI_1, pk_mul, ps_cl, ps_neg, ps_c0, ps_c1, ps_n01, ps_n11, ps_10, ps_b01, ps_e0, pu_Ine, pu_Ieq, pu_ne, pu_eq, am_k_n, am_k_i, am_k_r, am_k_u, am_k_l, am_sz_0, am_sz_i, am_sz_r, am_sz_u, am_sz_l, Option.toList_some, Option.toList_none, List.cons_append, List.nil_append, true_and, and_true, or_false, false_or, or_self, or_true, true_or, not_false_eq_true, not_true_eq_false, Classical.not_not, ne_eq, ps_e1, ps_em, ps_z, Nat.not_le, false_implies, true_implies, forall_const, ps_01, ps_1n, ps_0n, ps_m10, ps_m1n, lg_cmp_gt, lg_cmp_ge, lg_cmp_le, lg_cmp_lt, lg_cmp_eq, pu_rne, pu_req, pu_uro, RFc_n, Nat.reduceAdd, Nat.reduceMul, Nat.reduceLT, Nat.reduceLeDiff, Nat.reduceEqDiff, Nat.reduceSub]
      rw [r41_106]
      simp only [↓r41_107, ↓r41_108, ↓r41_111, ↓r41_112, ↓r41_115, ↓r41_195, gQ_9, g9_6, q_le, q_lt, q_eq, q_e0, q_e1, q_0e, q_1e, ps_n0, q_0le, q_le0, q_0lt, q_m1e, q_em1, f1, Bool.false_eq_true, hn, hn2, ht, hF, am_wt, am_wf, Option.isSome_some, am_rf_s, am_rf_n, ps_lit, nI_add, nI_1, pk_mul, ps_cl, ps_neg, ps_c0, ps_c1, ps_n01, ps_n11, ps_10, ps_b01, ps_e0, pu_Ine, pu_Ieq, pu_ne, pu_eq, am_k_n, am_k_i, am_k_r, am_k_u, am_k_l, am_sz_0, am_sz_i, am_sz_r, am_sz_u, am_sz_l, Option.toList_some, Option.toList_none, List.cons_append, List.nil_append, true_and, and_true, or_false, false_or, or_self, or_true, true_or, not_false_eq_true, not_true_eq_false, Classical.not_not, ne_eq, ps_e1, ps_em, ps_z, Nat.not_le, false_implies, true_implies, forall_const, ps_01, ps_1n, ps_0n, ps_m10, ps_m1n, lg_cmp_gt, lg_cmp_ge, lg_cmp_le, lg_cmp_lt, lg_cmp_eq, pu_rne, pu_req, pu_uro, RFc_n, Nat.reduceAdd, Nat.reduceMul, Nat.reduceLT, Nat.reduceLeDiff, Nat.reduceEqDiff, Nat.reduceSub]
    · have e1 : enB u m p = rnF u m 1 400 p := by unfold enB; rw [if_neg (by omega), if_neg (by omega), k]
      have e2 : vcB u m p = 0 := by unfold vcB; rw [if_neg (by omega)]
      have := rl1 _ p 0 400 0 p rfl (by omega) Iff.rfl
      rw [e1, e2, k]
      simp only [↓r41_49, ↓r41_50, ↓r41_51, ↓r41_54, ↓r41_55, ↓r41_58, ↓r41_61, ↓r41_64, ↓r41_67, ↓r41_68, ↓r41_69, ↓r41_72, ↓r41_73, ↓r41_76, ↓r41_77, ↓r41_80, ↓r41_81, ↓r41_84, ↓r41_85, ↓r41_88, ↓r41_91, ↓r41_94, ↓r41_95, ↓r41_96, ↓r41_97, ↓r41_98, ↓r41_101, ↓r41_104, ↓r41_105, ↓c_byteB hW hT hp2, ↓c_kindB hT, gQ_9, g9_6, g9_7, gQ_u6, gQ_u8, gQ_u9, gQ_u61, gQ_u90, q_le, q_lt, q_eq, q_e0, q_e1, q_0e, q_1e, ps_n0, q_0le, q_le0, q_0lt, q_m1e, q_em1, k, Bool.false_eq_true, hn, hn2, ht, hF, am_wt, am_wf, Option.isSome_some, am_rf_s, am_rf_n, ps_lit, nI_add, nI_1, pk_mul, ps_cl, ps_neg, ps_c0, ps_c1, ps_n01, ps_n11, ps_10, ps_b01, ps_e0, pu_Ine, pu_Ieq, pu_ne, pu_eq, am_k_n, am_k_i, am_k_r, am_k_u, am_k_l, am_sz_0, am_sz_i, am_sz_r, am_sz_u, am_sz_l, Option.toList_some, Option.toList_none, List.cons_append, List.nil_append, true_and, and_true, or_false, false_or, or_self, or_true, true_or, not_false_eq_true, not_true_eq_false, Classical.not_not, ne_eq, ps_e1, ps_em, ps_z, Nat.not_le, false_implies, true_implies, forall_const, ps_01, ps_1n, ps_0n, ps_m10, ps_m1n, lg_cmp_gt, lg_cmp_ge, lg_cmp_le, lg_cmp_lt, lg_cmp_eq, pu_rne, pu_req, pu_uro, RFc_n, Nat.reduceAdd, Nat.reduceMul, Nat.reduceLT, Nat.reduceLeDiff, Nat.reduceEqDiff, Nat.reduceSub]
      exact this
    · have e1 : enB u m p = rnF u m 2 400 p := by unfold enB; rw [if_neg (by omega), if_neg (by omega), k]
      have e2 : vcB u m p = vcF u m 400 p 0 := by unfold vcB; rw [if_pos k]
      have := rl2 _ p 400 0 p 0 rfl (by omega) (by omega) Iff.rfl
      rw [e1, e2, k]
      simp only [↓r41_49, ↓r41_50, ↓r41_51, ↓r41_54, ↓r41_55, ↓r41_58, ↓r41_61, ↓r41_64, ↓r41_67, ↓r41_68, ↓r41_69, ↓r41_72, ↓r41_73, ↓r41_76, ↓r41_77, ↓r41_80, ↓r41_81, ↓r41_84, ↓r41_85, ↓r41_88, ↓r41_91, ↓r41_94, ↓r41_95, ↓r41_96, ↓r41_97, ↓r41_98, ↓r41_101, ↓r41_104, ↓r41_105, ↓c_byteB hW hT hp2, ↓c_kindB hT, gQ_9, g9_6, g9_7, gQ_u6, gQ_u8, gQ_u9, gQ_u90, q_le, q_lt, q_eq, q_e0, q_e1, q_0e, q_1e, ps_n0, q_0le, q_le0, q_0lt, q_m1e, q_em1, k, Bool.false_eq_true, hn, hn2, ht, hF, am_wt, am_wf, Option.isSome_some, am_rf_s, am_rf_n, ps_lit, nI_add, nI_1, pk_mul, ps_cl, ps_neg, ps_c0, ps_c1, ps_n01, ps_n11, ps_10, ps_b01, ps_e0, pu_Ine, pu_Ieq, pu_ne, pu_eq, am_k_n, am_k_i, am_k_r, am_k_u, am_k_l, am_sz_0, am_sz_i, am_sz_r, am_sz_u, am_sz_l, Option.toList_some, Option.toList_none, List.cons_append, List.nil_append, true_and, and_true, or_false, false_or, or_self, or_true, true_or, not_false_eq_true, not_true_eq_false, Classical.not_not, ne_eq, ps_e1, ps_em, ps_z, Nat.not_le, false_implies, true_implies, forall_const, ps_01, ps_1n, ps_0n, ps_m10, ps_m1n, lg_cmp_gt, lg_cmp_ge, lg_cmp_le, lg_cmp_lt, lg_cmp_eq, pu_rne, pu_req, pu_uro, RFc_n, Nat.reduceAdd, Nat.reduceMul, Nat.reduceLT, Nat.reduceLeDiff, Nat.reduceEqDiff, Nat.reduceSub]
      exact this
    · have e1 : enB u m p = p + 1 := by unfold enB; rw [if_neg (by omega), if_pos k]
      have e2 : vcB u m p = 0 := by unfold vcB; rw [if_neg (by omega)]
      rw [e1, e2, k]
      simp only [↓r41_49, ↓r41_50, ↓r41_51, ↓r41_54, ↓r41_55, ↓r41_58, ↓r41_61, ↓r41_64, ↓r41_67, ↓r41_68, ↓r41_69, ↓r41_72, ↓r41_73, ↓r41_76, ↓r41_77, ↓r41_80, ↓r41_81, ↓r41_84, ↓r41_85, ↓r41_88, ↓r41_91, ↓r41_94, ↓r41_95, ↓r41_96, ↓r41_97, ↓r41_98, ↓r41_101, ↓r41_104, ↓r41_105, ↓c_byteB hW hT hp2, ↓c_kindB hT, gQ_9, g9_6, g9_7, gQ_u6, gQ_u8, gQ_u9, gQ_u90, q_le, q_lt, q_eq, q_e0, q_e1, q_0e, q_1e, ps_n0, q_0le, q_le0, q_0lt, q_m1e, q_em1, k, Bool.false_eq_true, hn, hn2, ht, hF, am_wt, am_wf, Option.isSome_some, am_rf_s, am_rf_n, ps_lit, nI_add, nI_1, pk_mul, ps_cl, ps_neg, ps_c0, ps_c1, ps_n01, ps_n11, ps_10, ps_b01, ps_e0, pu_Ine, pu_Ieq, pu_ne, pu_eq, am_k_n, am_k_i, am_k_r, am_k_u, am_k_l, am_sz_0, am_sz_i, am_sz_r, am_sz_u, am_sz_l, Option.toList_some, Option.toList_none, List.cons_append, List.nil_append, true_and, and_true, or_false, false_or, or_self, or_true, true_or, not_false_eq_true, not_true_eq_false, Classical.not_not, ne_eq, ps_e1, ps_em, ps_z, Nat.not_le, false_implies, true_implies, forall_const, ps_01, ps_1n, ps_0n, ps_m10, ps_m1n, lg_cmp_gt, lg_cmp_ge, lg_cmp_le, lg_cmp_lt, lg_cmp_eq, pu_rne, pu_req, pu_uro, RFc_n, Nat.reduceAdd, Nat.reduceMul, Nat.reduceLT, Nat.reduceLeDiff, Nat.reduceEqDiff, Nat.reduceSub]
      rw [r41_106]
      simp only [↓r41_107, ↓r41_108, ↓r41_111, ↓r41_112, ↓r41_115, ↓r41_118, ↓r41_119, ↓r41_122, ↓r41_123, ↓r41_126, ↓r41_129, ↓r41_132, ↓r41_133, ↓r41_136, ↓r41_139, ↓r41_140, ↓r41_143, ↓r41_144, ↓r41_179, ↓r41_180, ↓r41_180r, ↓r41_181, ↓r41_184, ↓r41_185, ↓r41_186, ↓r41_189, ↓r41_192, ↓c_byteB hW hT hp2, ↓c_kindB hT, gQ_9, g9_6, g9_8, gQ_u8, q_le, q_lt, q_eq, q_e0, q_e1, q_0e, q_1e, ps_n0, q_0le, q_le0, q_0lt, q_m1e, q_em1, f1, k, Bool.false_eq_true, hn, hn2, ht, hF, am_wt, am_wf, Option.isSome_some, am_rf_s, am_rf_n, ps_lit, nI_add, nI_1, pk_mul, ps_cl, ps_neg, ps_c0, ps_c1, ps_n01, ps_n11, ps_10, ps_b01, ps_e0, pu_Ine, pu_Ieq, pu_ne, pu_eq, am_k_n, am_k_i, am_k_r, am_k_u, am_k_l, am_sz_0, am_sz_i, am_sz_r, am_sz_u, am_sz_l, Option.toList_some, Option.toList_none, List.cons_append, List.nil_append, true_and, and_true, or_false, false_or, or_self, or_true, true_or, not_false_eq_true, not_true_eq_false, Classical.not_not, ne_eq, ps_e1, ps_em, ps_z, Nat.not_le, false_implies, true_implies, forall_const, ps_01, ps_1n, ps_0n, ps_m10, ps_m1n, lg_cmp_gt, lg_cmp_ge, lg_cmp_le, lg_cmp_lt, lg_cmp_eq, pu_rne, pu_req, pu_uro, RFc_n, Nat.reduceAdd, Nat.reduceMul, Nat.reduceLT, Nat.reduceLeDiff, Nat.reduceEqDiff, Nat.reduceSub]
      rw [r41_106]
      simp only [↓r41_107, ↓r41_108, ↓r41_195, q_le, q_lt, q_eq, q_e0, q_e1, q_0e, q_1e, ps_n0, q_0le, q_le0, q_0lt, q_m1e, q_em1, Int32.le_refl, Bool.false_eq_true, hn, hn2, ht, hF, am_wt, am_wf, Option.isSome_some, am_rf_s, am_rf_n, ps_lit, nI_add, nI_1, pk_mul, ps_cl, ps_neg, ps_c0, ps_c1, ps_n01, ps_n11, ps_10, ps_b01, ps_e0, pu_Ine, pu_Ieq, pu_ne, pu_eq, am_k_n, am_k_i, am_k_r, am_k_u, am_k_l, am_sz_0, am_sz_i, am_sz_r, am_sz_u, am_sz_l, Option.toList_some, Option.toList_none, List.cons_append, List.nil_append, true_and, and_true, or_false, false_or, or_self, or_true, true_or, not_false_eq_true, not_true_eq_false, Classical.not_not, ne_eq, ps_e1, ps_em, ps_z, Nat.not_le, false_implies, true_implies, forall_const, ps_01, ps_1n, ps_0n, ps_m10, ps_m1n, lg_cmp_gt, lg_cmp_ge, lg_cmp_le, lg_cmp_lt, lg_cmp_eq, pu_rne, pu_req, pu_uro, RFc_n, Nat.reduceAdd, Nat.reduceMul, Nat.reduceLT, Nat.reduceLeDiff, Nat.reduceEqDiff, Nat.reduceSub]
  have hsk : skF u m 400 c ≤ 400 := by
    by_cases k : c ≤ m
    · have := (skF_b (u := u) (m := m) 400 c).2 k
      omega
    · have e : skF u m 400 c = c := by
        rw [skF, if_neg (by omega)]
      omega
  simp only [↓r41_0, ↓r41_1, ↓r41_2, ↓r41_5, ↓r41_8, ↓r41_9, gQ_9, g9_8, gQ_u7, Bool.false_eq_true, hn, hn2, ht, hF, am_wt, am_wf, Option.isSome_some, am_rf_s, am_rf_n, ps_lit, nI_add, nI_1, pk_mul, ps_cl, ps_neg, ps_c0, ps_c1, ps_n01, ps_n11, ps_10, ps_b01, ps_e0, pu_Ine, pu_Ieq, pu_ne, pu_eq, am_k_n, am_k_i, am_k_r, am_k_u, am_k_l, am_sz_0, am_sz_i, am_sz_r, am_sz_u, am_sz_l, Option.toList_some, Option.toList_none, List.cons_append, List.nil_append, true_and, and_true, or_false, false_or, or_self, or_true, true_or, not_false_eq_true, not_true_eq_false, Classical.not_not, ne_eq, ps_e1, ps_em, ps_z, Nat.not_le, false_implies, true_implies, forall_const, ps_01, ps_1n, ps_0n, ps_m10, ps_m1n, lg_cmp_gt, lg_cmp_ge, lg_cmp_le, lg_cmp_lt, lg_cmp_eq, pu_rne, pu_req, pu_uro, RFc_n, Nat.reduceAdd, Nat.reduceMul, Nat.reduceLT, Nat.reduceLeDiff, Nat.reduceEqDiff, Nat.reduceSub]
  exact sk _ 400 0 c rfl (by omega) (fun l1 => main l1 _ hsk)
/-- letter by letter -/
def mtF (u : Nat → Nat) (x : List Nat) (p : Nat) : Nat → Nat → Bool
  | 0, _ => true
  | g + 1, j => decide (u (p + j) = x.getD j 0) && mtF u x p g (j + 1)
theorem mtF_i {x : List Nat} {p : Nat} : ∀ g j, mtF u x p g j = true ↔ ∀ i, i < g → u (p + (j + i)) = x.getD (j + i) 0 := by
  intro g
  induction g with
  | zero => intro j; exact ⟨fun _ i hi => absurd hi (Nat.not_lt_zero _), fun _ => rfl⟩
  | succ g ih =>
    intro j
    rw [mtF, Bool.and_eq_true, decide_eq_true_eq, ih]
    constructor
    · intro ⟨h1, h2⟩ i hi
      cases i with
      | zero => exact h1
      | succ i =>
        have := h2 i (by omega)
        have e : j + 1 + i = j + (i + 1) := by omega
        rw [e] at this
        exact this
    · intro h
      refine ⟨h 0 (by omega), fun i hi => ?_⟩
      have := h (i + 1) (by omega)
      have e : j + 1 + i = j + (i + 1) := by omega
      rw [e]
      exact this
theorem blB_i {x : List Nat} {p e : Nat} : blB u p e = x ↔ e - p = x.length ∧ mtF u x p x.length 0 = true := by
  rw [mtF_i]
  constructor
  · intro h
    subst h
    refine ⟨by simp [blB], fun i hi => ?_⟩
    have hi2 : i < e - p := by simpa [blB] using hi
    rw [Nat.zero_add, List.getD_eq_getElem?_getD]
    simp [blB, hi2]
  · intro ⟨h1, h2⟩
    apply List.ext_getElem
    · simp [blB, h1]
    · intro i hi1 hi2
      have := h2 i hi2
      rw [Nat.zero_add, List.getD_eq_getElem?_getD, List.getElem?_eq_getElem hi2, Option.getD_some] at this
      simp [blB, this]
theorem tx_w : ∀ k, k < 19 → am_tx k = wdsL.getD (tcd k - 1) [] ∧ 1 ≤ tcd k ∧ tcd k ≤ 19 ∧ (am_tx k).length ≤ 7 ∧ ∀ j, j < 7 → (am_tx k).getD j 0 < 256 := by
  decide +kernel
theorem c_wordB {k : Nat} (hW : WS n t F) (hT : TPB I u m) (hk : k < 19) (hb : b ≤ c) (hc : c ≤ m) : am_W X (d + 1) 46 0 [some (.ref 9), some (.ref (am_K0 + 10 + k)), none, none] [] (n, sl, t, gQ I (kdB u m b) b c v, J, F) Q ↔ Q (some (.int (if kdB u m b = 1 ∧ blB u b c = am_tx k then 1 else 0))) (n, sl, t, gQ I (kdB u m b) b c v, J, F) := by
  obtain ⟨hn, hn2, ht, hF⟩ := id hW
  obtain ⟨h1, h2, h3⟩ := id hT
  obtain ⟨x1, x2, x3, x4, x5⟩ := tx_w k hk
  have zk := kdB_le (u := u) (m := m) (j := b)
  have z : kdB u m b < 2000000 ∧ (am_tx k).length < 2000000 ∧ c - b < 2000000 := by omega
  have es : nI c - nI b = nI (c - b) := nI_sub hb
  have s18 := fun X d Q L st h => r46_18 (X := X) (d := d) (Q := Q) (L := L) (st := st) (h := h) hk
  have s38 := fun X d Q L st h => r46_38 (X := X) (d := d) (Q := Q) (L := L) (st := st) (h := h) hk
  have s59 := fun X d Q L st h x => r46_59 (X := X) (d := d) (Q := Q) (L := L) (st := st) (h := h) (x := x) hk
  have no : ∀ l3 : Nat, am_W X (d + 1) 46 32 [some (.ref 9), some (.ref (am_K0 + 10 + k)), some (.int 0), some (.int (nI l3))] [] (n, sl, t, gQ I (kdB u m b) b c v, J, F) Q ↔ Q (some (.int 0)) (n, sl, t, gQ I (kdB u m b) b c v, J, F) := by
    intro l3
    rw [r46_32]
    simp only [↓r46_33, ↓r46_77, ↓r46_78, Bool.false_eq_true, hn, hn2, ht, hF, am_wt, am_wf, Option.isSome_some, am_rf_s, am_rf_n, ps_lit, nI_add, nI_1, pk_mul, ps_cl, ps_neg, ps_c0, ps_c1, ps_n01, ps_n11, ps_10, ps_b01, ps_e0, pu_Ine, pu_Ieq, pu_ne, pu_eq, am_k_n, am_k_i, am_k_r, am_k_u, am_k_l, am_sz_0, am_sz_i, am_sz_r, am_sz_u, am_sz_l, Option.toList_some, Option.toList_none, List.cons_append, List.nil_append, true_and, and_true, or_false, false_or, or_self, or_true, true_or, not_false_eq_true, not_true_eq_false, Classical.not_not, ne_eq, ps_e1, ps_em, ps_z, Nat.not_le, false_implies, true_implies, forall_const, ps_01, ps_1n, ps_0n, ps_m10, ps_m1n, lg_cmp_gt, lg_cmp_ge, lg_cmp_le, lg_cmp_lt, lg_cmp_eq, pu_rne, pu_req, pu_uro, RFc_n, Nat.reduceAdd, Nat.reduceMul, Nat.reduceLT, Nat.reduceLeDiff, Nat.reduceEqDiff, Nat.reduceSub]
  by_cases c1 : kdB u m b = 1
  · by_cases c2 : c - b = (am_tx k).length
    · have hl : ∀ g j, j + g = (am_tx k).length → (am_W X (d + 1) 46 32 [some (.ref 9), some (.ref (am_K0 + 10 + k)), some (.int 1), some (.int (nI j))] [] (n, sl, t, gQ I (kdB u m b) b c v, J, F) Q ↔ Q (some (.int (if mtF u (am_tx k) b g j = true then 1 else 0))) (n, sl, t, gQ I (kdB u m b) b c v, J, F)) := by
        intro g
        induction g with
        | zero =>
          intro j hj
          have z2 : j < 2000000 ∧ (am_tx k).length ≤ j := by omega
          rw [r46_32, mtF, if_pos rfl]
          simp only [↓r46_33, ↓r46_36, ↓r46_37, ↓r46_37n, s38, ↓r46_41, ↓r46_77, ↓r46_78, q_le, q_lt, q_eq, q_e0, q_e1, q_0e, q_1e, ps_n0, q_0le, q_le0, q_0lt, q_m1e, q_em1, z, z2, Bool.false_eq_true, hn, hn2, ht, hF, am_wt, am_wf, Option.isSome_some, am_rf_s, am_rf_n, ps_lit, nI_add, nI_1, pk_mul, ps_cl, ps_neg, ps_c0, ps_c1, ps_n01, ps_n11, ps_10, ps_b01, ps_e0, pu_Ine, pu_Ieq, pu_ne, pu_eq, am_k_n, am_k_i, am_k_r, am_k_u, am_k_l, am_sz_0, am_sz_i, am_sz_r, am_sz_u, am_sz_l, Option.toList_some, Option.toList_none, List.cons_append, List.nil_append, true_and, and_true, or_false, false_or, or_self, or_true, true_or, not_false_eq_true, not_true_eq_false, Classical.not_not, ne_eq, ps_e1, ps_em, ps_z, Nat.not_le, false_implies, true_implies, forall_const, ps_01, ps_1n, ps_0n, ps_m10, ps_m1n, lg_cmp_gt, lg_cmp_ge, lg_cmp_le, lg_cmp_lt, lg_cmp_eq, pu_rne, pu_req, pu_uro, RFc_n, Nat.reduceAdd, Nat.reduceMul, Nat.reduceLT, Nat.reduceLeDiff, Nat.reduceEqDiff, Nat.reduceSub]
        | succ g ih =>
          intro j hj
          have z2 : j < 2000000 ∧ ¬ (am_tx k).length ≤ j ∧ b + j < 2000 ∧ j < (am_tx k).length := by omega
          have k1 : b + j < m := by omega
          have eb : byB u m (b + j) = nI (u (b + j)) := if_pos k1
          have z3 : u (b + j) < 2000000 := by have := (h3 _ k1).2; omega
          have z4 : (am_tx k).getD j 0 < 2000000 := by have := x5 j (by omega); omega
          rw [r46_32, mtF]
          by_cases c3 : u (b + j) = (am_tx k).getD j 0
          · have := ih (j + 1) (by omega)
            rw [decide_eq_true c3, Bool.true_and]
            simp only [↓r46_33, ↓r46_36, ↓r46_37, ↓r46_37n, s38, ↓r46_41, ↓r46_44, ↓r46_45, ↓r46_48, ↓r46_49, ↓r46_52, ↓r46_53, ↓r46_54, ↓r46_57, ↓r46_57n, ↓r46_58, s59, ↓r46_62, ↓r46_65, ↓r46_66, ↓r46_69, ↓r46_70, ↓r46_71, ↓r46_74, ↓c_byteB hW hT z2.2.2.1, gQ_9, g9_7, nI_add, q_le, q_lt, q_eq, q_e0, q_e1, q_0e, q_1e, ps_n0, q_0le, q_le0, q_0lt, q_m1e, q_em1, z, z2, z3, z4, eb, c3, Bool.false_eq_true, hn, hn2, ht, hF, am_wt, am_wf, Option.isSome_some, am_rf_s, am_rf_n, ps_lit, nI_add, nI_1, pk_mul, ps_cl, ps_neg, ps_c0, ps_c1, ps_n01, ps_n11, ps_10, ps_b01, ps_e0, pu_Ine, pu_Ieq, pu_ne, pu_eq, am_k_n, am_k_i, am_k_r, am_k_u, am_k_l, am_sz_0, am_sz_i, am_sz_r, am_sz_u, am_sz_l, Option.toList_some, Option.toList_none, List.cons_append, List.nil_append, true_and, and_true, or_false, false_or, or_self, or_true, true_or, not_false_eq_true, not_true_eq_false, Classical.not_not, ne_eq, ps_e1, ps_em, ps_z, Nat.not_le, false_implies, true_implies, forall_const, ps_01, ps_1n, ps_0n, ps_m10, ps_m1n, lg_cmp_gt, lg_cmp_ge, lg_cmp_le, lg_cmp_lt, lg_cmp_eq, pu_rne, pu_req, pu_uro, RFc_n, Nat.reduceAdd, Nat.reduceMul, Nat.reduceLT, Nat.reduceLeDiff, Nat.reduceEqDiff, Nat.reduceSub]
            exact this
          · have := no (j + 1)
            rw [decide_eq_false c3, Bool.false_and]
            simp only [↓r46_33, ↓r46_36, ↓r46_37, ↓r46_37n, s38, ↓r46_41, ↓r46_44, ↓r46_45, ↓r46_48, ↓r46_49, ↓r46_52, ↓r46_53, ↓r46_54, ↓r46_57, ↓r46_57n, ↓r46_58, s59, ↓r46_62, ↓r46_65, ↓r46_66, ↓r46_69, ↓r46_70, ↓r46_71, ↓r46_74, ↓c_byteB hW hT z2.2.2.1, gQ_9, g9_7, nI_add, q_le, q_lt, q_eq, q_e0, q_e1, q_0e, q_1e, ps_n0, q_0le, q_le0, q_0lt, q_m1e, q_em1, z, z2, z3, z4, eb, c3, Bool.false_eq_true, hn, hn2, ht, hF, am_wt, am_wf, Option.isSome_some, am_rf_s, am_rf_n, ps_lit, nI_add, nI_1, pk_mul, ps_cl, ps_neg, ps_c0, ps_c1, ps_n01, ps_n11, ps_10, ps_b01, ps_e0, pu_Ine, pu_Ieq, pu_ne, pu_eq, am_k_n, am_k_i, am_k_r, am_k_u, am_k_l, am_sz_0, am_sz_i, am_sz_r, am_sz_u, am_sz_l, Option.toList_some, Option.toList_none, List.cons_append, List.nil_append, true_and, and_true, or_false, false_or, or_self, or_true, true_or, not_false_eq_true, not_true_eq_false, Classical.not_not, ne_eq, ps_e1, ps_em, ps_z, Nat.not_le, false_implies, true_implies, forall_const, ps_01, ps_1n, ps_0n, ps_m10, ps_m1n, lg_cmp_gt, lg_cmp_ge, lg_cmp_le, lg_cmp_lt, lg_cmp_eq, pu_rne, pu_req, pu_uro, RFc_n, Nat.reduceAdd, Nat.reduceMul, Nat.reduceLT, Nat.reduceLeDiff, Nat.reduceEqDiff, Nat.reduceSub]
            exact this
      have := hl (am_tx k).length 0 (by omega)
      have e : (kdB u m b = 1 ∧ blB u b c = am_tx k) = (mtF u (am_tx k) b (am_tx k).length 0 = true) := by
        rw [blB_i]
        exact propext ⟨fun h => h.2.2, fun h => ⟨c1, c2, h⟩⟩
      simp only [e]
      simp only [↓r46_0, ↓r46_1, ↓r46_4, ↓r46_5, ↓r46_8, ↓r46_9, ↓r46_12, ↓r46_13, ↓r46_16, ↓r46_17, ↓r46_17n, s18, ↓r46_21, ↓r46_24, ↓r46_25, ↓r46_28, ↓r46_29, ↓r46_30, ↓r46_31, gQ_9, g9_6, g9_7, g9_8, q_le, q_lt, q_eq, q_e0, q_e1, q_0e, q_1e, ps_n0, q_0le, q_le0, q_0lt, q_m1e, q_em1, z, es, c1, c2, Bool.false_eq_true, hn, hn2, ht, hF, am_wt, am_wf, Option.isSome_some, am_rf_s, am_rf_n, ps_lit, nI_add, nI_1, pk_mul, ps_cl, ps_neg, ps_c0, ps_c1, ps_n01, ps_n11, ps_10, ps_b01, ps_e0, pu_Ine, pu_Ieq, pu_ne, pu_eq, am_k_n, am_k_i, am_k_r, am_k_u, am_k_l, am_sz_0, am_sz_i, am_sz_r, am_sz_u, am_sz_l, Option.toList_some, Option.toList_none, List.cons_append, List.nil_append, true_and, and_true, or_false, false_or, or_self, or_true, true_or, not_false_eq_true, not_true_eq_false, Classical.not_not, ne_eq, ps_e1, ps_em, ps_z, Nat.not_le, false_implies, true_implies, forall_const, ps_01, ps_1n, ps_0n, ps_m10, ps_m1n, lg_cmp_gt, lg_cmp_ge, lg_cmp_le, lg_cmp_lt, lg_cmp_eq, pu_rne, pu_req, pu_uro, RFc_n, Nat.reduceAdd, Nat.reduceMul, Nat.reduceLT, Nat.reduceLeDiff, Nat.reduceEqDiff, Nat.reduceSub]
      rw [c1] at this
      exact this
    · have := no 0
      rw [if_neg (fun h => c2 (blB_i.1 h.2).1)]
      simp only [↓r46_0, ↓r46_1, ↓r46_4, ↓r46_5, ↓r46_8, ↓r46_9, ↓r46_12, ↓r46_13, ↓r46_16, ↓r46_17, ↓r46_17n, s18, ↓r46_21, ↓r46_24, ↓r46_25, ↓r46_28, ↓r46_29, ↓r46_30, ↓r46_31, gQ_9, g9_6, g9_7, g9_8, q_le, q_lt, q_eq, q_e0, q_e1, q_0e, q_1e, ps_n0, q_0le, q_le0, q_0lt, q_m1e, q_em1, z, es, c1, c2, Bool.false_eq_true, hn, hn2, ht, hF, am_wt, am_wf, Option.isSome_some, am_rf_s, am_rf_n, ps_lit, nI_add, nI_1, pk_mul, ps_cl, ps_neg, ps_c0, ps_c1, ps_n01, ps_n11, ps_10, ps_b01, ps_e0, pu_Ine, pu_Ieq, pu_ne, pu_eq, am_k_n, am_k_i, am_k_r, am_k_u, am_k_l, am_sz_0, am_sz_i, am_sz_r, am_sz_u, am_sz_l, Option.toList_some, Option.toList_none, List.cons_append, List.nil_append, true_and, and_true, or_false, false_or, or_self, or_true, true_or, not_false_eq_true, not_true_eq_false, Classical.not_not, ne_eq, ps_e1, ps_em, ps_z, Nat.not_le, false_implies, true_implies, forall_const, ps_01, ps_1n, ps_0n, ps_m10, ps_m1n, lg_cmp_gt, lg_cmp_ge, lg_cmp_le, lg_cmp_lt, lg_cmp_eq, pu_rne, pu_req, pu_uro, RFc_n, Nat.reduceAdd, Nat.reduceMul, Nat.reduceLT, Nat.reduceLeDiff, Nat.reduceEqDiff, Nat.reduceSub]
      rw [c1] at this
      exact this
  · have := no 0
    rw [if_neg (fun h => c1 h.1)]
    simp only [↓r46_0, ↓r46_1, ↓r46_4, ↓r46_5, ↓r46_28, ↓r46_29, ↓r46_30, ↓r46_31, gQ_9, g9_6, q_le, q_lt, q_eq, q_e0, q_e1, q_0e, q_1e, ps_n0, q_0le, q_le0, q_0lt, q_m1e, q_em1, z, c1, Bool.false_eq_true, hn, hn2, ht, hF, am_wt, am_wf, Option.isSome_some, am_rf_s, am_rf_n, ps_lit, nI_add, nI_1, pk_mul, ps_cl, ps_neg, ps_c0, ps_c1, ps_n01, ps_n11, ps_10, ps_b01, ps_e0, pu_Ine, pu_Ieq, pu_ne, pu_eq, am_k_n, am_k_i, am_k_r, am_k_u, am_k_l, am_sz_0, am_sz_i, am_sz_r, am_sz_u, am_sz_l, Option.toList_some, Option.toList_none, List.cons_append, List.nil_append, true_and, and_true, or_false, false_or, or_self, or_true, true_or, not_false_eq_true, not_true_eq_false, Classical.not_not, ne_eq, ps_e1, ps_em, ps_z, Nat.not_le, false_implies, true_implies, forall_const, ps_01, ps_1n, ps_0n, ps_m10, ps_m1n, lg_cmp_gt, lg_cmp_ge, lg_cmp_le, lg_cmp_lt, lg_cmp_eq, pu_rne, pu_req, pu_uro, RFc_n, Nat.reduceAdd, Nat.reduceMul, Nat.reduceLT, Nat.reduceLeDiff, Nat.reduceEqDiff, Nat.reduceSub]
    exact this
end CH
