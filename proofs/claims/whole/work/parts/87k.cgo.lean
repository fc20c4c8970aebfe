/-! TEXTS: the class goes on to the next token -/
section CG
variable {X : am_X} {d : Nat} {Q : Option Value → am_H → Prop} {n sl : Nat} {t : Nat → Nat × Nat} {I : Nat → Nat → Int32} {J : Nat → Nat → Int64} {F : Nat → Nat → Option Nat} {h : am_H}
variable {u : Nat → Nat} {m : Nat}
/-- the token's own fields: its kind, where it starts, where it ends, its number -/
def g9 (f : Nat → Int32) (a b c v : Nat) : Nat → Int32 := upd (upd (upd (upd f 6 (nI a)) 7 (nI b)) 8 (nI c)) 9 (nI v)
def gQ (I : Nat → Nat → Int32) (a b c v : Nat) : Nat → Nat → Int32 := am_ro I 9 (g9 (I 9) a b c v)
variable {a b c v : Nat}
theorem gQ_9 {k : Nat} : gQ I a b c v 9 k = g9 (I 9) a b c v k := rfl
theorem g9_6 {f : Nat → Int32} : g9 f a b c v 6 = nI a := rfl
theorem g9_7 {f : Nat → Int32} : g9 f a b c v 7 = nI b := rfl
theorem g9_8 {f : Nat → Int32} : g9 f a b c v 8 = nI c := rfl
theorem g9_9 {f : Nat → Int32} : g9 f a b c v 9 = nI v := rfl
theorem gQ_n {s : Nat} (h : s ≠ 9) : gQ I a b c v s = I s := pu_rne h
theorem gQ_u6 {w : Nat} : am_uI (gQ I a b c v) 9 6 (nI w) = gQ I w b c v := by
  unfold gQ
  rw [pu_uro]
  congr 1
  funext k
  unfold g9 upd
  by_cases h : k = 6
  · simp [h]
  · simp [h]
theorem gQ_u7 {w : Nat} : am_uI (gQ I a b c v) 9 7 (nI w) = gQ I a w c v := by
  unfold gQ
  rw [pu_uro]
  congr 1
  funext k
  unfold g9 upd
  by_cases h : k = 7
  · simp [h]
  · simp [h]
theorem gQ_u8 {w : Nat} : am_uI (gQ I a b c v) 9 8 (nI w) = gQ I a b w v := by
  unfold gQ
  rw [pu_uro]
  congr 1
  funext k
  unfold g9 upd
  by_cases h : k = 8
  · simp [h]
  · simp [h]
theorem gQ_u9 {w : Nat} : am_uI (gQ I a b c v) 9 9 (nI w) = gQ I a b c w := by
  unfold gQ
  rw [pu_uro]
  congr 1
  funext k
  unfold g9 upd
  by_cases h : k = 9
  · simp [h]
  · simp [h]
/-- the class's tape has the bytes u -/
def TPB (I : Nat → Nat → Int32) (u : Nat → Nat) (m : Nat) : Prop := m ≤ 400 ∧ I 7 1 = nI m ∧ ∀ j, j < m → I 8 j &&& nI 255 = nI (u j) ∧ u j < 256
def byB (u : Nat → Nat) (m j : Nat) : Int32 := if j < m then nI (u j) else -1
theorem c_byteB {j : Nat} (hW : WS n t F) (hT : TPB I u m) (hj : j < 2000) : am_W X d 38 0 [some (.ref 7), some (.int (nI j))] [] (n, sl, t, gQ I a b c v, J, F) Q ↔ Q (some (.int (byB u m j))) (n, sl, t, gQ I a b c v, J, F) := by
  obtain ⟨hn, hn2, ht, hF⟩ := id hW
  obtain ⟨h1, h2, h3⟩ := hT
  have z : j < 2000000 ∧ m < 2000000 := by omega
  unfold byB
  by_cases k : j < m
  · obtain ⟨h4, h5⟩ := h3 j k
    have z2 : ¬ m ≤ j ∧ ¬ 400 ≤ j ∧ j < 400 := by omega
    simp only [↓r38_0, ↓r38_1, ↓r38_4, ↓r38_5, ↓r38_6, ↓r38_9, ↓r38_12, ↓r38_13, ↓r38_16, ↓r38_19, ↓r38_20, ↓r38_23, ↓r38_24, ↓r38_25, ↓r38_28, ↓r38_29, ↓r38_32, ↓r38_33, gQ_n, q_le, q_lt, q_eq, q_e0, q_e1, q_0e, q_1e, ps_n0, q_0le, q_le0, q_0lt, q_m1e, q_em1, z, z2, h2, h4, k, if_true, Bool.false_eq_true, hn, hn2, ht, hF, am_wt, am_wf, Option.isSome_some, am_rf_s, am_rf_n, ps_lit, nI_add, nI_1, pk_mul, ps_cl, ps_neg, ps_c0, ps_c1, ps_n01, ps_n11, ps_10, ps_b01, ps_e0, pu_Ine, pu_Ieq, pu_ne, pu_eq, am_k_n, am_k_i, am_k_r, am_k_u, am_k_l, am_sz_0, am_sz_i, am_sz_r, am_sz_u, am_sz_l, Option.toList_some, Option.toList_none, List.cons_append, List.nil_append, true_and, and_true, or_false, false_or, or_self, or_true, true_or, not_false_eq_true, not_true_eq_false, Classical.not_not, ne_eq, ps_e1, ps_em, ps_z, Nat.not_le, false_implies, true_implies, forall_const, ps_01, ps_1n, ps_0n, ps_m10, ps_m1n, lg_cmp_gt, lg_cmp_ge, lg_cmp_le, lg_cmp_lt, lg_cmp_eq, pu_rne, pu_req, pu_uro, RFc_n, Nat.reduceAdd, Nat.reduceMul, Nat.reduceLT, Nat.reduceLeDiff, Nat.reduceEqDiff, Nat.reduceSub]
  · have z2 : m ≤ j := by omega
    simp only [↓r38_0, ↓r38_1, ↓r38_4, ↓r38_5, ↓r38_6, ↓r38_9, ↓r38_12, ↓r38_13, ↓r38_16, ↓r38_19, ↓r38_20, ↓r38_23, ↓r38_24, ↓r38_25, ↓r38_28, ↓r38_29, ↓r38_32, ↓r38_33, gQ_n, q_le, q_lt, q_eq, q_e0, q_e1, q_0e, q_1e, ps_n0, q_0le, q_le0, q_0lt, q_m1e, q_em1, z, z2, h2, k, if_false, Bool.false_eq_true, hn, hn2, ht, hF, am_wt, am_wf, Option.isSome_some, am_rf_s, am_rf_n, ps_lit, nI_add, nI_1, pk_mul, ps_cl, ps_neg, ps_c0, ps_c1, ps_n01, ps_n11, ps_10, ps_b01, ps_e0, pu_Ine, pu_Ieq, pu_ne, pu_eq, am_k_n, am_k_i, am_k_r, am_k_u, am_k_l, am_sz_0, am_sz_i, am_sz_r, am_sz_u, am_sz_l, Option.toList_some, Option.toList_none, List.cons_append, List.nil_append, true_and, and_true, or_false, false_or, or_self, or_true, true_or, not_false_eq_true, not_true_eq_false, Classical.not_not, ne_eq, ps_e1, ps_em, ps_z, Nat.not_le, false_implies, true_implies, forall_const, ps_01, ps_1n, ps_0n, ps_m10, ps_m1n, lg_cmp_gt, lg_cmp_ge, lg_cmp_le, lg_cmp_lt, lg_cmp_eq, pu_rne, pu_req, pu_uro, RFc_n, Nat.reduceAdd, Nat.reduceMul, Nat.reduceLT, Nat.reduceLeDiff, Nat.reduceEqDiff, Nat.reduceSub]
theorem c_kindB {j : Nat} (hT : TPB I u m) : am_W X (d + 1) 42 0 [some (.int (byB u m j))] [] (n, sl, t, gQ I a b c v, J, F) Q ↔ Q (some (.int (nI (kdB u m j)))) (n, sl, t, gQ I a b c v, J, F) := by
  obtain ⟨h1, h2, h3⟩ := hT
  unfold byB kdB
  by_cases k : m ≤ j
  · have k2 : ¬ j < m := by omega
    rw [if_pos k, if_neg k2]
    simp only [↓r42_0, ↓r42_1, ↓r42_2, ↓r42_5, ↓r42_6, ↓r42_7, ↓r42_8, ↓r42_10, ↓r42_12, ↓r42_15, ↓r42_18, ↓r42_19, ↓r42_20, ↓r42_21, ↓r42_23, ↓r42_25, ↓r42_28, ↓r42_31, ↓r42_32, ↓r42_35, ↓r42_36, q_le, q_lt, q_eq, q_e0, q_e1, q_0e, q_1e, ps_n0, q_0le, q_le0, q_0lt, q_m1e, q_em1, Bool.false_eq_true, ps_lit, nI_add, nI_1, pk_mul, ps_cl, ps_neg, ps_c0, ps_c1, ps_n01, ps_n11, ps_10, ps_01, ps_1n, ps_0n, ps_b01, ps_e0, am_k_n, am_k_i, am_k_r, am_k_u, am_k_l, am_sz_0, am_sz_i, am_sz_r, am_sz_u, am_sz_l, Option.toList_some, Option.toList_none, List.cons_append, List.nil_append, true_and, and_true, or_false, false_or, or_self, or_true, true_or, and_self, if_true, if_false, not_false_eq_true, not_true_eq_false, Classical.not_not, ne_eq, ps_e1, ps_em, ps_z, Nat.not_le, false_implies, true_implies, forall_const, Nat.reduceAdd, Nat.reduceMul, Nat.reduceLT, Nat.reduceLeDiff, Nat.reduceEqDiff, Nat.reduceSub]
  · have k2 : j < m := by omega
    obtain ⟨h4, h5⟩ := h3 j k2
    rw [if_neg k, if_pos k2]
    have z : u j < 2000000 := by omega
    by_cases c1 : 97 ≤ u j ∧ u j ≤ 122
    · rw [if_pos c1]
      have e1 : (nI 97 ≤ nI (u j) ∧ nI (u j) ≤ nI 122) = True := by
        simp only [q_le, z, c1, Bool.false_eq_true, ps_lit, nI_add, nI_1, pk_mul, ps_cl, ps_neg, ps_c0, ps_c1, ps_n01, ps_n11, ps_10, ps_01, ps_1n, ps_0n, ps_b01, ps_e0, am_k_n, am_k_i, am_k_r, am_k_u, am_k_l, am_sz_0, am_sz_i, am_sz_r, am_sz_u, am_sz_l, Option.toList_some, Option.toList_none, List.cons_append, List.nil_append, true_and, and_true, or_false, false_or, or_self, or_true, true_or, and_self, if_true, if_false, not_false_eq_true, not_true_eq_false, Classical.not_not, ne_eq, ps_e1, ps_em, ps_z, Nat.not_le, false_implies, true_implies, forall_const, Nat.reduceAdd, Nat.reduceMul, Nat.reduceLT, Nat.reduceLeDiff, Nat.reduceEqDiff, Nat.reduceSub]
      simp only [↓r42_0, ↓r42_1, ↓r42_2, ↓r42_5, ↓r42_6, ↓r42_7, ↓r42_8, ↓r42_10, ↓r42_12, ↓r42_15, ↓r42_18, ↓r42_19, ↓r42_20, ↓r42_21, ↓r42_23, ↓r42_25, ↓r42_28, ↓r42_31, ↓r42_32, ↓r42_35, ↓r42_36, ↓c_within, q_em1, q_m1e, e1, z, if_true, Bool.false_eq_true, ps_lit, nI_add, nI_1, pk_mul, ps_cl, ps_neg, ps_c0, ps_c1, ps_n01, ps_n11, ps_10, ps_01, ps_1n, ps_0n, ps_b01, ps_e0, am_k_n, am_k_i, am_k_r, am_k_u, am_k_l, am_sz_0, am_sz_i, am_sz_r, am_sz_u, am_sz_l, Option.toList_some, Option.toList_none, List.cons_append, List.nil_append, true_and, and_true, or_false, false_or, or_self, or_true, true_or, and_self, if_true, if_false, not_false_eq_true, not_true_eq_false, Classical.not_not, ne_eq, ps_e1, ps_em, ps_z, Nat.not_le, false_implies, true_implies, forall_const, Nat.reduceAdd, Nat.reduceMul, Nat.reduceLT, Nat.reduceLeDiff, Nat.reduceEqDiff, Nat.reduceSub]
      exact Iff.rfl
    · rw [if_neg c1]
      have e1 : (nI 97 ≤ nI (u j) ∧ nI (u j) ≤ nI 122) = False := by
        simp only [q_le, z, c1, Bool.false_eq_true, ps_lit, nI_add, nI_1, pk_mul, ps_cl, ps_neg, ps_c0, ps_c1, ps_n01, ps_n11, ps_10, ps_01, ps_1n, ps_0n, ps_b01, ps_e0, am_k_n, am_k_i, am_k_r, am_k_u, am_k_l, am_sz_0, am_sz_i, am_sz_r, am_sz_u, am_sz_l, Option.toList_some, Option.toList_none, List.cons_append, List.nil_append, true_and, and_true, or_false, false_or, or_self, or_true, true_or, and_self, if_true, if_false, not_false_eq_true, not_true_eq_false, Classical.not_not, ne_eq, ps_e1, ps_em, ps_z, Nat.not_le, false_implies, true_implies, forall_const, Nat.reduceAdd, Nat.reduceMul, Nat.reduceLT, Nat.reduceLeDiff, Nat.reduceEqDiff, Nat.reduceSub]
      by_cases c2 : 48 ≤ u j ∧ u j ≤ 57
      · rw [if_pos c2]
        have e2 : (nI 48 ≤ nI (u j) ∧ nI (u j) ≤ nI 57) = True := by
          simp only [q_le, z, c2, Bool.false_eq_true, ps_lit, nI_add, nI_1, pk_mul, ps_cl, ps_neg, ps_c0, ps_c1, ps_n01, ps_n11, ps_10, ps_01, ps_1n, ps_0n, ps_b01, ps_e0, am_k_n, am_k_i, am_k_r, am_k_u, am_k_l, am_sz_0, am_sz_i, am_sz_r, am_sz_u, am_sz_l, Option.toList_some, Option.toList_none, List.cons_append, List.nil_append, true_and, and_true, or_false, false_or, or_self, or_true, true_or, and_self, if_true, if_false, not_false_eq_true, not_true_eq_false, Classical.not_not, ne_eq, ps_e1, ps_em, ps_z, Nat.not_le, false_implies, true_implies, forall_const, Nat.reduceAdd, Nat.reduceMul, Nat.reduceLT, Nat.reduceLeDiff, Nat.reduceEqDiff, Nat.reduceSub]
        simp only [↓r42_0, ↓r42_1, ↓r42_2, ↓r42_5, ↓r42_6, ↓r42_7, ↓r42_8, ↓r42_10, ↓r42_12, ↓r42_15, ↓r42_18, ↓r42_19, ↓r42_20, ↓r42_21, ↓r42_23, ↓r42_25, ↓r42_28, ↓r42_31, ↓r42_32, ↓r42_35, ↓r42_36, ↓c_within, q_em1, q_m1e, e1, e2, z, if_true, if_false, Bool.false_eq_true, ps_lit, nI_add, nI_1, pk_mul, ps_cl, ps_neg, ps_c0, ps_c1, ps_n01, ps_n11, ps_10, ps_01, ps_1n, ps_0n, ps_b01, ps_e0, am_k_n, am_k_i, am_k_r, am_k_u, am_k_l, am_sz_0, am_sz_i, am_sz_r, am_sz_u, am_sz_l, Option.toList_some, Option.toList_none, List.cons_append, List.nil_append, true_and, and_true, or_false, false_or, or_self, or_true, true_or, and_self, if_true, if_false, not_false_eq_true, not_true_eq_false, Classical.not_not, ne_eq, ps_e1, ps_em, ps_z, Nat.not_le, false_implies, true_implies, forall_const, Nat.reduceAdd, Nat.reduceMul, Nat.reduceLT, Nat.reduceLeDiff, Nat.reduceEqDiff, Nat.reduceSub]
      · rw [if_neg c2]
        have e2 : (nI 48 ≤ nI (u j) ∧ nI (u j) ≤ nI 57) = False := by
          simp only [q_le, z, c2, Bool.false_eq_true, ps_lit, nI_add, nI_1, pk_mul, ps_cl, ps_neg, ps_c0, ps_c1, ps_n01, ps_n11, ps_10, ps_01, ps_1n, ps_0n, ps_b01, ps_e0, am_k_n, am_k_i, am_k_r, am_k_u, am_k_l, am_sz_0, am_sz_i, am_sz_r, am_sz_u, am_sz_l, Option.toList_some, Option.toList_none, List.cons_append, List.nil_append, true_and, and_true, or_false, false_or, or_self, or_true, true_or, and_self, if_true, if_false, not_false_eq_true, not_true_eq_false, Classical.not_not, ne_eq, ps_e1, ps_em, ps_z, Nat.not_le, false_implies, true_implies, forall_const, Nat.reduceAdd, Nat.reduceMul, Nat.reduceLT, Nat.reduceLeDiff, Nat.reduceEqDiff, Nat.reduceSub]
        simp only [↓r42_0, ↓r42_1, ↓r42_2, ↓r42_5, ↓r42_6, ↓r42_7, ↓r42_8, ↓r42_10, ↓r42_12, ↓r42_15, ↓r42_18, ↓r42_19, ↓r42_20, ↓r42_21, ↓r42_23, ↓r42_25, ↓r42_28, ↓r42_31, ↓r42_32, ↓r42_35, ↓r42_36, ↓c_within, q_em1, q_m1e, e1, e2, z, if_false, Bool.false_eq_true, ps_lit, nI_add, nI_1, pk_mul, ps_cl, ps_neg, ps_c0, ps_c1, ps_n01, ps_n11, ps_10, ps_01, ps_1n, ps_0n, ps_b01, ps_e0, am_k_n, am_k_i, am_k_r, am_k_u, am_k_l, am_sz_0, am_sz_i, am_sz_r, am_sz_u, am_sz_l, Option.toList_some, Option.toList_none, List.cons_append, List.nil_append, true_and, and_true, or_false, false_or, or_self, or_true, true_or, and_self, if_true, if_false, not_false_eq_true, not_true_eq_false, Classical.not_not, ne_eq, ps_e1, ps_em, ps_z, Nat.not_le, false_implies, true_implies, forall_const, Nat.reduceAdd, Nat.reduceMul, Nat.reduceLT, Nat.reduceLeDiff, Nat.reduceEqDiff, Nat.reduceSub]
theorem c_signB {s : Nat} (hW : WS n t F) (hT : TPB I u m) (hb : b < 2000) (hs : s < 200) : am_W X (d + 1) 50 0 [some (.ref 9), some (.int (nI s))] [] (n, sl, t, gQ I (kdB u m b) b c v, J, F) Q ↔ Q (some (.int (if kdB u m b = 3 ∧ u b = s then 1 else 0))) (n, sl, t, gQ I (kdB u m b) b c v, J, F) := by
  obtain ⟨hn, hn2, ht, hF⟩ := id hW
  have zk := kdB_le (u := u) (m := m) (j := b)
  have z : kdB u m b < 2000000 ∧ s < 2000000 := by omega
  by_cases c1 : kdB u m b = 3
  · have k : b < m := by
      by_cases k : b < m
      · exact k
      · have := (kdB_0 (u := u)).2 (show m ≤ b by omega)
        omega
    have eb : byB u m b = nI (u b) := if_pos k
    have z2 : u b < 2000000 := by have := (hT.2.2 b k).2; omega
    by_cases c2 : u b = s
    · rw [if_pos ⟨c1, c2⟩]
      simp only [↓r50_0, ↓r50_1, ↓r50_4, ↓r50_5, ↓r50_8, ↓r50_9, ↓r50_12, ↓r50_13, ↓r50_16, ↓r50_19, ↓r50_20, ↓r50_23, ↓r50_24, ↓r50_27, ↓r50_28, ↓c_byteB hW hT hb, gQ_9, g9_6, g9_7, q_le, q_lt, q_eq, q_e0, q_e1, q_0e, q_1e, ps_n0, q_0le, q_le0, q_0lt, q_m1e, q_em1, c1, eb, c2, z, Bool.false_eq_true, hn, hn2, ht, hF, am_wt, am_wf, Option.isSome_some, am_rf_s, am_rf_n, ps_lit, nI_add, nI_1, pk_mul, ps_cl, ps_neg, ps_c0, ps_c1, ps_n01, ps_n11, ps_10, ps_b01, ps_e0, pu_Ine, pu_Ieq, pu_ne, pu_eq, am_k_n, am_k_i, am_k_r, am_k_u, am_k_l, am_sz_0, am_sz_i, am_sz_r, am_sz_u, am_sz_l, Option.toList_some, Option.toList_none, List.cons_append, List.nil_append, true_and, and_true, or_false, false_or, or_self, or_true, true_or, not_false_eq_true, not_true_eq_false, Classical.not_not, ne_eq, ps_e1, ps_em, ps_z, Nat.not_le, false_implies, true_implies, forall_const, ps_01, ps_1n, ps_0n, ps_m10, ps_m1n, lg_cmp_gt, lg_cmp_ge, lg_cmp_le, lg_cmp_lt, lg_cmp_eq, pu_rne, pu_req, pu_uro, RFc_n, Nat.reduceAdd, Nat.reduceMul, Nat.reduceLT, Nat.reduceLeDiff, Nat.reduceEqDiff, Nat.reduceSub]
    · rw [if_neg (fun h => c2 h.2)]
      simp only [↓r50_0, ↓r50_1, ↓r50_4, ↓r50_5, ↓r50_8, ↓r50_9, ↓r50_12, ↓r50_13, ↓r50_16, ↓r50_19, ↓r50_20, ↓r50_23, ↓r50_24, ↓r50_27, ↓r50_28, ↓c_byteB hW hT hb, gQ_9, g9_6, g9_7, q_le, q_lt, q_eq, q_e0, q_e1, q_0e, q_1e, ps_n0, q_0le, q_le0, q_0lt, q_m1e, q_em1, c1, eb, c2, z, z2, Bool.false_eq_true, hn, hn2, ht, hF, am_wt, am_wf, Option.isSome_some, am_rf_s, am_rf_n, ps_lit, nI_add, nI_1, pk_mul, ps_cl, ps_neg, ps_c0, ps_c1, ps_n01, ps_n11, ps_10, ps_b01, ps_e0, pu_Ine, pu_Ieq, pu_ne, pu_eq, am_k_n, am_k_i, am_k_r, am_k_u, am_k_l, am_sz_0, am_sz_i, am_sz_r, am_sz_u, am_sz_l, Option.toList_some, Option.toList_none, List.cons_append, List.nil_append, true_and, and_true, or_false, false_or, or_self, or_true, true_or, not_false_eq_true, not_true_eq_false, Classical.not_not, ne_eq, ps_e1, ps_em, ps_z, Nat.not_le, false_implies, true_implies, forall_const, ps_01, ps_1n, ps_0n, ps_m10, ps_m1n, lg_cmp_gt, lg_cmp_ge, lg_cmp_le, lg_cmp_lt, lg_cmp_eq, pu_rne, pu_req, pu_uro, RFc_n, Nat.reduceAdd, Nat.reduceMul, Nat.reduceLT, Nat.reduceLeDiff, Nat.reduceEqDiff, Nat.reduceSub]
  · rw [if_neg (fun h => c1 h.1)]
    simp only [↓r50_0, ↓r50_1, ↓r50_4, ↓r50_5, ↓r50_8, ↓r50_9, ↓r50_12, ↓r50_13, ↓r50_16, ↓r50_19, ↓r50_20, ↓r50_23, ↓r50_24, ↓r50_27, ↓r50_28, gQ_9, g9_6, q_le, q_lt, q_eq, q_e0, q_e1, q_0e, q_1e, ps_n0, q_0le, q_le0, q_0lt, q_m1e, q_em1, c1, z, Bool.false_eq_true, hn, hn2, ht, hF, am_wt, am_wf, Option.isSome_some, am_rf_s, am_rf_n, ps_lit, nI_add, nI_1, pk_mul, ps_cl, ps_neg, ps_c0, ps_c1, ps_n01, ps_n11, ps_10, ps_b01, ps_e0, pu_Ine, pu_Ieq, pu_ne, pu_eq, am_k_n, am_k_i, am_k_r, am_k_u, am_k_l, am_sz_0, am_sz_i, am_sz_r, am_sz_u, am_sz_l, Option.toList_some, Option.toList_none, List.cons_append, List.nil_append, true_and, and_true, or_false, false_or, or_self, or_true, true_or, not_false_eq_true, not_true_eq_false, Classical.not_not, ne_eq, ps_e1, ps_em, ps_z, Nat.not_le, false_implies, true_implies, forall_const, ps_01, ps_1n, ps_0n, ps_m10, ps_m1n, lg_cmp_gt, lg_cmp_ge, lg_cmp_le, lg_cmp_lt, lg_cmp_eq, pu_rne, pu_req, pu_uro, RFc_n, Nat.reduceAdd, Nat.reduceMul, Nat.reduceLT, Nat.reduceLeDiff, Nat.reduceEqDiff, Nat.reduceSub]
end CG
