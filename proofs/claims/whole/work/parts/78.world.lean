/-! calls, one on each side: world -/
section WO2
variable {X : am_X} {d : Nat} {Q : Option Value → am_H → Prop} {n sl : Nat} {t : Nat → Nat × Nat} {I : Nat → Nat → Int32} {J : Nat → Nat → Int64} {F : Nat → Nat → Option Nat} {h : am_H}
variable {K : Nat → Int32} {N T : Nat} {lw : Nat → List CL}
def wv (I : Nat → Nat → Int32) (w c : Nat) : Int32 := match w with
  | 0 => I 69 c
  | 1 => I 70 c
  | _ => I 71 c
theorem c_wat {c w : Nat} (hW : WS n t F) (hc : c < 120) (hw : w ≤ 2) : am_W X (d + 1) 155 0 [some (.ref 41), some (.int (nI c)), some (.int (nI w)), none] [] (n, sl, t, I, J, F) Q ↔ Q (some (.int (I 43 (3 * c + w)))) (n, sl, t, I, J, F) := by
  obtain ⟨hn, hn2, ht, hF⟩ := id hW
  have z1 : c < 2000000 ∧ c ≤ 119 ∧ w < 2000000 ∧ 3 * c + w < 2000000 ∧ 3 * c + w < 360 := by omega
  have e0 : c * 3 = 3 * c := by omega
  simp only [↓r155_0, ↓r155_1, ↓r155_2, ↓r155_4, ↓r155_7, ↓r155_10, ↓r155_11, ↓r155_12, ↓r155_13, ↓r155_16, ↓r155_19, ↓r155_20, ↓r155_23, ↓r155_24, ↓r155_25, ↓r155_26, ↓r155_29, ↓r155_30, ↓r155_33, ↓r155_34, ↓r155_35, ↓r155_36, ↓r155_37, ↓r155_38, ↓r155_38k, ↓r155_39, ↓r155_42, ↓r155_43, ↓c_within, q_le, q_lt, q_eq, q_e0, q_e1, q_0e, q_1e, ps_n0, q_0le, q_le0, q_0lt, q_m1e, q_em1, z1, hw, e0, and_self, if_true, Bool.false_eq_true, hn, hn2, ht, hF, am_wt, am_wf, Option.isSome_some, am_rf_s, am_rf_n, ps_lit, nI_add, nI_1, pk_mul, ps_cl, ps_neg, ps_c0, ps_c1, ps_n01, ps_n11, ps_10, ps_b01, ps_e0, pu_Ine, pu_Ieq, pu_ne, pu_eq, am_k_n, am_k_i, am_k_r, am_k_u, am_k_l, am_sz_0, am_sz_i, am_sz_r, am_sz_u, am_sz_l, Option.toList_some, Option.toList_none, List.cons_append, List.nil_append, true_and, and_true, or_false, false_or, or_self, or_true, true_or, not_false_eq_true, not_true_eq_false, Classical.not_not, ne_eq, ps_e1, ps_em, ps_z, Nat.not_le, false_implies, true_implies, forall_const, ps_01, ps_1n, ps_0n, ps_m10, ps_m1n, lg_cmp_gt, lg_cmp_ge, lg_cmp_le, lg_cmp_lt, lg_cmp_eq, pu_rne, pu_req, pu_uro, RFc_n, Nat.reduceAdd, Nat.reduceMul, Nat.reduceLT, Nat.reduceLeDiff, Nat.reduceEqDiff, Nat.reduceSub]
theorem cl_wsum {w M : Nat} (hW : WS n t F) (hM : M ≤ 120) (hw : w ≤ 2) (hs : I 41 2 = nI M) : am_W X (d + 2) 154 0 [some (.ref 41), some (.int (nI w)), none, none] [] (n, sl, t, I, J, F) Q ↔ Q (some (.int (smI (fun c => I 43 (3 * c + w)) M))) (n, sl, t, I, J, F) := by
  obtain ⟨hn, hn2, ht, hF⟩ := id hW
  have hx : am_W X (d + 2) 154 4 [some (.ref 41), some (.int (nI w)), some (.int 0), some (.int 0)] [] (n, sl, t, I, J, F) Q ↔ Q (some (.int (smI (fun c => I 43 (3 * c + w)) M))) (n, sl, t, I, J, F) := by
    refine lp0 (A := fun c => am_W X (d + 2) 154 4 [some (.ref 41), some (.int (nI w)), some (.int (smI (fun c => I 43 (3 * c + w)) c)), some (.int (nI c))] [] (n, sl, t, I, J, F) Q ↔ Q (some (.int (smI (fun c => I 43 (3 * c + w)) M))) (n, sl, t, I, J, F)) (N := M) ?_ ?_
    · intro c hc ih
      have z1 : c < 2000000 ∧ M < 2000000 := by omega
      have z2 : ¬ M ≤ c := by omega
      have e1 := fun Q => c_wat (X := X) (d := d) (Q := Q) (sl := sl) (J := J) (I := I) (c := c) (w := w) hW (by omega) hw
      rw [smI] at ih
      rw [r154_4]
      simp only [↓r154_5, ↓r154_6, ↓r154_9, ↓r154_12, ↓r154_13, ↓r154_14, ↓r154_15, ↓r154_16, ↓r154_19, ↓r154_20, ↓r154_21, ↓r154_24, ↓e1, q_le, q_lt, q_eq, q_e0, q_e1, q_0e, q_1e, ps_n0, q_0le, q_le0, q_0lt, q_m1e, q_em1, hs, z1, z2, Bool.false_eq_true, hn, hn2, ht, hF, am_wt, am_wf, Option.isSome_some, am_rf_s, am_rf_n, ps_lit, nI_add, nI_1, pk_mul, ps_cl, ps_neg, ps_c0, ps_c1, ps_n01, ps_n11, ps_10, ps_b01, ps_e0, pu_Ine, pu_Ieq, pu_ne, pu_eq, am_k_n, am_k_i, am_k_r, am_k_u, am_k_l, am_sz_0, am_sz_i, am_sz_r, am_sz_u, am_sz_l, Option.toList_some, Option.toList_none, List.cons_append, List.nil_append, true_and, and_true, or_false, false_or, or_self, or_true, true_or, not_false_eq_true, not_true_eq_false, Classical.not_not, ne_eq, ps_e1, ps_em, ps_z, Nat.not_le, false_implies, true_implies, forall_const, ps_01, ps_1n, ps_0n, ps_m10, ps_m1n, lg_cmp_gt, lg_cmp_ge, lg_cmp_le, lg_cmp_lt, lg_cmp_eq, pu_rne, pu_req, pu_uro, RFc_n, Nat.reduceAdd, Nat.reduceMul, Nat.reduceLT, Nat.reduceLeDiff, Nat.reduceEqDiff, Nat.reduceSub]
      exact ih
    · rw [r154_4]
      simp only [↓r154_5, ↓r154_6, ↓r154_9, ↓r154_27, ↓r154_28, hs, Int32.le_refl, Bool.false_eq_true, hn, hn2, ht, hF, am_wt, am_wf, Option.isSome_some, am_rf_s, am_rf_n, ps_lit, nI_add, nI_1, pk_mul, ps_cl, ps_neg, ps_c0, ps_c1, ps_n01, ps_n11, ps_10, ps_b01, ps_e0, pu_Ine, pu_Ieq, pu_ne, pu_eq, am_k_n, am_k_i, am_k_r, am_k_u, am_k_l, am_sz_0, am_sz_i, am_sz_r, am_sz_u, am_sz_l, Option.toList_some, Option.toList_none, List.cons_append, List.nil_append, true_and, and_true, or_false, false_or, or_self, or_true, true_or, not_false_eq_true, not_true_eq_false, Classical.not_not, ne_eq, ps_e1, ps_em, ps_z, Nat.not_le, false_implies, true_implies, forall_const, ps_01, ps_1n, ps_0n, ps_m10, ps_m1n, lg_cmp_gt, lg_cmp_ge, lg_cmp_le, lg_cmp_lt, lg_cmp_eq, pu_rne, pu_req, pu_uro, RFc_n, Nat.reduceAdd, Nat.reduceMul, Nat.reduceLT, Nat.reduceLeDiff, Nat.reduceEqDiff, Nat.reduceSub]
  rw [← hx]
  simp only [↓r154_0, ↓r154_1, ↓r154_2, ↓r154_3, am_k_i]
theorem smI_one {f : Nat → Int32} {k : Nat} : ∀ M, smI (fun q => if q = k then f q else 0) M = if k < M then f k else 0 := by
  intro M
  induction M with
  | zero => rfl
  | succ M ih =>
    rw [smI, ih]
    by_cases e : M = k
    · subst e
      rw [if_pos rfl, if_neg (by omega), if_pos (by omega), Int32.zero_add]
    · rw [if_neg e, Int32.add_zero]
      by_cases h : k < M
      · rw [if_pos h, if_pos (by omega)]
      · rw [if_neg h, if_neg (by omega)]
theorem m_wrd {x : Int32} {w M : Nat} (hW : WS n t F) (hM : M ≤ 120) (hw : w ≤ 2) (hs : I 47 38 = nI M) : am_W X d 288 38 [some (.ref 47), some (.int x), some (.int (nI w)), some (.int 0), some (.int 0)] [] (n, sl, t, I, J, F) Q ↔ Q (some (.int (smI (fun c => if x = -1 ∨ x = nI c then wv I w c else 0) M))) (n, sl, t, I, J, F) := by
  obtain ⟨hn, hn2, ht, hF⟩ := id hW
  refine lp0 (A := fun c => am_W X d 288 38 [some (.ref 47), some (.int x), some (.int (nI w)), some (.int (smI (fun c => if x = -1 ∨ x = nI c then wv I w c else 0) c)), some (.int (nI c))] [] (n, sl, t, I, J, F) Q ↔ Q (some (.int (smI (fun c => if x = -1 ∨ x = nI c then wv I w c else 0) M))) (n, sl, t, I, J, F)) (N := M) ?_ ?_
  · intro c hc ih
    have z1 : c < 2000000 ∧ M < 2000000 ∧ c < 120 := by omega
    have z2 : ¬ M ≤ c := by omega
    rw [smI] at ih
    generalize smI (fun c => if x = -1 ∨ x = nI c then wv I w c else 0) c = A0 at ih ⊢
    generalize smI (fun c => if x = -1 ∨ x = nI c then wv I w c else 0) M = B0 at ih ⊢
    rw [r288_38]
    have core : ∀ A : Int32, (am_W X d 288 58 [some (.ref 47), some (.int x), some (.int (nI w)), some (.int A), some (.int (nI c))] [] (n, sl, t, I, J, F) Q ↔ am_W X d 288 38 [some (.ref 47), some (.int x), some (.int (nI w)), some (.int (A + wv I w c)), some (.int (nI (c + 1)))] [] (n, sl, t, I, J, F) Q) := by
      intro A
      match w, hw with
      | 0, _ => simp only [↓r288_58, ↓r288_59, ↓r288_60, ↓r288_63, ↓r288_64, ↓r288_67, ↓r288_69, ↓r288_69k, ↓r288_70, ↓r288_73, ↓r288_74, ↓r288_75, ↓r288_78, ↓r288_79, ↓r288_82, ↓r288_84, ↓r288_84k, ↓r288_85, ↓r288_88, ↓r288_89, ↓r288_92, ↓r288_94, ↓r288_94k, ↓r288_95, ↓r288_96, ↓r288_97, ↓r288_100, q_le, q_lt, q_eq, q_e0, q_e1, q_0e, q_1e, ps_n0, q_0le, q_le0, q_0lt, q_m1e, q_em1, z1, wv, Bool.false_eq_true, hn, hn2, ht, hF, am_wt, am_wf, Option.isSome_some, am_rf_s, am_rf_n, ps_lit, nI_add, nI_1, pk_mul, ps_cl, ps_neg, ps_c0, ps_c1, ps_n01, ps_n11, ps_10, ps_b01, ps_e0, pu_Ine, pu_Ieq, pu_ne, pu_eq, am_k_n, am_k_i, am_k_r, am_k_u, am_k_l, am_sz_0, am_sz_i, am_sz_r, am_sz_u, am_sz_l, Option.toList_some, Option.toList_none, List.cons_append, List.nil_append, true_and, and_true, or_false, false_or, or_self, or_true, true_or, not_false_eq_true, not_true_eq_false, Classical.not_not, ne_eq, ps_e1, ps_em, ps_z, Nat.not_le, false_implies, true_implies, forall_const, ps_01, ps_1n, ps_0n, ps_m10, ps_m1n, lg_cmp_gt, lg_cmp_ge, lg_cmp_le, lg_cmp_lt, lg_cmp_eq, pu_rne, pu_req, pu_uro, RFc_n, Nat.reduceAdd, Nat.reduceMul, Nat.reduceLT, Nat.reduceLeDiff, Nat.reduceEqDiff, Nat.reduceSub]
      | 1, _ => simp only [↓r288_58, ↓r288_59, ↓r288_60, ↓r288_63, ↓r288_64, ↓r288_67, ↓r288_69, ↓r288_69k, ↓r288_70, ↓r288_73, ↓r288_74, ↓r288_75, ↓r288_78, ↓r288_79, ↓r288_82, ↓r288_84, ↓r288_84k, ↓r288_85, ↓r288_88, ↓r288_89, ↓r288_92, ↓r288_94, ↓r288_94k, ↓r288_95, ↓r288_96, ↓r288_97, ↓r288_100, q_le, q_lt, q_eq, q_e0, q_e1, q_0e, q_1e, ps_n0, q_0le, q_le0, q_0lt, q_m1e, q_em1, z1, wv, Bool.false_eq_true, hn, hn2, ht, hF, am_wt, am_wf, Option.isSome_some, am_rf_s, am_rf_n, ps_lit, nI_add, nI_1, pk_mul, ps_cl, ps_neg, ps_c0, ps_c1, ps_n01, ps_n11, ps_10, ps_b01, ps_e0, pu_Ine, pu_Ieq, pu_ne, pu_eq, am_k_n, am_k_i, am_k_r, am_k_u, am_k_l, am_sz_0, am_sz_i, am_sz_r, am_sz_u, am_sz_l, Option.toList_some, Option.toList_none, List.cons_append, List.nil_append, true_and, and_true, or_false, false_or, or_self, or_true, true_or, not_false_eq_true, not_true_eq_false, Classical.not_not, ne_eq, ps_e1, ps_em, ps_z, Nat.not_le, false_implies, true_implies, forall_const, ps_01, ps_1n, ps_0n, ps_m10, ps_m1n, lg_cmp_gt, lg_cmp_ge, lg_cmp_le, lg_cmp_lt, lg_cmp_eq, pu_rne, pu_req, pu_uro, RFc_n, Nat.reduceAdd, Nat.reduceMul, Nat.reduceLT, Nat.reduceLeDiff, Nat.reduceEqDiff, Nat.reduceSub]
      | 2, _ => simp only [↓r288_58, ↓r288_59, ↓r288_60, ↓r288_63, ↓r288_64, ↓r288_67, ↓r288_69, ↓r288_69k, ↓r288_70, ↓r288_73, ↓r288_74, ↓r288_75, ↓r288_78, ↓r288_79, ↓r288_82, ↓r288_84, ↓r288_84k, ↓r288_85, ↓r288_88, ↓r288_89, ↓r288_92, ↓r288_94, ↓r288_94k, ↓r288_95, ↓r288_96, ↓r288_97, ↓r288_100, q_le, q_lt, q_eq, q_e0, q_e1, q_0e, q_1e, ps_n0, q_0le, q_le0, q_0lt, q_m1e, q_em1, z1, wv, Bool.false_eq_true, hn, hn2, ht, hF, am_wt, am_wf, Option.isSome_some, am_rf_s, am_rf_n, ps_lit, nI_add, nI_1, pk_mul, ps_cl, ps_neg, ps_c0, ps_c1, ps_n01, ps_n11, ps_10, ps_b01, ps_e0, pu_Ine, pu_Ieq, pu_ne, pu_eq, am_k_n, am_k_i, am_k_r, am_k_u, am_k_l, am_sz_0, am_sz_i, am_sz_r, am_sz_u, am_sz_l, Option.toList_some, Option.toList_none, List.cons_append, List.nil_append, true_and, and_true, or_false, false_or, or_self, or_true, true_or, not_false_eq_true, not_true_eq_false, Classical.not_not, ne_eq, ps_e1, ps_em, ps_z, Nat.not_le, false_implies, true_implies, forall_const, ps_01, ps_1n, ps_0n, ps_m10, ps_m1n, lg_cmp_gt, lg_cmp_ge, lg_cmp_le, lg_cmp_lt, lg_cmp_eq, pu_rne, pu_req, pu_uro, RFc_n, Nat.reduceAdd, Nat.reduceMul, Nat.reduceLT, Nat.reduceLeDiff, Nat.reduceEqDiff, Nat.reduceSub]
    by_cases h1 : x = -1
    · rw [if_pos (Or.inl h1)] at ih
      rw [← core] at ih
      simp only [↓r288_40, ↓r288_41, ↓r288_44, ↓r288_47, ↓r288_48, ↓r288_49, q_le, q_lt, q_eq, q_e0, q_e1, q_0e, q_1e, ps_n0, q_0le, q_le0, q_0lt, q_m1e, q_em1, hs, z1, z2, h1, Bool.false_eq_true, hn, hn2, ht, hF, am_wt, am_wf, Option.isSome_some, am_rf_s, am_rf_n, ps_lit, nI_add, nI_1, pk_mul, ps_cl, ps_neg, ps_c0, ps_c1, ps_n01, ps_n11, ps_10, ps_b01, ps_e0, pu_Ine, pu_Ieq, pu_ne, pu_eq, am_k_n, am_k_i, am_k_r, am_k_u, am_k_l, am_sz_0, am_sz_i, am_sz_r, am_sz_u, am_sz_l, Option.toList_some, Option.toList_none, List.cons_append, List.nil_append, true_and, and_true, or_false, false_or, or_self, or_true, true_or, not_false_eq_true, not_true_eq_false, Classical.not_not, ne_eq, ps_e1, ps_em, ps_z, Nat.not_le, false_implies, true_implies, forall_const, ps_01, ps_1n, ps_0n, ps_m10, ps_m1n, lg_cmp_gt, lg_cmp_ge, lg_cmp_le, lg_cmp_lt, lg_cmp_eq, pu_rne, pu_req, pu_uro, RFc_n, Nat.reduceAdd, Nat.reduceMul, Nat.reduceLT, Nat.reduceLeDiff, Nat.reduceEqDiff, Nat.reduceSub]
      rw [h1] at ih
      exact ih
    · by_cases h2 : x = nI c
      · rw [if_pos (Or.inr h2), ← core] at ih
        simp only [↓r288_40, ↓r288_41, ↓r288_44, ↓r288_47, ↓r288_48, ↓r288_49, ↓r288_52, ↓r288_53, ↓r288_55, q_le, q_lt, q_eq, q_e0, q_e1, q_0e, q_1e, ps_n0, q_0le, q_le0, q_0lt, q_m1e, q_em1, hs, z1, z2, h1, h2, q_em1, Bool.false_eq_true, hn, hn2, ht, hF, am_wt, am_wf, Option.isSome_some, am_rf_s, am_rf_n, ps_lit, nI_add, nI_1, pk_mul, ps_cl, ps_neg, ps_c0, ps_c1, ps_n01, ps_n11, ps_10, ps_b01, ps_e0, pu_Ine, pu_Ieq, pu_ne, pu_eq, am_k_n, am_k_i, am_k_r, am_k_u, am_k_l, am_sz_0, am_sz_i, am_sz_r, am_sz_u, am_sz_l, Option.toList_some, Option.toList_none, List.cons_append, List.nil_append, true_and, and_true, or_false, false_or, or_self, or_true, true_or, not_false_eq_true, not_true_eq_false, Classical.not_not, ne_eq, ps_e1, ps_em, ps_z, Nat.not_le, false_implies, true_implies, forall_const, ps_01, ps_1n, ps_0n, ps_m10, ps_m1n, lg_cmp_gt, lg_cmp_ge, lg_cmp_le, lg_cmp_lt, lg_cmp_eq, pu_rne, pu_req, pu_uro, RFc_n, Nat.reduceAdd, Nat.reduceMul, Nat.reduceLT, Nat.reduceLeDiff, Nat.reduceEqDiff, Nat.reduceSub]
        rw [h2] at ih
        exact ih
      · rw [if_neg (fun q => q.elim h1 h2), Int32.add_zero] at ih
        simp only [↓r288_40, ↓r288_41, ↓r288_44, ↓r288_47, ↓r288_48, ↓r288_49, ↓r288_52, ↓r288_53, ↓r288_55, ↓r288_97, ↓r288_100, q_le, q_lt, q_eq, q_e0, q_e1, q_0e, q_1e, ps_n0, q_0le, q_le0, q_0lt, q_m1e, q_em1, hs, z1, z2, h1, h2, Bool.false_eq_true, hn, hn2, ht, hF, am_wt, am_wf, Option.isSome_some, am_rf_s, am_rf_n, ps_lit, nI_add, nI_1, pk_mul, ps_cl, ps_neg, ps_c0, ps_c1, ps_n01, ps_n11, ps_10, ps_b01, ps_e0, pu_Ine, pu_Ieq, pu_ne, pu_eq, am_k_n, am_k_i, am_k_r, am_k_u, am_k_l, am_sz_0, am_sz_i, am_sz_r, am_sz_u, am_sz_l, Option.toList_some, Option.toList_none, List.cons_append, List.nil_append, true_and, and_true, or_false, false_or, or_self, or_true, true_or, not_false_eq_true, not_true_eq_false, Classical.not_not, ne_eq, ps_e1, ps_em, ps_z, Nat.not_le, false_implies, true_implies, forall_const, ps_01, ps_1n, ps_0n, ps_m10, ps_m1n, lg_cmp_gt, lg_cmp_ge, lg_cmp_le, lg_cmp_lt, lg_cmp_eq, pu_rne, pu_req, pu_uro, RFc_n, Nat.reduceAdd, Nat.reduceMul, Nat.reduceLT, Nat.reduceLeDiff, Nat.reduceEqDiff, Nat.reduceSub]
        exact ih
  · rw [r288_38]
    simp only [↓r288_40, ↓r288_41, ↓r288_44, ↓r288_103, ↓r288_104, hs, Int32.le_refl, Bool.false_eq_true, hn, hn2, ht, hF, am_wt, am_wf, Option.isSome_some, am_rf_s, am_rf_n, ps_lit, nI_add, nI_1, pk_mul, ps_cl, ps_neg, ps_c0, ps_c1, ps_n01, ps_n11, ps_10, ps_b01, ps_e0, pu_Ine, pu_Ieq, pu_ne, pu_eq, am_k_n, am_k_i, am_k_r, am_k_u, am_k_l, am_sz_0, am_sz_i, am_sz_r, am_sz_u, am_sz_l, Option.toList_some, Option.toList_none, List.cons_append, List.nil_append, true_and, and_true, or_false, false_or, or_self, or_true, true_or, not_false_eq_true, not_true_eq_false, Classical.not_not, ne_eq, ps_e1, ps_em, ps_z, Nat.not_le, false_implies, true_implies, forall_const, ps_01, ps_1n, ps_0n, ps_m10, ps_m1n, lg_cmp_gt, lg_cmp_ge, lg_cmp_le, lg_cmp_lt, lg_cmp_eq, pu_rne, pu_req, pu_uro, RFc_n, Nat.reduceAdd, Nat.reduceMul, Nat.reduceLT, Nat.reduceLeDiff, Nat.reduceEqDiff, Nat.reduceSub]
theorem m1_le {M : Nat} (hM : M ≤ 120) : (-1 : Int32) ≤ nI M - 1 := by
  cases M with
  | zero => decide
  | succ M =>
    rw [nI_pred, Int32.le_iff_toInt_le, nI_toInt (by omega)]
    have e : (-1 : Int32).toInt = -1 := by decide
    omega
theorem pr_world {x w : Int32} {i : Nat} (hX : XS X) (hi : i < 600) (hV : Inv i (n, sl, t, I, J, F)) : PR X i 153 288 [some (.ref 0), some (.int x), some (.int w)] [some (.ref 47), some (.int x), some (.int w), none, none] (n, sl, t, I, J, F) := by
  obtain ⟨N, T, lw, hC⟩ := CX_of hV; obtain ⟨hW, hK, _, ⟨hs, hc, hr, hu, hm⟩, hl⟩ := id hC; have hN := hK.1; obtain ⟨hn, hn2, ht, hF⟩ := id hW
  have hWD : WD (I 41 2) (I 41 3) (I 42) (I 43) (I 47 38) (I 69) (I 70) (I 71) (I 72) := hV.2.2.2.2.2.2.2.1
  rcases hWD with ⟨d1, d2⟩ | ⟨d1, M, hM, d2, d3, d4⟩
  · refine PR_ask (v := -1) hi hV ?_ ?_
    · intro Q hQ
      simp only [↓r153_0, ↓r153_1, ↓r153_4, ↓r153_7, ↓r153_10, ↓r153_11, ↓r153_12, ↓r153_13, ↓r153_16, ↓r153_19, ↓r153_20, d1, Bool.false_eq_true, hn, hn2, ht, hF, am_wt, am_wf, Option.isSome_some, am_rf_s, am_rf_n, ps_lit, nI_add, nI_1, pk_mul, ps_cl, ps_neg, ps_c0, ps_c1, ps_n01, ps_n11, ps_10, ps_b01, ps_e0, pu_Ine, pu_Ieq, pu_ne, pu_eq, am_k_n, am_k_i, am_k_r, am_k_u, am_k_l, am_sz_0, am_sz_i, am_sz_r, am_sz_u, am_sz_l, Option.toList_some, Option.toList_none, List.cons_append, List.nil_append, true_and, and_true, or_false, false_or, or_self, or_true, true_or, not_false_eq_true, not_true_eq_false, Classical.not_not, ne_eq, ps_e1, ps_em, ps_z, Nat.not_le, false_implies, true_implies, forall_const, ps_01, ps_1n, ps_0n, ps_m10, ps_m1n, lg_cmp_gt, lg_cmp_ge, lg_cmp_le, lg_cmp_lt, lg_cmp_eq, pu_rne, pu_req, pu_uro, RFc_n, Nat.reduceAdd, Nat.reduceMul, Nat.reduceLT, Nat.reduceLeDiff, Nat.reduceEqDiff, Nat.reduceSub]
      exact hQ _ SCH_r
    · rintro ⟨n', sl', t', I', J', F'⟩ ⟨e1, e2, e3, e4, e5⟩; dsimp only at e1 e2 e3 e4 e5; subst e1; subst e2; subst e3; have hC' := CX_sc hC e4 e5; obtain ⟨hn, hn2, ht, hF⟩ := id hC'.1; intro Q hQ
      have d2' : I' 47 38 = -1 := (e4 47 38 rfl).trans d2
      simp only [↓r288_0, ↓r288_1, ↓r288_4, ↓r288_5, ↓r288_8, ↓r288_9, ↓r288_10, ↓r288_11, ↓r288_14, ↓r288_17, ↓r288_18, ↓r288_19, ↓r288_20, ↓r288_23, ↓r288_24, ↓r288_25, ↓r288_28, ↓r288_31, ↓r288_32, d2', Bool.false_eq_true, hn, hn2, ht, hF, am_wt, am_wf, Option.isSome_some, am_rf_s, am_rf_n, ps_lit, nI_add, nI_1, pk_mul, ps_cl, ps_neg, ps_c0, ps_c1, ps_n01, ps_n11, ps_10, ps_b01, ps_e0, pu_Ine, pu_Ieq, pu_ne, pu_eq, am_k_n, am_k_i, am_k_r, am_k_u, am_k_l, am_sz_0, am_sz_i, am_sz_r, am_sz_u, am_sz_l, Option.toList_some, Option.toList_none, List.cons_append, List.nil_append, true_and, and_true, or_false, false_or, or_self, or_true, true_or, not_false_eq_true, not_true_eq_false, Classical.not_not, ne_eq, ps_e1, ps_em, ps_z, Nat.not_le, false_implies, true_implies, forall_const, ps_01, ps_1n, ps_0n, ps_m10, ps_m1n, lg_cmp_gt, lg_cmp_ge, lg_cmp_le, lg_cmp_lt, lg_cmp_eq, pu_rne, pu_req, pu_uro, RFc_n, Nat.reduceAdd, Nat.reduceMul, Nat.reduceLT, Nat.reduceLeDiff, Nat.reduceEqDiff, Nat.reduceSub]
      exact hQ _ SCH_r
  · have rest : ∀ {n' : Nat} {I' : Nat → Nat → Int32}, SC I I' → I' 47 38 = nI M ∧ I' 69 = I 69 ∧ I' 70 = I 70 ∧ I' 71 = I 71 := fun e4 => ⟨(e4 47 38 rfl).trans d3, SC_c e4 (a := 69) (fun _ => rfl), SC_c e4 (a := 70) (fun _ => rfl), SC_c e4 (a := 71) (fun _ => rfl)⟩
    by_cases hw : 0 ≤ w ∧ w ≤ nI 2
    · obtain ⟨w', hw', rfl⟩ := ps_rng (by decide) hw
      have hcol : ∀ c, c < M → I 43 (3 * c + w') = wv I w' c := fun c hc => by
        obtain ⟨⟨v1, _, p1, p2⟩, ⟨v2, _, p3, p4⟩, ⟨v3, _, p5, p6⟩, _⟩ := d4 c hc
        match w', hw' with
        | 0, _ => exact p1.trans p2.symm
        | 1, _ => exact p3.trans p4.symm
        | 2, _ => exact p5.trans p6.symm
      have hwv : ∀ {I' : Nat → Nat → Int32}, SC I I' → ∀ c, wv I' w' c = wv I w' c := fun e4 c => by
        obtain ⟨_, r1, r2, r3⟩ := rest (n' := 0) e4
        unfold wv
        rw [r1, r2, r3]
      have hsum : smI (fun c => I 43 (3 * c + w')) M = smI (fun c => wv I w' c) M := smI_c M hcol
      by_cases hx : x = -1
      · subst hx
        have m1 := m1_le hM
        refine PR_ask (v := smI (fun c => wv I w' c) M) hi hV ?_ ?_
        · intro Q hQ
          have e1 := fun Q => cl_wsum (X := X) (d := 56) (Q := Q) (sl := sl) (J := J) hW hM hw' d2
          rw [hsum] at e1
          simp only [↓r153_0, ↓r153_1, ↓r153_4, ↓r153_7, ↓r153_10, ↓r153_11, ↓r153_12, ↓r153_13, ↓r153_16, ↓r153_19, ↓r153_20, ↓r153_21, ↓r153_22, ↓r153_23, ↓r153_26, ↓r153_27, ↓r153_30, ↓r153_31, ↓r153_34, ↓c_within, ↓e1, d1, hw, and_self, if_true, Bool.false_eq_true, hn, hn2, ht, hF, am_wt, am_wf, Option.isSome_some, am_rf_s, am_rf_n, ps_lit, nI_add, nI_1, pk_mul, ps_cl, ps_neg, ps_c0, ps_c1, ps_n01, ps_n11, ps_10, ps_b01, ps_e0, pu_Ine, pu_Ieq, pu_ne, pu_eq, am_k_n, am_k_i, am_k_r, am_k_u, am_k_l, am_sz_0, am_sz_i, am_sz_r, am_sz_u, am_sz_l, Option.toList_some, Option.toList_none, List.cons_append, List.nil_append, true_and, and_true, or_false, false_or, or_self, or_true, true_or, not_false_eq_true, not_true_eq_false, Classical.not_not, ne_eq, ps_e1, ps_em, ps_z, Nat.not_le, false_implies, true_implies, forall_const, ps_01, ps_1n, ps_0n, ps_m10, ps_m1n, lg_cmp_gt, lg_cmp_ge, lg_cmp_le, lg_cmp_lt, lg_cmp_eq, pu_rne, pu_req, pu_uro, RFc_n, Nat.reduceAdd, Nat.reduceMul, Nat.reduceLT, Nat.reduceLeDiff, Nat.reduceEqDiff, Nat.reduceSub]
          exact hQ _ SCH_r
        · rintro ⟨n', sl', t', I', J', F'⟩ ⟨e1, e2, e3, e4, e5⟩; dsimp only at e1 e2 e3 e4 e5; subst e1; subst e2; subst e3; have hC' := CX_sc hC e4 e5; obtain ⟨hn, hn2, ht, hF⟩ := id hC'.1; intro Q hQ
          have d3' := (rest (n' := 0) e4).1
          have nm : ¬ nI M = -1 := nI_m1 (by omega)
          simp only [↓r288_0, ↓r288_1, ↓r288_4, ↓r288_5, ↓r288_8, ↓r288_9, ↓r288_10, ↓r288_11, ↓r288_14, ↓r288_17, ↓r288_18, ↓r288_19, ↓r288_20, ↓r288_23, ↓r288_24, ↓r288_25, ↓r288_28, ↓r288_31, ↓r288_32, ↓r288_33, ↓r288_34, ↓r288_35, ↓r288_36, ↓s_lies, d3', nm, hw, m1, Int32.le_refl, and_self, if_true, Bool.false_eq_true, hn, hn2, ht, hF, am_wt, am_wf, Option.isSome_some, am_rf_s, am_rf_n, ps_lit, nI_add, nI_1, pk_mul, ps_cl, ps_neg, ps_c0, ps_c1, ps_n01, ps_n11, ps_10, ps_b01, ps_e0, pu_Ine, pu_Ieq, pu_ne, pu_eq, am_k_n, am_k_i, am_k_r, am_k_u, am_k_l, am_sz_0, am_sz_i, am_sz_r, am_sz_u, am_sz_l, Option.toList_some, Option.toList_none, List.cons_append, List.nil_append, true_and, and_true, or_false, false_or, or_self, or_true, true_or, not_false_eq_true, not_true_eq_false, Classical.not_not, ne_eq, ps_e1, ps_em, ps_z, Nat.not_le, false_implies, true_implies, forall_const, ps_01, ps_1n, ps_0n, ps_m10, ps_m1n, lg_cmp_gt, lg_cmp_ge, lg_cmp_le, lg_cmp_lt, lg_cmp_eq, pu_rne, pu_req, pu_uro, RFc_n, Nat.reduceAdd, Nat.reduceMul, Nat.reduceLT, Nat.reduceLeDiff, Nat.reduceEqDiff, Nat.reduceSub]
          refine (m_wrd hC'.1 hM hw' d3').mpr ?_
          rw [smI_c (g := fun c => wv I w' c) M (fun c _ => by rw [if_pos (Or.inl rfl), hwv e4])]
          exact hQ _ SCH_r
      · by_cases hk : 0 ≤ x ∧ x ≤ nI M - 1
        · obtain ⟨k, hk', rfl⟩ := ps_chE (by omega) hk
          have hkm : (-1 : Int32) ≤ nI k := by
            rw [Int32.le_iff_toInt_le, nI_toInt (by omega)]
            have e : (-1 : Int32).toInt = -1 := by decide
            omega
          refine PR_ask (v := wv I w' k) hi hV ?_ ?_
          · intro Q hQ
            have e1 := fun Q => c_wat (X := X) (d := 57) (Q := Q) (sl := sl) (J := J) (I := I) (c := k) (w := w') hW (by omega) hw'
            rw [hcol k hk'] at e1
            simp only [↓r153_0, ↓r153_1, ↓r153_4, ↓r153_7, ↓r153_10, ↓r153_11, ↓r153_12, ↓r153_13, ↓r153_16, ↓r153_19, ↓r153_20, ↓r153_21, ↓r153_22, ↓r153_23, ↓r153_26, ↓r153_27, ↓r153_30, ↓r153_31, ↓r153_34, ↓r153_35, ↓r153_36, ↓r153_37, ↓r153_38, ↓r153_41, ↓r153_44, ↓r153_45, ↓r153_46, ↓r153_49, ↓r153_52, ↓r153_53, ↓r153_56, ↓r153_57, ↓r153_58, ↓r153_61, ↓r153_64, ↓r153_65, ↓c_within, ↓e1, d1, d2, hw, hx, hk, and_self, if_true, Bool.false_eq_true, hn, hn2, ht, hF, am_wt, am_wf, Option.isSome_some, am_rf_s, am_rf_n, ps_lit, nI_add, nI_1, pk_mul, ps_cl, ps_neg, ps_c0, ps_c1, ps_n01, ps_n11, ps_10, ps_b01, ps_e0, pu_Ine, pu_Ieq, pu_ne, pu_eq, am_k_n, am_k_i, am_k_r, am_k_u, am_k_l, am_sz_0, am_sz_i, am_sz_r, am_sz_u, am_sz_l, Option.toList_some, Option.toList_none, List.cons_append, List.nil_append, true_and, and_true, or_false, false_or, or_self, or_true, true_or, not_false_eq_true, not_true_eq_false, Classical.not_not, ne_eq, ps_e1, ps_em, ps_z, Nat.not_le, false_implies, true_implies, forall_const, ps_01, ps_1n, ps_0n, ps_m10, ps_m1n, lg_cmp_gt, lg_cmp_ge, lg_cmp_le, lg_cmp_lt, lg_cmp_eq, pu_rne, pu_req, pu_uro, RFc_n, Nat.reduceAdd, Nat.reduceMul, Nat.reduceLT, Nat.reduceLeDiff, Nat.reduceEqDiff, Nat.reduceSub]
            exact hQ _ SCH_r
          · rintro ⟨n', sl', t', I', J', F'⟩ ⟨e1, e2, e3, e4, e5⟩; dsimp only at e1 e2 e3 e4 e5; subst e1; subst e2; subst e3; have hC' := CX_sc hC e4 e5; obtain ⟨hn, hn2, ht, hF⟩ := id hC'.1; intro Q hQ
            have d3' := (rest (n' := 0) e4).1
            have nm : ¬ nI M = -1 := nI_m1 (by omega)
            simp only [↓r288_0, ↓r288_1, ↓r288_4, ↓r288_5, ↓r288_8, ↓r288_9, ↓r288_10, ↓r288_11, ↓r288_14, ↓r288_17, ↓r288_18, ↓r288_19, ↓r288_20, ↓r288_23, ↓r288_24, ↓r288_25, ↓r288_28, ↓r288_31, ↓r288_32, ↓r288_33, ↓r288_34, ↓r288_35, ↓r288_36, ↓s_lies, d3', nm, hw, hk, hkm, and_self, if_true, Bool.false_eq_true, hn, hn2, ht, hF, am_wt, am_wf, Option.isSome_some, am_rf_s, am_rf_n, ps_lit, nI_add, nI_1, pk_mul, ps_cl, ps_neg, ps_c0, ps_c1, ps_n01, ps_n11, ps_10, ps_b01, ps_e0, pu_Ine, pu_Ieq, pu_ne, pu_eq, am_k_n, am_k_i, am_k_r, am_k_u, am_k_l, am_sz_0, am_sz_i, am_sz_r, am_sz_u, am_sz_l, Option.toList_some, Option.toList_none, List.cons_append, List.nil_append, true_and, and_true, or_false, false_or, or_self, or_true, true_or, not_false_eq_true, not_true_eq_false, Classical.not_not, ne_eq, ps_e1, ps_em, ps_z, Nat.not_le, false_implies, true_implies, forall_const, ps_01, ps_1n, ps_0n, ps_m10, ps_m1n, lg_cmp_gt, lg_cmp_ge, lg_cmp_le, lg_cmp_lt, lg_cmp_eq, pu_rne, pu_req, pu_uro, RFc_n, Nat.reduceAdd, Nat.reduceMul, Nat.reduceLT, Nat.reduceLeDiff, Nat.reduceEqDiff, Nat.reduceSub]
            refine (m_wrd hC'.1 hM hw' d3').mpr ?_
            rw [smI_c (g := fun q => if q = k then wv I w' q else 0) M (fun c hc => by
              rw [hwv e4]
              by_cases e : c = k
              · rw [if_pos e, if_pos (Or.inr (by rw [e]))]
              · rw [if_neg e, if_neg (fun q => q.elim hx (fun q2 => e ((nI_eq (by omega) (by omega)).mp q2).symm))]), smI_one, if_pos hk']
            exact hQ _ SCH_r
        · have hk2 : ¬ (-1 ≤ x ∧ x ≤ nI M - 1) := fun q => hk ⟨by
            rw [Int32.le_iff_toInt_le]
            have q1 := Int32.le_iff_toInt_le.mp q.1
            have e1 : (-1 : Int32).toInt = -1 := by decide
            have e2 : (0 : Int32).toInt = 0 := by decide
            have e3 : x.toInt ≠ -1 := fun z => hx (Int32.toInt_inj.mp (z.trans e1.symm))
            omega, q.2⟩
          refine PR_ask (v := -1) hi hV ?_ ?_
          · intro Q hQ
            simp only [↓r153_0, ↓r153_1, ↓r153_4, ↓r153_7, ↓r153_10, ↓r153_11, ↓r153_12, ↓r153_13, ↓r153_16, ↓r153_19, ↓r153_20, ↓r153_21, ↓r153_22, ↓r153_23, ↓r153_26, ↓r153_27, ↓r153_30, ↓r153_31, ↓r153_34, ↓r153_35, ↓r153_36, ↓r153_37, ↓r153_38, ↓r153_41, ↓r153_44, ↓r153_45, ↓r153_46, ↓r153_49, ↓r153_52, ↓r153_53, ↓r153_56, ↓r153_57, ↓r153_58, ↓r153_61, ↓r153_64, ↓r153_65, ↓c_within, d1, d2, hw, hx, hk, and_self, if_true, if_false, Bool.false_eq_true, hn, hn2, ht, hF, am_wt, am_wf, Option.isSome_some, am_rf_s, am_rf_n, ps_lit, nI_add, nI_1, pk_mul, ps_cl, ps_neg, ps_c0, ps_c1, ps_n01, ps_n11, ps_10, ps_b01, ps_e0, pu_Ine, pu_Ieq, pu_ne, pu_eq, am_k_n, am_k_i, am_k_r, am_k_u, am_k_l, am_sz_0, am_sz_i, am_sz_r, am_sz_u, am_sz_l, Option.toList_some, Option.toList_none, List.cons_append, List.nil_append, true_and, and_true, or_false, false_or, or_self, or_true, true_or, not_false_eq_true, not_true_eq_false, Classical.not_not, ne_eq, ps_e1, ps_em, ps_z, Nat.not_le, false_implies, true_implies, forall_const, ps_01, ps_1n, ps_0n, ps_m10, ps_m1n, lg_cmp_gt, lg_cmp_ge, lg_cmp_le, lg_cmp_lt, lg_cmp_eq, pu_rne, pu_req, pu_uro, RFc_n, Nat.reduceAdd, Nat.reduceMul, Nat.reduceLT, Nat.reduceLeDiff, Nat.reduceEqDiff, Nat.reduceSub]
            exact hQ _ SCH_r
          · rintro ⟨n', sl', t', I', J', F'⟩ ⟨e1, e2, e3, e4, e5⟩; dsimp only at e1 e2 e3 e4 e5; subst e1; subst e2; subst e3; have hC' := CX_sc hC e4 e5; obtain ⟨hn, hn2, ht, hF⟩ := id hC'.1; intro Q hQ
            have d3' := (rest (n' := 0) e4).1
            have nm : ¬ nI M = -1 := nI_m1 (by omega)
            simp only [↓r288_0, ↓r288_1, ↓r288_4, ↓r288_5, ↓r288_8, ↓r288_9, ↓r288_10, ↓r288_11, ↓r288_14, ↓r288_17, ↓r288_18, ↓r288_19, ↓r288_20, ↓r288_23, ↓r288_24, ↓r288_25, ↓r288_28, ↓r288_31, ↓r288_32, ↓s_lies, d3', nm, hw, hk2, and_self, if_true, if_false, Bool.false_eq_true, hn, hn2, ht, hF, am_wt, am_wf, Option.isSome_some, am_rf_s, am_rf_n, ps_lit, nI_add, nI_1, pk_mul, ps_cl, ps_neg, ps_c0, ps_c1, ps_n01, ps_n11, ps_10, ps_b01, ps_e0, pu_Ine, pu_Ieq, pu_ne, pu_eq, am_k_n, am_k_i, am_k_r, am_k_u, am_k_l, am_sz_0, am_sz_i, am_sz_r, am_sz_u, am_sz_l, Option.toList_some, Option.toList_none, List.cons_append, List.nil_append, true_and, and_true, or_false, false_or, or_self, or_true, true_or, not_false_eq_true, not_true_eq_false, Classical.not_not, ne_eq, ps_e1, ps_em, ps_z, Nat.not_le, false_implies, true_implies, forall_const, ps_01, ps_1n, ps_0n, ps_m10, ps_m1n, lg_cmp_gt, lg_cmp_ge, lg_cmp_le, lg_cmp_lt, lg_cmp_eq, pu_rne, pu_req, pu_uro, RFc_n, Nat.reduceAdd, Nat.reduceMul, Nat.reduceLT, Nat.reduceLeDiff, Nat.reduceEqDiff, Nat.reduceSub]
            exact hQ _ SCH_r
    · refine PR_ask (v := -1) hi hV ?_ ?_
      · intro Q hQ
        simp only [↓r153_0, ↓r153_1, ↓r153_4, ↓r153_7, ↓r153_10, ↓r153_11, ↓r153_12, ↓r153_13, ↓r153_16, ↓r153_19, ↓r153_20, ↓c_within, d1, hw, if_false, Bool.false_eq_true, hn, hn2, ht, hF, am_wt, am_wf, Option.isSome_some, am_rf_s, am_rf_n, ps_lit, nI_add, nI_1, pk_mul, ps_cl, ps_neg, ps_c0, ps_c1, ps_n01, ps_n11, ps_10, ps_b01, ps_e0, pu_Ine, pu_Ieq, pu_ne, pu_eq, am_k_n, am_k_i, am_k_r, am_k_u, am_k_l, am_sz_0, am_sz_i, am_sz_r, am_sz_u, am_sz_l, Option.toList_some, Option.toList_none, List.cons_append, List.nil_append, true_and, and_true, or_false, false_or, or_self, or_true, true_or, not_false_eq_true, not_true_eq_false, Classical.not_not, ne_eq, ps_e1, ps_em, ps_z, Nat.not_le, false_implies, true_implies, forall_const, ps_01, ps_1n, ps_0n, ps_m10, ps_m1n, lg_cmp_gt, lg_cmp_ge, lg_cmp_le, lg_cmp_lt, lg_cmp_eq, pu_rne, pu_req, pu_uro, RFc_n, Nat.reduceAdd, Nat.reduceMul, Nat.reduceLT, Nat.reduceLeDiff, Nat.reduceEqDiff, Nat.reduceSub]
        exact hQ _ SCH_r
      · rintro ⟨n', sl', t', I', J', F'⟩ ⟨e1, e2, e3, e4, e5⟩; dsimp only at e1 e2 e3 e4 e5; subst e1; subst e2; subst e3; have hC' := CX_sc hC e4 e5; obtain ⟨hn, hn2, ht, hF⟩ := id hC'.1; intro Q hQ
        have d3' := (rest (n' := 0) e4).1
        have nm : ¬ nI M = -1 := nI_m1 (by omega)
        simp only [↓r288_0, ↓r288_1, ↓r288_4, ↓r288_5, ↓r288_8, ↓r288_9, ↓r288_10, ↓r288_11, ↓r288_14, ↓r288_17, ↓r288_18, ↓r288_19, ↓r288_20, ↓r288_23, ↓r288_24, ↓r288_25, ↓r288_28, ↓r288_31, ↓r288_32, ↓s_lies, d3', nm, hw, if_false, Bool.false_eq_true, hn, hn2, ht, hF, am_wt, am_wf, Option.isSome_some, am_rf_s, am_rf_n, ps_lit, nI_add, nI_1, pk_mul, ps_cl, ps_neg, ps_c0, ps_c1, ps_n01, ps_n11, ps_10, ps_b01, ps_e0, pu_Ine, pu_Ieq, pu_ne, pu_eq, am_k_n, am_k_i, am_k_r, am_k_u, am_k_l, am_sz_0, am_sz_i, am_sz_r, am_sz_u, am_sz_l, Option.toList_some, Option.toList_none, List.cons_append, List.nil_append, true_and, and_true, or_false, false_or, or_self, or_true, true_or, not_false_eq_true, not_true_eq_false, Classical.not_not, ne_eq, ps_e1, ps_em, ps_z, Nat.not_le, false_implies, true_implies, forall_const, ps_01, ps_1n, ps_0n, ps_m10, ps_m1n, lg_cmp_gt, lg_cmp_ge, lg_cmp_le, lg_cmp_lt, lg_cmp_eq, pu_rne, pu_req, pu_uro, RFc_n, Nat.reduceAdd, Nat.reduceMul, Nat.reduceLT, Nat.reduceLeDiff, Nat.reduceEqDiff, Nat.reduceSub]
        exact hQ _ SCH_r
end WO2
