/-! TEXTS: the reference reads clauses -/
section MR
variable {X : am_X} {d : Nat} {Q : Option Value → am_H → Prop} {n sl : Nat} {t : Nat → Nat × Nat} {I : Nat → Nat → Int32} {J : Nat → Nat → Int64} {F : Nat → Nat → Option Nat} {h : am_H}
variable {tk tv pl : Nat → Nat} {NT : Nat}
theorem BD_if (h0 : tk NT = 0) {hd : Nat} {D : DI} {i q : Nat} (hi : i ≤ NT) (hq : q ≤ 50) : (∀ r, pIf tk tv hd D i q = .ok r → i ≤ r.1 ∧ r.1 ≤ NT ∧ r.2.1 ≤ 50) ∧ ∀ x, pIf tk tv hd D i q = .error x → x ≤ NT := by
  unfold pIf
  by_cases h : tk i = 5
  · have hl : i < NT := tok_lt h0 hi (by omega)
    have hb := BD_test (tk := tk) (tv := tv) h0 8 (i + 1) q hl hq
    rw [if_pos h]
    cases e : pTest tk tv 8 (i + 1) q with
    | error x =>
      refine ⟨fun r h => (by cases h), fun y h => ?_⟩
      cases h
      exact hb.2 x e
    | ok r =>
      obtain ⟨b1, b2, b3, b4⟩ := hb.1 r e
      refine ⟨fun r' h => ?_, fun y h => (by cases h)⟩
      cases h
      exact ⟨by dsimp only; omega, b2, b4⟩
  · rw [if_neg h]
    refine ⟨fun r' h => ?_, fun y h => (by cases h)⟩
    cases h
    exact ⟨Nat.le_refl _, hi, hq⟩
theorem BD_clause (h0 : tk NT = 0) {i q : Nat} (hi : i ≤ NT) (hq : q ≤ 50) : (∀ r, pClause tk tv i q = .ok r → i < r.1 ∧ r.1 ≤ NT ∧ r.2.1 ≤ 50) ∧ ∀ x, pClause tk tv i q = .error x → x ≤ NT := by
  unfold pClause
  by_cases h : 1 ≤ tk i ∧ tk i ≤ 3
  · have hl : i < NT := tok_lt h0 hi (by omega)
    have hb := BD_sum (tk := tk) (tv := tv) h0 8 (i + 1) q hl hq
    rw [if_pos h]
    cases e : pSum tk tv 8 (i + 1) q with
    | error x =>
      refine ⟨fun r h => (by cases h), fun y h => ?_⟩
      cases h
      exact hb.2 x e
    | ok r =>
      obtain ⟨b1, b2, b3, b4⟩ := hb.1 r e
      have h2 := BD_if (tk := tk) (tv := tv) (hd := tk i) (D := r.2.2) h0 b2 b4
      refine ⟨fun r' h => ?_, fun y h => h2.2 y h⟩
      obtain ⟨c1, c2, c3⟩ := h2.1 r' h
      exact ⟨by omega, c2, c3⟩
  · rw [if_neg h]
    by_cases h4 : tk i = 4
    · have hl : i < NT := tok_lt h0 hi (by omega)
      have h2 := BD_if (tk := tk) (tv := tv) (hd := 4) (D := fun _ => some 0) (i := i + 1) h0 hl hq
      rw [if_pos h4]
      refine ⟨fun r' h => ?_, fun y h => h2.2 y h⟩
      obtain ⟨c1, c2, c3⟩ := h2.1 r' h
      exact ⟨by omega, c2, c3⟩
    · rw [if_neg h4]
      refine ⟨fun r h => (by cases h), fun y h => ?_⟩
      cases h
      exact hi
theorem m_clause {i q : Nat} (hW : WS n t F) (hK : TKI I tk tv pl NT) (hi : i ≤ NT) (hq : q ≤ 50) (hok : ∀ r, pClause tk tv i q = .ok r → Q none (n, sl, t, prS I r.1 r.2.1 (-1), J, F)) (her : ∀ x i' q', pClause tk tv i q = .error x → Q none (n, sl, t, prS I i' q' (nI (pl x)), J, F)) : am_W X (d + 36) 201 0 [some (.ref 47)] [] (n, sl, t, prS I i q (-1), J, F) Q := by
  obtain ⟨hn, hn2, ht, hF⟩ := id hW
  obtain ⟨⟨h1, h2⟩, h3⟩ := id hK
  have hS := m_sum (X := X) (n := n) (sl := sl) (t := t) (I := I) (J := J) (F := F) hW hK 8 0 rfl
  have hT := m_test (X := X) (n := n) (sl := sl) (t := t) (I := I) (J := J) (F := F) hW hK 8 0 rfl
  have bad : ∀ i' q' p, p ≤ 400 → Q none (n, sl, t, prS I i' q' (nI p), J, F) → am_W X (d + 36) 201 37 [some (.ref 47)] [] (n, sl, t, prS I i' q' (nI p), J, F) Q := by
    intro i' q' p hp hQ
    simp only [↓r201_37, ↓r201_38, ↓r201_39, ↓r201_42, ↓r201_50, ↓m_takesB hW hp, Bool.false_eq_true, hn, hn2, ht, hF, am_wt, am_wf, Option.isSome_some, am_rf_s, am_rf_n, ps_lit, nI_add, nI_1, pk_mul, ps_cl, ps_neg, ps_c0, ps_c1, ps_n01, ps_n11, ps_10, ps_b01, ps_e0, pu_Ine, pu_Ieq, pu_ne, pu_eq, am_k_n, am_k_i, am_k_r, am_k_u, am_k_l, am_sz_0, am_sz_i, am_sz_r, am_sz_u, am_sz_l, Option.toList_some, Option.toList_none, List.cons_append, List.nil_append, true_and, and_true, or_false, false_or, or_self, or_true, true_or, not_false_eq_true, not_true_eq_false, Classical.not_not, ne_eq, ps_e1, ps_em, ps_z, Nat.not_le, false_implies, true_implies, forall_const, ps_01, ps_1n, ps_0n, ps_m10, ps_m1n, lg_cmp_gt, lg_cmp_ge, lg_cmp_le, lg_cmp_lt, lg_cmp_eq, pu_rne, pu_req, pu_uro, RFc_n, Nat.reduceAdd, Nat.reduceMul, Nat.reduceLT, Nat.reduceLeDiff, Nat.reduceEqDiff, Nat.reduceSub]
    exact hQ
  have hif : ∀ (hd : Nat) (D : DI) i q, 1 ≤ i → i ≤ NT → q ≤ 50 → (∀ r, pIf tk tv hd D i q = .ok r → Q none (n, sl, t, prS I r.1 r.2.1 (-1), J, F)) → (∀ x i' q', pIf tk tv hd D i q = .error x → Q none (n, sl, t, prS I i' q' (nI (pl x)), J, F)) → am_W X (d + 36) 201 37 [some (.ref 47)] [] (n, sl, t, prS I i q (-1), J, F) Q := by
    intro hd D i q hi1 hi hq hok her
    unfold pIf at hok her
    by_cases c : tk i = 5
    · have hl : i < NT := tok_lt h2 hi (by omega)
      have hb := BD_test (tk := tk) (tv := tv) h2 8 (i + 1) q hl hq
      rw [if_pos c] at hok her
      simp only [↓r201_37, ↓r201_38, ↓r201_39, ↓r201_42, ↓r201_45, ↓r201_46, ↓r201_47, ↓m_takes1 hW hK hi c, Bool.false_eq_true, hn, hn2, ht, hF, am_wt, am_wf, Option.isSome_some, am_rf_s, am_rf_n, ps_lit, nI_add, nI_1, pk_mul, ps_cl, ps_neg, ps_c0, ps_c1, ps_n01, ps_n11, ps_10, ps_b01, ps_e0, pu_Ine, pu_Ieq, pu_ne, pu_eq, am_k_n, am_k_i, am_k_r, am_k_u, am_k_l, am_sz_0, am_sz_i, am_sz_r, am_sz_u, am_sz_l, Option.toList_some, Option.toList_none, List.cons_append, List.nil_append, true_and, and_true, or_false, false_or, or_self, or_true, true_or, not_false_eq_true, not_true_eq_false, Classical.not_not, ne_eq, ps_e1, ps_em, ps_z, Nat.not_le, false_implies, true_implies, forall_const, ps_01, ps_1n, ps_0n, ps_m10, ps_m1n, lg_cmp_gt, lg_cmp_ge, lg_cmp_le, lg_cmp_lt, lg_cmp_eq, pu_rne, pu_req, pu_uro, RFc_n, Nat.reduceAdd, Nat.reduceMul, Nat.reduceLT, Nat.reduceLeDiff, Nat.reduceEqDiff, Nat.reduceSub]
      refine hT d _ (i + 1) q (by omega) hl hq (fun r hr => ?_) (fun x i' q' hx => ?_)
      · rw [hr] at hok
        have := hok _ rfl
        simp only [↓r201_50, Bool.false_eq_true, hn, hn2, ht, hF, am_wt, am_wf, Option.isSome_some, am_rf_s, am_rf_n, ps_lit, nI_add, nI_1, pk_mul, ps_cl, ps_neg, ps_c0, ps_c1, ps_n01, ps_n11, ps_10, ps_b01, ps_e0, pu_Ine, pu_Ieq, pu_ne, pu_eq, am_k_n, am_k_i, am_k_r, am_k_u, am_k_l, am_sz_0, am_sz_i, am_sz_r, am_sz_u, am_sz_l, Option.toList_some, Option.toList_none, List.cons_append, List.nil_append, true_and, and_true, or_false, false_or, or_self, or_true, true_or, not_false_eq_true, not_true_eq_false, Classical.not_not, ne_eq, ps_e1, ps_em, ps_z, Nat.not_le, false_implies, true_implies, forall_const, ps_01, ps_1n, ps_0n, ps_m10, ps_m1n, lg_cmp_gt, lg_cmp_ge, lg_cmp_le, lg_cmp_lt, lg_cmp_eq, pu_rne, pu_req, pu_uro, RFc_n, Nat.reduceAdd, Nat.reduceMul, Nat.reduceLT, Nat.reduceLeDiff, Nat.reduceEqDiff, Nat.reduceSub]
        exact this
      · rw [hx] at her
        have := her x i' q' rfl
        simp only [↓r201_50, Bool.false_eq_true, hn, hn2, ht, hF, am_wt, am_wf, Option.isSome_some, am_rf_s, am_rf_n, ps_lit, nI_add, nI_1, pk_mul, ps_cl, ps_neg, ps_c0, ps_c1, ps_n01, ps_n11, ps_10, ps_b01, ps_e0, pu_Ine, pu_Ieq, pu_ne, pu_eq, am_k_n, am_k_i, am_k_r, am_k_u, am_k_l, am_sz_0, am_sz_i, am_sz_r, am_sz_u, am_sz_l, Option.toList_some, Option.toList_none, List.cons_append, List.nil_append, true_and, and_true, or_false, false_or, or_self, or_true, true_or, not_false_eq_true, not_true_eq_false, Classical.not_not, ne_eq, ps_e1, ps_em, ps_z, Nat.not_le, false_implies, true_implies, forall_const, ps_01, ps_1n, ps_0n, ps_m10, ps_m1n, lg_cmp_gt, lg_cmp_ge, lg_cmp_le, lg_cmp_lt, lg_cmp_eq, pu_rne, pu_req, pu_uro, RFc_n, Nat.reduceAdd, Nat.reduceMul, Nat.reduceLT, Nat.reduceLeDiff, Nat.reduceEqDiff, Nat.reduceSub]
        exact this
    · rw [if_neg c] at hok
      have := hok _ rfl
      simp only [↓r201_37, ↓r201_38, ↓r201_39, ↓r201_42, ↓r201_50, ↓m_takes0 hW hK hi (show 5 < 400 by decide) c, Bool.false_eq_true, hn, hn2, ht, hF, am_wt, am_wf, Option.isSome_some, am_rf_s, am_rf_n, ps_lit, nI_add, nI_1, pk_mul, ps_cl, ps_neg, ps_c0, ps_c1, ps_n01, ps_n11, ps_10, ps_b01, ps_e0, pu_Ine, pu_Ieq, pu_ne, pu_eq, am_k_n, am_k_i, am_k_r, am_k_u, am_k_l, am_sz_0, am_sz_i, am_sz_r, am_sz_u, am_sz_l, Option.toList_some, Option.toList_none, List.cons_append, List.nil_append, true_and, and_true, or_false, false_or, or_self, or_true, true_or, not_false_eq_true, not_true_eq_false, Classical.not_not, ne_eq, ps_e1, ps_em, ps_z, Nat.not_le, false_implies, true_implies, forall_const, ps_01, ps_1n, ps_0n, ps_m10, ps_m1n, lg_cmp_gt, lg_cmp_ge, lg_cmp_le, lg_cmp_lt, lg_cmp_eq, pu_rne, pu_req, pu_uro, RFc_n, Nat.reduceAdd, Nat.reduceMul, Nat.reduceLT, Nat.reduceLeDiff, Nat.reduceEqDiff, Nat.reduceSub]
      exact this
  unfold pClause at hok her
  have hsum : 1 ≤ tk i ∧ tk i ≤ 3 → am_W X (d + 36) 201 24 [some (.ref 47)] [] (n, sl, t, prS I (i + 1) q (-1), J, F) Q := by
    intro hc
    have hl : i < NT := tok_lt h2 hi (by omega)
    have hb := BD_sum (tk := tk) (tv := tv) h2 8 (i + 1) q hl hq
    rw [if_pos hc] at hok her
    simp only [↓r201_24, ↓r201_25, ↓r201_26, Bool.false_eq_true, hn, hn2, ht, hF, am_wt, am_wf, Option.isSome_some, am_rf_s, am_rf_n, ps_lit, nI_add, nI_1, pk_mul, ps_cl, ps_neg, ps_c0, ps_c1, ps_n01, ps_n11, ps_10, ps_b01, ps_e0, pu_Ine, pu_Ieq, pu_ne, pu_eq, am_k_n, am_k_i, am_k_r, am_k_u, am_k_l, am_sz_0, am_sz_i, am_sz_r, am_sz_u, am_sz_l, Option.toList_some, Option.toList_none, List.cons_append, List.nil_append, true_and, and_true, or_false, false_or, or_self, or_true, true_or, not_false_eq_true, not_true_eq_false, Classical.not_not, ne_eq, ps_e1, ps_em, ps_z, Nat.not_le, false_implies, true_implies, forall_const, ps_01, ps_1n, ps_0n, ps_m10, ps_m1n, lg_cmp_gt, lg_cmp_ge, lg_cmp_le, lg_cmp_lt, lg_cmp_eq, pu_rne, pu_req, pu_uro, RFc_n, Nat.reduceAdd, Nat.reduceMul, Nat.reduceLT, Nat.reduceLeDiff, Nat.reduceEqDiff, Nat.reduceSub]
    refine hS (d + 3) _ (i + 1) q (by omega) hl hq (fun r hr => ?_) (fun x i' q' hx => ?_)
    · obtain ⟨b1, b2, b3, b4⟩ := hb.1 r hr
      rw [hr] at hok her
      simp only [↓r201_29, Bool.false_eq_true, hn, hn2, ht, hF, am_wt, am_wf, Option.isSome_some, am_rf_s, am_rf_n, ps_lit, nI_add, nI_1, pk_mul, ps_cl, ps_neg, ps_c0, ps_c1, ps_n01, ps_n11, ps_10, ps_b01, ps_e0, pu_Ine, pu_Ieq, pu_ne, pu_eq, am_k_n, am_k_i, am_k_r, am_k_u, am_k_l, am_sz_0, am_sz_i, am_sz_r, am_sz_u, am_sz_l, Option.toList_some, Option.toList_none, List.cons_append, List.nil_append, true_and, and_true, or_false, false_or, or_self, or_true, true_or, not_false_eq_true, not_true_eq_false, Classical.not_not, ne_eq, ps_e1, ps_em, ps_z, Nat.not_le, false_implies, true_implies, forall_const, ps_01, ps_1n, ps_0n, ps_m10, ps_m1n, lg_cmp_gt, lg_cmp_ge, lg_cmp_le, lg_cmp_lt, lg_cmp_eq, pu_rne, pu_req, pu_uro, RFc_n, Nat.reduceAdd, Nat.reduceMul, Nat.reduceLT, Nat.reduceLeDiff, Nat.reduceEqDiff, Nat.reduceSub]
      exact hif (tk i) r.2.2 r.1 r.2.1 (by omega) b2 b4 hok her
    · have hx1 := hb.2 x hx
      rw [hx] at her
      simp only [↓r201_29, Bool.false_eq_true, hn, hn2, ht, hF, am_wt, am_wf, Option.isSome_some, am_rf_s, am_rf_n, ps_lit, nI_add, nI_1, pk_mul, ps_cl, ps_neg, ps_c0, ps_c1, ps_n01, ps_n11, ps_10, ps_b01, ps_e0, pu_Ine, pu_Ieq, pu_ne, pu_eq, am_k_n, am_k_i, am_k_r, am_k_u, am_k_l, am_sz_0, am_sz_i, am_sz_r, am_sz_u, am_sz_l, Option.toList_some, Option.toList_none, List.cons_append, List.nil_append, true_and, and_true, or_false, false_or, or_self, or_true, true_or, not_false_eq_true, not_true_eq_false, Classical.not_not, ne_eq, ps_e1, ps_em, ps_z, Nat.not_le, false_implies, true_implies, forall_const, ps_01, ps_1n, ps_0n, ps_m10, ps_m1n, lg_cmp_gt, lg_cmp_ge, lg_cmp_le, lg_cmp_lt, lg_cmp_eq, pu_rne, pu_req, pu_uro, RFc_n, Nat.reduceAdd, Nat.reduceMul, Nat.reduceLT, Nat.reduceLeDiff, Nat.reduceEqDiff, Nat.reduceSub]
      exact bad i' q' _ (h3 x hx1).2.2.2 (her x i' q' rfl)
  have p1 : nI 1 = 1 := rfl
  have t1 := fun (h : tk i = 1) Q => m_takes1 (X := X) (d := d + 34) (Q := Q) (sl := sl) (J := J) (q := q) hW hK hi h
  have t0 := fun (h : ¬ tk i = 1) Q => m_takes0 (X := X) (d := d + 34) (Q := Q) (sl := sl) (J := J) (q := q) hW hK hi (show 1 < 400 by decide) h
  rw [p1] at t1 t0
  by_cases c1 : tk i = 1
  · have t1' := t1 c1
    simp only [↓r201_0, ↓r201_1, ↓r201_2, ↓r201_5, ↓t1', Bool.false_eq_true, hn, hn2, ht, hF, am_wt, am_wf, Option.isSome_some, am_rf_s, am_rf_n, ps_lit, nI_add, nI_1, pk_mul, ps_cl, ps_neg, ps_c0, ps_c1, ps_n01, ps_n11, ps_10, ps_b01, ps_e0, pu_Ine, pu_Ieq, pu_ne, pu_eq, am_k_n, am_k_i, am_k_r, am_k_u, am_k_l, am_sz_0, am_sz_i, am_sz_r, am_sz_u, am_sz_l, Option.toList_some, Option.toList_none, List.cons_append, List.nil_append, true_and, and_true, or_false, false_or, or_self, or_true, true_or, not_false_eq_true, not_true_eq_false, Classical.not_not, ne_eq, ps_e1, ps_em, ps_z, Nat.not_le, false_implies, true_implies, forall_const, ps_01, ps_1n, ps_0n, ps_m10, ps_m1n, lg_cmp_gt, lg_cmp_ge, lg_cmp_le, lg_cmp_lt, lg_cmp_eq, pu_rne, pu_req, pu_uro, RFc_n, Nat.reduceAdd, Nat.reduceMul, Nat.reduceLT, Nat.reduceLeDiff, Nat.reduceEqDiff, Nat.reduceSub]
    exact hsum (by omega)
  · have t0' := t0 c1
    by_cases c2 : tk i = 2
    · simp only [↓r201_0, ↓r201_1, ↓r201_2, ↓r201_5, ↓r201_8, ↓r201_9, ↓r201_10, ↓r201_13, ↓t0', ↓m_takes1 hW hK hi c2, Bool.false_eq_true, hn, hn2, ht, hF, am_wt, am_wf, Option.isSome_some, am_rf_s, am_rf_n, ps_lit, nI_add, nI_1, pk_mul, ps_cl, ps_neg, ps_c0, ps_c1, ps_n01, ps_n11, ps_10, ps_b01, ps_e0, pu_Ine, pu_Ieq, pu_ne, pu_eq, am_k_n, am_k_i, am_k_r, am_k_u, am_k_l, am_sz_0, am_sz_i, am_sz_r, am_sz_u, am_sz_l, Option.toList_some, Option.toList_none, List.cons_append, List.nil_append, true_and, and_true, or_false, false_or, or_self, or_true, true_or, not_false_eq_true, not_true_eq_false, Classical.not_not, ne_eq, ps_e1, ps_em, ps_z, Nat.not_le, false_implies, true_implies, forall_const, ps_01, ps_1n, ps_0n, ps_m10, ps_m1n, lg_cmp_gt, lg_cmp_ge, lg_cmp_le, lg_cmp_lt, lg_cmp_eq, pu_rne, pu_req, pu_uro, RFc_n, Nat.reduceAdd, Nat.reduceMul, Nat.reduceLT, Nat.reduceLeDiff, Nat.reduceEqDiff, Nat.reduceSub]
      exact hsum (by omega)
    · by_cases c3 : tk i = 3
      · simp only [↓r201_0, ↓r201_1, ↓r201_2, ↓r201_5, ↓r201_8, ↓r201_9, ↓r201_10, ↓r201_13, ↓r201_16, ↓r201_17, ↓r201_18, ↓r201_21, ↓t0', ↓m_takes0 hW hK hi (show 2 < 400 by decide) c2, ↓m_takes1 hW hK hi c3, Bool.false_eq_true, hn, hn2, ht, hF, am_wt, am_wf, Option.isSome_some, am_rf_s, am_rf_n, ps_lit, nI_add, nI_1, pk_mul, ps_cl, ps_neg, ps_c0, ps_c1, ps_n01, ps_n11, ps_10, ps_b01, ps_e0, pu_Ine, pu_Ieq, pu_ne, pu_eq, am_k_n, am_k_i, am_k_r, am_k_u, am_k_l, am_sz_0, am_sz_i, am_sz_r, am_sz_u, am_sz_l, Option.toList_some, Option.toList_none, List.cons_append, List.nil_append, true_and, and_true, or_false, false_or, or_self, or_true, true_or, not_false_eq_true, not_true_eq_false, Classical.not_not, ne_eq, ps_e1, ps_em, ps_z, Nat.not_le, false_implies, true_implies, forall_const, ps_01, ps_1n, ps_0n, ps_m10, ps_m1n, lg_cmp_gt, lg_cmp_ge, lg_cmp_le, lg_cmp_lt, lg_cmp_eq, pu_rne, pu_req, pu_uro, RFc_n, Nat.reduceAdd, Nat.reduceMul, Nat.reduceLT, Nat.reduceLeDiff, Nat.reduceEqDiff, Nat.reduceSub]
        exact hsum (by omega)
      · rw [if_neg (by omega)] at hok her
        by_cases c4 : tk i = 4
        · have hl : i < NT := tok_lt h2 hi (by omega)
          rw [if_pos c4] at hok her
          simp only [↓r201_0, ↓r201_1, ↓r201_2, ↓r201_5, ↓r201_8, ↓r201_9, ↓r201_10, ↓r201_13, ↓r201_16, ↓r201_17, ↓r201_18, ↓r201_21, ↓r201_24, ↓r201_25, ↓r201_26, ↓r201_29, ↓r201_32, ↓r201_33, ↓r201_34, ↓t0', ↓m_takes0 hW hK hi (show 2 < 400 by decide) c2, ↓m_takes0 hW hK hi (show 3 < 400 by decide) c3, ↓m_must1 hW hK hi c4, Bool.false_eq_true, hn, hn2, ht, hF, am_wt, am_wf, Option.isSome_some, am_rf_s, am_rf_n, ps_lit, nI_add, nI_1, pk_mul, ps_cl, ps_neg, ps_c0, ps_c1, ps_n01, ps_n11, ps_10, ps_b01, ps_e0, pu_Ine, pu_Ieq, pu_ne, pu_eq, am_k_n, am_k_i, am_k_r, am_k_u, am_k_l, am_sz_0, am_sz_i, am_sz_r, am_sz_u, am_sz_l, Option.toList_some, Option.toList_none, List.cons_append, List.nil_append, true_and, and_true, or_false, false_or, or_self, or_true, true_or, not_false_eq_true, not_true_eq_false, Classical.not_not, ne_eq, ps_e1, ps_em, ps_z, Nat.not_le, false_implies, true_implies, forall_const, ps_01, ps_1n, ps_0n, ps_m10, ps_m1n, lg_cmp_gt, lg_cmp_ge, lg_cmp_le, lg_cmp_lt, lg_cmp_eq, pu_rne, pu_req, pu_uro, RFc_n, Nat.reduceAdd, Nat.reduceMul, Nat.reduceLT, Nat.reduceLeDiff, Nat.reduceEqDiff, Nat.reduceSub]
          exact hif 4 _ (i + 1) q (by omega) hl hq hok her
        · rw [if_neg c4] at her
          simp only [↓r201_0, ↓r201_1, ↓r201_2, ↓r201_5, ↓r201_8, ↓r201_9, ↓r201_10, ↓r201_13, ↓r201_16, ↓r201_17, ↓r201_18, ↓r201_21, ↓r201_24, ↓r201_25, ↓r201_26, ↓r201_29, ↓r201_32, ↓r201_33, ↓r201_34, ↓t0', ↓m_takes0 hW hK hi (show 2 < 400 by decide) c2, ↓m_takes0 hW hK hi (show 3 < 400 by decide) c3, ↓m_must0 hW hK hi (show 4 < 400 by decide) c4, Bool.false_eq_true, hn, hn2, ht, hF, am_wt, am_wf, Option.isSome_some, am_rf_s, am_rf_n, ps_lit, nI_add, nI_1, pk_mul, ps_cl, ps_neg, ps_c0, ps_c1, ps_n01, ps_n11, ps_10, ps_b01, ps_e0, pu_Ine, pu_Ieq, pu_ne, pu_eq, am_k_n, am_k_i, am_k_r, am_k_u, am_k_l, am_sz_0, am_sz_i, am_sz_r, am_sz_u, am_sz_l, Option.toList_some, Option.toList_none, List.cons_append, List.nil_append, true_and, and_true, or_false, false_or, or_self, or_true, true_or, not_false_eq_true, not_true_eq_false, Classical.not_not, ne_eq, ps_e1, ps_em, ps_z, Nat.not_le, false_implies, true_implies, forall_const, ps_01, ps_1n, ps_0n, ps_m10, ps_m1n, lg_cmp_gt, lg_cmp_ge, lg_cmp_le, lg_cmp_lt, lg_cmp_eq, pu_rne, pu_req, pu_uro, RFc_n, Nat.reduceAdd, Nat.reduceMul, Nat.reduceLT, Nat.reduceLeDiff, Nat.reduceEqDiff, Nat.reduceSub]
          exact bad i q _ (h3 i hi).2.2.2 (her i i q rfl)
/-- all clauses, once the tokens are there -/
theorem m_clauses (hW : WS n t F) (hK : TKI I tk tv pl NT) (hNT : I 47 13 = nI NT) (hok : ∀ l i' q', pText tk tv NT = .ok l → Q (some (.int 1)) (n, sl, t, am_uI (prS I i' q' (-1)) 47 9 (-1), J, F)) (her : ∀ x i' q', pText tk tv NT = .error x → Q (some (.int 0)) (n, sl, t, am_uI (prS I i' q' (nI (pl x))) 47 9 (nI (pl x)), J, F)) : am_W X (d + 37) 196 28 [some (.ref 47), none] [] (n, sl, t, prS I 0 0 (-1), J, F) Q := by
  obtain ⟨hn, hn2, ht, hF⟩ := id hW
  obtain ⟨⟨h1, h2⟩, h3⟩ := id hK
  have n13 : ∀ i q b, prS I i q b 47 13 = nI NT := fun i q b => hNT
  have fin : ∀ i' q' (l1 : Option Value) p, p ≤ 400 → Q (some (.int 0)) (n, sl, t, am_uI (prS I i' q' (nI p)) 47 9 (nI p), J, F) → am_W X (d + 37) 196 73 [some (.ref 47), l1] [] (n, sl, t, prS I i' q' (nI p), J, F) Q := by
    intro i' q' l1 p hp hQ
    have e1 := fun Q => m_fineB (X := X) (d := d + 36) (Q := Q) (sl := sl) (J := J) (I := I) (i := i') (q := q') hW hp
    have zp : p < 2000000 := by omega
    simp only [↓r196_73, ↓r196_74, ↓r196_77, ↓r196_95, ↓r196_96, ↓r196_97, ↓r196_100, ↓r196_103, ↓r196_104, ↓e1, prS_16, Bool.false_eq_true, hn, hn2, ht, hF, am_wt, am_wf, Option.isSome_some, am_rf_s, am_rf_n, ps_lit, nI_add, nI_1, pk_mul, ps_cl, ps_neg, ps_c0, ps_c1, ps_n01, ps_n11, ps_10, ps_b01, ps_e0, pu_Ine, pu_Ieq, pu_ne, pu_eq, am_k_n, am_k_i, am_k_r, am_k_u, am_k_l, am_sz_0, am_sz_i, am_sz_r, am_sz_u, am_sz_l, Option.toList_some, Option.toList_none, List.cons_append, List.nil_append, true_and, and_true, or_false, false_or, or_self, or_true, true_or, not_false_eq_true, not_true_eq_false, Classical.not_not, ne_eq, ps_e1, ps_em, ps_z, Nat.not_le, false_implies, true_implies, forall_const, ps_01, ps_1n, ps_0n, ps_m10, ps_m1n, lg_cmp_gt, lg_cmp_ge, lg_cmp_le, lg_cmp_lt, lg_cmp_eq, pu_rne, pu_req, pu_uro, RFc_n, Nat.reduceAdd, Nat.reduceMul, Nat.reduceLT, Nat.reduceLeDiff, Nat.reduceEqDiff, Nat.reduceSub]
    have e9 : am_uI (prS I i' q' (nI p)) 47 9 (nI p) 47 16 = nI p := rfl
    simp only [↓r203_0, ↓r203_1, ↓r203_4, ↓r203_5, ↓r203_8, ↓r203_9, ↓r203_12, ↓r203_13, e9, q_le, q_lt, q_eq, q_e0, q_e1, q_0e, q_1e, ps_n0, q_0le, q_le0, q_0lt, q_m1e, q_em1, zp, Bool.false_eq_true, hn, hn2, ht, hF, am_wt, am_wf, Option.isSome_some, am_rf_s, am_rf_n, ps_lit, nI_add, nI_1, pk_mul, ps_cl, ps_neg, ps_c0, ps_c1, ps_n01, ps_n11, ps_10, ps_b01, ps_e0, pu_Ine, pu_Ieq, pu_ne, pu_eq, am_k_n, am_k_i, am_k_r, am_k_u, am_k_l, am_sz_0, am_sz_i, am_sz_r, am_sz_u, am_sz_l, Option.toList_some, Option.toList_none, List.cons_append, List.nil_append, true_and, and_true, or_false, false_or, or_self, or_true, true_or, not_false_eq_true, not_true_eq_false, Classical.not_not, ne_eq, ps_e1, ps_em, ps_z, Nat.not_le, false_implies, true_implies, forall_const, ps_01, ps_1n, ps_0n, ps_m10, ps_m1n, lg_cmp_gt, lg_cmp_ge, lg_cmp_le, lg_cmp_lt, lg_cmp_eq, pu_rne, pu_req, pu_uro, RFc_n, Nat.reduceAdd, Nat.reduceMul, Nat.reduceLT, Nat.reduceLeDiff, Nat.reduceEqDiff, Nat.reduceSub]
    simp only [↓r196_107, Bool.false_eq_true, hn, hn2, ht, hF, am_wt, am_wf, Option.isSome_some, am_rf_s, am_rf_n, ps_lit, nI_add, nI_1, pk_mul, ps_cl, ps_neg, ps_c0, ps_c1, ps_n01, ps_n11, ps_10, ps_b01, ps_e0, pu_Ine, pu_Ieq, pu_ne, pu_eq, am_k_n, am_k_i, am_k_r, am_k_u, am_k_l, am_sz_0, am_sz_i, am_sz_r, am_sz_u, am_sz_l, Option.toList_some, Option.toList_none, List.cons_append, List.nil_append, true_and, and_true, or_false, false_or, or_self, or_true, true_or, not_false_eq_true, not_true_eq_false, Classical.not_not, ne_eq, ps_e1, ps_em, ps_z, Nat.not_le, false_implies, true_implies, forall_const, ps_01, ps_1n, ps_0n, ps_m10, ps_m1n, lg_cmp_gt, lg_cmp_ge, lg_cmp_le, lg_cmp_lt, lg_cmp_eq, pu_rne, pu_req, pu_uro, RFc_n, Nat.reduceAdd, Nat.reduceMul, Nat.reduceLT, Nat.reduceLeDiff, Nat.reduceEqDiff, Nat.reduceSub]
    exact hQ
  have bad : ∀ i' q' k p, k ≤ 13 → p ≤ 400 → Q (some (.int 0)) (n, sl, t, am_uI (prS I i' q' (nI p)) 47 9 (nI p), J, F) → am_W X (d + 37) 196 34 [some (.ref 47), some (.int (nI k))] [] (n, sl, t, prS I i' q' (nI p), J, F) Q := by
    intro i' q' k p hk hp hQ
    rw [r196_34]
    simp only [↓r196_35, ↓r196_37, ↓r196_40, ↓r196_43, ↓m_sign, ↓m_takesB hW hp, Bool.false_eq_true, hn, hn2, ht, hF, am_wt, am_wf, Option.isSome_some, am_rf_s, am_rf_n, ps_lit, nI_add, nI_1, pk_mul, ps_cl, ps_neg, ps_c0, ps_c1, ps_n01, ps_n11, ps_10, ps_b01, ps_e0, pu_Ine, pu_Ieq, pu_ne, pu_eq, am_k_n, am_k_i, am_k_r, am_k_u, am_k_l, am_sz_0, am_sz_i, am_sz_r, am_sz_u, am_sz_l, Option.toList_some, Option.toList_none, List.cons_append, List.nil_append, true_and, and_true, or_false, false_or, or_self, or_true, true_or, not_false_eq_true, not_true_eq_false, Classical.not_not, ne_eq, ps_e1, ps_em, ps_z, Nat.not_le, false_implies, true_implies, forall_const, ps_01, ps_1n, ps_0n, ps_m10, ps_m1n, lg_cmp_gt, lg_cmp_ge, lg_cmp_le, lg_cmp_lt, lg_cmp_eq, pu_rne, pu_req, pu_uro, RFc_n, Nat.reduceAdd, Nat.reduceMul, Nat.reduceLT, Nat.reduceLeDiff, Nat.reduceEqDiff, Nat.reduceSub]
    exact fin i' q' _ p hp hQ
  have hl : ∀ g k i q l, k + g = 12 → i ≤ NT → q ≤ 50 → (∀ l' i' q', (if i = NT then (.ok l : Except Nat (List CL)) else if tk i = 159 then pCls tk tv NT g (i + 1) q l else .error i) = .ok l' → Q (some (.int 1)) (n, sl, t, am_uI (prS I i' q' (-1)) 47 9 (-1), J, F)) → (∀ x i' q', (if i = NT then (.ok l : Except Nat (List CL)) else if tk i = 159 then pCls tk tv NT g (i + 1) q l else .error i) = .error x → Q (some (.int 0)) (n, sl, t, am_uI (prS I i' q' (nI (pl x))) 47 9 (nI (pl x)), J, F)) → am_W X (d + 37) 196 34 [some (.ref 47), some (.int (nI k))] [] (n, sl, t, prS I i q (-1), J, F) Q := by
    intro g
    induction g with
    | zero =>
      intro k i q l hk hi hq hok her
      obtain rfl : k = 12 := by omega
      rw [r196_34]
      by_cases c : tk i = 159
      · have hl : i < NT := tok_lt h2 hi (by omega)
        have e3 := fun Q => m_faultsG (X := X) (d := d + 35) (Q := Q) (sl := sl) (J := J) (I := I) (q := q) hW hK hl
        have e4 := fun Q => m_fineB (X := X) (d := d + 36) (Q := Q) (sl := sl) (J := J) (I := I) (i := i + 1) (q := q) hW (h3 (i + 1) hl).2.2.2
        rw [if_neg (by omega), if_pos c, pCls] at her
        have := her _ (i + 1) q rfl
        simp only [↓r196_35, ↓r196_37, ↓r196_40, ↓r196_43, ↓r196_46, ↓r196_47, ↓r196_49, ↓r196_52, ↓r196_53, ↓r196_56, ↓r196_57, ↓r196_60, ↓r196_63, ↓r196_64, ↓r196_67, ↓r196_70, ↓m_sign, ↓m_takes1 hW hK hi c, ↓e3, ↓e4, q_le, q_lt, q_eq, q_e0, q_e1, q_0e, q_1e, ps_n0, q_0le, q_le0, q_0lt, q_m1e, q_em1, Bool.false_eq_true, hn, hn2, ht, hF, am_wt, am_wf, Option.isSome_some, am_rf_s, am_rf_n, ps_lit, nI_add, nI_1, pk_mul, ps_cl, ps_neg, ps_c0, ps_c1, ps_n01, ps_n11, ps_10, ps_b01, ps_e0, pu_Ine, pu_Ieq, pu_ne, pu_eq, am_k_n, am_k_i, am_k_r, am_k_u, am_k_l, am_sz_0, am_sz_i, am_sz_r, am_sz_u, am_sz_l, Option.toList_some, Option.toList_none, List.cons_append, List.nil_append, true_and, and_true, or_false, false_or, or_self, or_true, true_or, not_false_eq_true, not_true_eq_false, Classical.not_not, ne_eq, ps_e1, ps_em, ps_z, Nat.not_le, false_implies, true_implies, forall_const, ps_01, ps_1n, ps_0n, ps_m10, ps_m1n, lg_cmp_gt, lg_cmp_ge, lg_cmp_le, lg_cmp_lt, lg_cmp_eq, pu_rne, pu_req, pu_uro, RFc_n, Nat.reduceAdd, Nat.reduceMul, Nat.reduceLT, Nat.reduceLeDiff, Nat.reduceEqDiff, Nat.reduceSub]
        exact bad (i + 1) q 13 _ (by omega) (h3 (i + 1) hl).2.2.2 this
      · by_cases c2 : i = NT
        · rw [if_pos c2] at hok
          have := hok l i q rfl
          have z : i < 2000000 ∧ NT < 2000000 := by omega
          have z2 : NT ≤ i := by omega
          simp only [↓r196_35, ↓r196_37, ↓r196_40, ↓r196_43, ↓r196_73, ↓r196_74, ↓r196_77, ↓r196_80, ↓r196_81, ↓r196_84, ↓r196_85, ↓r196_88, ↓r196_91, ↓r196_92, ↓r196_95, ↓r196_96, ↓r196_97, ↓r196_100, ↓r196_103, ↓r196_104, ↓m_sign, ↓m_takes0 hW hK hi (show 159 < 400 by decide) c, ↓m_fineG hW, q_le, q_lt, q_eq, q_e0, q_e1, q_0e, q_1e, ps_n0, q_0le, q_le0, q_0lt, q_m1e, q_em1, prS_14, prS_16, n13, z, z2, Bool.false_eq_true, hn, hn2, ht, hF, am_wt, am_wf, Option.isSome_some, am_rf_s, am_rf_n, ps_lit, nI_add, nI_1, pk_mul, ps_cl, ps_neg, ps_c0, ps_c1, ps_n01, ps_n11, ps_10, ps_b01, ps_e0, pu_Ine, pu_Ieq, pu_ne, pu_eq, am_k_n, am_k_i, am_k_r, am_k_u, am_k_l, am_sz_0, am_sz_i, am_sz_r, am_sz_u, am_sz_l, Option.toList_some, Option.toList_none, List.cons_append, List.nil_append, true_and, and_true, or_false, false_or, or_self, or_true, true_or, not_false_eq_true, not_true_eq_false, Classical.not_not, ne_eq, ps_e1, ps_em, ps_z, Nat.not_le, false_implies, true_implies, forall_const, ps_01, ps_1n, ps_0n, ps_m10, ps_m1n, lg_cmp_gt, lg_cmp_ge, lg_cmp_le, lg_cmp_lt, lg_cmp_eq, pu_rne, pu_req, pu_uro, RFc_n, Nat.reduceAdd, Nat.reduceMul, Nat.reduceLT, Nat.reduceLeDiff, Nat.reduceEqDiff, Nat.reduceSub]
          have e9 : am_uI (prS I i q (-1)) 47 9 (-1) 47 16 = -1 := rfl
          simp only [↓r203_0, ↓r203_1, ↓r203_4, ↓r203_5, ↓r203_8, ↓r203_9, ↓r203_12, ↓r203_13, e9, Bool.false_eq_true, hn, hn2, ht, hF, am_wt, am_wf, Option.isSome_some, am_rf_s, am_rf_n, ps_lit, nI_add, nI_1, pk_mul, ps_cl, ps_neg, ps_c0, ps_c1, ps_n01, ps_n11, ps_10, ps_b01, ps_e0, pu_Ine, pu_Ieq, pu_ne, pu_eq, am_k_n, am_k_i, am_k_r, am_k_u, am_k_l, am_sz_0, am_sz_i, am_sz_r, am_sz_u, am_sz_l, Option.toList_some, Option.toList_none, List.cons_append, List.nil_append, true_and, and_true, or_false, false_or, or_self, or_true, true_or, not_false_eq_true, not_true_eq_false, Classical.not_not, ne_eq, ps_e1, ps_em, ps_z, Nat.not_le, false_implies, true_implies, forall_const, ps_01, ps_1n, ps_0n, ps_m10, ps_m1n, lg_cmp_gt, lg_cmp_ge, lg_cmp_le, lg_cmp_lt, lg_cmp_eq, pu_rne, pu_req, pu_uro, RFc_n, Nat.reduceAdd, Nat.reduceMul, Nat.reduceLT, Nat.reduceLeDiff, Nat.reduceEqDiff, Nat.reduceSub]
          simp only [↓r196_107, Bool.false_eq_true, hn, hn2, ht, hF, am_wt, am_wf, Option.isSome_some, am_rf_s, am_rf_n, ps_lit, nI_add, nI_1, pk_mul, ps_cl, ps_neg, ps_c0, ps_c1, ps_n01, ps_n11, ps_10, ps_b01, ps_e0, pu_Ine, pu_Ieq, pu_ne, pu_eq, am_k_n, am_k_i, am_k_r, am_k_u, am_k_l, am_sz_0, am_sz_i, am_sz_r, am_sz_u, am_sz_l, Option.toList_some, Option.toList_none, List.cons_append, List.nil_append, true_and, and_true, or_false, false_or, or_self, or_true, true_or, not_false_eq_true, not_true_eq_false, Classical.not_not, ne_eq, ps_e1, ps_em, ps_z, Nat.not_le, false_implies, true_implies, forall_const, ps_01, ps_1n, ps_0n, ps_m10, ps_m1n, lg_cmp_gt, lg_cmp_ge, lg_cmp_le, lg_cmp_lt, lg_cmp_eq, pu_rne, pu_req, pu_uro, RFc_n, Nat.reduceAdd, Nat.reduceMul, Nat.reduceLT, Nat.reduceLeDiff, Nat.reduceEqDiff, Nat.reduceSub]
          exact this
        · rw [if_neg c2, if_neg c] at her
          have := her _ i q rfl
          have z : i < 2000000 ∧ NT < 2000000 := by omega
          have z2 : ¬ NT ≤ i := by omega
          have zp : pl i < 2000000 := by have := (h3 i hi).2.2.2; omega
          simp only [↓r196_35, ↓r196_37, ↓r196_40, ↓r196_43, ↓r196_73, ↓r196_74, ↓r196_77, ↓r196_80, ↓r196_81, ↓r196_84, ↓r196_85, ↓r196_88, ↓r196_91, ↓r196_92, ↓r196_95, ↓r196_96, ↓r196_97, ↓r196_100, ↓r196_103, ↓r196_104, ↓m_sign, ↓m_takes0 hW hK hi (show 159 < 400 by decide) c, ↓m_fineG hW, ↓m_faultsG hW hK hi, q_le, q_lt, q_eq, q_e0, q_e1, q_0e, q_1e, ps_n0, q_0le, q_le0, q_0lt, q_m1e, q_em1, prS_14, prS_16, n13, z, z2, Bool.false_eq_true, hn, hn2, ht, hF, am_wt, am_wf, Option.isSome_some, am_rf_s, am_rf_n, ps_lit, nI_add, nI_1, pk_mul, ps_cl, ps_neg, ps_c0, ps_c1, ps_n01, ps_n11, ps_10, ps_b01, ps_e0, pu_Ine, pu_Ieq, pu_ne, pu_eq, am_k_n, am_k_i, am_k_r, am_k_u, am_k_l, am_sz_0, am_sz_i, am_sz_r, am_sz_u, am_sz_l, Option.toList_some, Option.toList_none, List.cons_append, List.nil_append, true_and, and_true, or_false, false_or, or_self, or_true, true_or, not_false_eq_true, not_true_eq_false, Classical.not_not, ne_eq, ps_e1, ps_em, ps_z, Nat.not_le, false_implies, true_implies, forall_const, ps_01, ps_1n, ps_0n, ps_m10, ps_m1n, lg_cmp_gt, lg_cmp_ge, lg_cmp_le, lg_cmp_lt, lg_cmp_eq, pu_rne, pu_req, pu_uro, RFc_n, Nat.reduceAdd, Nat.reduceMul, Nat.reduceLT, Nat.reduceLeDiff, Nat.reduceEqDiff, Nat.reduceSub]
          have e9 : am_uI (prS I i q (nI (pl i))) 47 9 (nI (pl i)) 47 16 = nI (pl i) := rfl
          simp only [↓r203_0, ↓r203_1, ↓r203_4, ↓r203_5, ↓r203_8, ↓r203_9, ↓r203_12, ↓r203_13, e9, q_le, q_lt, q_eq, q_e0, q_e1, q_0e, q_1e, ps_n0, q_0le, q_le0, q_0lt, q_m1e, q_em1, zp, Bool.false_eq_true, hn, hn2, ht, hF, am_wt, am_wf, Option.isSome_some, am_rf_s, am_rf_n, ps_lit, nI_add, nI_1, pk_mul, ps_cl, ps_neg, ps_c0, ps_c1, ps_n01, ps_n11, ps_10, ps_b01, ps_e0, pu_Ine, pu_Ieq, pu_ne, pu_eq, am_k_n, am_k_i, am_k_r, am_k_u, am_k_l, am_sz_0, am_sz_i, am_sz_r, am_sz_u, am_sz_l, Option.toList_some, Option.toList_none, List.cons_append, List.nil_append, true_and, and_true, or_false, false_or, or_self, or_true, true_or, not_false_eq_true, not_true_eq_false, Classical.not_not, ne_eq, ps_e1, ps_em, ps_z, Nat.not_le, false_implies, true_implies, forall_const, ps_01, ps_1n, ps_0n, ps_m10, ps_m1n, lg_cmp_gt, lg_cmp_ge, lg_cmp_le, lg_cmp_lt, lg_cmp_eq, pu_rne, pu_req, pu_uro, RFc_n, Nat.reduceAdd, Nat.reduceMul, Nat.reduceLT, Nat.reduceLeDiff, Nat.reduceEqDiff, Nat.reduceSub]
          simp only [↓r196_107, Bool.false_eq_true, hn, hn2, ht, hF, am_wt, am_wf, Option.isSome_some, am_rf_s, am_rf_n, ps_lit, nI_add, nI_1, pk_mul, ps_cl, ps_neg, ps_c0, ps_c1, ps_n01, ps_n11, ps_10, ps_b01, ps_e0, pu_Ine, pu_Ieq, pu_ne, pu_eq, am_k_n, am_k_i, am_k_r, am_k_u, am_k_l, am_sz_0, am_sz_i, am_sz_r, am_sz_u, am_sz_l, Option.toList_some, Option.toList_none, List.cons_append, List.nil_append, true_and, and_true, or_false, false_or, or_self, or_true, true_or, not_false_eq_true, not_true_eq_false, Classical.not_not, ne_eq, ps_e1, ps_em, ps_z, Nat.not_le, false_implies, true_implies, forall_const, ps_01, ps_1n, ps_0n, ps_m10, ps_m1n, lg_cmp_gt, lg_cmp_ge, lg_cmp_le, lg_cmp_lt, lg_cmp_eq, pu_rne, pu_req, pu_uro, RFc_n, Nat.reduceAdd, Nat.reduceMul, Nat.reduceLT, Nat.reduceLeDiff, Nat.reduceEqDiff, Nat.reduceSub]
          exact this
    | succ g ih =>
      intro k i q l hk hi hq hok her
      have z3 : k < 2000000 := by omega
      have z4 : ¬ k = 12 := by omega
      rw [r196_34]
      by_cases c : tk i = 159
      · have hl : i < NT := tok_lt h2 hi (by omega)
        have hb := BD_clause (tk := tk) (tv := tv) h2 hl hq
        rw [if_neg (by omega), if_pos c, pCls] at hok her
        simp only [↓r196_35, ↓r196_37, ↓r196_40, ↓r196_43, ↓r196_46, ↓r196_47, ↓r196_49, ↓r196_52, ↓r196_53, ↓r196_56, ↓r196_57, ↓r196_60, ↓r196_63, ↓r196_64, ↓m_sign, ↓m_takes1 hW hK hi c, ↓m_fineG hW, q_le, q_lt, q_eq, q_e0, q_e1, q_0e, q_1e, ps_n0, q_0le, q_le0, q_0lt, q_m1e, q_em1, z3, z4, Bool.false_eq_true, hn, hn2, ht, hF, am_wt, am_wf, Option.isSome_some, am_rf_s, am_rf_n, ps_lit, nI_add, nI_1, pk_mul, ps_cl, ps_neg, ps_c0, ps_c1, ps_n01, ps_n11, ps_10, ps_b01, ps_e0, pu_Ine, pu_Ieq, pu_ne, pu_eq, am_k_n, am_k_i, am_k_r, am_k_u, am_k_l, am_sz_0, am_sz_i, am_sz_r, am_sz_u, am_sz_l, Option.toList_some, Option.toList_none, List.cons_append, List.nil_append, true_and, and_true, or_false, false_or, or_self, or_true, true_or, not_false_eq_true, not_true_eq_false, Classical.not_not, ne_eq, ps_e1, ps_em, ps_z, Nat.not_le, false_implies, true_implies, forall_const, ps_01, ps_1n, ps_0n, ps_m10, ps_m1n, lg_cmp_gt, lg_cmp_ge, lg_cmp_le, lg_cmp_lt, lg_cmp_eq, pu_rne, pu_req, pu_uro, RFc_n, Nat.reduceAdd, Nat.reduceMul, Nat.reduceLT, Nat.reduceLeDiff, Nat.reduceEqDiff, Nat.reduceSub]
        refine m_clause hW hK hl hq (fun r hr => ?_) (fun x i' q' hx => ?_)
        · obtain ⟨b1, b2, b3⟩ := hb.1 r hr
          rw [hr] at hok her
          dsimp only at hok her
          simp only [↓r196_67, ↓r196_70, Bool.false_eq_true, hn, hn2, ht, hF, am_wt, am_wf, Option.isSome_some, am_rf_s, am_rf_n, ps_lit, nI_add, nI_1, pk_mul, ps_cl, ps_neg, ps_c0, ps_c1, ps_n01, ps_n11, ps_10, ps_b01, ps_e0, pu_Ine, pu_Ieq, pu_ne, pu_eq, am_k_n, am_k_i, am_k_r, am_k_u, am_k_l, am_sz_0, am_sz_i, am_sz_r, am_sz_u, am_sz_l, Option.toList_some, Option.toList_none, List.cons_append, List.nil_append, true_and, and_true, or_false, false_or, or_self, or_true, true_or, not_false_eq_true, not_true_eq_false, Classical.not_not, ne_eq, ps_e1, ps_em, ps_z, Nat.not_le, false_implies, true_implies, forall_const, ps_01, ps_1n, ps_0n, ps_m10, ps_m1n, lg_cmp_gt, lg_cmp_ge, lg_cmp_le, lg_cmp_lt, lg_cmp_eq, pu_rne, pu_req, pu_uro, RFc_n, Nat.reduceAdd, Nat.reduceMul, Nat.reduceLT, Nat.reduceLeDiff, Nat.reduceEqDiff, Nat.reduceSub]
          exact ih (k + 1) r.1 r.2.1 (l ++ [r.2.2]) (by omega) b2 b3 hok her
        · have hx1 := hb.2 x hx
          rw [hx] at her
          have := her x i' q' rfl
          simp only [↓r196_67, ↓r196_70, Bool.false_eq_true, hn, hn2, ht, hF, am_wt, am_wf, Option.isSome_some, am_rf_s, am_rf_n, ps_lit, nI_add, nI_1, pk_mul, ps_cl, ps_neg, ps_c0, ps_c1, ps_n01, ps_n11, ps_10, ps_b01, ps_e0, pu_Ine, pu_Ieq, pu_ne, pu_eq, am_k_n, am_k_i, am_k_r, am_k_u, am_k_l, am_sz_0, am_sz_i, am_sz_r, am_sz_u, am_sz_l, Option.toList_some, Option.toList_none, List.cons_append, List.nil_append, true_and, and_true, or_false, false_or, or_self, or_true, true_or, not_false_eq_true, not_true_eq_false, Classical.not_not, ne_eq, ps_e1, ps_em, ps_z, Nat.not_le, false_implies, true_implies, forall_const, ps_01, ps_1n, ps_0n, ps_m10, ps_m1n, lg_cmp_gt, lg_cmp_ge, lg_cmp_le, lg_cmp_lt, lg_cmp_eq, pu_rne, pu_req, pu_uro, RFc_n, Nat.reduceAdd, Nat.reduceMul, Nat.reduceLT, Nat.reduceLeDiff, Nat.reduceEqDiff, Nat.reduceSub]
          exact bad i' q' (k + 1) _ (by omega) (h3 x hx1).2.2.2 this
      · by_cases c2 : i = NT
        · rw [if_pos c2] at hok
          have := hok l i q rfl
          have z : i < 2000000 ∧ NT < 2000000 := by omega
          have z2 : NT ≤ i := by omega
          simp only [↓r196_35, ↓r196_37, ↓r196_40, ↓r196_43, ↓r196_73, ↓r196_74, ↓r196_77, ↓r196_80, ↓r196_81, ↓r196_84, ↓r196_85, ↓r196_88, ↓r196_91, ↓r196_92, ↓r196_95, ↓r196_96, ↓r196_97, ↓r196_100, ↓r196_103, ↓r196_104, ↓m_sign, ↓m_takes0 hW hK hi (show 159 < 400 by decide) c, ↓m_fineG hW, q_le, q_lt, q_eq, q_e0, q_e1, q_0e, q_1e, ps_n0, q_0le, q_le0, q_0lt, q_m1e, q_em1, prS_14, prS_16, n13, z, z2, Bool.false_eq_true, hn, hn2, ht, hF, am_wt, am_wf, Option.isSome_some, am_rf_s, am_rf_n, ps_lit, nI_add, nI_1, pk_mul, ps_cl, ps_neg, ps_c0, ps_c1, ps_n01, ps_n11, ps_10, ps_b01, ps_e0, pu_Ine, pu_Ieq, pu_ne, pu_eq, am_k_n, am_k_i, am_k_r, am_k_u, am_k_l, am_sz_0, am_sz_i, am_sz_r, am_sz_u, am_sz_l, Option.toList_some, Option.toList_none, List.cons_append, List.nil_append, true_and, and_true, or_false, false_or, or_self, or_true, true_or, not_false_eq_true, not_true_eq_false, Classical.not_not, ne_eq, ps_e1, ps_em, ps_z, Nat.not_le, false_implies, true_implies, forall_const, ps_01, ps_1n, ps_0n, ps_m10, ps_m1n, lg_cmp_gt, lg_cmp_ge, lg_cmp_le, lg_cmp_lt, lg_cmp_eq, pu_rne, pu_req, pu_uro, RFc_n, Nat.reduceAdd, Nat.reduceMul, Nat.reduceLT, Nat.reduceLeDiff, Nat.reduceEqDiff, Nat.reduceSub]
          have e9 : am_uI (prS I i q (-1)) 47 9 (-1) 47 16 = -1 := rfl
          simp only [↓r203_0, ↓r203_1, ↓r203_4, ↓r203_5, ↓r203_8, ↓r203_9, ↓r203_12, ↓r203_13, e9, Bool.false_eq_true, hn, hn2, ht, hF, am_wt, am_wf, Option.isSome_some, am_rf_s, am_rf_n, ps_lit, nI_add, nI_1, pk_mul, ps_cl, ps_neg, ps_c0, ps_c1, ps_n01, ps_n11, ps_10, ps_b01, ps_e0, pu_Ine, pu_Ieq, pu_ne, pu_eq, am_k_n, am_k_i, am_k_r, am_k_u, am_k_l, am_sz_0, am_sz_i, am_sz_r, am_sz_u, am_sz_l, Option.toList_some, Option.toList_none, List.cons_append, List.nil_append, true_and, and_true, or_false, false_or, or_self, or_true, true_or, not_false_eq_true, not_true_eq_false, Classical.not_not, ne_eq, ps_e1, ps_em, ps_z, Nat.not_le, false_implies, true_implies, forall_const, ps_01, ps_1n, ps_0n, ps_m10, ps_m1n, lg_cmp_gt, lg_cmp_ge, lg_cmp_le, lg_cmp_lt, lg_cmp_eq, pu_rne, pu_req, pu_uro, RFc_n, Nat.reduceAdd, Nat.reduceMul, Nat.reduceLT, Nat.reduceLeDiff, Nat.reduceEqDiff, Nat.reduceSub]
          simp only [↓r196_107, Bool.false_eq_true, hn, hn2, ht, hF, am_wt, am_wf, Option.isSome_some, am_rf_s, am_rf_n, ps_lit, nI_add, nI_1, pk_mul, ps_cl, ps_neg, ps_c0, ps_c1, ps_n01, ps_n11, ps_10, ps_b01, ps_e0, pu_Ine, pu_Ieq, pu_ne, pu_eq, am_k_n, am_k_i, am_k_r, am_k_u, am_k_l, am_sz_0, am_sz_i, am_sz_r, am_sz_u, am_sz_l, Option.toList_some, Option.toList_none, List.cons_append, List.nil_append, true_and, and_true, or_false, false_or, or_self, or_true, true_or, not_false_eq_true, not_true_eq_false, Classical.not_not, ne_eq, ps_e1, ps_em, ps_z, Nat.not_le, false_implies, true_implies, forall_const, ps_01, ps_1n, ps_0n, ps_m10, ps_m1n, lg_cmp_gt, lg_cmp_ge, lg_cmp_le, lg_cmp_lt, lg_cmp_eq, pu_rne, pu_req, pu_uro, RFc_n, Nat.reduceAdd, Nat.reduceMul, Nat.reduceLT, Nat.reduceLeDiff, Nat.reduceEqDiff, Nat.reduceSub]
          exact this
        · rw [if_neg c2, if_neg c] at her
          have := her _ i q rfl
          have z : i < 2000000 ∧ NT < 2000000 := by omega
          have z2 : ¬ NT ≤ i := by omega
          have zp : pl i < 2000000 := by have := (h3 i hi).2.2.2; omega
          simp only [↓r196_35, ↓r196_37, ↓r196_40, ↓r196_43, ↓r196_73, ↓r196_74, ↓r196_77, ↓r196_80, ↓r196_81, ↓r196_84, ↓r196_85, ↓r196_88, ↓r196_91, ↓r196_92, ↓r196_95, ↓r196_96, ↓r196_97, ↓r196_100, ↓r196_103, ↓r196_104, ↓m_sign, ↓m_takes0 hW hK hi (show 159 < 400 by decide) c, ↓m_fineG hW, ↓m_faultsG hW hK hi, q_le, q_lt, q_eq, q_e0, q_e1, q_0e, q_1e, ps_n0, q_0le, q_le0, q_0lt, q_m1e, q_em1, prS_14, prS_16, n13, z, z2, Bool.false_eq_true, hn, hn2, ht, hF, am_wt, am_wf, Option.isSome_some, am_rf_s, am_rf_n, ps_lit, nI_add, nI_1, pk_mul, ps_cl, ps_neg, ps_c0, ps_c1, ps_n01, ps_n11, ps_10, ps_b01, ps_e0, pu_Ine, pu_Ieq, pu_ne, pu_eq, am_k_n, am_k_i, am_k_r, am_k_u, am_k_l, am_sz_0, am_sz_i, am_sz_r, am_sz_u, am_sz_l, Option.toList_some, Option.toList_none, List.cons_append, List.nil_append, true_and, and_true, or_false, false_or, or_self, or_true, true_or, not_false_eq_true, not_true_eq_false, Classical.not_not, ne_eq, ps_e1, ps_em, ps_z, Nat.not_le, false_implies, true_implies, forall_const, ps_01, ps_1n, ps_0n, ps_m10, ps_m1n, lg_cmp_gt, lg_cmp_ge, lg_cmp_le, lg_cmp_lt, lg_cmp_eq, pu_rne, pu_req, pu_uro, RFc_n, Nat.reduceAdd, Nat.reduceMul, Nat.reduceLT, Nat.reduceLeDiff, Nat.reduceEqDiff, Nat.reduceSub]
          have e9 : am_uI (prS I i q (nI (pl i))) 47 9 (nI (pl i)) 47 16 = nI (pl i) := rfl
          simp only [↓r203_0, ↓r203_1, ↓r203_4, ↓r203_5, ↓r203_8, ↓r203_9, ↓r203_12, ↓r203_13, e9, q_le, q_lt, q_eq, q_e0, q_e1, q_0e, q_1e, ps_n0, q_0le, q_le0, q_0lt, q_m1e, q_em1, zp, Bool.false_eq_true, hn, hn2, ht, hF, am_wt, am_wf, Option.isSome_some, am_rf_s, am_rf_n, ps_lit, nI_add, nI_1, pk_mul, ps_cl, ps_neg, ps_c0, ps_c1, ps_n01, ps_n11, ps_10, ps_b01, ps_e0, pu_Ine, pu_Ieq, pu_ne, pu_eq, am_k_n, am_k_i, am_k_r, am_k_u, am_k_l, am_sz_0, am_sz_i, am_sz_r, am_sz_u, am_sz_l, Option.toList_some, Option.toList_none, List.cons_append, List.nil_append, true_and, and_true, or_false, false_or, or_self, or_true, true_or, not_false_eq_true, not_true_eq_false, Classical.not_not, ne_eq, ps_e1, ps_em, ps_z, Nat.not_le, false_implies, true_implies, forall_const, ps_01, ps_1n, ps_0n, ps_m10, ps_m1n, lg_cmp_gt, lg_cmp_ge, lg_cmp_le, lg_cmp_lt, lg_cmp_eq, pu_rne, pu_req, pu_uro, RFc_n, Nat.reduceAdd, Nat.reduceMul, Nat.reduceLT, Nat.reduceLeDiff, Nat.reduceEqDiff, Nat.reduceSub]
          simp only [↓r196_107, Bool.false_eq_true, hn, hn2, ht, hF, am_wt, am_wf, Option.isSome_some, am_rf_s, am_rf_n, ps_lit, nI_add, nI_1, pk_mul, ps_cl, ps_neg, ps_c0, ps_c1, ps_n01, ps_n11, ps_10, ps_b01, ps_e0, pu_Ine, pu_Ieq, pu_ne, pu_eq, am_k_n, am_k_i, am_k_r, am_k_u, am_k_l, am_sz_0, am_sz_i, am_sz_r, am_sz_u, am_sz_l, Option.toList_some, Option.toList_none, List.cons_append, List.nil_append, true_and, and_true, or_false, false_or, or_self, or_true, true_or, not_false_eq_true, not_true_eq_false, Classical.not_not, ne_eq, ps_e1, ps_em, ps_z, Nat.not_le, false_implies, true_implies, forall_const, ps_01, ps_1n, ps_0n, ps_m10, ps_m1n, lg_cmp_gt, lg_cmp_ge, lg_cmp_le, lg_cmp_lt, lg_cmp_eq, pu_rne, pu_req, pu_uro, RFc_n, Nat.reduceAdd, Nat.reduceMul, Nat.reduceLT, Nat.reduceLeDiff, Nat.reduceEqDiff, Nat.reduceSub]
          exact this
  unfold pText at hok her
  rw [pCls] at hok her
  have hb := BD_clause (tk := tk) (tv := tv) (i := 0) (q := 0) h2 (Nat.zero_le _) (by omega)
  simp only [↓r196_28, ↓r196_29, Bool.false_eq_true, hn, hn2, ht, hF, am_wt, am_wf, Option.isSome_some, am_rf_s, am_rf_n, ps_lit, nI_add, nI_1, pk_mul, ps_cl, ps_neg, ps_c0, ps_c1, ps_n01, ps_n11, ps_10, ps_b01, ps_e0, pu_Ine, pu_Ieq, pu_ne, pu_eq, am_k_n, am_k_i, am_k_r, am_k_u, am_k_l, am_sz_0, am_sz_i, am_sz_r, am_sz_u, am_sz_l, Option.toList_some, Option.toList_none, List.cons_append, List.nil_append, true_and, and_true, or_false, false_or, or_self, or_true, true_or, not_false_eq_true, not_true_eq_false, Classical.not_not, ne_eq, ps_e1, ps_em, ps_z, Nat.not_le, false_implies, true_implies, forall_const, ps_01, ps_1n, ps_0n, ps_m10, ps_m1n, lg_cmp_gt, lg_cmp_ge, lg_cmp_le, lg_cmp_lt, lg_cmp_eq, pu_rne, pu_req, pu_uro, RFc_n, Nat.reduceAdd, Nat.reduceMul, Nat.reduceLT, Nat.reduceLeDiff, Nat.reduceEqDiff, Nat.reduceSub]
  refine m_clause hW hK (Nat.zero_le _) (by omega) (fun r hr => ?_) (fun x i' q' hx => ?_)
  · obtain ⟨b1, b2, b3⟩ := hb.1 r hr
    rw [hr] at hok her
    dsimp only at hok her
    simp only [↓r196_32, ↓r196_33, Bool.false_eq_true, hn, hn2, ht, hF, am_wt, am_wf, Option.isSome_some, am_rf_s, am_rf_n, ps_lit, nI_add, nI_1, pk_mul, ps_cl, ps_neg, ps_c0, ps_c1, ps_n01, ps_n11, ps_10, ps_b01, ps_e0, pu_Ine, pu_Ieq, pu_ne, pu_eq, am_k_n, am_k_i, am_k_r, am_k_u, am_k_l, am_sz_0, am_sz_i, am_sz_r, am_sz_u, am_sz_l, Option.toList_some, Option.toList_none, List.cons_append, List.nil_append, true_and, and_true, or_false, false_or, or_self, or_true, true_or, not_false_eq_true, not_true_eq_false, Classical.not_not, ne_eq, ps_e1, ps_em, ps_z, Nat.not_le, false_implies, true_implies, forall_const, ps_01, ps_1n, ps_0n, ps_m10, ps_m1n, lg_cmp_gt, lg_cmp_ge, lg_cmp_le, lg_cmp_lt, lg_cmp_eq, pu_rne, pu_req, pu_uro, RFc_n, Nat.reduceAdd, Nat.reduceMul, Nat.reduceLT, Nat.reduceLeDiff, Nat.reduceEqDiff, Nat.reduceSub]
    exact hl 11 1 r.1 r.2.1 ([] ++ [r.2.2]) (by omega) b2 b3 hok her
  · have hx1 := hb.2 x hx
    rw [hx] at her
    have := her x i' q' rfl
    simp only [↓r196_32, ↓r196_33, Bool.false_eq_true, hn, hn2, ht, hF, am_wt, am_wf, Option.isSome_some, am_rf_s, am_rf_n, ps_lit, nI_add, nI_1, pk_mul, ps_cl, ps_neg, ps_c0, ps_c1, ps_n01, ps_n11, ps_10, ps_b01, ps_e0, pu_Ine, pu_Ieq, pu_ne, pu_eq, am_k_n, am_k_i, am_k_r, am_k_u, am_k_l, am_sz_0, am_sz_i, am_sz_r, am_sz_u, am_sz_l, Option.toList_some, Option.toList_none, List.cons_append, List.nil_append, true_and, and_true, or_false, false_or, or_self, or_true, true_or, not_false_eq_true, not_true_eq_false, Classical.not_not, ne_eq, ps_e1, ps_em, ps_z, Nat.not_le, false_implies, true_implies, forall_const, ps_01, ps_1n, ps_0n, ps_m10, ps_m1n, lg_cmp_gt, lg_cmp_ge, lg_cmp_le, lg_cmp_lt, lg_cmp_eq, pu_rne, pu_req, pu_uro, RFc_n, Nat.reduceAdd, Nat.reduceMul, Nat.reduceLT, Nat.reduceLeDiff, Nat.reduceEqDiff, Nat.reduceSub]
    exact bad i' q' 1 _ (by omega) (h3 x hx1).2.2.2 this
end MR
