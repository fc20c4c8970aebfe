/-! TEXTS: the reference reads sums and tests -/
section MQ
variable {X : am_X} {d : Nat} {Q : Option Value → am_H → Prop} {n sl : Nat} {t : Nat → Nat × Nat} {I : Nat → Nat → Int32} {J : Nat → Nat → Int64} {F : Nat → Nat → Option Nat} {h : am_H}
variable {tk tv pl : Nat → Nat} {NT dp : Nat}
theorem g_term {k e : Nat} (hW : WS n t F) (hK : TKI I tk tv pl NT) (hP : RdG X (k + 6) n sl t I J F pl NT 206 [some (.ref 47), some (.int (nI dp)), none] (pPart tk tv (sPr tk tv e))) (hB : BD NT (pPart tk tv (sPr tk tv e))) : RdG X (k + 7) n sl t I J F pl NT 205 [some (.ref 47), some (.int (nI dp))] (pThen tk seM (pPart tk tv (sPr tk tv e)) (fun c a b => bi (opM c) a b)) := by
  intro d Q i0 q0 hi1 hi0 hq0 hok0 her0
  obtain ⟨hn, hn2, ht, hF⟩ := id hW
  obtain ⟨⟨h1, h2⟩, h3⟩ := id hK
  show am_W X (d + k + 7) 205 0 [some (.ref 47), some (.int (nI dp))] [] (n, sl, t, prS I i0 q0 (-1), J, F) Q
  have bad : ∀ (Q : Option Value → am_H → Prop) i q p, p ≤ 400 → Q none (n, sl, t, prS I i q (nI p), J, F) → am_W X (d + k + 7) 205 5 [some (.ref 47), some (.int (nI dp))] [] (n, sl, t, prS I i q (nI p), J, F) Q := by
    intro Q i q p hp hQ
    rw [r205_5]
    simp only [↓r205_6, ↓r205_8, ↓r205_11, ↓r205_14, ↓r205_17, ↓r205_18, ↓r205_20, ↓r205_23, ↓r205_26, ↓r205_37, ↓m_sign, ↓m_takesB hW hp, Bool.false_eq_true, hn, hn2, ht, hF, am_wt, am_wf, Option.isSome_some, am_rf_s, am_rf_n, ps_lit, nI_add, nI_1, pk_mul, ps_cl, ps_neg, ps_c0, ps_c1, ps_n01, ps_n11, ps_10, ps_b01, ps_e0, pu_Ine, pu_Ieq, pu_ne, pu_eq, am_k_n, am_k_i, am_k_r, am_k_u, am_k_l, am_sz_0, am_sz_i, am_sz_r, am_sz_u, am_sz_l, Option.toList_some, Option.toList_none, List.cons_append, List.nil_append, true_and, and_true, or_false, false_or, or_self, or_true, true_or, not_false_eq_true, not_true_eq_false, Classical.not_not, ne_eq, ps_e1, ps_em, ps_z, Nat.not_le, false_implies, true_implies, forall_const, ps_01, ps_1n, ps_0n, ps_m10, ps_m1n, lg_cmp_gt, lg_cmp_ge, lg_cmp_le, lg_cmp_lt, lg_cmp_eq, pu_rne, pu_req, pu_uro, RFc_n, Nat.reduceAdd, Nat.reduceMul, Nat.reduceLT, Nat.reduceLeDiff, Nat.reduceEqDiff, Nat.reduceSub]
    exact hQ
  have hl : ∀ g i q D, 1 ≤ i → i ≤ NT → q ≤ 50 → NT < i + g → (∀ r, pMore tk seM (pPart tk tv (sPr tk tv e)) (fun c a b => bi (opM c) a b) g i q D = .ok r → Q none (n, sl, t, prS I r.1 r.2.1 (-1), J, F)) → (∀ x i' q', pMore tk seM (pPart tk tv (sPr tk tv e)) (fun c a b => bi (opM c) a b) g i q D = .error x → Q none (n, sl, t, prS I i' q' (nI (pl x)), J, F)) → am_W X (d + k + 7) 205 5 [some (.ref 47), some (.int (nI dp))] [] (n, sl, t, prS I i q (-1), J, F) Q := by
    intro g
    induction g with
    | zero => intro i q D hi1 hi hq hg; omega
    | succ g ih =>
      intro i q D hi1 hi hq hg hok her
      rw [pMore] at hok her
      have go : seM (tk i) = true → ∀ Q', (∀ h', am_W X (d + k + 7) 205 34 [some (.ref 47), some (.int (nI dp))] [] h' Q → Q' none h') → am_W X (d + k + 6) 206 0 [some (.ref 47), some (.int (nI dp)), none] [] (n, sl, t, prS I (i + 1) q (-1), J, F) Q' := by
        intro hc Q' hQ'
        rw [if_pos hc] at hok her
        have hl : i < NT := tok_lt h2 hi (fun z => by rw [z] at hc; cases hc)
        refine hP d _ (i + 1) q (by omega) hl hq (fun r hr => hQ' _ ?_) (fun x i' q' hx => hQ' _ ?_)
        · obtain ⟨b1, b2, b3, b4⟩ := (hB (i + 1) q hl hq).1 r hr
          rw [hr] at hok her
          dsimp only at hok her
          simp only [↓r205_34, Bool.false_eq_true, hn, hn2, ht, hF, am_wt, am_wf, Option.isSome_some, am_rf_s, am_rf_n, ps_lit, nI_add, nI_1, pk_mul, ps_cl, ps_neg, ps_c0, ps_c1, ps_n01, ps_n11, ps_10, ps_b01, ps_e0, pu_Ine, pu_Ieq, pu_ne, pu_eq, am_k_n, am_k_i, am_k_r, am_k_u, am_k_l, am_sz_0, am_sz_i, am_sz_r, am_sz_u, am_sz_l, Option.toList_some, Option.toList_none, List.cons_append, List.nil_append, true_and, and_true, or_false, false_or, or_self, or_true, true_or, not_false_eq_true, not_true_eq_false, Classical.not_not, ne_eq, ps_e1, ps_em, ps_z, Nat.not_le, false_implies, true_implies, forall_const, ps_01, ps_1n, ps_0n, ps_m10, ps_m1n, lg_cmp_gt, lg_cmp_ge, lg_cmp_le, lg_cmp_lt, lg_cmp_eq, pu_rne, pu_req, pu_uro, RFc_n, Nat.reduceAdd, Nat.reduceMul, Nat.reduceLT, Nat.reduceLeDiff, Nat.reduceEqDiff, Nat.reduceSub]
          exact ih r.1 r.2.1 _ (by omega) b2 b4 (by omega) hok her
        · have hx1 := (hB (i + 1) q hl hq).2 x hx
          rw [hx] at her
          have := her x i' q' rfl
          simp only [↓r205_34, Bool.false_eq_true, hn, hn2, ht, hF, am_wt, am_wf, Option.isSome_some, am_rf_s, am_rf_n, ps_lit, nI_add, nI_1, pk_mul, ps_cl, ps_neg, ps_c0, ps_c1, ps_n01, ps_n11, ps_10, ps_b01, ps_e0, pu_Ine, pu_Ieq, pu_ne, pu_eq, am_k_n, am_k_i, am_k_r, am_k_u, am_k_l, am_sz_0, am_sz_i, am_sz_r, am_sz_u, am_sz_l, Option.toList_some, Option.toList_none, List.cons_append, List.nil_append, true_and, and_true, or_false, false_or, or_self, or_true, true_or, not_false_eq_true, not_true_eq_false, Classical.not_not, ne_eq, ps_e1, ps_em, ps_z, Nat.not_le, false_implies, true_implies, forall_const, ps_01, ps_1n, ps_0n, ps_m10, ps_m1n, lg_cmp_gt, lg_cmp_ge, lg_cmp_le, lg_cmp_lt, lg_cmp_eq, pu_rne, pu_req, pu_uro, RFc_n, Nat.reduceAdd, Nat.reduceMul, Nat.reduceLT, Nat.reduceLeDiff, Nat.reduceEqDiff, Nat.reduceSub]
          exact bad Q i' q' _ (h3 x hx1).2.2.2 this
      rw [r205_5]
      by_cases c1 : tk i = 142
      · have hc : seM (tk i) = true := by rw [c1]; rfl
        simp only [↓r205_6, ↓r205_8, ↓r205_11, ↓r205_14, ↓r205_17, ↓r205_18, ↓r205_20, ↓r205_23, ↓r205_26, ↓r205_29, ↓r205_30, ↓r205_31, ↓m_sign, ↓m_takes1 hW hK hi c1, Bool.false_eq_true, hn, hn2, ht, hF, am_wt, am_wf, Option.isSome_some, am_rf_s, am_rf_n, ps_lit, nI_add, nI_1, pk_mul, ps_cl, ps_neg, ps_c0, ps_c1, ps_n01, ps_n11, ps_10, ps_b01, ps_e0, pu_Ine, pu_Ieq, pu_ne, pu_eq, am_k_n, am_k_i, am_k_r, am_k_u, am_k_l, am_sz_0, am_sz_i, am_sz_r, am_sz_u, am_sz_l, Option.toList_some, Option.toList_none, List.cons_append, List.nil_append, true_and, and_true, or_false, false_or, or_self, or_true, true_or, not_false_eq_true, not_true_eq_false, Classical.not_not, ne_eq, ps_e1, ps_em, ps_z, Nat.not_le, false_implies, true_implies, forall_const, ps_01, ps_1n, ps_0n, ps_m10, ps_m1n, lg_cmp_gt, lg_cmp_ge, lg_cmp_le, lg_cmp_lt, lg_cmp_eq, pu_rne, pu_req, pu_uro, RFc_n, Nat.reduceAdd, Nat.reduceMul, Nat.reduceLT, Nat.reduceLeDiff, Nat.reduceEqDiff, Nat.reduceSub]
        exact go hc _ (fun h' q => q)
      · by_cases c2 : tk i = 147
        · have hc : seM (tk i) = true := by rw [c2]; rfl
          simp only [↓r205_6, ↓r205_8, ↓r205_11, ↓r205_14, ↓r205_17, ↓r205_18, ↓r205_20, ↓r205_23, ↓r205_26, ↓r205_29, ↓r205_30, ↓r205_31, ↓m_sign, ↓m_takes0 hW hK hi (show 142 < 400 by decide) c1, ↓m_takes1 hW hK hi c2, Bool.false_eq_true, hn, hn2, ht, hF, am_wt, am_wf, Option.isSome_some, am_rf_s, am_rf_n, ps_lit, nI_add, nI_1, pk_mul, ps_cl, ps_neg, ps_c0, ps_c1, ps_n01, ps_n11, ps_10, ps_b01, ps_e0, pu_Ine, pu_Ieq, pu_ne, pu_eq, am_k_n, am_k_i, am_k_r, am_k_u, am_k_l, am_sz_0, am_sz_i, am_sz_r, am_sz_u, am_sz_l, Option.toList_some, Option.toList_none, List.cons_append, List.nil_append, true_and, and_true, or_false, false_or, or_self, or_true, true_or, not_false_eq_true, not_true_eq_false, Classical.not_not, ne_eq, ps_e1, ps_em, ps_z, Nat.not_le, false_implies, true_implies, forall_const, ps_01, ps_1n, ps_0n, ps_m10, ps_m1n, lg_cmp_gt, lg_cmp_ge, lg_cmp_le, lg_cmp_lt, lg_cmp_eq, pu_rne, pu_req, pu_uro, RFc_n, Nat.reduceAdd, Nat.reduceMul, Nat.reduceLT, Nat.reduceLeDiff, Nat.reduceEqDiff, Nat.reduceSub]
          exact go hc _ (fun h' q => q)
        · have hc : ¬ seM (tk i) = true := by
            unfold seM
            simp only [Bool.or_eq_true, beq_iff_eq]
            omega
          rw [if_neg hc] at hok
          have := hok _ rfl
          simp only [↓r205_6, ↓r205_8, ↓r205_11, ↓r205_14, ↓r205_17, ↓r205_18, ↓r205_20, ↓r205_23, ↓r205_26, ↓r205_37, ↓m_sign, ↓m_takes0 hW hK hi (show 142 < 400 by decide) c1, ↓m_takes0 hW hK hi (show 147 < 400 by decide) c2, Bool.false_eq_true, hn, hn2, ht, hF, am_wt, am_wf, Option.isSome_some, am_rf_s, am_rf_n, ps_lit, nI_add, nI_1, pk_mul, ps_cl, ps_neg, ps_c0, ps_c1, ps_n01, ps_n11, ps_10, ps_b01, ps_e0, pu_Ine, pu_Ieq, pu_ne, pu_eq, am_k_n, am_k_i, am_k_r, am_k_u, am_k_l, am_sz_0, am_sz_i, am_sz_r, am_sz_u, am_sz_l, Option.toList_some, Option.toList_none, List.cons_append, List.nil_append, true_and, and_true, or_false, false_or, or_self, or_true, true_or, not_false_eq_true, not_true_eq_false, Classical.not_not, ne_eq, ps_e1, ps_em, ps_z, Nat.not_le, false_implies, true_implies, forall_const, ps_01, ps_1n, ps_0n, ps_m10, ps_m1n, lg_cmp_gt, lg_cmp_ge, lg_cmp_le, lg_cmp_lt, lg_cmp_eq, pu_rne, pu_req, pu_uro, RFc_n, Nat.reduceAdd, Nat.reduceMul, Nat.reduceLT, Nat.reduceLeDiff, Nat.reduceEqDiff, Nat.reduceSub]
          exact this
  unfold pThen at hok0 her0
  simp only [↓r205_0, ↓r205_1, ↓r205_2, Bool.false_eq_true, hn, hn2, ht, hF, am_wt, am_wf, Option.isSome_some, am_rf_s, am_rf_n, ps_lit, nI_add, nI_1, pk_mul, ps_cl, ps_neg, ps_c0, ps_c1, ps_n01, ps_n11, ps_10, ps_b01, ps_e0, pu_Ine, pu_Ieq, pu_ne, pu_eq, am_k_n, am_k_i, am_k_r, am_k_u, am_k_l, am_sz_0, am_sz_i, am_sz_r, am_sz_u, am_sz_l, Option.toList_some, Option.toList_none, List.cons_append, List.nil_append, true_and, and_true, or_false, false_or, or_self, or_true, true_or, not_false_eq_true, not_true_eq_false, Classical.not_not, ne_eq, ps_e1, ps_em, ps_z, Nat.not_le, false_implies, true_implies, forall_const, ps_01, ps_1n, ps_0n, ps_m10, ps_m1n, lg_cmp_gt, lg_cmp_ge, lg_cmp_le, lg_cmp_lt, lg_cmp_eq, pu_rne, pu_req, pu_uro, RFc_n, Nat.reduceAdd, Nat.reduceMul, Nat.reduceLT, Nat.reduceLeDiff, Nat.reduceEqDiff, Nat.reduceSub]
  refine hP d _ i0 q0 hi1 hi0 hq0 (fun r hr => ?_) (fun x i' q' hx => ?_)
  · obtain ⟨b1, b2, b3, b4⟩ := (hB i0 q0 hi0 hq0).1 r hr
    rw [hr] at hok0 her0
    exact hl 400 r.1 r.2.1 r.2.2 (by omega) b2 b4 (by omega) hok0 her0
  · have hx1 := (hB i0 q0 hi0 hq0).2 x hx
    rw [hx] at her0
    exact bad Q i' q' _ (h3 x hx1).2.2.2 (her0 x i' q' rfl)
theorem g_sum {k e : Nat} (hW : WS n t F) (hK : TKI I tk tv pl NT) (hP : RdG X (k + 7) n sl t I J F pl NT 205 [some (.ref 47), some (.int (nI dp))] (pTerm tk tv (sPr tk tv e))) (hB : BD NT (pTerm tk tv (sPr tk tv e))) : RdG X (k + 8) n sl t I J F pl NT 204 [some (.ref 47), some (.int (nI dp))] (pThen tk seA (pTerm tk tv (sPr tk tv e)) (fun c a b => bi (opA c) a b)) := by
  intro d Q i0 q0 hi1 hi0 hq0 hok0 her0
  obtain ⟨hn, hn2, ht, hF⟩ := id hW
  obtain ⟨⟨h1, h2⟩, h3⟩ := id hK
  show am_W X (d + k + 8) 204 0 [some (.ref 47), some (.int (nI dp))] [] (n, sl, t, prS I i0 q0 (-1), J, F) Q
  have bad : ∀ (Q : Option Value → am_H → Prop) i q p, p ≤ 400 → Q none (n, sl, t, prS I i q (nI p), J, F) → am_W X (d + k + 8) 204 5 [some (.ref 47), some (.int (nI dp))] [] (n, sl, t, prS I i q (nI p), J, F) Q := by
    intro Q i q p hp hQ
    rw [r204_5]
    simp only [↓r204_6, ↓r204_8, ↓r204_11, ↓r204_14, ↓r204_17, ↓r204_18, ↓r204_20, ↓r204_23, ↓r204_26, ↓r204_37, ↓m_sign, ↓m_takesB hW hp, Bool.false_eq_true, hn, hn2, ht, hF, am_wt, am_wf, Option.isSome_some, am_rf_s, am_rf_n, ps_lit, nI_add, nI_1, pk_mul, ps_cl, ps_neg, ps_c0, ps_c1, ps_n01, ps_n11, ps_10, ps_b01, ps_e0, pu_Ine, pu_Ieq, pu_ne, pu_eq, am_k_n, am_k_i, am_k_r, am_k_u, am_k_l, am_sz_0, am_sz_i, am_sz_r, am_sz_u, am_sz_l, Option.toList_some, Option.toList_none, List.cons_append, List.nil_append, true_and, and_true, or_false, false_or, or_self, or_true, true_or, not_false_eq_true, not_true_eq_false, Classical.not_not, ne_eq, ps_e1, ps_em, ps_z, Nat.not_le, false_implies, true_implies, forall_const, ps_01, ps_1n, ps_0n, ps_m10, ps_m1n, lg_cmp_gt, lg_cmp_ge, lg_cmp_le, lg_cmp_lt, lg_cmp_eq, pu_rne, pu_req, pu_uro, RFc_n, Nat.reduceAdd, Nat.reduceMul, Nat.reduceLT, Nat.reduceLeDiff, Nat.reduceEqDiff, Nat.reduceSub]
    exact hQ
  have hl : ∀ g i q D, 1 ≤ i → i ≤ NT → q ≤ 50 → NT < i + g → (∀ r, pMore tk seA (pTerm tk tv (sPr tk tv e)) (fun c a b => bi (opA c) a b) g i q D = .ok r → Q none (n, sl, t, prS I r.1 r.2.1 (-1), J, F)) → (∀ x i' q', pMore tk seA (pTerm tk tv (sPr tk tv e)) (fun c a b => bi (opA c) a b) g i q D = .error x → Q none (n, sl, t, prS I i' q' (nI (pl x)), J, F)) → am_W X (d + k + 8) 204 5 [some (.ref 47), some (.int (nI dp))] [] (n, sl, t, prS I i q (-1), J, F) Q := by
    intro g
    induction g with
    | zero => intro i q D hi1 hi hq hg; omega
    | succ g ih =>
      intro i q D hi1 hi hq hg hok her
      rw [pMore] at hok her
      have go : seA (tk i) = true → ∀ Q', (∀ h', am_W X (d + k + 8) 204 34 [some (.ref 47), some (.int (nI dp))] [] h' Q → Q' none h') → am_W X (d + k + 7) 205 0 [some (.ref 47), some (.int (nI dp))] [] (n, sl, t, prS I (i + 1) q (-1), J, F) Q' := by
        intro hc Q' hQ'
        rw [if_pos hc] at hok her
        have hl : i < NT := tok_lt h2 hi (fun z => by rw [z] at hc; cases hc)
        refine hP d _ (i + 1) q (by omega) hl hq (fun r hr => hQ' _ ?_) (fun x i' q' hx => hQ' _ ?_)
        · obtain ⟨b1, b2, b3, b4⟩ := (hB (i + 1) q hl hq).1 r hr
          rw [hr] at hok her
          dsimp only at hok her
          simp only [↓r204_34, Bool.false_eq_true, hn, hn2, ht, hF, am_wt, am_wf, Option.isSome_some, am_rf_s, am_rf_n, ps_lit, nI_add, nI_1, pk_mul, ps_cl, ps_neg, ps_c0, ps_c1, ps_n01, ps_n11, ps_10, ps_b01, ps_e0, pu_Ine, pu_Ieq, pu_ne, pu_eq, am_k_n, am_k_i, am_k_r, am_k_u, am_k_l, am_sz_0, am_sz_i, am_sz_r, am_sz_u, am_sz_l, Option.toList_some, Option.toList_none, List.cons_append, List.nil_append, true_and, and_true, or_false, false_or, or_self, or_true, true_or, not_false_eq_true, not_true_eq_false, Classical.not_not, ne_eq, ps_e1, ps_em, ps_z, Nat.not_le, false_implies, true_implies, forall_const, ps_01, ps_1n, ps_0n, ps_m10, ps_m1n, lg_cmp_gt, lg_cmp_ge, lg_cmp_le, lg_cmp_lt, lg_cmp_eq, pu_rne, pu_req, pu_uro, RFc_n, Nat.reduceAdd, Nat.reduceMul, Nat.reduceLT, Nat.reduceLeDiff, Nat.reduceEqDiff, Nat.reduceSub]
          exact ih r.1 r.2.1 _ (by omega) b2 b4 (by omega) hok her
        · have hx1 := (hB (i + 1) q hl hq).2 x hx
          rw [hx] at her
          have := her x i' q' rfl
          simp only [↓r204_34, Bool.false_eq_true, hn, hn2, ht, hF, am_wt, am_wf, Option.isSome_some, am_rf_s, am_rf_n, ps_lit, nI_add, nI_1, pk_mul, ps_cl, ps_neg, ps_c0, ps_c1, ps_n01, ps_n11, ps_10, ps_b01, ps_e0, pu_Ine, pu_Ieq, pu_ne, pu_eq, am_k_n, am_k_i, am_k_r, am_k_u, am_k_l, am_sz_0, am_sz_i, am_sz_r, am_sz_u, am_sz_l, Option.toList_some, Option.toList_none, List.cons_append, List.nil_append, true_and, and_true, or_false, false_or, or_self, or_true, true_or, not_false_eq_true, not_true_eq_false, Classical.not_not, ne_eq, ps_e1, ps_em, ps_z, Nat.not_le, false_implies, true_implies, forall_const, ps_01, ps_1n, ps_0n, ps_m10, ps_m1n, lg_cmp_gt, lg_cmp_ge, lg_cmp_le, lg_cmp_lt, lg_cmp_eq, pu_rne, pu_req, pu_uro, RFc_n, Nat.reduceAdd, Nat.reduceMul, Nat.reduceLT, Nat.reduceLeDiff, Nat.reduceEqDiff, Nat.reduceSub]
          exact bad Q i' q' _ (h3 x hx1).2.2.2 this
      rw [r204_5]
      by_cases c1 : tk i = 143
      · have hc : seA (tk i) = true := by rw [c1]; rfl
        simp only [↓r204_6, ↓r204_8, ↓r204_11, ↓r204_14, ↓r204_17, ↓r204_18, ↓r204_20, ↓r204_23, ↓r204_26, ↓r204_29, ↓r204_30, ↓r204_31, ↓m_sign, ↓m_takes1 hW hK hi c1, Bool.false_eq_true, hn, hn2, ht, hF, am_wt, am_wf, Option.isSome_some, am_rf_s, am_rf_n, ps_lit, nI_add, nI_1, pk_mul, ps_cl, ps_neg, ps_c0, ps_c1, ps_n01, ps_n11, ps_10, ps_b01, ps_e0, pu_Ine, pu_Ieq, pu_ne, pu_eq, am_k_n, am_k_i, am_k_r, am_k_u, am_k_l, am_sz_0, am_sz_i, am_sz_r, am_sz_u, am_sz_l, Option.toList_some, Option.toList_none, List.cons_append, List.nil_append, true_and, and_true, or_false, false_or, or_self, or_true, true_or, not_false_eq_true, not_true_eq_false, Classical.not_not, ne_eq, ps_e1, ps_em, ps_z, Nat.not_le, false_implies, true_implies, forall_const, ps_01, ps_1n, ps_0n, ps_m10, ps_m1n, lg_cmp_gt, lg_cmp_ge, lg_cmp_le, lg_cmp_lt, lg_cmp_eq, pu_rne, pu_req, pu_uro, RFc_n, Nat.reduceAdd, Nat.reduceMul, Nat.reduceLT, Nat.reduceLeDiff, Nat.reduceEqDiff, Nat.reduceSub]
        exact go hc _ (fun h' q => q)
      · by_cases c2 : tk i = 145
        · have hc : seA (tk i) = true := by rw [c2]; rfl
          simp only [↓r204_6, ↓r204_8, ↓r204_11, ↓r204_14, ↓r204_17, ↓r204_18, ↓r204_20, ↓r204_23, ↓r204_26, ↓r204_29, ↓r204_30, ↓r204_31, ↓m_sign, ↓m_takes0 hW hK hi (show 143 < 400 by decide) c1, ↓m_takes1 hW hK hi c2, Bool.false_eq_true, hn, hn2, ht, hF, am_wt, am_wf, Option.isSome_some, am_rf_s, am_rf_n, ps_lit, nI_add, nI_1, pk_mul, ps_cl, ps_neg, ps_c0, ps_c1, ps_n01, ps_n11, ps_10, ps_b01, ps_e0, pu_Ine, pu_Ieq, pu_ne, pu_eq, am_k_n, am_k_i, am_k_r, am_k_u, am_k_l, am_sz_0, am_sz_i, am_sz_r, am_sz_u, am_sz_l, Option.toList_some, Option.toList_none, List.cons_append, List.nil_append, true_and, and_true, or_false, false_or, or_self, or_true, true_or, not_false_eq_true, not_true_eq_false, Classical.not_not, ne_eq, ps_e1, ps_em, ps_z, Nat.not_le, false_implies, true_implies, forall_const, ps_01, ps_1n, ps_0n, ps_m10, ps_m1n, lg_cmp_gt, lg_cmp_ge, lg_cmp_le, lg_cmp_lt, lg_cmp_eq, pu_rne, pu_req, pu_uro, RFc_n, Nat.reduceAdd, Nat.reduceMul, Nat.reduceLT, Nat.reduceLeDiff, Nat.reduceEqDiff, Nat.reduceSub]
          exact go hc _ (fun h' q => q)
        · have hc : ¬ seA (tk i) = true := by
            unfold seA
            simp only [Bool.or_eq_true, beq_iff_eq]
            omega
          rw [if_neg hc] at hok
          have := hok _ rfl
          simp only [↓r204_6, ↓r204_8, ↓r204_11, ↓r204_14, ↓r204_17, ↓r204_18, ↓r204_20, ↓r204_23, ↓r204_26, ↓r204_37, ↓m_sign, ↓m_takes0 hW hK hi (show 143 < 400 by decide) c1, ↓m_takes0 hW hK hi (show 145 < 400 by decide) c2, Bool.false_eq_true, hn, hn2, ht, hF, am_wt, am_wf, Option.isSome_some, am_rf_s, am_rf_n, ps_lit, nI_add, nI_1, pk_mul, ps_cl, ps_neg, ps_c0, ps_c1, ps_n01, ps_n11, ps_10, ps_b01, ps_e0, pu_Ine, pu_Ieq, pu_ne, pu_eq, am_k_n, am_k_i, am_k_r, am_k_u, am_k_l, am_sz_0, am_sz_i, am_sz_r, am_sz_u, am_sz_l, Option.toList_some, Option.toList_none, List.cons_append, List.nil_append, true_and, and_true, or_false, false_or, or_self, or_true, true_or, not_false_eq_true, not_true_eq_false, Classical.not_not, ne_eq, ps_e1, ps_em, ps_z, Nat.not_le, false_implies, true_implies, forall_const, ps_01, ps_1n, ps_0n, ps_m10, ps_m1n, lg_cmp_gt, lg_cmp_ge, lg_cmp_le, lg_cmp_lt, lg_cmp_eq, pu_rne, pu_req, pu_uro, RFc_n, Nat.reduceAdd, Nat.reduceMul, Nat.reduceLT, Nat.reduceLeDiff, Nat.reduceEqDiff, Nat.reduceSub]
          exact this
  unfold pThen at hok0 her0
  simp only [↓r204_0, ↓r204_1, ↓r204_2, Bool.false_eq_true, hn, hn2, ht, hF, am_wt, am_wf, Option.isSome_some, am_rf_s, am_rf_n, ps_lit, nI_add, nI_1, pk_mul, ps_cl, ps_neg, ps_c0, ps_c1, ps_n01, ps_n11, ps_10, ps_b01, ps_e0, pu_Ine, pu_Ieq, pu_ne, pu_eq, am_k_n, am_k_i, am_k_r, am_k_u, am_k_l, am_sz_0, am_sz_i, am_sz_r, am_sz_u, am_sz_l, Option.toList_some, Option.toList_none, List.cons_append, List.nil_append, true_and, and_true, or_false, false_or, or_self, or_true, true_or, not_false_eq_true, not_true_eq_false, Classical.not_not, ne_eq, ps_e1, ps_em, ps_z, Nat.not_le, false_implies, true_implies, forall_const, ps_01, ps_1n, ps_0n, ps_m10, ps_m1n, lg_cmp_gt, lg_cmp_ge, lg_cmp_le, lg_cmp_lt, lg_cmp_eq, pu_rne, pu_req, pu_uro, RFc_n, Nat.reduceAdd, Nat.reduceMul, Nat.reduceLT, Nat.reduceLeDiff, Nat.reduceEqDiff, Nat.reduceSub]
  refine hP d _ i0 q0 hi1 hi0 hq0 (fun r hr => ?_) (fun x i' q' hx => ?_)
  · obtain ⟨b1, b2, b3, b4⟩ := (hB i0 q0 hi0 hq0).1 r hr
    rw [hr] at hok0 her0
    exact hl 400 r.1 r.2.1 r.2.2 (by omega) b2 b4 (by omega) hok0 her0
  · have hx1 := (hB i0 q0 hi0 hq0).2 x hx
    rw [hx] at her0
    exact bad Q i' q' _ (h3 x hx1).2.2.2 (her0 x i' q' rfl)
theorem m_sum (hW : WS n t F) (hK : TKI I tk tv pl NT) : ∀ e dp, dp + e = 8 → RdG X (3 * e + 8) n sl t I J F pl NT 204 [some (.ref 47), some (.int (nI dp))] (pSum tk tv e) := by
  have h0 := hK.1.2
  have hBS : ∀ e P, sPr tk tv e = some P → BD NT P := fun e P hP => by
    cases e with
    | zero => cases hP
    | succ e => cases hP; exact BD_sum h0 e
  have st : ∀ k e dp, dp + e = 8 → (∀ e', e = e' + 1 → RdG X (k + 5) n sl t I J F pl NT 204 [some (.ref 47), some (.int (nI (dp + 1)))] (pSum tk tv e')) → RdG X (k + 8) n sl t I J F pl NT 204 [some (.ref 47), some (.int (nI dp))] (pSum tk tv e) := by
    intro k e dp he hS
    rw [pSum_e]
    exact g_sum hW hK (g_term hW hK (g_part hW hK he hS) (BD_part h0 (hBS e))) (BD_then h0 rfl (BD_part h0 (hBS e)))
  intro e
  induction e with
  | zero => intro dp he; exact st 0 0 dp he (fun e' h => by cases h)
  | succ e ih => intro dp he; exact st (3 * e + 3) (e + 1) dp he (fun e' h => by cases h; exact ih (dp + 1) (by omega))
theorem b_sum2 {k : Nat} (hW : WS n t F) : RdB X (k + 8) n sl t I J F 204 [some (.ref 47), some (.int (nI dp))] := fun d Q i q p hp => b_sum hW (d + k + 3) Q i q p hp
theorem g_plain {e : Nat} (hW : WS n t F) (hK : TKI I tk tv pl NT) (he : dp + e = 8) (hT : ∀ e', e = e' + 1 → RdG X (3 * e' + 11) n sl t I J F pl NT 211 [some (.ref 47), some (.int (nI (dp + 1)))] (pTest tk tv e')) : RdG X (3 * e + 9) n sl t I J F pl NT 213 [some (.ref 47), some (.int (nI dp)), none, none] (pPlain tk (pSum tk tv e) (tPr tk tv e)) := by
  intro d Q i0 q hi1 hi0 hq hok her
  obtain ⟨hn, hn2, ht, hF⟩ := id hW
  obtain ⟨⟨h1, h2⟩, h3⟩ := id hK
  show am_W X (d + 3 * e + 9) 213 0 [some (.ref 47), some (.int (nI dp)), none, none] [] (n, sl, t, prS I i0 q (-1), J, F) Q
  have hS := m_sum (X := X) (n := n) (sl := sl) (t := t) (I := I) (J := J) (F := F) hW hK e dp he
  have hBs := BD_sum (tk := tk) (tv := tv) h2 e
  have hbad := b_sum2 (X := X) (n := n) (sl := sl) (t := t) (I := I) (J := J) (F := F) (dp := dp) (k := 3 * e) hW
  obtain ⟨nb1, nb2⟩ := nots_b h2 400 i0 false hi0
  unfold pPlain at hok her
  -- behind the nots
  have main : ∀ l2 : Option Value, am_W X (d + 3 * e + 9) 213 16 [some (.ref 47), some (.int (nI dp)), l2, none] [] (n, sl, t, prS I (pNots tk 400 i0 false).1 q (-1), J, F) Q := by
    intro l2
    generalize (pNots tk 400 i0 false).1 = i at nb1 nb2 hok her
    generalize (pNots tk 400 i0 false).2 = b at hok her
    obtain ⟨⟨a1, a2, a3⟩, a4, a5, a6⟩ := h3 i nb2
    have z : i < 2000000 ∧ i < 401 ∧ tk i < 2000000 ∧ dp < 2000000 := by omega
    by_cases c1 : tk i = 140
    · rw [if_pos c1] at hok her
      cases e with
      | zero =>
        have ed : dp = 8 := by omega
        subst ed
        have := her i i q rfl
        simp only [↓r213_16, ↓r213_17, ↓r213_20, ↓r213_23, ↓r213_24, ↓r213_25, ↓r213_28, ↓r213_29, ↓r213_32, ↓r213_32k, ↓r213_33, ↓r213_34, ↓r213_35, ↓r213_37, ↓r213_40, ↓r213_43, ↓r213_44, ↓r213_46, ↓r213_49, ↓r213_50, ↓r213_53, ↓r213_54, ↓r213_57, ↓r213_60, ↓m_fineG hW, ↓m_faultsG hW hK nb2, ↓m_fineB hW a6, ↓m_sign, q_le, q_lt, q_eq, q_e0, q_e1, q_0e, q_1e, ps_n0, q_0le, q_le0, q_0lt, q_m1e, q_em1, prS_14, prS_n, z, a1, c1, Bool.false_eq_true, hn, hn2, ht, hF, am_wt, am_wf, Option.isSome_some, am_rf_s, am_rf_n, ps_lit, nI_add, nI_1, pk_mul, ps_cl, ps_neg, ps_c0, ps_c1, ps_n01, ps_n11, ps_10, ps_b01, ps_e0, pu_Ine, pu_Ieq, pu_ne, pu_eq, am_k_n, am_k_i, am_k_r, am_k_u, am_k_l, am_sz_0, am_sz_i, am_sz_r, am_sz_u, am_sz_l, Option.toList_some, Option.toList_none, List.cons_append, List.nil_append, true_and, and_true, or_false, false_or, or_self, or_true, true_or, not_false_eq_true, not_true_eq_false, Classical.not_not, ne_eq, ps_e1, ps_em, ps_z, Nat.not_le, false_implies, true_implies, forall_const, ps_01, ps_1n, ps_0n, ps_m10, ps_m1n, lg_cmp_gt, lg_cmp_ge, lg_cmp_le, lg_cmp_lt, lg_cmp_eq, pu_rne, pu_req, pu_uro, RFc_n, Nat.reduceAdd, Nat.reduceMul, Nat.reduceLT, Nat.reduceLeDiff, Nat.reduceEqDiff, Nat.reduceSub]
        exact this
      | succ e =>
        have ed : ¬ dp = 8 := by omega
        have hl : i < NT := tok_lt h2 nb2 (by omega)
        have hBt := BD_test (tk := tk) (tv := tv) h2 e (i + 1) q hl hq
        show am_W X (d + 3 * e + 12) 213 16 [some (.ref 47), some (.int (nI dp)), l2, none] [] (n, sl, t, prS I i q (-1), J, F) Q
        simp only [↓r213_16, ↓r213_17, ↓r213_20, ↓r213_23, ↓r213_24, ↓r213_25, ↓r213_28, ↓r213_29, ↓r213_32, ↓r213_32k, ↓r213_33, ↓r213_34, ↓r213_35, ↓r213_37, ↓r213_40, ↓r213_43, ↓r213_44, ↓r213_46, ↓r213_49, ↓r213_50, ↓r213_53, ↓r213_54, ↓r213_57, ↓r213_60, ↓r213_61, ↓r213_62, ↓r213_62r, ↓r213_63, ↓r213_66, ↓r213_67, ↓r213_68, ↓r213_71, ↓r213_72, ↓r213_73, ↓r213_74, ↓r213_75, ↓m_fineG hW, ↓m_sign, q_le, q_lt, q_eq, q_e0, q_e1, q_0e, q_1e, ps_n0, q_0le, q_le0, q_0lt, q_m1e, q_em1, prS_14, prS_n, prS_u14, z, a1, c1, ed, Bool.false_eq_true, hn, hn2, ht, hF, am_wt, am_wf, Option.isSome_some, am_rf_s, am_rf_n, ps_lit, nI_add, nI_1, pk_mul, ps_cl, ps_neg, ps_c0, ps_c1, ps_n01, ps_n11, ps_10, ps_b01, ps_e0, pu_Ine, pu_Ieq, pu_ne, pu_eq, am_k_n, am_k_i, am_k_r, am_k_u, am_k_l, am_sz_0, am_sz_i, am_sz_r, am_sz_u, am_sz_l, Option.toList_some, Option.toList_none, List.cons_append, List.nil_append, true_and, and_true, or_false, false_or, or_self, or_true, true_or, not_false_eq_true, not_true_eq_false, Classical.not_not, ne_eq, ps_e1, ps_em, ps_z, Nat.not_le, false_implies, true_implies, forall_const, ps_01, ps_1n, ps_0n, ps_m10, ps_m1n, lg_cmp_gt, lg_cmp_ge, lg_cmp_le, lg_cmp_lt, lg_cmp_eq, pu_rne, pu_req, pu_uro, RFc_n, Nat.reduceAdd, Nat.reduceMul, Nat.reduceLT, Nat.reduceLeDiff, Nat.reduceEqDiff, Nat.reduceSub]
        refine hT e rfl d _ (i + 1) q (by omega) hl hq (fun r hr => ?_) (fun x i' q' hx => ?_)
        · obtain ⟨b1, b2, b3, b4⟩ := hBt.1 r hr
          dsimp only [tPr] at hok her
          rw [hr] at hok her
          dsimp only at hok her
          by_cases c2 : tk r.1 = 141
          · rw [if_pos c2] at hok
            have := hok _ rfl
            simp only [↓r213_78, ↓r213_79, ↓r213_81, ↓r213_84, ↓r213_87, ↓r213_133, ↓m_sign, ↓m_must1 hW hK b2 c2, Bool.false_eq_true, hn, hn2, ht, hF, am_wt, am_wf, Option.isSome_some, am_rf_s, am_rf_n, ps_lit, nI_add, nI_1, pk_mul, ps_cl, ps_neg, ps_c0, ps_c1, ps_n01, ps_n11, ps_10, ps_b01, ps_e0, pu_Ine, pu_Ieq, pu_ne, pu_eq, am_k_n, am_k_i, am_k_r, am_k_u, am_k_l, am_sz_0, am_sz_i, am_sz_r, am_sz_u, am_sz_l, Option.toList_some, Option.toList_none, List.cons_append, List.nil_append, true_and, and_true, or_false, false_or, or_self, or_true, true_or, not_false_eq_true, not_true_eq_false, Classical.not_not, ne_eq, ps_e1, ps_em, ps_z, Nat.not_le, false_implies, true_implies, forall_const, ps_01, ps_1n, ps_0n, ps_m10, ps_m1n, lg_cmp_gt, lg_cmp_ge, lg_cmp_le, lg_cmp_lt, lg_cmp_eq, pu_rne, pu_req, pu_uro, RFc_n, Nat.reduceAdd, Nat.reduceMul, Nat.reduceLT, Nat.reduceLeDiff, Nat.reduceEqDiff, Nat.reduceSub]
            exact this
          · rw [if_neg c2] at her
            have := her _ r.1 r.2.1 rfl
            simp only [↓r213_78, ↓r213_79, ↓r213_81, ↓r213_84, ↓r213_87, ↓r213_133, ↓m_sign, ↓m_must0 hW hK b2 (by decide) c2, Bool.false_eq_true, hn, hn2, ht, hF, am_wt, am_wf, Option.isSome_some, am_rf_s, am_rf_n, ps_lit, nI_add, nI_1, pk_mul, ps_cl, ps_neg, ps_c0, ps_c1, ps_n01, ps_n11, ps_10, ps_b01, ps_e0, pu_Ine, pu_Ieq, pu_ne, pu_eq, am_k_n, am_k_i, am_k_r, am_k_u, am_k_l, am_sz_0, am_sz_i, am_sz_r, am_sz_u, am_sz_l, Option.toList_some, Option.toList_none, List.cons_append, List.nil_append, true_and, and_true, or_false, false_or, or_self, or_true, true_or, not_false_eq_true, not_true_eq_false, Classical.not_not, ne_eq, ps_e1, ps_em, ps_z, Nat.not_le, false_implies, true_implies, forall_const, ps_01, ps_1n, ps_0n, ps_m10, ps_m1n, lg_cmp_gt, lg_cmp_ge, lg_cmp_le, lg_cmp_lt, lg_cmp_eq, pu_rne, pu_req, pu_uro, RFc_n, Nat.reduceAdd, Nat.reduceMul, Nat.reduceLT, Nat.reduceLeDiff, Nat.reduceEqDiff, Nat.reduceSub]
            exact this
        · have hb := hBt.2 x hx
          have hp := (h3 x hb).2.2.2
          dsimp only [tPr] at her
          rw [hx] at her
          have := her x i' q' rfl
          simp only [↓r213_78, ↓r213_79, ↓r213_81, ↓r213_84, ↓r213_87, ↓r213_133, ↓m_sign, ↓m_mustB hW hp, Bool.false_eq_true, hn, hn2, ht, hF, am_wt, am_wf, Option.isSome_some, am_rf_s, am_rf_n, ps_lit, nI_add, nI_1, pk_mul, ps_cl, ps_neg, ps_c0, ps_c1, ps_n01, ps_n11, ps_10, ps_b01, ps_e0, pu_Ine, pu_Ieq, pu_ne, pu_eq, am_k_n, am_k_i, am_k_r, am_k_u, am_k_l, am_sz_0, am_sz_i, am_sz_r, am_sz_u, am_sz_l, Option.toList_some, Option.toList_none, List.cons_append, List.nil_append, true_and, and_true, or_false, false_or, or_self, or_true, true_or, not_false_eq_true, not_true_eq_false, Classical.not_not, ne_eq, ps_e1, ps_em, ps_z, Nat.not_le, false_implies, true_implies, forall_const, ps_01, ps_1n, ps_0n, ps_m10, ps_m1n, lg_cmp_gt, lg_cmp_ge, lg_cmp_le, lg_cmp_lt, lg_cmp_eq, pu_rne, pu_req, pu_uro, RFc_n, Nat.reduceAdd, Nat.reduceMul, Nat.reduceLT, Nat.reduceLeDiff, Nat.reduceEqDiff, Nat.reduceSub]
          exact this
    · rw [if_neg c1] at hok her
      simp only [↓r213_16, ↓r213_17, ↓r213_20, ↓r213_23, ↓r213_24, ↓r213_25, ↓r213_28, ↓r213_29, ↓r213_32, ↓r213_32k, ↓r213_33, ↓r213_34, ↓r213_35, ↓r213_37, ↓r213_40, ↓r213_90, ↓r213_91, ↓r213_92, ↓m_fineG hW, ↓m_sign, q_le, q_lt, q_eq, q_e0, q_e1, q_0e, q_1e, ps_n0, q_0le, q_le0, q_0lt, q_m1e, q_em1, prS_14, prS_n, z, a1, c1, Bool.false_eq_true, hn, hn2, ht, hF, am_wt, am_wf, Option.isSome_some, am_rf_s, am_rf_n, ps_lit, nI_add, nI_1, pk_mul, ps_cl, ps_neg, ps_c0, ps_c1, ps_n01, ps_n11, ps_10, ps_b01, ps_e0, pu_Ine, pu_Ieq, pu_ne, pu_eq, am_k_n, am_k_i, am_k_r, am_k_u, am_k_l, am_sz_0, am_sz_i, am_sz_r, am_sz_u, am_sz_l, Option.toList_some, Option.toList_none, List.cons_append, List.nil_append, true_and, and_true, or_false, false_or, or_self, or_true, true_or, not_false_eq_true, not_true_eq_false, Classical.not_not, ne_eq, ps_e1, ps_em, ps_z, Nat.not_le, false_implies, true_implies, forall_const, ps_01, ps_1n, ps_0n, ps_m10, ps_m1n, lg_cmp_gt, lg_cmp_ge, lg_cmp_le, lg_cmp_lt, lg_cmp_eq, pu_rne, pu_req, pu_uro, RFc_n, Nat.reduceAdd, Nat.reduceMul, Nat.reduceLT, Nat.reduceLeDiff, Nat.reduceEqDiff, Nat.reduceSub]
      refine hS d _ i q (by omega) nb2 hq (fun s hs => ?_) (fun x i' q' hx => ?_)
      · obtain ⟨b1, b2, b3, b4⟩ := (hBs i q nb2 hq).1 s hs
        rw [hs] at hok her
        dsimp only at hok her
        have second : (tk s.1 = 160 ∨ tk s.1 = 162 ∨ tk s.1 = 161) → ∀ l2 l3 : Option Value, am_W X (d + 3 * e + 9) 213 128 [some (.ref 47), some (.int (nI dp)), l2, l3] [] (n, sl, t, prS I (s.1 + 1) s.2.1 (-1), J, F) Q := by
          intro hc l2 l3
          have hl2 : s.1 < NT := tok_lt h2 b2 (by omega)
          rw [if_pos hc] at hok her
          simp only [↓r213_128, ↓r213_129, ↓r213_130, Bool.false_eq_true, hn, hn2, ht, hF, am_wt, am_wf, Option.isSome_some, am_rf_s, am_rf_n, ps_lit, nI_add, nI_1, pk_mul, ps_cl, ps_neg, ps_c0, ps_c1, ps_n01, ps_n11, ps_10, ps_b01, ps_e0, pu_Ine, pu_Ieq, pu_ne, pu_eq, am_k_n, am_k_i, am_k_r, am_k_u, am_k_l, am_sz_0, am_sz_i, am_sz_r, am_sz_u, am_sz_l, Option.toList_some, Option.toList_none, List.cons_append, List.nil_append, true_and, and_true, or_false, false_or, or_self, or_true, true_or, not_false_eq_true, not_true_eq_false, Classical.not_not, ne_eq, ps_e1, ps_em, ps_z, Nat.not_le, false_implies, true_implies, forall_const, ps_01, ps_1n, ps_0n, ps_m10, ps_m1n, lg_cmp_gt, lg_cmp_ge, lg_cmp_le, lg_cmp_lt, lg_cmp_eq, pu_rne, pu_req, pu_uro, RFc_n, Nat.reduceAdd, Nat.reduceMul, Nat.reduceLT, Nat.reduceLeDiff, Nat.reduceEqDiff, Nat.reduceSub]
          refine hS d _ (s.1 + 1) s.2.1 (by omega) hl2 b4 (fun u hu => ?_) (fun x i' q' hx => ?_)
          · rw [hu] at hok
            have := hok _ rfl
            simp only [↓r213_133, Bool.false_eq_true, hn, hn2, ht, hF, am_wt, am_wf, Option.isSome_some, am_rf_s, am_rf_n, ps_lit, nI_add, nI_1, pk_mul, ps_cl, ps_neg, ps_c0, ps_c1, ps_n01, ps_n11, ps_10, ps_b01, ps_e0, pu_Ine, pu_Ieq, pu_ne, pu_eq, am_k_n, am_k_i, am_k_r, am_k_u, am_k_l, am_sz_0, am_sz_i, am_sz_r, am_sz_u, am_sz_l, Option.toList_some, Option.toList_none, List.cons_append, List.nil_append, true_and, and_true, or_false, false_or, or_self, or_true, true_or, not_false_eq_true, not_true_eq_false, Classical.not_not, ne_eq, ps_e1, ps_em, ps_z, Nat.not_le, false_implies, true_implies, forall_const, ps_01, ps_1n, ps_0n, ps_m10, ps_m1n, lg_cmp_gt, lg_cmp_ge, lg_cmp_le, lg_cmp_lt, lg_cmp_eq, pu_rne, pu_req, pu_uro, RFc_n, Nat.reduceAdd, Nat.reduceMul, Nat.reduceLT, Nat.reduceLeDiff, Nat.reduceEqDiff, Nat.reduceSub]
            exact this
          · rw [hx] at her
            have := her x i' q' rfl
            simp only [↓r213_133, Bool.false_eq_true, hn, hn2, ht, hF, am_wt, am_wf, Option.isSome_some, am_rf_s, am_rf_n, ps_lit, nI_add, nI_1, pk_mul, ps_cl, ps_neg, ps_c0, ps_c1, ps_n01, ps_n11, ps_10, ps_b01, ps_e0, pu_Ine, pu_Ieq, pu_ne, pu_eq, am_k_n, am_k_i, am_k_r, am_k_u, am_k_l, am_sz_0, am_sz_i, am_sz_r, am_sz_u, am_sz_l, Option.toList_some, Option.toList_none, List.cons_append, List.nil_append, true_and, and_true, or_false, false_or, or_self, or_true, true_or, not_false_eq_true, not_true_eq_false, Classical.not_not, ne_eq, ps_e1, ps_em, ps_z, Nat.not_le, false_implies, true_implies, forall_const, ps_01, ps_1n, ps_0n, ps_m10, ps_m1n, lg_cmp_gt, lg_cmp_ge, lg_cmp_le, lg_cmp_lt, lg_cmp_eq, pu_rne, pu_req, pu_uro, RFc_n, Nat.reduceAdd, Nat.reduceMul, Nat.reduceLT, Nat.reduceLeDiff, Nat.reduceEqDiff, Nat.reduceSub]
            exact this
        by_cases d1 : tk s.1 = 160
        · simp only [↓r213_95, ↓r213_96, ↓r213_98, ↓r213_101, ↓r213_104, ↓m_sign, ↓m_takes1 hW hK b2 d1, Bool.false_eq_true, hn, hn2, ht, hF, am_wt, am_wf, Option.isSome_some, am_rf_s, am_rf_n, ps_lit, nI_add, nI_1, pk_mul, ps_cl, ps_neg, ps_c0, ps_c1, ps_n01, ps_n11, ps_10, ps_b01, ps_e0, pu_Ine, pu_Ieq, pu_ne, pu_eq, am_k_n, am_k_i, am_k_r, am_k_u, am_k_l, am_sz_0, am_sz_i, am_sz_r, am_sz_u, am_sz_l, Option.toList_some, Option.toList_none, List.cons_append, List.nil_append, true_and, and_true, or_false, false_or, or_self, or_true, true_or, not_false_eq_true, not_true_eq_false, Classical.not_not, ne_eq, ps_e1, ps_em, ps_z, Nat.not_le, false_implies, true_implies, forall_const, ps_01, ps_1n, ps_0n, ps_m10, ps_m1n, lg_cmp_gt, lg_cmp_ge, lg_cmp_le, lg_cmp_lt, lg_cmp_eq, pu_rne, pu_req, pu_uro, RFc_n, Nat.reduceAdd, Nat.reduceMul, Nat.reduceLT, Nat.reduceLeDiff, Nat.reduceEqDiff, Nat.reduceSub]
          exact second (Or.inl d1) _ _
        · by_cases d2 : tk s.1 = 162
          · simp only [↓r213_95, ↓r213_96, ↓r213_98, ↓r213_101, ↓r213_104, ↓r213_107, ↓r213_108, ↓r213_110, ↓r213_113, ↓r213_116, ↓m_sign, ↓m_takes0 hW hK b2 (show 160 < 400 by decide) d1, ↓m_takes1 hW hK b2 d2, Bool.false_eq_true, hn, hn2, ht, hF, am_wt, am_wf, Option.isSome_some, am_rf_s, am_rf_n, ps_lit, nI_add, nI_1, pk_mul, ps_cl, ps_neg, ps_c0, ps_c1, ps_n01, ps_n11, ps_10, ps_b01, ps_e0, pu_Ine, pu_Ieq, pu_ne, pu_eq, am_k_n, am_k_i, am_k_r, am_k_u, am_k_l, am_sz_0, am_sz_i, am_sz_r, am_sz_u, am_sz_l, Option.toList_some, Option.toList_none, List.cons_append, List.nil_append, true_and, and_true, or_false, false_or, or_self, or_true, true_or, not_false_eq_true, not_true_eq_false, Classical.not_not, ne_eq, ps_e1, ps_em, ps_z, Nat.not_le, false_implies, true_implies, forall_const, ps_01, ps_1n, ps_0n, ps_m10, ps_m1n, lg_cmp_gt, lg_cmp_ge, lg_cmp_le, lg_cmp_lt, lg_cmp_eq, pu_rne, pu_req, pu_uro, RFc_n, Nat.reduceAdd, Nat.reduceMul, Nat.reduceLT, Nat.reduceLeDiff, Nat.reduceEqDiff, Nat.reduceSub]
            exact second (Or.inr (Or.inl d2)) _ _
          · by_cases d3 : tk s.1 = 161
            · simp only [↓r213_95, ↓r213_96, ↓r213_98, ↓r213_101, ↓r213_104, ↓r213_107, ↓r213_108, ↓r213_110, ↓r213_113, ↓r213_116, ↓r213_119, ↓r213_120, ↓r213_122, ↓r213_125, ↓m_sign, ↓m_takes0 hW hK b2 (show 160 < 400 by decide) d1, ↓m_takes0 hW hK b2 (show 162 < 400 by decide) d2, ↓m_must1 hW hK b2 d3, Bool.false_eq_true, hn, hn2, ht, hF, am_wt, am_wf, Option.isSome_some, am_rf_s, am_rf_n, ps_lit, nI_add, nI_1, pk_mul, ps_cl, ps_neg, ps_c0, ps_c1, ps_n01, ps_n11, ps_10, ps_b01, ps_e0, pu_Ine, pu_Ieq, pu_ne, pu_eq, am_k_n, am_k_i, am_k_r, am_k_u, am_k_l, am_sz_0, am_sz_i, am_sz_r, am_sz_u, am_sz_l, Option.toList_some, Option.toList_none, List.cons_append, List.nil_append, true_and, and_true, or_false, false_or, or_self, or_true, true_or, not_false_eq_true, not_true_eq_false, Classical.not_not, ne_eq, ps_e1, ps_em, ps_z, Nat.not_le, false_implies, true_implies, forall_const, ps_01, ps_1n, ps_0n, ps_m10, ps_m1n, lg_cmp_gt, lg_cmp_ge, lg_cmp_le, lg_cmp_lt, lg_cmp_eq, pu_rne, pu_req, pu_uro, RFc_n, Nat.reduceAdd, Nat.reduceMul, Nat.reduceLT, Nat.reduceLeDiff, Nat.reduceEqDiff, Nat.reduceSub]
              exact second (Or.inr (Or.inr d3)) _ _
            · rw [if_neg (by omega)] at her
              have := her s.1 s.1 s.2.1 rfl
              have hp := (h3 s.1 b2).2.2.2
              simp only [↓r213_95, ↓r213_96, ↓r213_98, ↓r213_101, ↓r213_104, ↓r213_107, ↓r213_108, ↓r213_110, ↓r213_113, ↓r213_116, ↓r213_119, ↓r213_120, ↓r213_122, ↓r213_125, ↓r213_128, ↓r213_129, ↓r213_130, ↓m_sign, ↓m_takes0 hW hK b2 (show 160 < 400 by decide) d1, ↓m_takes0 hW hK b2 (show 162 < 400 by decide) d2, ↓m_must0 hW hK b2 (show 161 < 400 by decide) d3, Bool.false_eq_true, hn, hn2, ht, hF, am_wt, am_wf, Option.isSome_some, am_rf_s, am_rf_n, ps_lit, nI_add, nI_1, pk_mul, ps_cl, ps_neg, ps_c0, ps_c1, ps_n01, ps_n11, ps_10, ps_b01, ps_e0, pu_Ine, pu_Ieq, pu_ne, pu_eq, am_k_n, am_k_i, am_k_r, am_k_u, am_k_l, am_sz_0, am_sz_i, am_sz_r, am_sz_u, am_sz_l, Option.toList_some, Option.toList_none, List.cons_append, List.nil_append, true_and, and_true, or_false, false_or, or_self, or_true, true_or, not_false_eq_true, not_true_eq_false, Classical.not_not, ne_eq, ps_e1, ps_em, ps_z, Nat.not_le, false_implies, true_implies, forall_const, ps_01, ps_1n, ps_0n, ps_m10, ps_m1n, lg_cmp_gt, lg_cmp_ge, lg_cmp_le, lg_cmp_lt, lg_cmp_eq, pu_rne, pu_req, pu_uro, RFc_n, Nat.reduceAdd, Nat.reduceMul, Nat.reduceLT, Nat.reduceLeDiff, Nat.reduceEqDiff, Nat.reduceSub]
              refine (hbad d _ s.1 s.2.1 (pl s.1) hp).mpr ?_
              simp only [↓r213_133, Bool.false_eq_true, hn, hn2, ht, hF, am_wt, am_wf, Option.isSome_some, am_rf_s, am_rf_n, ps_lit, nI_add, nI_1, pk_mul, ps_cl, ps_neg, ps_c0, ps_c1, ps_n01, ps_n11, ps_10, ps_b01, ps_e0, pu_Ine, pu_Ieq, pu_ne, pu_eq, am_k_n, am_k_i, am_k_r, am_k_u, am_k_l, am_sz_0, am_sz_i, am_sz_r, am_sz_u, am_sz_l, Option.toList_some, Option.toList_none, List.cons_append, List.nil_append, true_and, and_true, or_false, false_or, or_self, or_true, true_or, not_false_eq_true, not_true_eq_false, Classical.not_not, ne_eq, ps_e1, ps_em, ps_z, Nat.not_le, false_implies, true_implies, forall_const, ps_01, ps_1n, ps_0n, ps_m10, ps_m1n, lg_cmp_gt, lg_cmp_ge, lg_cmp_le, lg_cmp_lt, lg_cmp_eq, pu_rne, pu_req, pu_uro, RFc_n, Nat.reduceAdd, Nat.reduceMul, Nat.reduceLT, Nat.reduceLeDiff, Nat.reduceEqDiff, Nat.reduceSub]
              exact this
      · have hx1 := (hBs i q nb2 hq).2 x hx
        have hp := (h3 x hx1).2.2.2
        rw [hx] at her
        have := her x i' q' rfl
        simp only [↓r213_95, ↓r213_96, ↓r213_98, ↓r213_101, ↓r213_104, ↓r213_107, ↓r213_108, ↓r213_110, ↓r213_113, ↓r213_116, ↓r213_119, ↓r213_120, ↓r213_122, ↓r213_125, ↓r213_128, ↓r213_129, ↓r213_130, ↓m_sign, ↓m_takesB hW hp, ↓m_mustB hW hp, Bool.false_eq_true, hn, hn2, ht, hF, am_wt, am_wf, Option.isSome_some, am_rf_s, am_rf_n, ps_lit, nI_add, nI_1, pk_mul, ps_cl, ps_neg, ps_c0, ps_c1, ps_n01, ps_n11, ps_10, ps_b01, ps_e0, pu_Ine, pu_Ieq, pu_ne, pu_eq, am_k_n, am_k_i, am_k_r, am_k_u, am_k_l, am_sz_0, am_sz_i, am_sz_r, am_sz_u, am_sz_l, Option.toList_some, Option.toList_none, List.cons_append, List.nil_append, true_and, and_true, or_false, false_or, or_self, or_true, true_or, not_false_eq_true, not_true_eq_false, Classical.not_not, ne_eq, ps_e1, ps_em, ps_z, Nat.not_le, false_implies, true_implies, forall_const, ps_01, ps_1n, ps_0n, ps_m10, ps_m1n, lg_cmp_gt, lg_cmp_ge, lg_cmp_le, lg_cmp_lt, lg_cmp_eq, pu_rne, pu_req, pu_uro, RFc_n, Nat.reduceAdd, Nat.reduceMul, Nat.reduceLT, Nat.reduceLeDiff, Nat.reduceEqDiff, Nat.reduceSub]
        refine (hbad d _ i' q' (pl x) hp).mpr ?_
        simp only [↓r213_133, Bool.false_eq_true, hn, hn2, ht, hF, am_wt, am_wf, Option.isSome_some, am_rf_s, am_rf_n, ps_lit, nI_add, nI_1, pk_mul, ps_cl, ps_neg, ps_c0, ps_c1, ps_n01, ps_n11, ps_10, ps_b01, ps_e0, pu_Ine, pu_Ieq, pu_ne, pu_eq, am_k_n, am_k_i, am_k_r, am_k_u, am_k_l, am_sz_0, am_sz_i, am_sz_r, am_sz_u, am_sz_l, Option.toList_some, Option.toList_none, List.cons_append, List.nil_append, true_and, and_true, or_false, false_or, or_self, or_true, true_or, not_false_eq_true, not_true_eq_false, Classical.not_not, ne_eq, ps_e1, ps_em, ps_z, Nat.not_le, false_implies, true_implies, forall_const, ps_01, ps_1n, ps_0n, ps_m10, ps_m1n, lg_cmp_gt, lg_cmp_ge, lg_cmp_le, lg_cmp_lt, lg_cmp_eq, pu_rne, pu_req, pu_uro, RFc_n, Nat.reduceAdd, Nat.reduceMul, Nat.reduceLT, Nat.reduceLeDiff, Nat.reduceEqDiff, Nat.reduceSub]
        exact this
  have hn2l : ∀ g i b, 1 ≤ i → i ≤ NT → NT < i + g → ∀ l3 : Option Value, (∀ l2 : Option Value, am_W X (d + 3 * e + 9) 213 16 [some (.ref 47), some (.int (nI dp)), l2, l3] [] (n, sl, t, prS I (pNots tk g i b).1 q (-1), J, F) Q) → am_W X (d + 3 * e + 9) 213 2 [some (.ref 47), some (.int (nI dp)), some (.int 1), l3] [] (n, sl, t, prS I i q (-1), J, F) Q := by
    intro g
    induction g with
    | zero => intro i b hi1 hi hg; omega
    | succ g ih =>
      intro i b hi1 hi hg l3 hm
      rw [pNots] at hm
      rw [r213_2]
      by_cases c : tk i = 8
      · have hl : i < NT := tok_lt h2 hi (by omega)
        rw [if_pos c] at hm
        simp only [↓r213_3, ↓r213_6, ↓r213_7, ↓r213_9, ↓r213_12, ↓r213_13, ↓m_takes1 hW hK hi c, Bool.false_eq_true, hn, hn2, ht, hF, am_wt, am_wf, Option.isSome_some, am_rf_s, am_rf_n, ps_lit, nI_add, nI_1, pk_mul, ps_cl, ps_neg, ps_c0, ps_c1, ps_n01, ps_n11, ps_10, ps_b01, ps_e0, pu_Ine, pu_Ieq, pu_ne, pu_eq, am_k_n, am_k_i, am_k_r, am_k_u, am_k_l, am_sz_0, am_sz_i, am_sz_r, am_sz_u, am_sz_l, Option.toList_some, Option.toList_none, List.cons_append, List.nil_append, true_and, and_true, or_false, false_or, or_self, or_true, true_or, not_false_eq_true, not_true_eq_false, Classical.not_not, ne_eq, ps_e1, ps_em, ps_z, Nat.not_le, false_implies, true_implies, forall_const, ps_01, ps_1n, ps_0n, ps_m10, ps_m1n, lg_cmp_gt, lg_cmp_ge, lg_cmp_le, lg_cmp_lt, lg_cmp_eq, pu_rne, pu_req, pu_uro, RFc_n, Nat.reduceAdd, Nat.reduceMul, Nat.reduceLT, Nat.reduceLeDiff, Nat.reduceEqDiff, Nat.reduceSub]
        exact ih (i + 1) (!b) (by omega) hl (by omega) l3 hm
      · rw [if_neg c] at hm
        simp only [↓r213_3, ↓r213_6, ↓r213_7, ↓r213_9, ↓r213_12, ↓r213_13, ↓m_takes0 hW hK hi (show 8 < 400 by decide) c, Bool.false_eq_true, hn, hn2, ht, hF, am_wt, am_wf, Option.isSome_some, am_rf_s, am_rf_n, ps_lit, nI_add, nI_1, pk_mul, ps_cl, ps_neg, ps_c0, ps_c1, ps_n01, ps_n11, ps_10, ps_b01, ps_e0, pu_Ine, pu_Ieq, pu_ne, pu_eq, am_k_n, am_k_i, am_k_r, am_k_u, am_k_l, am_sz_0, am_sz_i, am_sz_r, am_sz_u, am_sz_l, Option.toList_some, Option.toList_none, List.cons_append, List.nil_append, true_and, and_true, or_false, false_or, or_self, or_true, true_or, not_false_eq_true, not_true_eq_false, Classical.not_not, ne_eq, ps_e1, ps_em, ps_z, Nat.not_le, false_implies, true_implies, forall_const, ps_01, ps_1n, ps_0n, ps_m10, ps_m1n, lg_cmp_gt, lg_cmp_ge, lg_cmp_le, lg_cmp_lt, lg_cmp_eq, pu_rne, pu_req, pu_uro, RFc_n, Nat.reduceAdd, Nat.reduceMul, Nat.reduceLT, Nat.reduceLeDiff, Nat.reduceEqDiff, Nat.reduceSub]
        rw [r213_2]
        simp only [↓r213_3, Bool.false_eq_true, hn, hn2, ht, hF, am_wt, am_wf, Option.isSome_some, am_rf_s, am_rf_n, ps_lit, nI_add, nI_1, pk_mul, ps_cl, ps_neg, ps_c0, ps_c1, ps_n01, ps_n11, ps_10, ps_b01, ps_e0, pu_Ine, pu_Ieq, pu_ne, pu_eq, am_k_n, am_k_i, am_k_r, am_k_u, am_k_l, am_sz_0, am_sz_i, am_sz_r, am_sz_u, am_sz_l, Option.toList_some, Option.toList_none, List.cons_append, List.nil_append, true_and, and_true, or_false, false_or, or_self, or_true, true_or, not_false_eq_true, not_true_eq_false, Classical.not_not, ne_eq, ps_e1, ps_em, ps_z, Nat.not_le, false_implies, true_implies, forall_const, ps_01, ps_1n, ps_0n, ps_m10, ps_m1n, lg_cmp_gt, lg_cmp_ge, lg_cmp_le, lg_cmp_lt, lg_cmp_eq, pu_rne, pu_req, pu_uro, RFc_n, Nat.reduceAdd, Nat.reduceMul, Nat.reduceLT, Nat.reduceLeDiff, Nat.reduceEqDiff, Nat.reduceSub]
        exact hm _
  simp only [↓r213_0, ↓r213_1, Bool.false_eq_true, hn, hn2, ht, hF, am_wt, am_wf, Option.isSome_some, am_rf_s, am_rf_n, ps_lit, nI_add, nI_1, pk_mul, ps_cl, ps_neg, ps_c0, ps_c1, ps_n01, ps_n11, ps_10, ps_b01, ps_e0, pu_Ine, pu_Ieq, pu_ne, pu_eq, am_k_n, am_k_i, am_k_r, am_k_u, am_k_l, am_sz_0, am_sz_i, am_sz_r, am_sz_u, am_sz_l, Option.toList_some, Option.toList_none, List.cons_append, List.nil_append, true_and, and_true, or_false, false_or, or_self, or_true, true_or, not_false_eq_true, not_true_eq_false, Classical.not_not, ne_eq, ps_e1, ps_em, ps_z, Nat.not_le, false_implies, true_implies, forall_const, ps_01, ps_1n, ps_0n, ps_m10, ps_m1n, lg_cmp_gt, lg_cmp_ge, lg_cmp_le, lg_cmp_lt, lg_cmp_eq, pu_rne, pu_req, pu_uro, RFc_n, Nat.reduceAdd, Nat.reduceMul, Nat.reduceLT, Nat.reduceLeDiff, Nat.reduceEqDiff, Nat.reduceSub]
  exact hn2l 400 i0 false hi1 hi0 (by omega) _ main
theorem g_both {k : Nat} {P : Nat → Nat → RD DB} (hW : WS n t F) (hK : TKI I tk tv pl NT) (hP : RdG X (k + 9) n sl t I J F pl NT 213 [some (.ref 47), some (.int (nI dp)), none, none] P) (hB : BD NT P) : RdG X (k + 10) n sl t I J F pl NT 212 [some (.ref 47), some (.int (nI dp))] (pThen tk seN P (fun _ a b => anD a b)) := by
  intro d Q i0 q0 hi1 hi0 hq0 hok0 her0
  obtain ⟨hn, hn2, ht, hF⟩ := id hW
  obtain ⟨⟨h1, h2⟩, h3⟩ := id hK
  show am_W X (d + k + 10) 212 0 [some (.ref 47), some (.int (nI dp))] [] (n, sl, t, prS I i0 q0 (-1), J, F) Q
  have bad : ∀ (Q : Option Value → am_H → Prop) i q p, p ≤ 400 → Q none (n, sl, t, prS I i q (nI p), J, F) → am_W X (d + k + 10) 212 5 [some (.ref 47), some (.int (nI dp))] [] (n, sl, t, prS I i q (nI p), J, F) Q := by
    intro Q i q p hp hQ
    rw [r212_5]
    simp only [↓r212_6, ↓r212_8, ↓r212_11, ↓r212_22, ↓m_takesB hW hp, Bool.false_eq_true, hn, hn2, ht, hF, am_wt, am_wf, Option.isSome_some, am_rf_s, am_rf_n, ps_lit, nI_add, nI_1, pk_mul, ps_cl, ps_neg, ps_c0, ps_c1, ps_n01, ps_n11, ps_10, ps_b01, ps_e0, pu_Ine, pu_Ieq, pu_ne, pu_eq, am_k_n, am_k_i, am_k_r, am_k_u, am_k_l, am_sz_0, am_sz_i, am_sz_r, am_sz_u, am_sz_l, Option.toList_some, Option.toList_none, List.cons_append, List.nil_append, true_and, and_true, or_false, false_or, or_self, or_true, true_or, not_false_eq_true, not_true_eq_false, Classical.not_not, ne_eq, ps_e1, ps_em, ps_z, Nat.not_le, false_implies, true_implies, forall_const, ps_01, ps_1n, ps_0n, ps_m10, ps_m1n, lg_cmp_gt, lg_cmp_ge, lg_cmp_le, lg_cmp_lt, lg_cmp_eq, pu_rne, pu_req, pu_uro, RFc_n, Nat.reduceAdd, Nat.reduceMul, Nat.reduceLT, Nat.reduceLeDiff, Nat.reduceEqDiff, Nat.reduceSub]
    exact hQ
  have hl : ∀ g i q D, 1 ≤ i → i ≤ NT → q ≤ 50 → NT < i + g → (∀ r, pMore tk seN P (fun _ a b => anD a b) g i q D = .ok r → Q none (n, sl, t, prS I r.1 r.2.1 (-1), J, F)) → (∀ x i' q', pMore tk seN P (fun _ a b => anD a b) g i q D = .error x → Q none (n, sl, t, prS I i' q' (nI (pl x)), J, F)) → am_W X (d + k + 10) 212 5 [some (.ref 47), some (.int (nI dp))] [] (n, sl, t, prS I i q (-1), J, F) Q := by
    intro g
    induction g with
    | zero => intro i q D hi1 hi hq hg; omega
    | succ g ih =>
      intro i q D hi1 hi hq hg hok her
      rw [pMore] at hok her
      rw [r212_5]
      by_cases c1 : tk i = 7
      · have hc : seN (tk i) = true := by rw [c1]; rfl
        rw [if_pos hc] at hok her
        have hl : i < NT := tok_lt h2 hi (by omega)
        simp only [↓r212_6, ↓r212_8, ↓r212_11, ↓r212_14, ↓r212_15, ↓r212_16, ↓m_takes1 hW hK hi c1, Bool.false_eq_true, hn, hn2, ht, hF, am_wt, am_wf, Option.isSome_some, am_rf_s, am_rf_n, ps_lit, nI_add, nI_1, pk_mul, ps_cl, ps_neg, ps_c0, ps_c1, ps_n01, ps_n11, ps_10, ps_b01, ps_e0, pu_Ine, pu_Ieq, pu_ne, pu_eq, am_k_n, am_k_i, am_k_r, am_k_u, am_k_l, am_sz_0, am_sz_i, am_sz_r, am_sz_u, am_sz_l, Option.toList_some, Option.toList_none, List.cons_append, List.nil_append, true_and, and_true, or_false, false_or, or_self, or_true, true_or, not_false_eq_true, not_true_eq_false, Classical.not_not, ne_eq, ps_e1, ps_em, ps_z, Nat.not_le, false_implies, true_implies, forall_const, ps_01, ps_1n, ps_0n, ps_m10, ps_m1n, lg_cmp_gt, lg_cmp_ge, lg_cmp_le, lg_cmp_lt, lg_cmp_eq, pu_rne, pu_req, pu_uro, RFc_n, Nat.reduceAdd, Nat.reduceMul, Nat.reduceLT, Nat.reduceLeDiff, Nat.reduceEqDiff, Nat.reduceSub]
        refine hP d _ (i + 1) q (by omega) hl hq (fun r hr => ?_) (fun x i' q' hx => ?_)
        · obtain ⟨b1, b2, b3, b4⟩ := (hB (i + 1) q hl hq).1 r hr
          rw [hr] at hok her
          dsimp only at hok her
          simp only [↓r212_19, Bool.false_eq_true, hn, hn2, ht, hF, am_wt, am_wf, Option.isSome_some, am_rf_s, am_rf_n, ps_lit, nI_add, nI_1, pk_mul, ps_cl, ps_neg, ps_c0, ps_c1, ps_n01, ps_n11, ps_10, ps_b01, ps_e0, pu_Ine, pu_Ieq, pu_ne, pu_eq, am_k_n, am_k_i, am_k_r, am_k_u, am_k_l, am_sz_0, am_sz_i, am_sz_r, am_sz_u, am_sz_l, Option.toList_some, Option.toList_none, List.cons_append, List.nil_append, true_and, and_true, or_false, false_or, or_self, or_true, true_or, not_false_eq_true, not_true_eq_false, Classical.not_not, ne_eq, ps_e1, ps_em, ps_z, Nat.not_le, false_implies, true_implies, forall_const, ps_01, ps_1n, ps_0n, ps_m10, ps_m1n, lg_cmp_gt, lg_cmp_ge, lg_cmp_le, lg_cmp_lt, lg_cmp_eq, pu_rne, pu_req, pu_uro, RFc_n, Nat.reduceAdd, Nat.reduceMul, Nat.reduceLT, Nat.reduceLeDiff, Nat.reduceEqDiff, Nat.reduceSub]
          exact ih r.1 r.2.1 _ (by omega) b2 b4 (by omega) hok her
        · have hx1 := (hB (i + 1) q hl hq).2 x hx
          rw [hx] at her
          have := her x i' q' rfl
          simp only [↓r212_19, Bool.false_eq_true, hn, hn2, ht, hF, am_wt, am_wf, Option.isSome_some, am_rf_s, am_rf_n, ps_lit, nI_add, nI_1, pk_mul, ps_cl, ps_neg, ps_c0, ps_c1, ps_n01, ps_n11, ps_10, ps_b01, ps_e0, pu_Ine, pu_Ieq, pu_ne, pu_eq, am_k_n, am_k_i, am_k_r, am_k_u, am_k_l, am_sz_0, am_sz_i, am_sz_r, am_sz_u, am_sz_l, Option.toList_some, Option.toList_none, List.cons_append, List.nil_append, true_and, and_true, or_false, false_or, or_self, or_true, true_or, not_false_eq_true, not_true_eq_false, Classical.not_not, ne_eq, ps_e1, ps_em, ps_z, Nat.not_le, false_implies, true_implies, forall_const, ps_01, ps_1n, ps_0n, ps_m10, ps_m1n, lg_cmp_gt, lg_cmp_ge, lg_cmp_le, lg_cmp_lt, lg_cmp_eq, pu_rne, pu_req, pu_uro, RFc_n, Nat.reduceAdd, Nat.reduceMul, Nat.reduceLT, Nat.reduceLeDiff, Nat.reduceEqDiff, Nat.reduceSub]
          exact bad Q i' q' _ (h3 x hx1).2.2.2 this
      · have hc : ¬ seN (tk i) = true := by
          unfold seN
          simp only [beq_iff_eq]
          exact c1
        rw [if_neg hc] at hok
        have := hok _ rfl
        simp only [↓r212_6, ↓r212_8, ↓r212_11, ↓r212_22, ↓m_takes0 hW hK hi (show 7 < 400 by decide) c1, Bool.false_eq_true, hn, hn2, ht, hF, am_wt, am_wf, Option.isSome_some, am_rf_s, am_rf_n, ps_lit, nI_add, nI_1, pk_mul, ps_cl, ps_neg, ps_c0, ps_c1, ps_n01, ps_n11, ps_10, ps_b01, ps_e0, pu_Ine, pu_Ieq, pu_ne, pu_eq, am_k_n, am_k_i, am_k_r, am_k_u, am_k_l, am_sz_0, am_sz_i, am_sz_r, am_sz_u, am_sz_l, Option.toList_some, Option.toList_none, List.cons_append, List.nil_append, true_and, and_true, or_false, false_or, or_self, or_true, true_or, not_false_eq_true, not_true_eq_false, Classical.not_not, ne_eq, ps_e1, ps_em, ps_z, Nat.not_le, false_implies, true_implies, forall_const, ps_01, ps_1n, ps_0n, ps_m10, ps_m1n, lg_cmp_gt, lg_cmp_ge, lg_cmp_le, lg_cmp_lt, lg_cmp_eq, pu_rne, pu_req, pu_uro, RFc_n, Nat.reduceAdd, Nat.reduceMul, Nat.reduceLT, Nat.reduceLeDiff, Nat.reduceEqDiff, Nat.reduceSub]
        exact this
  unfold pThen at hok0 her0
  simp only [↓r212_0, ↓r212_1, ↓r212_2, Bool.false_eq_true, hn, hn2, ht, hF, am_wt, am_wf, Option.isSome_some, am_rf_s, am_rf_n, ps_lit, nI_add, nI_1, pk_mul, ps_cl, ps_neg, ps_c0, ps_c1, ps_n01, ps_n11, ps_10, ps_b01, ps_e0, pu_Ine, pu_Ieq, pu_ne, pu_eq, am_k_n, am_k_i, am_k_r, am_k_u, am_k_l, am_sz_0, am_sz_i, am_sz_r, am_sz_u, am_sz_l, Option.toList_some, Option.toList_none, List.cons_append, List.nil_append, true_and, and_true, or_false, false_or, or_self, or_true, true_or, not_false_eq_true, not_true_eq_false, Classical.not_not, ne_eq, ps_e1, ps_em, ps_z, Nat.not_le, false_implies, true_implies, forall_const, ps_01, ps_1n, ps_0n, ps_m10, ps_m1n, lg_cmp_gt, lg_cmp_ge, lg_cmp_le, lg_cmp_lt, lg_cmp_eq, pu_rne, pu_req, pu_uro, RFc_n, Nat.reduceAdd, Nat.reduceMul, Nat.reduceLT, Nat.reduceLeDiff, Nat.reduceEqDiff, Nat.reduceSub]
  refine hP d _ i0 q0 hi1 hi0 hq0 (fun r hr => ?_) (fun x i' q' hx => ?_)
  · obtain ⟨b1, b2, b3, b4⟩ := (hB i0 q0 hi0 hq0).1 r hr
    rw [hr] at hok0 her0
    exact hl 400 r.1 r.2.1 r.2.2 (by omega) b2 b4 (by omega) hok0 her0
  · have hx1 := (hB i0 q0 hi0 hq0).2 x hx
    rw [hx] at her0
    exact bad Q i' q' _ (h3 x hx1).2.2.2 (her0 x i' q' rfl)
theorem g_test {k : Nat} {P : Nat → Nat → RD DB} (hW : WS n t F) (hK : TKI I tk tv pl NT) (hP : RdG X (k + 10) n sl t I J F pl NT 212 [some (.ref 47), some (.int (nI dp))] P) (hB : BD NT P) : RdG X (k + 11) n sl t I J F pl NT 211 [some (.ref 47), some (.int (nI dp))] (pThen tk seO P (fun _ a b => orD a b)) := by
  intro d Q i0 q0 hi1 hi0 hq0 hok0 her0
  obtain ⟨hn, hn2, ht, hF⟩ := id hW
  obtain ⟨⟨h1, h2⟩, h3⟩ := id hK
  show am_W X (d + k + 11) 211 0 [some (.ref 47), some (.int (nI dp))] [] (n, sl, t, prS I i0 q0 (-1), J, F) Q
  have bad : ∀ (Q : Option Value → am_H → Prop) i q p, p ≤ 400 → Q none (n, sl, t, prS I i q (nI p), J, F) → am_W X (d + k + 11) 211 5 [some (.ref 47), some (.int (nI dp))] [] (n, sl, t, prS I i q (nI p), J, F) Q := by
    intro Q i q p hp hQ
    rw [r211_5]
    simp only [↓r211_6, ↓r211_8, ↓r211_11, ↓r211_22, ↓m_takesB hW hp, Bool.false_eq_true, hn, hn2, ht, hF, am_wt, am_wf, Option.isSome_some, am_rf_s, am_rf_n, ps_lit, nI_add, nI_1, pk_mul, ps_cl, ps_neg, ps_c0, ps_c1, ps_n01, ps_n11, ps_10, ps_b01, ps_e0, pu_Ine, pu_Ieq, pu_ne, pu_eq, am_k_n, am_k_i, am_k_r, am_k_u, am_k_l, am_sz_0, am_sz_i, am_sz_r, am_sz_u, am_sz_l, Option.toList_some, Option.toList_none, List.cons_append, List.nil_append, true_and, and_true, or_false, false_or, or_self, or_true, true_or, not_false_eq_true, not_true_eq_false, Classical.not_not, ne_eq, ps_e1, ps_em, ps_z, Nat.not_le, false_implies, true_implies, forall_const, ps_01, ps_1n, ps_0n, ps_m10, ps_m1n, lg_cmp_gt, lg_cmp_ge, lg_cmp_le, lg_cmp_lt, lg_cmp_eq, pu_rne, pu_req, pu_uro, RFc_n, Nat.reduceAdd, Nat.reduceMul, Nat.reduceLT, Nat.reduceLeDiff, Nat.reduceEqDiff, Nat.reduceSub]
    exact hQ
  have hl : ∀ g i q D, 1 ≤ i → i ≤ NT → q ≤ 50 → NT < i + g → (∀ r, pMore tk seO P (fun _ a b => orD a b) g i q D = .ok r → Q none (n, sl, t, prS I r.1 r.2.1 (-1), J, F)) → (∀ x i' q', pMore tk seO P (fun _ a b => orD a b) g i q D = .error x → Q none (n, sl, t, prS I i' q' (nI (pl x)), J, F)) → am_W X (d + k + 11) 211 5 [some (.ref 47), some (.int (nI dp))] [] (n, sl, t, prS I i q (-1), J, F) Q := by
    intro g
    induction g with
    | zero => intro i q D hi1 hi hq hg; omega
    | succ g ih =>
      intro i q D hi1 hi hq hg hok her
      rw [pMore] at hok her
      rw [r211_5]
      by_cases c1 : tk i = 6
      · have hc : seO (tk i) = true := by rw [c1]; rfl
        rw [if_pos hc] at hok her
        have hl : i < NT := tok_lt h2 hi (by omega)
        simp only [↓r211_6, ↓r211_8, ↓r211_11, ↓r211_14, ↓r211_15, ↓r211_16, ↓m_takes1 hW hK hi c1, Bool.false_eq_true, hn, hn2, ht, hF, am_wt, am_wf, Option.isSome_some, am_rf_s, am_rf_n, ps_lit, nI_add, nI_1, pk_mul, ps_cl, ps_neg, ps_c0, ps_c1, ps_n01, ps_n11, ps_10, ps_b01, ps_e0, pu_Ine, pu_Ieq, pu_ne, pu_eq, am_k_n, am_k_i, am_k_r, am_k_u, am_k_l, am_sz_0, am_sz_i, am_sz_r, am_sz_u, am_sz_l, Option.toList_some, Option.toList_none, List.cons_append, List.nil_append, true_and, and_true, or_false, false_or, or_self, or_true, true_or, not_false_eq_true, not_true_eq_false, Classical.not_not, ne_eq, ps_e1, ps_em, ps_z, Nat.not_le, false_implies, true_implies, forall_const, ps_01, ps_1n, ps_0n, ps_m10, ps_m1n, lg_cmp_gt, lg_cmp_ge, lg_cmp_le, lg_cmp_lt, lg_cmp_eq, pu_rne, pu_req, pu_uro, RFc_n, Nat.reduceAdd, Nat.reduceMul, Nat.reduceLT, Nat.reduceLeDiff, Nat.reduceEqDiff, Nat.reduceSub]
        refine hP d _ (i + 1) q (by omega) hl hq (fun r hr => ?_) (fun x i' q' hx => ?_)
        · obtain ⟨b1, b2, b3, b4⟩ := (hB (i + 1) q hl hq).1 r hr
          rw [hr] at hok her
          dsimp only at hok her
          simp only [↓r211_19, Bool.false_eq_true, hn, hn2, ht, hF, am_wt, am_wf, Option.isSome_some, am_rf_s, am_rf_n, ps_lit, nI_add, nI_1, pk_mul, ps_cl, ps_neg, ps_c0, ps_c1, ps_n01, ps_n11, ps_10, ps_b01, ps_e0, pu_Ine, pu_Ieq, pu_ne, pu_eq, am_k_n, am_k_i, am_k_r, am_k_u, am_k_l, am_sz_0, am_sz_i, am_sz_r, am_sz_u, am_sz_l, Option.toList_some, Option.toList_none, List.cons_append, List.nil_append, true_and, and_true, or_false, false_or, or_self, or_true, true_or, not_false_eq_true, not_true_eq_false, Classical.not_not, ne_eq, ps_e1, ps_em, ps_z, Nat.not_le, false_implies, true_implies, forall_const, ps_01, ps_1n, ps_0n, ps_m10, ps_m1n, lg_cmp_gt, lg_cmp_ge, lg_cmp_le, lg_cmp_lt, lg_cmp_eq, pu_rne, pu_req, pu_uro, RFc_n, Nat.reduceAdd, Nat.reduceMul, Nat.reduceLT, Nat.reduceLeDiff, Nat.reduceEqDiff, Nat.reduceSub]
          exact ih r.1 r.2.1 _ (by omega) b2 b4 (by omega) hok her
        · have hx1 := (hB (i + 1) q hl hq).2 x hx
          rw [hx] at her
          have := her x i' q' rfl
          simp only [↓r211_19, Bool.false_eq_true, hn, hn2, ht, hF, am_wt, am_wf, Option.isSome_some, am_rf_s, am_rf_n, ps_lit, nI_add, nI_1, pk_mul, ps_cl, ps_neg, ps_c0, ps_c1, ps_n01, ps_n11, ps_10, ps_b01, ps_e0, pu_Ine, pu_Ieq, pu_ne, pu_eq, am_k_n, am_k_i, am_k_r, am_k_u, am_k_l, am_sz_0, am_sz_i, am_sz_r, am_sz_u, am_sz_l, Option.toList_some, Option.toList_none, List.cons_append, List.nil_append, true_and, and_true, or_false, false_or, or_self, or_true, true_or, not_false_eq_true, not_true_eq_false, Classical.not_not, ne_eq, ps_e1, ps_em, ps_z, Nat.not_le, false_implies, true_implies, forall_const, ps_01, ps_1n, ps_0n, ps_m10, ps_m1n, lg_cmp_gt, lg_cmp_ge, lg_cmp_le, lg_cmp_lt, lg_cmp_eq, pu_rne, pu_req, pu_uro, RFc_n, Nat.reduceAdd, Nat.reduceMul, Nat.reduceLT, Nat.reduceLeDiff, Nat.reduceEqDiff, Nat.reduceSub]
          exact bad Q i' q' _ (h3 x hx1).2.2.2 this
      · have hc : ¬ seO (tk i) = true := by
          unfold seO
          simp only [beq_iff_eq]
          exact c1
        rw [if_neg hc] at hok
        have := hok _ rfl
        simp only [↓r211_6, ↓r211_8, ↓r211_11, ↓r211_22, ↓m_takes0 hW hK hi (show 6 < 400 by decide) c1, Bool.false_eq_true, hn, hn2, ht, hF, am_wt, am_wf, Option.isSome_some, am_rf_s, am_rf_n, ps_lit, nI_add, nI_1, pk_mul, ps_cl, ps_neg, ps_c0, ps_c1, ps_n01, ps_n11, ps_10, ps_b01, ps_e0, pu_Ine, pu_Ieq, pu_ne, pu_eq, am_k_n, am_k_i, am_k_r, am_k_u, am_k_l, am_sz_0, am_sz_i, am_sz_r, am_sz_u, am_sz_l, Option.toList_some, Option.toList_none, List.cons_append, List.nil_append, true_and, and_true, or_false, false_or, or_self, or_true, true_or, not_false_eq_true, not_true_eq_false, Classical.not_not, ne_eq, ps_e1, ps_em, ps_z, Nat.not_le, false_implies, true_implies, forall_const, ps_01, ps_1n, ps_0n, ps_m10, ps_m1n, lg_cmp_gt, lg_cmp_ge, lg_cmp_le, lg_cmp_lt, lg_cmp_eq, pu_rne, pu_req, pu_uro, RFc_n, Nat.reduceAdd, Nat.reduceMul, Nat.reduceLT, Nat.reduceLeDiff, Nat.reduceEqDiff, Nat.reduceSub]
        exact this
  unfold pThen at hok0 her0
  simp only [↓r211_0, ↓r211_1, ↓r211_2, Bool.false_eq_true, hn, hn2, ht, hF, am_wt, am_wf, Option.isSome_some, am_rf_s, am_rf_n, ps_lit, nI_add, nI_1, pk_mul, ps_cl, ps_neg, ps_c0, ps_c1, ps_n01, ps_n11, ps_10, ps_b01, ps_e0, pu_Ine, pu_Ieq, pu_ne, pu_eq, am_k_n, am_k_i, am_k_r, am_k_u, am_k_l, am_sz_0, am_sz_i, am_sz_r, am_sz_u, am_sz_l, Option.toList_some, Option.toList_none, List.cons_append, List.nil_append, true_and, and_true, or_false, false_or, or_self, or_true, true_or, not_false_eq_true, not_true_eq_false, Classical.not_not, ne_eq, ps_e1, ps_em, ps_z, Nat.not_le, false_implies, true_implies, forall_const, ps_01, ps_1n, ps_0n, ps_m10, ps_m1n, lg_cmp_gt, lg_cmp_ge, lg_cmp_le, lg_cmp_lt, lg_cmp_eq, pu_rne, pu_req, pu_uro, RFc_n, Nat.reduceAdd, Nat.reduceMul, Nat.reduceLT, Nat.reduceLeDiff, Nat.reduceEqDiff, Nat.reduceSub]
  refine hP d _ i0 q0 hi1 hi0 hq0 (fun r hr => ?_) (fun x i' q' hx => ?_)
  · obtain ⟨b1, b2, b3, b4⟩ := (hB i0 q0 hi0 hq0).1 r hr
    rw [hr] at hok0 her0
    exact hl 400 r.1 r.2.1 r.2.2 (by omega) b2 b4 (by omega) hok0 her0
  · have hx1 := (hB i0 q0 hi0 hq0).2 x hx
    rw [hx] at her0
    exact bad Q i' q' _ (h3 x hx1).2.2.2 (her0 x i' q' rfl)
theorem m_test (hW : WS n t F) (hK : TKI I tk tv pl NT) : ∀ e dp, dp + e = 8 → RdG X (3 * e + 11) n sl t I J F pl NT 211 [some (.ref 47), some (.int (nI dp))] (pTest tk tv e) := by
  have h0 := hK.1.2
  have hBT : ∀ e P, tPr tk tv e = some P → BD NT P := fun e P hP => by
    cases e with
    | zero => cases hP
    | succ e => cases hP; exact BD_test h0 e
  have st : ∀ e dp, dp + e = 8 → (∀ e', e = e' + 1 → RdG X (3 * e' + 11) n sl t I J F pl NT 211 [some (.ref 47), some (.int (nI (dp + 1)))] (pTest tk tv e')) → RdG X (3 * e + 11) n sl t I J F pl NT 211 [some (.ref 47), some (.int (nI dp))] (pTest tk tv e) := by
    intro e dp he hT
    rw [pTest_e]
    have hp := BD_plain (tk := tk) h0 (BD_sum (tk := tk) (tv := tv) h0 e) (hBT e)
    exact g_test hW hK (g_both hW hK (g_plain hW hK he hT) hp) (BD_then h0 rfl hp)
  intro e
  induction e with
  | zero => intro dp he; exact st 0 dp he (fun e' h => by cases h)
  | succ e ih => intro dp he; exact st (e + 1) dp he (fun e' h => by cases h; exact ih (dp + 1) (by omega))
end MQ
