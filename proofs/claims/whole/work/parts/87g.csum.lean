/-! TEXTS: the class reads terms and sums -/
section CS
variable {X : am_X} {d : Nat} {Q : Option Value → am_H → Prop} {n sl : Nat} {t : Nat → Nat × Nat} {I : Nat → Nat → Int32} {J : Nat → Nat → Int64} {F : Nat → Nat → Option Nat} {h : am_H}
variable {tk tv pl kT en nm : Nat → Nat} {NT dp : Nat}
theorem c_term {k e : Nat} (h : TKC X n sl t I J F tk tv pl kT en nm NT) (hP : KRd X (k + 4) n sl t I J F pl kT en nm NT 49 [some (.ref 9), some (.int (nI dp)), none] (pPart tk tv (sPr tk tv e)) CI) (hB : BD NT (pPart tk tv (sPr tk tv e))) : KRd X (k + 5) n sl t I J F pl kT en nm NT 48 [some (.ref 9), some (.int (nI dp)), none, none, none] (pThen tk seM (pPart tk tv (sPr tk tv e)) (fun c a b => bi (opM c) a b)) CI := by
  intro d Q i0 sc0 q0 cc S0 C hi1 hi0 hq0 hsc0 hok0 her0
  have hW := h.1
  obtain ⟨hn, hn2, ht, hF⟩ := id hW
  obtain ⟨h1, h2⟩ := h.2.1
  show am_W X (d + k + 5) 48 0 [some (.ref 9), some (.int (nI dp)), none, none, none] [] (n, sl, t, cR I kT pl en nm i0 sc0 q0 cc S0 C, J, F) Q
  have bad : ∀ (x sc q u : Nat) (S : Nat → Int32) (l4 : Option Value), u ≤ 400 → Q (some (.int 0)) (n, sl, t, cR I kT pl en nm x sc q cc S C, J, F) → am_W X (d + k + 5) 48 8 [some (.ref 9), some (.int (nI dp)), some (.int 0), some (.int (nI u)), l4] [] (n, sl, t, cR I kT pl en nm x sc q cc S C, J, F) Q := by
    intro x sc q u S l4 hu hQ
    have z : u < 2000000 := by omega
    rw [r48_8]
    by_cases c : 400 ≤ u
    · simp only [↓r48_9, ↓r48_12, ↓r48_15, ↓r48_16, ↓r48_79, ↓r48_80, q_le, q_lt, q_eq, q_e0, q_e1, q_0e, q_1e, ps_n0, q_0le, q_le0, q_0lt, q_m1e, q_em1, z, c, Bool.false_eq_true, hn, hn2, ht, hF, am_wt, am_wf, Option.isSome_some, am_rf_s, am_rf_n, ps_lit, nI_add, nI_1, pk_mul, ps_cl, ps_neg, ps_c0, ps_c1, ps_n01, ps_n11, ps_10, ps_b01, ps_e0, pu_Ine, pu_Ieq, pu_ne, pu_eq, am_k_n, am_k_i, am_k_r, am_k_u, am_k_l, am_sz_0, am_sz_i, am_sz_r, am_sz_u, am_sz_l, Option.toList_some, Option.toList_none, List.cons_append, List.nil_append, true_and, and_true, or_false, false_or, or_self, or_true, true_or, not_false_eq_true, not_true_eq_false, Classical.not_not, ne_eq, ps_e1, ps_em, ps_z, Nat.not_le, false_implies, true_implies, forall_const, ps_01, ps_1n, ps_0n, ps_m10, ps_m1n, lg_cmp_gt, lg_cmp_ge, lg_cmp_le, lg_cmp_lt, lg_cmp_eq, pu_rne, pu_req, pu_uro, RFc_n, Nat.reduceAdd, Nat.reduceMul, Nat.reduceLT, Nat.reduceLeDiff, Nat.reduceEqDiff, Nat.reduceSub]
      exact hQ
    · simp only [↓r48_9, ↓r48_12, ↓r48_15, ↓r48_16, ↓r48_79, ↓r48_80, q_le, q_lt, q_eq, q_e0, q_e1, q_0e, q_1e, ps_n0, q_0le, q_le0, q_0lt, q_m1e, q_em1, z, c, Bool.false_eq_true, hn, hn2, ht, hF, am_wt, am_wf, Option.isSome_some, am_rf_s, am_rf_n, ps_lit, nI_add, nI_1, pk_mul, ps_cl, ps_neg, ps_c0, ps_c1, ps_n01, ps_n11, ps_10, ps_b01, ps_e0, pu_Ine, pu_Ieq, pu_ne, pu_eq, am_k_n, am_k_i, am_k_r, am_k_u, am_k_l, am_sz_0, am_sz_i, am_sz_r, am_sz_u, am_sz_l, Option.toList_some, Option.toList_none, List.cons_append, List.nil_append, true_and, and_true, or_false, false_or, or_self, or_true, true_or, not_false_eq_true, not_true_eq_false, Classical.not_not, ne_eq, ps_e1, ps_em, ps_z, Nat.not_le, false_implies, true_implies, forall_const, ps_01, ps_1n, ps_0n, ps_m10, ps_m1n, lg_cmp_gt, lg_cmp_ge, lg_cmp_le, lg_cmp_lt, lg_cmp_eq, pu_rne, pu_req, pu_uro, RFc_n, Nat.reduceAdd, Nat.reduceMul, Nat.reduceLT, Nat.reduceLeDiff, Nat.reduceEqDiff, Nat.reduceSub]
      exact hQ
  have hl : ∀ g u i q sc (S : Nat → Int32) D (l4 : Option Value), u + g = 400 → 1 ≤ i → i ≤ NT → NT < i + g → q0 ≤ q → q ≤ 50 → (∀ j, j < sc0 → S j = S0 j) → sc + i0 ≤ sc0 + i → CI S sc0 sc (q - q0) D → (∀ r sc' S', pMore tk seM (pPart tk tv (sPr tk tv e)) (fun c a b => bi (opM c) a b) g i q D = .ok r → (∀ j, j < sc0 → S' j = S0 j) → sc' + i0 ≤ sc0 + r.1 → CI S' sc0 sc' (r.2.1 - q0) r.2.2 → Q (some (.int 1)) (n, sl, t, cR I kT pl en nm r.1 sc' r.2.1 cc S' C, J, F)) → (∀ x sc' q' S', pMore tk seM (pPart tk tv (sPr tk tv e)) (fun c a b => bi (opM c) a b) g i q D = .error x → sc' ≤ 400 → Q (some (.int 0)) (n, sl, t, cR I kT pl en nm x sc' q' cc S' C, J, F)) → am_W X (d + k + 5) 48 8 [some (.ref 9), some (.int (nI dp)), some (.int 1), some (.int (nI u)), l4] [] (n, sl, t, cR I kT pl en nm i sc q cc S C, J, F) Q := by
    intro g
    induction g with
    | zero => intro u i q sc S D l4 hu hi1 hi hg; omega
    | succ g ih =>
      intro u i q sc S D l4 hu hi1 hi hg hq1 hq hs hsc hCI hok her
      have hsi : sc ≤ i := by omega
      rw [pMore] at hok her
      have zu : u < 2000000 := by omega
      have zu2 : ¬ 400 ≤ u := by omega
      have go : ∀ op, seM (tk i) = true → 1100 ≤ op ∧ op ≤ 1103 → (∀ x y, opM (tk i) x y = jnD op x y) → am_W X (d + k + 5) 48 57 [some (.ref 9), some (.int (nI dp)), some (.int 1), some (.int (nI u)), some (.int (nI op))] [] (n, sl, t, cR I kT pl en nm i sc q cc S C, J, F) Q := by
        intro op hc hop hf
        rw [if_pos hc] at hok her
        have hlt : i < NT := tok_lt h2 hi (fun z => by rw [z] at hc; cases hc)
        simp only [↓r48_57, ↓r48_58, ↓r48_61, ↓r48_62, ↓r48_63, ↓c_goOn h hlt, Bool.false_eq_true, hn, hn2, ht, hF, am_wt, am_wf, Option.isSome_some, am_rf_s, am_rf_n, ps_lit, nI_add, nI_1, pk_mul, ps_cl, ps_neg, ps_c0, ps_c1, ps_n01, ps_n11, ps_10, ps_b01, ps_e0, pu_Ine, pu_Ieq, pu_ne, pu_eq, am_k_n, am_k_i, am_k_r, am_k_u, am_k_l, am_sz_0, am_sz_i, am_sz_r, am_sz_u, am_sz_l, Option.toList_some, Option.toList_none, List.cons_append, List.nil_append, true_and, and_true, or_false, false_or, or_self, or_true, true_or, not_false_eq_true, not_true_eq_false, Classical.not_not, ne_eq, ps_e1, ps_em, ps_z, Nat.not_le, false_implies, true_implies, forall_const, ps_01, ps_1n, ps_0n, ps_m10, ps_m1n, lg_cmp_gt, lg_cmp_ge, lg_cmp_le, lg_cmp_lt, lg_cmp_eq, pu_rne, pu_req, pu_uro, RFc_n, Nat.reduceAdd, Nat.reduceMul, Nat.reduceLT, Nat.reduceLeDiff, Nat.reduceEqDiff, Nat.reduceSub]
        refine hP d _ (i + 1) sc q cc S C (by omega) hlt hq (by omega) (fun r sc' S' hr hs' hl' hc' => ?_) (fun x sc' q' S' hx hl' => ?_)
        · obtain ⟨b1, b2, b3, b4⟩ := (hB (i + 1) q hlt hq).1 r hr
          rw [hr] at hok her
          dsimp only at hok her
          have hlt2 : sc < sc' := hc'.1.1
          have hs2 : ∀ j, j < sc → upd S' sc' (nI op) j = S j := fun j hj => by rw [pu_ne (by omega)]; exact hs' j hj
          have hn' := CI_bin (CI_s hCI (fun j _ hj => hs2 j hj)) (CI_s (S2 := upd S' sc' (nI op)) hc' (fun j _ hj => pu_ne (by omega))) hop pu_eq hf
          have ek : q - q0 + (r.2.1 - q) = r.2.1 - q0 := by omega
          rw [ek] at hn'
          have hsc00 : sc0 ≤ sc := by have := hCI.1.1; omega
          have := ih (u + 1) r.1 r.2.1 (sc' + 1) (upd S' sc' (nI op)) _ (some (.int (nI op))) (by omega) (by omega) b2 (by omega) (by omega) b4 (fun j hj => by rw [hs2 j (by omega)]; exact hs j hj) (by omega) hn' hok her
          simp only [↓r48_66, ↓r48_67, ↓r48_68, ↓r48_70, ↓r48_73, ↓r48_76, ↓c_putS hW (show sc' < 400 by omega), Bool.false_eq_true, hn, hn2, ht, hF, am_wt, am_wf, Option.isSome_some, am_rf_s, am_rf_n, ps_lit, nI_add, nI_1, pk_mul, ps_cl, ps_neg, ps_c0, ps_c1, ps_n01, ps_n11, ps_10, ps_b01, ps_e0, pu_Ine, pu_Ieq, pu_ne, pu_eq, am_k_n, am_k_i, am_k_r, am_k_u, am_k_l, am_sz_0, am_sz_i, am_sz_r, am_sz_u, am_sz_l, Option.toList_some, Option.toList_none, List.cons_append, List.nil_append, true_and, and_true, or_false, false_or, or_self, or_true, true_or, not_false_eq_true, not_true_eq_false, Classical.not_not, ne_eq, ps_e1, ps_em, ps_z, Nat.not_le, false_implies, true_implies, forall_const, ps_01, ps_1n, ps_0n, ps_m10, ps_m1n, lg_cmp_gt, lg_cmp_ge, lg_cmp_le, lg_cmp_lt, lg_cmp_eq, pu_rne, pu_req, pu_uro, RFc_n, Nat.reduceAdd, Nat.reduceMul, Nat.reduceLT, Nat.reduceLeDiff, Nat.reduceEqDiff, Nat.reduceSub]
          exact this
        · rw [hx] at her
          have hx1 := (hB (i + 1) q hlt hq).2 x hx
          by_cases c4 : sc' = 400
          · subst c4
            have := bad x 400 q' (u + 1) S' (some (.int (nI op))) (by omega) (her x 400 q' S' rfl (by omega))
            simp only [↓r48_66, ↓r48_67, ↓r48_68, ↓r48_70, ↓r48_73, ↓r48_76, ↓c_putS0 hW, Bool.false_eq_true, hn, hn2, ht, hF, am_wt, am_wf, Option.isSome_some, am_rf_s, am_rf_n, ps_lit, nI_add, nI_1, pk_mul, ps_cl, ps_neg, ps_c0, ps_c1, ps_n01, ps_n11, ps_10, ps_b01, ps_e0, pu_Ine, pu_Ieq, pu_ne, pu_eq, am_k_n, am_k_i, am_k_r, am_k_u, am_k_l, am_sz_0, am_sz_i, am_sz_r, am_sz_u, am_sz_l, Option.toList_some, Option.toList_none, List.cons_append, List.nil_append, true_and, and_true, or_false, false_or, or_self, or_true, true_or, not_false_eq_true, not_true_eq_false, Classical.not_not, ne_eq, ps_e1, ps_em, ps_z, Nat.not_le, false_implies, true_implies, forall_const, ps_01, ps_1n, ps_0n, ps_m10, ps_m1n, lg_cmp_gt, lg_cmp_ge, lg_cmp_le, lg_cmp_lt, lg_cmp_eq, pu_rne, pu_req, pu_uro, RFc_n, Nat.reduceAdd, Nat.reduceMul, Nat.reduceLT, Nat.reduceLeDiff, Nat.reduceEqDiff, Nat.reduceSub]
            exact this
          · have := bad x (sc' + 1) q' (u + 1) (upd S' sc' (nI op)) (some (.int (nI op))) (by omega) (her x (sc' + 1) q' _ rfl (by omega))
            simp only [↓r48_66, ↓r48_67, ↓r48_68, ↓r48_70, ↓r48_73, ↓r48_76, ↓c_putS hW (show sc' < 400 by omega), Bool.false_eq_true, hn, hn2, ht, hF, am_wt, am_wf, Option.isSome_some, am_rf_s, am_rf_n, ps_lit, nI_add, nI_1, pk_mul, ps_cl, ps_neg, ps_c0, ps_c1, ps_n01, ps_n11, ps_10, ps_b01, ps_e0, pu_Ine, pu_Ieq, pu_ne, pu_eq, am_k_n, am_k_i, am_k_r, am_k_u, am_k_l, am_sz_0, am_sz_i, am_sz_r, am_sz_u, am_sz_l, Option.toList_some, Option.toList_none, List.cons_append, List.nil_append, true_and, and_true, or_false, false_or, or_self, or_true, true_or, not_false_eq_true, not_true_eq_false, Classical.not_not, ne_eq, ps_e1, ps_em, ps_z, Nat.not_le, false_implies, true_implies, forall_const, ps_01, ps_1n, ps_0n, ps_m10, ps_m1n, lg_cmp_gt, lg_cmp_ge, lg_cmp_le, lg_cmp_lt, lg_cmp_eq, pu_rne, pu_req, pu_uro, RFc_n, Nat.reduceAdd, Nat.reduceMul, Nat.reduceLT, Nat.reduceLeDiff, Nat.reduceEqDiff, Nat.reduceSub]
            exact this
      rw [r48_8]
      by_cases c1 : tk i = 142
      · have := go 1102 (by rw [c1]; rfl) (by decide) (fun x y => by rw [c1]; rfl)
        simp only [↓r48_9, ↓r48_12, ↓r48_15, ↓r48_16, ↓r48_19, ↓r48_20, ↓r48_22, ↓r48_25, ↓r48_28, ↓r48_29, ↓r48_31, ↓r48_34, ↓r48_37, ↓r48_38, ↓r48_40, ↓r48_43, ↓r48_46, ↓r48_49, ↓r48_52, ↓r48_55, ↓c_sign1 h hi (show 42 < 200 by decide) c1, q_le, q_lt, q_eq, q_e0, q_e1, q_0e, q_1e, ps_n0, q_0le, q_le0, q_0lt, q_m1e, q_em1, zu, zu2, Bool.false_eq_true, hn, hn2, ht, hF, am_wt, am_wf, Option.isSome_some, am_rf_s, am_rf_n, ps_lit, nI_add, nI_1, pk_mul, ps_cl, ps_neg, ps_c0, ps_c1, ps_n01, ps_n11, ps_10, ps_b01, ps_e0, pu_Ine, pu_Ieq, pu_ne, pu_eq, am_k_n, am_k_i, am_k_r, am_k_u, am_k_l, am_sz_0, am_sz_i, am_sz_r, am_sz_u, am_sz_l, Option.toList_some, Option.toList_none, List.cons_append, List.nil_append, true_and, and_true, or_false, false_or, or_self, or_true, true_or, not_false_eq_true, not_true_eq_false, Classical.not_not, ne_eq, ps_e1, ps_em, ps_z, Nat.not_le, false_implies, true_implies, forall_const, ps_01, ps_1n, ps_0n, ps_m10, ps_m1n, lg_cmp_gt, lg_cmp_ge, lg_cmp_le, lg_cmp_lt, lg_cmp_eq, pu_rne, pu_req, pu_uro, RFc_n, Nat.reduceAdd, Nat.reduceMul, Nat.reduceLT, Nat.reduceLeDiff, Nat.reduceEqDiff, Nat.reduceSub]
        exact this
      · by_cases c2 : tk i = 147
        · have := go 1103 (by rw [c2]; rfl) (by decide) (fun x y => by rw [c2]; rfl)
          simp only [↓r48_9, ↓r48_12, ↓r48_15, ↓r48_16, ↓r48_19, ↓r48_20, ↓r48_22, ↓r48_25, ↓r48_28, ↓r48_29, ↓r48_31, ↓r48_34, ↓r48_37, ↓r48_38, ↓r48_40, ↓r48_43, ↓r48_46, ↓r48_49, ↓r48_52, ↓r48_55, ↓c_sign0 h hi (show 42 < 200 by decide) c1, ↓c_sign1 h hi (show 47 < 200 by decide) c2, q_le, q_lt, q_eq, q_e0, q_e1, q_0e, q_1e, ps_n0, q_0le, q_le0, q_0lt, q_m1e, q_em1, zu, zu2, Bool.false_eq_true, hn, hn2, ht, hF, am_wt, am_wf, Option.isSome_some, am_rf_s, am_rf_n, ps_lit, nI_add, nI_1, pk_mul, ps_cl, ps_neg, ps_c0, ps_c1, ps_n01, ps_n11, ps_10, ps_b01, ps_e0, pu_Ine, pu_Ieq, pu_ne, pu_eq, am_k_n, am_k_i, am_k_r, am_k_u, am_k_l, am_sz_0, am_sz_i, am_sz_r, am_sz_u, am_sz_l, Option.toList_some, Option.toList_none, List.cons_append, List.nil_append, true_and, and_true, or_false, false_or, or_self, or_true, true_or, not_false_eq_true, not_true_eq_false, Classical.not_not, ne_eq, ps_e1, ps_em, ps_z, Nat.not_le, false_implies, true_implies, forall_const, ps_01, ps_1n, ps_0n, ps_m10, ps_m1n, lg_cmp_gt, lg_cmp_ge, lg_cmp_le, lg_cmp_lt, lg_cmp_eq, pu_rne, pu_req, pu_uro, RFc_n, Nat.reduceAdd, Nat.reduceMul, Nat.reduceLT, Nat.reduceLeDiff, Nat.reduceEqDiff, Nat.reduceSub]
          exact this
        · have hc : ¬ seM (tk i) = true := by
            unfold seM
            simp only [Bool.or_eq_true, beq_iff_eq]
            omega
          rw [if_neg hc] at hok
          have := hok _ sc S rfl hs hsc hCI
          simp only [↓r48_9, ↓r48_12, ↓r48_15, ↓r48_16, ↓r48_19, ↓r48_20, ↓r48_22, ↓r48_25, ↓r48_28, ↓r48_29, ↓r48_31, ↓r48_34, ↓r48_79, ↓r48_80, ↓c_sign0 h hi (show 42 < 200 by decide) c1, ↓c_sign0 h hi (show 47 < 200 by decide) c2, q_le, q_lt, q_eq, q_e0, q_e1, q_0e, q_1e, ps_n0, q_0le, q_le0, q_0lt, q_m1e, q_em1, zu, zu2, Bool.false_eq_true, hn, hn2, ht, hF, am_wt, am_wf, Option.isSome_some, am_rf_s, am_rf_n, ps_lit, nI_add, nI_1, pk_mul, ps_cl, ps_neg, ps_c0, ps_c1, ps_n01, ps_n11, ps_10, ps_b01, ps_e0, pu_Ine, pu_Ieq, pu_ne, pu_eq, am_k_n, am_k_i, am_k_r, am_k_u, am_k_l, am_sz_0, am_sz_i, am_sz_r, am_sz_u, am_sz_l, Option.toList_some, Option.toList_none, List.cons_append, List.nil_append, true_and, and_true, or_false, false_or, or_self, or_true, true_or, not_false_eq_true, not_true_eq_false, Classical.not_not, ne_eq, ps_e1, ps_em, ps_z, Nat.not_le, false_implies, true_implies, forall_const, ps_01, ps_1n, ps_0n, ps_m10, ps_m1n, lg_cmp_gt, lg_cmp_ge, lg_cmp_le, lg_cmp_lt, lg_cmp_eq, pu_rne, pu_req, pu_uro, RFc_n, Nat.reduceAdd, Nat.reduceMul, Nat.reduceLT, Nat.reduceLeDiff, Nat.reduceEqDiff, Nat.reduceSub]
          exact this
  unfold pThen at hok0 her0
  simp only [↓r48_0, ↓r48_1, ↓r48_2, Bool.false_eq_true, hn, hn2, ht, hF, am_wt, am_wf, Option.isSome_some, am_rf_s, am_rf_n, ps_lit, nI_add, nI_1, pk_mul, ps_cl, ps_neg, ps_c0, ps_c1, ps_n01, ps_n11, ps_10, ps_b01, ps_e0, pu_Ine, pu_Ieq, pu_ne, pu_eq, am_k_n, am_k_i, am_k_r, am_k_u, am_k_l, am_sz_0, am_sz_i, am_sz_r, am_sz_u, am_sz_l, Option.toList_some, Option.toList_none, List.cons_append, List.nil_append, true_and, and_true, or_false, false_or, or_self, or_true, true_or, not_false_eq_true, not_true_eq_false, Classical.not_not, ne_eq, ps_e1, ps_em, ps_z, Nat.not_le, false_implies, true_implies, forall_const, ps_01, ps_1n, ps_0n, ps_m10, ps_m1n, lg_cmp_gt, lg_cmp_ge, lg_cmp_le, lg_cmp_lt, lg_cmp_eq, pu_rne, pu_req, pu_uro, RFc_n, Nat.reduceAdd, Nat.reduceMul, Nat.reduceLT, Nat.reduceLeDiff, Nat.reduceEqDiff, Nat.reduceSub]
  refine hP d _ i0 sc0 q0 cc S0 C hi1 hi0 hq0 hsc0 (fun r sc' S' hr hs' hl' hc' => ?_) (fun x sc' q' S' hx hl' => ?_)
  · obtain ⟨b1, b2, b3, b4⟩ := (hB i0 q0 hi0 hq0).1 r hr
    rw [hr] at hok0 her0
    have := hl 400 0 r.1 r.2.1 sc' S' r.2.2 none (by omega) (by omega) b2 (by omega) (by omega) b4 hs' hl' hc' hok0 her0
    simp only [↓r48_5, ↓r48_6, ↓r48_7, Bool.false_eq_true, hn, hn2, ht, hF, am_wt, am_wf, Option.isSome_some, am_rf_s, am_rf_n, ps_lit, nI_add, nI_1, pk_mul, ps_cl, ps_neg, ps_c0, ps_c1, ps_n01, ps_n11, ps_10, ps_b01, ps_e0, pu_Ine, pu_Ieq, pu_ne, pu_eq, am_k_n, am_k_i, am_k_r, am_k_u, am_k_l, am_sz_0, am_sz_i, am_sz_r, am_sz_u, am_sz_l, Option.toList_some, Option.toList_none, List.cons_append, List.nil_append, true_and, and_true, or_false, false_or, or_self, or_true, true_or, not_false_eq_true, not_true_eq_false, Classical.not_not, ne_eq, ps_e1, ps_em, ps_z, Nat.not_le, false_implies, true_implies, forall_const, ps_01, ps_1n, ps_0n, ps_m10, ps_m1n, lg_cmp_gt, lg_cmp_ge, lg_cmp_le, lg_cmp_lt, lg_cmp_eq, pu_rne, pu_req, pu_uro, RFc_n, Nat.reduceAdd, Nat.reduceMul, Nat.reduceLT, Nat.reduceLeDiff, Nat.reduceEqDiff, Nat.reduceSub]
    exact this
  · have hx1 := (hB i0 q0 hi0 hq0).2 x hx
    rw [hx] at her0
    have := bad x sc' q' 0 S' none (by omega) (her0 x sc' q' S' rfl hl')
    simp only [↓r48_5, ↓r48_6, ↓r48_7, Bool.false_eq_true, hn, hn2, ht, hF, am_wt, am_wf, Option.isSome_some, am_rf_s, am_rf_n, ps_lit, nI_add, nI_1, pk_mul, ps_cl, ps_neg, ps_c0, ps_c1, ps_n01, ps_n11, ps_10, ps_b01, ps_e0, pu_Ine, pu_Ieq, pu_ne, pu_eq, am_k_n, am_k_i, am_k_r, am_k_u, am_k_l, am_sz_0, am_sz_i, am_sz_r, am_sz_u, am_sz_l, Option.toList_some, Option.toList_none, List.cons_append, List.nil_append, true_and, and_true, or_false, false_or, or_self, or_true, true_or, not_false_eq_true, not_true_eq_false, Classical.not_not, ne_eq, ps_e1, ps_em, ps_z, Nat.not_le, false_implies, true_implies, forall_const, ps_01, ps_1n, ps_0n, ps_m10, ps_m1n, lg_cmp_gt, lg_cmp_ge, lg_cmp_le, lg_cmp_lt, lg_cmp_eq, pu_rne, pu_req, pu_uro, RFc_n, Nat.reduceAdd, Nat.reduceMul, Nat.reduceLT, Nat.reduceLeDiff, Nat.reduceEqDiff, Nat.reduceSub]
    exact this
theorem c_sum {k e : Nat} (h : TKC X n sl t I J F tk tv pl kT en nm NT) (hP : KRd X (k + 5) n sl t I J F pl kT en nm NT 48 [some (.ref 9), some (.int (nI dp)), none, none, none] (pTerm tk tv (sPr tk tv e)) CI) (hB : BD NT (pTerm tk tv (sPr tk tv e))) : KRd X (k + 6) n sl t I J F pl kT en nm NT 47 [some (.ref 9), some (.int (nI dp)), none, none, none] (pThen tk seA (pTerm tk tv (sPr tk tv e)) (fun c a b => bi (opA c) a b)) CI := by
  intro d Q i0 sc0 q0 cc S0 C hi1 hi0 hq0 hsc0 hok0 her0
  have hW := h.1
  obtain ⟨hn, hn2, ht, hF⟩ := id hW
  obtain ⟨h1, h2⟩ := h.2.1
  show am_W X (d + k + 6) 47 0 [some (.ref 9), some (.int (nI dp)), none, none, none] [] (n, sl, t, cR I kT pl en nm i0 sc0 q0 cc S0 C, J, F) Q
  have bad : ∀ (x sc q u : Nat) (S : Nat → Int32) (l4 : Option Value), u ≤ 400 → Q (some (.int 0)) (n, sl, t, cR I kT pl en nm x sc q cc S C, J, F) → am_W X (d + k + 6) 47 8 [some (.ref 9), some (.int (nI dp)), some (.int 0), some (.int (nI u)), l4] [] (n, sl, t, cR I kT pl en nm x sc q cc S C, J, F) Q := by
    intro x sc q u S l4 hu hQ
    have z : u < 2000000 := by omega
    rw [r47_8]
    by_cases c : 400 ≤ u
    · simp only [↓r47_9, ↓r47_12, ↓r47_15, ↓r47_16, ↓r47_79, ↓r47_80, q_le, q_lt, q_eq, q_e0, q_e1, q_0e, q_1e, ps_n0, q_0le, q_le0, q_0lt, q_m1e, q_em1, z, c, Bool.false_eq_true, hn, hn2, ht, hF, am_wt, am_wf, Option.isSome_some, am_rf_s, am_rf_n, ps_lit, nI_add, nI_1, pk_mul, ps_cl, ps_neg, ps_c0, ps_c1, ps_n01, ps_n11, ps_10, ps_b01, ps_e0, pu_Ine, pu_Ieq, pu_ne, pu_eq, am_k_n, am_k_i, am_k_r, am_k_u, am_k_l, am_sz_0, am_sz_i, am_sz_r, am_sz_u, am_sz_l, Option.toList_some, Option.toList_none, List.cons_append, List.nil_append, true_and, and_true, or_false, false_or, or_self, or_true, true_or, not_false_eq_true, not_true_eq_false, Classical.not_not, ne_eq, ps_e1, ps_em, ps_z, Nat.not_le, false_implies, true_implies, forall_const, ps_01, ps_1n, ps_0n, ps_m10, ps_m1n, lg_cmp_gt, lg_cmp_ge, lg_cmp_le, lg_cmp_lt, lg_cmp_eq, pu_rne, pu_req, pu_uro, RFc_n, Nat.reduceAdd, Nat.reduceMul, Nat.reduceLT, Nat.reduceLeDiff, Nat.reduceEqDiff, Nat.reduceSub]
      exact hQ
    · simp only [↓r47_9, ↓r47_12, ↓r47_15, ↓r47_16, ↓r47_79, ↓r47_80, q_le, q_lt, q_eq, q_e0, q_e1, q_0e, q_1e, ps_n0, q_0le, q_le0, q_0lt, q_m1e, q_em1, z, c, Bool.false_eq_true, hn, hn2, ht, hF, am_wt, am_wf, Option.isSome_some, am_rf_s, am_rf_n, ps_lit, nI_add, nI_1, pk_mul, ps_cl, ps_neg, ps_c0, ps_c1, ps_n01, ps_n11, ps_10, ps_b01, ps_e0, pu_Ine, pu_Ieq, pu_ne, pu_eq, am_k_n, am_k_i, am_k_r, am_k_u, am_k_l, am_sz_0, am_sz_i, am_sz_r, am_sz_u, am_sz_l, Option.toList_some, Option.toList_none, List.cons_append, List.nil_append, true_and, and_true, or_false, false_or, or_self, or_true, true_or, not_false_eq_true, not_true_eq_false, Classical.not_not, ne_eq, ps_e1, ps_em, ps_z, Nat.not_le, false_implies, true_implies, forall_const, ps_01, ps_1n, ps_0n, ps_m10, ps_m1n, lg_cmp_gt, lg_cmp_ge, lg_cmp_le, lg_cmp_lt, lg_cmp_eq, pu_rne, pu_req, pu_uro, RFc_n, Nat.reduceAdd, Nat.reduceMul, Nat.reduceLT, Nat.reduceLeDiff, Nat.reduceEqDiff, Nat.reduceSub]
      exact hQ
  have hl : ∀ g u i q sc (S : Nat → Int32) D (l4 : Option Value), u + g = 400 → 1 ≤ i → i ≤ NT → NT < i + g → q0 ≤ q → q ≤ 50 → (∀ j, j < sc0 → S j = S0 j) → sc + i0 ≤ sc0 + i → CI S sc0 sc (q - q0) D → (∀ r sc' S', pMore tk seA (pTerm tk tv (sPr tk tv e)) (fun c a b => bi (opA c) a b) g i q D = .ok r → (∀ j, j < sc0 → S' j = S0 j) → sc' + i0 ≤ sc0 + r.1 → CI S' sc0 sc' (r.2.1 - q0) r.2.2 → Q (some (.int 1)) (n, sl, t, cR I kT pl en nm r.1 sc' r.2.1 cc S' C, J, F)) → (∀ x sc' q' S', pMore tk seA (pTerm tk tv (sPr tk tv e)) (fun c a b => bi (opA c) a b) g i q D = .error x → sc' ≤ 400 → Q (some (.int 0)) (n, sl, t, cR I kT pl en nm x sc' q' cc S' C, J, F)) → am_W X (d + k + 6) 47 8 [some (.ref 9), some (.int (nI dp)), some (.int 1), some (.int (nI u)), l4] [] (n, sl, t, cR I kT pl en nm i sc q cc S C, J, F) Q := by
    intro g
    induction g with
    | zero => intro u i q sc S D l4 hu hi1 hi hg; omega
    | succ g ih =>
      intro u i q sc S D l4 hu hi1 hi hg hq1 hq hs hsc hCI hok her
      have hsi : sc ≤ i := by omega
      rw [pMore] at hok her
      have zu : u < 2000000 := by omega
      have zu2 : ¬ 400 ≤ u := by omega
      have go : ∀ op, seA (tk i) = true → 1100 ≤ op ∧ op ≤ 1103 → (∀ x y, opA (tk i) x y = jnD op x y) → am_W X (d + k + 6) 47 57 [some (.ref 9), some (.int (nI dp)), some (.int 1), some (.int (nI u)), some (.int (nI op))] [] (n, sl, t, cR I kT pl en nm i sc q cc S C, J, F) Q := by
        intro op hc hop hf
        rw [if_pos hc] at hok her
        have hlt : i < NT := tok_lt h2 hi (fun z => by rw [z] at hc; cases hc)
        simp only [↓r47_57, ↓r47_58, ↓r47_61, ↓r47_62, ↓r47_63, ↓c_goOn h hlt, Bool.false_eq_true, hn, hn2, ht, hF, am_wt, am_wf, Option.isSome_some, am_rf_s, am_rf_n, ps_lit, nI_add, nI_1, pk_mul, ps_cl, ps_neg, ps_c0, ps_c1, ps_n01, ps_n11, ps_10, ps_b01, ps_e0, pu_Ine, pu_Ieq, pu_ne, pu_eq, am_k_n, am_k_i, am_k_r, am_k_u, am_k_l, am_sz_0, am_sz_i, am_sz_r, am_sz_u, am_sz_l, Option.toList_some, Option.toList_none, List.cons_append, List.nil_append, true_and, and_true, or_false, false_or, or_self, or_true, true_or, not_false_eq_true, not_true_eq_false, Classical.not_not, ne_eq, ps_e1, ps_em, ps_z, Nat.not_le, false_implies, true_implies, forall_const, ps_01, ps_1n, ps_0n, ps_m10, ps_m1n, lg_cmp_gt, lg_cmp_ge, lg_cmp_le, lg_cmp_lt, lg_cmp_eq, pu_rne, pu_req, pu_uro, RFc_n, Nat.reduceAdd, Nat.reduceMul, Nat.reduceLT, Nat.reduceLeDiff, Nat.reduceEqDiff, Nat.reduceSub]
        refine hP d _ (i + 1) sc q cc S C (by omega) hlt hq (by omega) (fun r sc' S' hr hs' hl' hc' => ?_) (fun x sc' q' S' hx hl' => ?_)
        · obtain ⟨b1, b2, b3, b4⟩ := (hB (i + 1) q hlt hq).1 r hr
          rw [hr] at hok her
          dsimp only at hok her
          have hlt2 : sc < sc' := hc'.1.1
          have hs2 : ∀ j, j < sc → upd S' sc' (nI op) j = S j := fun j hj => by rw [pu_ne (by omega)]; exact hs' j hj
          have hn' := CI_bin (CI_s hCI (fun j _ hj => hs2 j hj)) (CI_s (S2 := upd S' sc' (nI op)) hc' (fun j _ hj => pu_ne (by omega))) hop pu_eq hf
          have ek : q - q0 + (r.2.1 - q) = r.2.1 - q0 := by omega
          rw [ek] at hn'
          have hsc00 : sc0 ≤ sc := by have := hCI.1.1; omega
          have := ih (u + 1) r.1 r.2.1 (sc' + 1) (upd S' sc' (nI op)) _ (some (.int (nI op))) (by omega) (by omega) b2 (by omega) (by omega) b4 (fun j hj => by rw [hs2 j (by omega)]; exact hs j hj) (by omega) hn' hok her
          simp only [↓r47_66, ↓r47_67, ↓r47_68, ↓r47_70, ↓r47_73, ↓r47_76, ↓c_putS hW (show sc' < 400 by omega), Bool.false_eq_true, hn, hn2, ht, hF, am_wt, am_wf, Option.isSome_some, am_rf_s, am_rf_n, ps_lit, nI_add, nI_1, pk_mul, ps_cl, ps_neg, ps_c0, ps_c1, ps_n01, ps_n11, ps_10, ps_b01, ps_e0, pu_Ine, pu_Ieq, pu_ne, pu_eq, am_k_n, am_k_i, am_k_r, am_k_u, am_k_l, am_sz_0, am_sz_i, am_sz_r, am_sz_u, am_sz_l, Option.toList_some, Option.toList_none, List.cons_append, List.nil_append, true_and, and_true, or_false, false_or, or_self, or_true, true_or, not_false_eq_true, not_true_eq_false, Classical.not_not, ne_eq, ps_e1, ps_em, ps_z, Nat.not_le, false_implies, true_implies, forall_const, ps_01, ps_1n, ps_0n, ps_m10, ps_m1n, lg_cmp_gt, lg_cmp_ge, lg_cmp_le, lg_cmp_lt, lg_cmp_eq, pu_rne, pu_req, pu_uro, RFc_n, Nat.reduceAdd, Nat.reduceMul, Nat.reduceLT, Nat.reduceLeDiff, Nat.reduceEqDiff, Nat.reduceSub]
          exact this
        · rw [hx] at her
          have hx1 := (hB (i + 1) q hlt hq).2 x hx
          by_cases c4 : sc' = 400
          · subst c4
            have := bad x 400 q' (u + 1) S' (some (.int (nI op))) (by omega) (her x 400 q' S' rfl (by omega))
            simp only [↓r47_66, ↓r47_67, ↓r47_68, ↓r47_70, ↓r47_73, ↓r47_76, ↓c_putS0 hW, Bool.false_eq_true, hn, hn2, ht, hF, am_wt, am_wf, Option.isSome_some, am_rf_s, am_rf_n, ps_lit, nI_add, nI_1, pk_mul, ps_cl, ps_neg, ps_c0, ps_c1, ps_n01, ps_n11, ps_10, ps_b01, ps_e0, pu_Ine, pu_Ieq, pu_ne, pu_eq, am_k_n, am_k_i, am_k_r, am_k_u, am_k_l, am_sz_0, am_sz_i, am_sz_r, am_sz_u, am_sz_l, Option.toList_some, Option.toList_none, List.cons_append, List.nil_append, true_and, and_true, or_false, false_or, or_self, or_true, true_or, not_false_eq_true, not_true_eq_false, Classical.not_not, ne_eq, ps_e1, ps_em, ps_z, Nat.not_le, false_implies, true_implies, forall_const, ps_01, ps_1n, ps_0n, ps_m10, ps_m1n, lg_cmp_gt, lg_cmp_ge, lg_cmp_le, lg_cmp_lt, lg_cmp_eq, pu_rne, pu_req, pu_uro, RFc_n, Nat.reduceAdd, Nat.reduceMul, Nat.reduceLT, Nat.reduceLeDiff, Nat.reduceEqDiff, Nat.reduceSub]
            exact this
          · have := bad x (sc' + 1) q' (u + 1) (upd S' sc' (nI op)) (some (.int (nI op))) (by omega) (her x (sc' + 1) q' _ rfl (by omega))
            simp only [↓r47_66, ↓r47_67, ↓r47_68, ↓r47_70, ↓r47_73, ↓r47_76, ↓c_putS hW (show sc' < 400 by omega), Bool.false_eq_true, hn, hn2, ht, hF, am_wt, am_wf, Option.isSome_some, am_rf_s, am_rf_n, ps_lit, nI_add, nI_1, pk_mul, ps_cl, ps_neg, ps_c0, ps_c1, ps_n01, ps_n11, ps_10, ps_b01, ps_e0, pu_Ine, pu_Ieq, pu_ne, pu_eq, am_k_n, am_k_i, am_k_r, am_k_u, am_k_l, am_sz_0, am_sz_i, am_sz_r, am_sz_u, am_sz_l, Option.toList_some, Option.toList_none, List.cons_append, List.nil_append, true_and, and_true, or_false, false_or, or_self, or_true, true_or, not_false_eq_true, not_true_eq_false, Classical.not_not, ne_eq, ps_e1, ps_em, ps_z, Nat.not_le, false_implies, true_implies, forall_const, ps_01, ps_1n, ps_0n, ps_m10, ps_m1n, lg_cmp_gt, lg_cmp_ge, lg_cmp_le, lg_cmp_lt, lg_cmp_eq, pu_rne, pu_req, pu_uro, RFc_n, Nat.reduceAdd, Nat.reduceMul, Nat.reduceLT, Nat.reduceLeDiff, Nat.reduceEqDiff, Nat.reduceSub]
            exact this
      rw [r47_8]
      by_cases c1 : tk i = 143
      · have := go 1100 (by rw [c1]; rfl) (by decide) (fun x y => by rw [c1]; rfl)
        simp only [↓r47_9, ↓r47_12, ↓r47_15, ↓r47_16, ↓r47_19, ↓r47_20, ↓r47_22, ↓r47_25, ↓r47_28, ↓r47_29, ↓r47_31, ↓r47_34, ↓r47_37, ↓r47_38, ↓r47_40, ↓r47_43, ↓r47_46, ↓r47_49, ↓r47_52, ↓r47_55, ↓c_sign1 h hi (show 43 < 200 by decide) c1, q_le, q_lt, q_eq, q_e0, q_e1, q_0e, q_1e, ps_n0, q_0le, q_le0, q_0lt, q_m1e, q_em1, zu, zu2, Bool.false_eq_true, hn, hn2, ht, hF, am_wt, am_wf, Option.isSome_some, am_rf_s, am_rf_n, ps_lit, nI_add, nI_1, pk_mul, ps_cl, ps_neg, ps_c0, ps_c1, ps_n01, ps_n11, ps_10, ps_b01, ps_e0, pu_Ine, pu_Ieq, pu_ne, pu_eq, am_k_n, am_k_i, am_k_r, am_k_u, am_k_l, am_sz_0, am_sz_i, am_sz_r, am_sz_u, am_sz_l, Option.toList_some, Option.toList_none, List.cons_append, List.nil_append, true_and, and_true, or_false, false_or, or_self, or_true, true_or, not_false_eq_true, not_true_eq_false, Classical.not_not, ne_eq, ps_e1, ps_em, ps_z, Nat.not_le, false_implies, true_implies, forall_const, ps_01, ps_1n, ps_0n, ps_m10, ps_m1n, lg_cmp_gt, lg_cmp_ge, lg_cmp_le, lg_cmp_lt, lg_cmp_eq, pu_rne, pu_req, pu_uro, RFc_n, Nat.reduceAdd, Nat.reduceMul, Nat.reduceLT, Nat.reduceLeDiff, Nat.reduceEqDiff, Nat.reduceSub]
        exact this
      · by_cases c2 : tk i = 145
        · have := go 1101 (by rw [c2]; rfl) (by decide) (fun x y => by rw [c2]; rfl)
          simp only [↓r47_9, ↓r47_12, ↓r47_15, ↓r47_16, ↓r47_19, ↓r47_20, ↓r47_22, ↓r47_25, ↓r47_28, ↓r47_29, ↓r47_31, ↓r47_34, ↓r47_37, ↓r47_38, ↓r47_40, ↓r47_43, ↓r47_46, ↓r47_49, ↓r47_52, ↓r47_55, ↓c_sign0 h hi (show 43 < 200 by decide) c1, ↓c_sign1 h hi (show 45 < 200 by decide) c2, q_le, q_lt, q_eq, q_e0, q_e1, q_0e, q_1e, ps_n0, q_0le, q_le0, q_0lt, q_m1e, q_em1, zu, zu2, Bool.false_eq_true, hn, hn2, ht, hF, am_wt, am_wf, Option.isSome_some, am_rf_s, am_rf_n, ps_lit, nI_add, nI_1, pk_mul, ps_cl, ps_neg, ps_c0, ps_c1, ps_n01, ps_n11, ps_10, ps_b01, ps_e0, pu_Ine, pu_Ieq, pu_ne, pu_eq, am_k_n, am_k_i, am_k_r, am_k_u, am_k_l, am_sz_0, am_sz_i, am_sz_r, am_sz_u, am_sz_l, Option.toList_some, Option.toList_none, List.cons_append, List.nil_append, true_and, and_true, or_false, false_or, or_self, or_true, true_or, not_false_eq_true, not_true_eq_false, Classical.not_not, ne_eq, ps_e1, ps_em, ps_z, Nat.not_le, false_implies, true_implies, forall_const, ps_01, ps_1n, ps_0n, ps_m10, ps_m1n, lg_cmp_gt, lg_cmp_ge, lg_cmp_le, lg_cmp_lt, lg_cmp_eq, pu_rne, pu_req, pu_uro, RFc_n, Nat.reduceAdd, Nat.reduceMul, Nat.reduceLT, Nat.reduceLeDiff, Nat.reduceEqDiff, Nat.reduceSub]
          exact this
        · have hc : ¬ seA (tk i) = true := by
            unfold seA
            simp only [Bool.or_eq_true, beq_iff_eq]
            omega
          rw [if_neg hc] at hok
          have := hok _ sc S rfl hs hsc hCI
          simp only [↓r47_9, ↓r47_12, ↓r47_15, ↓r47_16, ↓r47_19, ↓r47_20, ↓r47_22, ↓r47_25, ↓r47_28, ↓r47_29, ↓r47_31, ↓r47_34, ↓r47_79, ↓r47_80, ↓c_sign0 h hi (show 43 < 200 by decide) c1, ↓c_sign0 h hi (show 45 < 200 by decide) c2, q_le, q_lt, q_eq, q_e0, q_e1, q_0e, q_1e, ps_n0, q_0le, q_le0, q_0lt, q_m1e, q_em1, zu, zu2, Bool.false_eq_true, hn, hn2, ht, hF, am_wt, am_wf, Option.isSome_some, am_rf_s, am_rf_n, ps_lit, nI_add, nI_1, pk_mul, ps_cl, ps_neg, ps_c0, ps_c1, ps_n01, ps_n11, ps_10, ps_b01, ps_e0, pu_Ine, pu_Ieq, pu_ne, pu_eq, am_k_n, am_k_i, am_k_r, am_k_u, am_k_l, am_sz_0, am_sz_i, am_sz_r, am_sz_u, am_sz_l, Option.toList_some, Option.toList_none, List.cons_append, List.nil_append, true_and, and_true, or_false, false_or, or_self, or_true, true_or, not_false_eq_true, not_true_eq_false, Classical.not_not, ne_eq, ps_e1, ps_em, ps_z, Nat.not_le, false_implies, true_implies, forall_const, ps_01, ps_1n, ps_0n, ps_m10, ps_m1n, lg_cmp_gt, lg_cmp_ge, lg_cmp_le, lg_cmp_lt, lg_cmp_eq, pu_rne, pu_req, pu_uro, RFc_n, Nat.reduceAdd, Nat.reduceMul, Nat.reduceLT, Nat.reduceLeDiff, Nat.reduceEqDiff, Nat.reduceSub]
          exact this
  unfold pThen at hok0 her0
  simp only [↓r47_0, ↓r47_1, ↓r47_2, Bool.false_eq_true, hn, hn2, ht, hF, am_wt, am_wf, Option.isSome_some, am_rf_s, am_rf_n, ps_lit, nI_add, nI_1, pk_mul, ps_cl, ps_neg, ps_c0, ps_c1, ps_n01, ps_n11, ps_10, ps_b01, ps_e0, pu_Ine, pu_Ieq, pu_ne, pu_eq, am_k_n, am_k_i, am_k_r, am_k_u, am_k_l, am_sz_0, am_sz_i, am_sz_r, am_sz_u, am_sz_l, Option.toList_some, Option.toList_none, List.cons_append, List.nil_append, true_and, and_true, or_false, false_or, or_self, or_true, true_or, not_false_eq_true, not_true_eq_false, Classical.not_not, ne_eq, ps_e1, ps_em, ps_z, Nat.not_le, false_implies, true_implies, forall_const, ps_01, ps_1n, ps_0n, ps_m10, ps_m1n, lg_cmp_gt, lg_cmp_ge, lg_cmp_le, lg_cmp_lt, lg_cmp_eq, pu_rne, pu_req, pu_uro, RFc_n, Nat.reduceAdd, Nat.reduceMul, Nat.reduceLT, Nat.reduceLeDiff, Nat.reduceEqDiff, Nat.reduceSub]
  refine hP d _ i0 sc0 q0 cc S0 C hi1 hi0 hq0 hsc0 (fun r sc' S' hr hs' hl' hc' => ?_) (fun x sc' q' S' hx hl' => ?_)
  · obtain ⟨b1, b2, b3, b4⟩ := (hB i0 q0 hi0 hq0).1 r hr
    rw [hr] at hok0 her0
    have := hl 400 0 r.1 r.2.1 sc' S' r.2.2 none (by omega) (by omega) b2 (by omega) (by omega) b4 hs' hl' hc' hok0 her0
    simp only [↓r47_5, ↓r47_6, ↓r47_7, Bool.false_eq_true, hn, hn2, ht, hF, am_wt, am_wf, Option.isSome_some, am_rf_s, am_rf_n, ps_lit, nI_add, nI_1, pk_mul, ps_cl, ps_neg, ps_c0, ps_c1, ps_n01, ps_n11, ps_10, ps_b01, ps_e0, pu_Ine, pu_Ieq, pu_ne, pu_eq, am_k_n, am_k_i, am_k_r, am_k_u, am_k_l, am_sz_0, am_sz_i, am_sz_r, am_sz_u, am_sz_l, Option.toList_some, Option.toList_none, List.cons_append, List.nil_append, true_and, and_true, or_false, false_or, or_self, or_true, true_or, not_false_eq_true, not_true_eq_false, Classical.not_not, ne_eq, ps_e1, ps_em, ps_z, Nat.not_le, false_implies, true_implies, forall_const, ps_01, ps_1n, ps_0n, ps_m10, ps_m1n, lg_cmp_gt, lg_cmp_ge, lg_cmp_le, lg_cmp_lt, lg_cmp_eq, pu_rne, pu_req, pu_uro, RFc_n, Nat.reduceAdd, Nat.reduceMul, Nat.reduceLT, Nat.reduceLeDiff, Nat.reduceEqDiff, Nat.reduceSub]
    exact this
  · have hx1 := (hB i0 q0 hi0 hq0).2 x hx
    rw [hx] at her0
    have := bad x sc' q' 0 S' none (by omega) (her0 x sc' q' S' rfl hl')
    simp only [↓r47_5, ↓r47_6, ↓r47_7, Bool.false_eq_true, hn, hn2, ht, hF, am_wt, am_wf, Option.isSome_some, am_rf_s, am_rf_n, ps_lit, nI_add, nI_1, pk_mul, ps_cl, ps_neg, ps_c0, ps_c1, ps_n01, ps_n11, ps_10, ps_b01, ps_e0, pu_Ine, pu_Ieq, pu_ne, pu_eq, am_k_n, am_k_i, am_k_r, am_k_u, am_k_l, am_sz_0, am_sz_i, am_sz_r, am_sz_u, am_sz_l, Option.toList_some, Option.toList_none, List.cons_append, List.nil_append, true_and, and_true, or_false, false_or, or_self, or_true, true_or, not_false_eq_true, not_true_eq_false, Classical.not_not, ne_eq, ps_e1, ps_em, ps_z, Nat.not_le, false_implies, true_implies, forall_const, ps_01, ps_1n, ps_0n, ps_m10, ps_m1n, lg_cmp_gt, lg_cmp_ge, lg_cmp_le, lg_cmp_lt, lg_cmp_eq, pu_rne, pu_req, pu_uro, RFc_n, Nat.reduceAdd, Nat.reduceMul, Nat.reduceLT, Nat.reduceLeDiff, Nat.reduceEqDiff, Nat.reduceSub]
    exact this
theorem c_sumR (h : TKC X n sl t I J F tk tv pl kT en nm NT) : ∀ e dp, dp + e = 8 → KRd X (4 * e + 6) n sl t I J F pl kT en nm NT 47 [some (.ref 9), some (.int (nI dp)), none, none, none] (pSum tk tv e) CI := by
  have h0 := h.2.1.2
  have hBS : ∀ e P, sPr tk tv e = some P → BD NT P := fun e P hP => by
    cases e with
    | zero => cases hP
    | succ e => cases hP; exact BD_sum h0 e
  have st : ∀ k e dp, dp + e = 8 → (∀ e', e = e' + 1 → KRd X (k + 2) n sl t I J F pl kT en nm NT 47 [some (.ref 9), some (.int (nI (dp + 1))), none, none, none] (pSum tk tv e') CI) → KRd X (k + 6) n sl t I J F pl kT en nm NT 47 [some (.ref 9), some (.int (nI dp)), none, none, none] (pSum tk tv e) CI := by
    intro k e dp he hS
    rw [pSum_e]
    exact c_sum h (c_term h (c_part h he hS) (BD_part h0 (hBS e))) (BD_then h0 rfl (BD_part h0 (hBS e)))
  intro e
  induction e with
  | zero => intro dp he; exact st 0 0 dp he (fun e' h => by cases h)
  | succ e ih => intro dp he; exact st (4 * e + 4) (e + 1) dp he (fun e' h => by cases h; exact ih (dp + 1) (by omega))
end CS
