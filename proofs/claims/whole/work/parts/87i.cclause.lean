/-! TEXTS: the class reads clauses -/
section CV
variable {X : am_X} {d : Nat} {Q : Option Value → am_H → Prop} {n sl : Nat} {t : Nat → Nat × Nat} {I : Nat → Nat → Int32} {J : Nat → Nat → Int64} {F : Nat → Nat → Option Nat} {h : am_H}
variable {tk tv pl kT en nm : Nat → Nat} {NT : Nat} {i sc q cc : Nat} {S C : Nat → Int32}
theorem CLR_s {S S2 C C2 : Nat → Int32} {ls ls2 k : Nat} {c : CL} (h : CLR S ls C k c) (hl : ls ≤ ls2) (hS : ∀ j, j < ls → S2 j = S j) (hC : ∀ j, j < 4 * k + 4 → C2 j = C j) : CLR S2 ls2 C2 k c := by
  obtain ⟨a, b, e, ⟨r1, r2, r3⟩, ⟨q1, q2, q3, q4⟩, c1, c2, c3, c4⟩ := h
  refine ⟨a, b, e, ⟨r1, r2, by omega⟩, ⟨?_, ?_, ?_, ?_⟩, c1, fun h => CI_s (c2 h) (fun j _ hj => hS j (by omega)), c3, ?_⟩
  · rw [hC _ (by omega)]; exact q1
  · rw [hC _ (by omega)]; exact q2
  · rw [hC _ (by omega)]; exact q3
  · rw [hC _ (by omega)]; exact q4
  · rcases c4 with c | ⟨c, c5⟩
    · exact Or.inl c
    · exact Or.inr ⟨c, CB_s c5 (fun j _ hj => hS j (by omega))⟩
theorem LAWR_s {S S2 C C2 : Nat → Int32} {ls lc : Nat} {l : List CL} (h : LAWR S ls C lc l) (hS : ∀ j, j < ls → S2 j = S j) (hC : ∀ j, j < lc → C2 j = C j) : LAWR S2 ls C2 lc l := by
  obtain ⟨h1, h2, h3, h4⟩ := h
  exact ⟨h1, h2, h3, fun k hk => CLR_s (h4 k hk) (Nat.le_refl _) hS (fun j hj => hC j (by omega))⟩
theorem c_clauseR {k : Nat} (h : TKC X n sl t I J F tk tv pl kT en nm NT) (hk : k < 12) (hi : i ≤ NT) (hq : q ≤ 50) (hsc : sc ≤ i) (hok : ∀ r sc' S' C', pClause tk tv i q = .ok r → (∀ j, j < sc → S' j = S j) → sc ≤ sc' → sc' ≤ r.1 → i < r.1 ∧ r.1 ≤ NT ∧ r.2.1 ≤ 50 → (∀ j, j < 4 * k → C' j = C j) → CLR S' sc' C' k r.2.2 → Q (some (.int 1)) (n, sl, t, cR I kT pl en nm r.1 sc' r.2.1 cc S' C', J, F)) (her : ∀ x sc' q' S' C', pClause tk tv i q = .error x → Q (some (.int 0)) (n, sl, t, cR I kT pl en nm x sc' q' cc S' C', J, F)) : am_W X (d + 43) 44 0 [some (.ref 9), some (.int (nI (4 * k))), none] [] (n, sl, t, cR I kT pl en nm i sc q cc S C, J, F) Q := by
  have hW := h.1
  obtain ⟨hn, hn2, ht, hF⟩ := id hW
  obtain ⟨h1, h2⟩ := h.2.1
  have hk8 := (h.2.2.1 i hi).2.2.2.2.2.2.2
  have z : 4 * k < 2000000 ∧ 4 * k < 48 ∧ 4 * k + 1 < 2000000 ∧ 4 * k + 1 < 48 ∧ 4 * k + 2 < 2000000 ∧ 4 * k + 2 < 48 ∧ 4 * k + 3 < 2000000 ∧ 4 * k + 3 < 48 ∧ tk i - 1 < 2000000 ∧ 4 * k < 47 ∧ 4 * k < 46 ∧ 4 * k < 45 ∧ ¬ 44 < 4 * k := by omega
  have y : nI 48 - nI 4 = nI 44 := by decide
  have y2 : (0 ≤ nI (4 * k) ∧ nI (4 * k) ≤ nI 44) = True := ps_rngT (by omega) (by decide)
  unfold pClause at hok her
  by_cases ch : 1 ≤ tk i ∧ tk i ≤ 4
  · have hlt : i < NT := tok_lt h2 hi (by omega)
    -- behind the sum
    have behind : ∀ (D : DI) i' sc' q' (S' C' : Nat → Int32), i < i' → i' ≤ NT → q' ≤ 50 → sc ≤ sc' → sc' < i' → (∀ j, j < sc → S' j = S j) → (∀ j, j < 4 * k → C' j = C j) → C' (4 * k) = nI (tk i - 1) → C' (4 * k + 1) = nI sc → (tk i ≠ 4 → CI S' sc sc' 64 D) → (tk i = 4 → D = fun _ => some 0) → (∀ r sc' S' C', pIf tk tv (tk i) D i' q' = .ok r → (∀ j, j < sc → S' j = S j) → sc ≤ sc' → sc' ≤ r.1 → i < r.1 ∧ r.1 ≤ NT ∧ r.2.1 ≤ 50 → (∀ j, j < 4 * k → C' j = C j) → CLR S' sc' C' k r.2.2 → Q (some (.int 1)) (n, sl, t, cR I kT pl en nm r.1 sc' r.2.1 cc S' C', J, F)) → (∀ x sc' q'' S' C', pIf tk tv (tk i) D i' q' = .error x → Q (some (.int 0)) (n, sl, t, cR I kT pl en nm x sc' q'' cc S' C', J, F)) → am_W X (d + 43) 44 65 [some (.ref 9), some (.int (nI (4 * k))), some (.int (nI (tk i - 1)))] [] (n, sl, t, cR I kT pl en nm i' sc' q' cc S' C', J, F) Q := by
      intro D i' sc' q' S' C' hii hi' hq' hss hsi hS' hC' e0 e1 hD1 hD2 hok her
      unfold pIf at hok her
      have ck : ∀ v, ∀ j, j < 4 * k → upd C' (4 * k + 2) v j = C' j := fun v j hj => pu_ne (by omega)
      by_cases c5 : tk i' = 5
      · rw [if_pos c5] at hok her
        have hlt' : i' < NT := tok_lt h2 hi' (by omega)
        simp only [↓r44_65, ↓r44_66, ↓r44_69, ↓r44_70, ↓r44_71, ↓r44_72, ↓r44_73, ↓r44_76, ↓r44_77, ↓r44_78, ↓r44_80, ↓r44_83, ↓r44_86, ↓r44_87, ↓r44_90, ↓r44_91, ↓r44_92, ↓c_word1 (k := 18) h hi' (by decide) c5, ↓c_goOn h hlt', cR_9, q9_2, cR_c, z, Bool.false_eq_true, hn, hn2, ht, hF, am_wt, am_wf, Option.isSome_some, am_rf_s, am_rf_n, ps_lit, nI_add, nI_1, pk_mul, ps_cl, ps_neg, ps_c0, ps_c1, ps_n01, ps_n11, ps_10, ps_b01, ps_e0, pu_Ine, pu_Ieq, pu_ne, pu_eq, am_k_n, am_k_i, am_k_r, am_k_u, am_k_l, am_sz_0, am_sz_i, am_sz_r, am_sz_u, am_sz_l, Option.toList_some, Option.toList_none, List.cons_append, List.nil_append, true_and, and_true, or_false, false_or, or_self, or_true, true_or, not_false_eq_true, not_true_eq_false, Classical.not_not, ne_eq, ps_e1, ps_em, ps_z, Nat.not_le, false_implies, true_implies, forall_const, ps_01, ps_1n, ps_0n, ps_m10, ps_m1n, lg_cmp_gt, lg_cmp_ge, lg_cmp_le, lg_cmp_lt, lg_cmp_eq, pu_rne, pu_req, pu_uro, RFc_n, Nat.reduceAdd, Nat.reduceMul, Nat.reduceLT, Nat.reduceLeDiff, Nat.reduceEqDiff, Nat.reduceSub]
        refine c_testR h 8 0 rfl d _ (i' + 1) sc' q' cc S' _ (by omega) hlt' hq' (by omega) (fun r sc2 S2 hr hs hl hc => ?_) (fun x sc2 q2 S2 hx hl => ?_)
        · obtain ⟨b1, b2, b3, b4⟩ := (BD_test (tk := tk) (tv := tv) h2 8 (i' + 1) q' hlt' hq').1 r hr
          rw [hr] at hok
          dsimp only at hok
          have hlt2 := hc.1.1
          have := hok _ sc2 S2 (upd (upd C' (4 * k + 2) (nI sc')) (4 * k + 3) (nI sc2)) rfl (fun j hj => by rw [hs j (by omega)]; exact hS' j hj) (by omega) (by dsimp only; omega) ⟨by dsimp only; omega, b2, b4⟩ (fun j hj => by rw [pu_ne (by omega), pu_ne (by omega)]; exact hC' j hj) ⟨sc, sc', sc2, ⟨by omega, by omega, Nat.le_refl _⟩, ⟨by rw [pu_ne (by omega), pu_ne (by omega)]; exact e0, by rw [pu_ne (by omega), pu_ne (by omega)]; exact e1, by rw [pu_ne (by omega), pu_eq], pu_eq⟩, ch, fun h => CI_s (hD1 h) (fun j _ hj => hs j hj), hD2, Or.inr ⟨hlt2, CB_k hc (by omega)⟩⟩
          simp only [↓r44_95, ↓r44_98, ↓r44_99, ↓r44_100, ↓r44_101, ↓r44_104, ↓r44_105, ↓r44_106, ↓r44_107, ↓r44_108, ↓r44_111, ↓r44_112, ↓r44_113, cR_9, q9_2, cR_c, z, Bool.false_eq_true, hn, hn2, ht, hF, am_wt, am_wf, Option.isSome_some, am_rf_s, am_rf_n, ps_lit, nI_add, nI_1, pk_mul, ps_cl, ps_neg, ps_c0, ps_c1, ps_n01, ps_n11, ps_10, ps_b01, ps_e0, pu_Ine, pu_Ieq, pu_ne, pu_eq, am_k_n, am_k_i, am_k_r, am_k_u, am_k_l, am_sz_0, am_sz_i, am_sz_r, am_sz_u, am_sz_l, Option.toList_some, Option.toList_none, List.cons_append, List.nil_append, true_and, and_true, or_false, false_or, or_self, or_true, true_or, not_false_eq_true, not_true_eq_false, Classical.not_not, ne_eq, ps_e1, ps_em, ps_z, Nat.not_le, false_implies, true_implies, forall_const, ps_01, ps_1n, ps_0n, ps_m10, ps_m1n, lg_cmp_gt, lg_cmp_ge, lg_cmp_le, lg_cmp_lt, lg_cmp_eq, pu_rne, pu_req, pu_uro, RFc_n, Nat.reduceAdd, Nat.reduceMul, Nat.reduceLT, Nat.reduceLeDiff, Nat.reduceEqDiff, Nat.reduceSub]
          exact this
        · rw [hx] at her
          have := her x sc2 q2 S2 (upd C' (4 * k + 2) (nI sc')) rfl
          simp only [↓r44_95, ↓r44_98, ↓r44_99, Bool.false_eq_true, hn, hn2, ht, hF, am_wt, am_wf, Option.isSome_some, am_rf_s, am_rf_n, ps_lit, nI_add, nI_1, pk_mul, ps_cl, ps_neg, ps_c0, ps_c1, ps_n01, ps_n11, ps_10, ps_b01, ps_e0, pu_Ine, pu_Ieq, pu_ne, pu_eq, am_k_n, am_k_i, am_k_r, am_k_u, am_k_l, am_sz_0, am_sz_i, am_sz_r, am_sz_u, am_sz_l, Option.toList_some, Option.toList_none, List.cons_append, List.nil_append, true_and, and_true, or_false, false_or, or_self, or_true, true_or, not_false_eq_true, not_true_eq_false, Classical.not_not, ne_eq, ps_e1, ps_em, ps_z, Nat.not_le, false_implies, true_implies, forall_const, ps_01, ps_1n, ps_0n, ps_m10, ps_m1n, lg_cmp_gt, lg_cmp_ge, lg_cmp_le, lg_cmp_lt, lg_cmp_eq, pu_rne, pu_req, pu_uro, RFc_n, Nat.reduceAdd, Nat.reduceMul, Nat.reduceLT, Nat.reduceLeDiff, Nat.reduceEqDiff, Nat.reduceSub]
          exact this
      · rw [if_neg c5] at hok
        have := hok _ sc' S' (upd (upd C' (4 * k + 2) (nI sc')) (4 * k + 3) (nI sc')) rfl hS' hss (by dsimp only; omega) ⟨hii, hi', hq'⟩ (fun j hj => by rw [pu_ne (by omega), pu_ne (by omega)]; exact hC' j hj) ⟨sc, sc', sc', ⟨hss, Nat.le_refl _, Nat.le_refl _⟩, ⟨by rw [pu_ne (by omega), pu_ne (by omega)]; exact e0, by rw [pu_ne (by omega), pu_ne (by omega)]; exact e1, by rw [pu_ne (by omega), pu_eq], pu_eq⟩, ch, hD1, hD2, Or.inl ⟨rfl, rfl⟩⟩
        simp only [↓r44_65, ↓r44_66, ↓r44_69, ↓r44_70, ↓r44_71, ↓r44_72, ↓r44_73, ↓r44_76, ↓r44_77, ↓r44_78, ↓r44_80, ↓r44_83, ↓r44_100, ↓r44_101, ↓r44_104, ↓r44_105, ↓r44_106, ↓r44_107, ↓r44_108, ↓r44_111, ↓r44_112, ↓r44_113, ↓c_word0 (k := 18) h hi' (by decide) c5, cR_9, q9_2, cR_c, z, Bool.false_eq_true, hn, hn2, ht, hF, am_wt, am_wf, Option.isSome_some, am_rf_s, am_rf_n, ps_lit, nI_add, nI_1, pk_mul, ps_cl, ps_neg, ps_c0, ps_c1, ps_n01, ps_n11, ps_10, ps_b01, ps_e0, pu_Ine, pu_Ieq, pu_ne, pu_eq, am_k_n, am_k_i, am_k_r, am_k_u, am_k_l, am_sz_0, am_sz_i, am_sz_r, am_sz_u, am_sz_l, Option.toList_some, Option.toList_none, List.cons_append, List.nil_append, true_and, and_true, or_false, false_or, or_self, or_true, true_or, not_false_eq_true, not_true_eq_false, Classical.not_not, ne_eq, ps_e1, ps_em, ps_z, Nat.not_le, false_implies, true_implies, forall_const, ps_01, ps_1n, ps_0n, ps_m10, ps_m1n, lg_cmp_gt, lg_cmp_ge, lg_cmp_le, lg_cmp_lt, lg_cmp_eq, pu_rne, pu_req, pu_uro, RFc_n, Nat.reduceAdd, Nat.reduceMul, Nat.reduceLT, Nat.reduceLeDiff, Nat.reduceEqDiff, Nat.reduceSub]
        exact this
    have c0 : ∀ j, j < 4 * k → upd (upd C (4 * k) (nI (tk i - 1))) (4 * k + 1) (nI sc) j = C j := fun j hj => by rw [pu_ne (by omega), pu_ne (by omega)]
    have c00 : upd (upd C (4 * k) (nI (tk i - 1))) (4 * k + 1) (nI sc) (4 * k) = nI (tk i - 1) := by rw [pu_ne (by omega), pu_eq]
    by_cases c4 : tk i = 4
    · have n3 : ¬ (1 ≤ tk i ∧ tk i ≤ 3) := by omega
      rw [if_neg n3, if_pos c4] at hok her
      have := behind (fun _ => some 0) (i + 1) sc q S _ (by omega) hlt hq (Nat.le_refl _) (by omega) (fun _ _ => rfl) c0 c00 pu_eq (fun e => absurd c4 e) (fun _ => rfl) (by rw [c4]; exact hok) (by rw [c4]; exact her)
      have c4' : tk i - 1 = 3 := by omega
      rw [c4'] at this
      simp only [↓r44_0, ↓r44_1, ↓r44_4, ↓r44_5, ↓r44_6, ↓r44_7, ↓r44_10, ↓r44_11, ↓r44_12, ↓r44_13, ↓r44_16, ↓r44_16k, ↓r44_17, ↓r44_18, ↓r44_19, ↓r44_22, ↓r44_25, ↓r44_26, ↓r44_27, ↓r44_28, ↓r44_31, ↓r44_32, ↓r44_35, ↓r44_36, ↓r44_37, ↓r44_38, ↓r44_39, ↓r44_42, ↓r44_43, ↓r44_44, ↓r44_45, ↓r44_46, ↓r44_49, ↓r44_50, ↓r44_51, ↓r44_52, ↓c_headHere h hi, ↓c_goOn h hlt, ↓c_within, cR_9, q9_2, cR_c, q_le, q_lt, q_eq, q_e0, q_e1, q_0e, q_1e, ps_n0, q_0le, q_le0, q_0lt, q_m1e, q_em1, ch, c4', z, y, y2, if_true, Bool.false_eq_true, hn, hn2, ht, hF, am_wt, am_wf, Option.isSome_some, am_rf_s, am_rf_n, ps_lit, nI_add, nI_1, pk_mul, ps_cl, ps_neg, ps_c0, ps_c1, ps_n01, ps_n11, ps_10, ps_b01, ps_e0, pu_Ine, pu_Ieq, pu_ne, pu_eq, am_k_n, am_k_i, am_k_r, am_k_u, am_k_l, am_sz_0, am_sz_i, am_sz_r, am_sz_u, am_sz_l, Option.toList_some, Option.toList_none, List.cons_append, List.nil_append, true_and, and_true, or_false, false_or, or_self, or_true, true_or, not_false_eq_true, not_true_eq_false, Classical.not_not, ne_eq, ps_e1, ps_em, ps_z, Nat.not_le, false_implies, true_implies, forall_const, ps_01, ps_1n, ps_0n, ps_m10, ps_m1n, lg_cmp_gt, lg_cmp_ge, lg_cmp_le, lg_cmp_lt, lg_cmp_eq, pu_rne, pu_req, pu_uro, RFc_n, Nat.reduceAdd, Nat.reduceMul, Nat.reduceLT, Nat.reduceLeDiff, Nat.reduceEqDiff, Nat.reduceSub]
      exact this
    · have n3 : 1 ≤ tk i ∧ tk i ≤ 3 := by omega
      rw [if_pos n3] at hok her
      have c4' : ¬ tk i - 1 = 3 := by omega
      simp only [↓r44_0, ↓r44_1, ↓r44_4, ↓r44_5, ↓r44_6, ↓r44_7, ↓r44_10, ↓r44_11, ↓r44_12, ↓r44_13, ↓r44_16, ↓r44_16k, ↓r44_17, ↓r44_18, ↓r44_19, ↓r44_22, ↓r44_25, ↓r44_26, ↓r44_27, ↓r44_28, ↓r44_31, ↓r44_32, ↓r44_35, ↓r44_36, ↓r44_37, ↓r44_38, ↓r44_39, ↓r44_42, ↓r44_43, ↓r44_44, ↓r44_45, ↓r44_46, ↓r44_49, ↓r44_50, ↓r44_51, ↓r44_52, ↓r44_55, ↓r44_56, ↓r44_57, ↓c_headHere h hi, ↓c_goOn h hlt, ↓c_within, cR_9, q9_2, cR_c, q_le, q_lt, q_eq, q_e0, q_e1, q_0e, q_1e, ps_n0, q_0le, q_le0, q_0lt, q_m1e, q_em1, ch, c4', z, y, y2, if_true, Bool.false_eq_true, hn, hn2, ht, hF, am_wt, am_wf, Option.isSome_some, am_rf_s, am_rf_n, ps_lit, nI_add, nI_1, pk_mul, ps_cl, ps_neg, ps_c0, ps_c1, ps_n01, ps_n11, ps_10, ps_b01, ps_e0, pu_Ine, pu_Ieq, pu_ne, pu_eq, am_k_n, am_k_i, am_k_r, am_k_u, am_k_l, am_sz_0, am_sz_i, am_sz_r, am_sz_u, am_sz_l, Option.toList_some, Option.toList_none, List.cons_append, List.nil_append, true_and, and_true, or_false, false_or, or_self, or_true, true_or, not_false_eq_true, not_true_eq_false, Classical.not_not, ne_eq, ps_e1, ps_em, ps_z, Nat.not_le, false_implies, true_implies, forall_const, ps_01, ps_1n, ps_0n, ps_m10, ps_m1n, lg_cmp_gt, lg_cmp_ge, lg_cmp_le, lg_cmp_lt, lg_cmp_eq, pu_rne, pu_req, pu_uro, RFc_n, Nat.reduceAdd, Nat.reduceMul, Nat.reduceLT, Nat.reduceLeDiff, Nat.reduceEqDiff, Nat.reduceSub]
      refine c_sumR h 8 0 rfl (d + 4) _ (i + 1) sc q cc S _ (by omega) hlt hq (by omega) (fun r sc2 S2 hr hs hl hc => ?_) (fun x sc2 q2 S2 hx hl => ?_)
      · obtain ⟨b1, b2, b3, b4⟩ := (BD_sum (tk := tk) (tv := tv) h2 8 (i + 1) q hlt hq).1 r hr
        rw [hr] at hok her
        dsimp only at hok her
        have hlt2 := hc.1.1
        have := behind r.2.2 r.1 sc2 r.2.1 S2 _ (by omega) b2 b4 (by omega) (by omega) hs c0 c00 pu_eq (fun _ => CI_k hc (by omega)) (fun e => absurd e c4) hok her
        simp only [↓r44_60, Bool.false_eq_true, hn, hn2, ht, hF, am_wt, am_wf, Option.isSome_some, am_rf_s, am_rf_n, ps_lit, nI_add, nI_1, pk_mul, ps_cl, ps_neg, ps_c0, ps_c1, ps_n01, ps_n11, ps_10, ps_b01, ps_e0, pu_Ine, pu_Ieq, pu_ne, pu_eq, am_k_n, am_k_i, am_k_r, am_k_u, am_k_l, am_sz_0, am_sz_i, am_sz_r, am_sz_u, am_sz_l, Option.toList_some, Option.toList_none, List.cons_append, List.nil_append, true_and, and_true, or_false, false_or, or_self, or_true, true_or, not_false_eq_true, not_true_eq_false, Classical.not_not, ne_eq, ps_e1, ps_em, ps_z, Nat.not_le, false_implies, true_implies, forall_const, ps_01, ps_1n, ps_0n, ps_m10, ps_m1n, lg_cmp_gt, lg_cmp_ge, lg_cmp_le, lg_cmp_lt, lg_cmp_eq, pu_rne, pu_req, pu_uro, RFc_n, Nat.reduceAdd, Nat.reduceMul, Nat.reduceLT, Nat.reduceLeDiff, Nat.reduceEqDiff, Nat.reduceSub]
        exact this
      · rw [hx] at her
        have := her x sc2 q2 S2 (upd (upd C (4 * k) (nI (tk i - 1))) (4 * k + 1) (nI sc)) rfl
        simp only [↓r44_60, ↓r44_63, ↓r44_64, Bool.false_eq_true, hn, hn2, ht, hF, am_wt, am_wf, Option.isSome_some, am_rf_s, am_rf_n, ps_lit, nI_add, nI_1, pk_mul, ps_cl, ps_neg, ps_c0, ps_c1, ps_n01, ps_n11, ps_10, ps_b01, ps_e0, pu_Ine, pu_Ieq, pu_ne, pu_eq, am_k_n, am_k_i, am_k_r, am_k_u, am_k_l, am_sz_0, am_sz_i, am_sz_r, am_sz_u, am_sz_l, Option.toList_some, Option.toList_none, List.cons_append, List.nil_append, true_and, and_true, or_false, false_or, or_self, or_true, true_or, not_false_eq_true, not_true_eq_false, Classical.not_not, ne_eq, ps_e1, ps_em, ps_z, Nat.not_le, false_implies, true_implies, forall_const, ps_01, ps_1n, ps_0n, ps_m10, ps_m1n, lg_cmp_gt, lg_cmp_ge, lg_cmp_le, lg_cmp_lt, lg_cmp_eq, pu_rne, pu_req, pu_uro, RFc_n, Nat.reduceAdd, Nat.reduceMul, Nat.reduceLT, Nat.reduceLeDiff, Nat.reduceEqDiff, Nat.reduceSub]
        exact this
  · have n3 : ¬ (1 ≤ tk i ∧ tk i ≤ 3) := by omega
    have n4 : ¬ tk i = 4 := by omega
    rw [if_neg n3, if_neg n4] at her
    have := her i sc q S C rfl
    simp only [↓r44_0, ↓r44_1, ↓r44_4, ↓r44_5, ↓r44_6, ↓r44_7, ↓r44_10, ↓r44_11, ↓r44_12, ↓r44_13, ↓r44_16, ↓r44_16k, ↓r44_17, ↓r44_18, ↓r44_19, ↓r44_22, ↓r44_25, ↓r44_26, ↓c_headHere h hi, ch, if_false, Bool.false_eq_true, hn, hn2, ht, hF, am_wt, am_wf, Option.isSome_some, am_rf_s, am_rf_n, ps_lit, nI_add, nI_1, pk_mul, ps_cl, ps_neg, ps_c0, ps_c1, ps_n01, ps_n11, ps_10, ps_b01, ps_e0, pu_Ine, pu_Ieq, pu_ne, pu_eq, am_k_n, am_k_i, am_k_r, am_k_u, am_k_l, am_sz_0, am_sz_i, am_sz_r, am_sz_u, am_sz_l, Option.toList_some, Option.toList_none, List.cons_append, List.nil_append, true_and, and_true, or_false, false_or, or_self, or_true, true_or, not_false_eq_true, not_true_eq_false, Classical.not_not, ne_eq, ps_e1, ps_em, ps_z, Nat.not_le, false_implies, true_implies, forall_const, ps_01, ps_1n, ps_0n, ps_m10, ps_m1n, lg_cmp_gt, lg_cmp_ge, lg_cmp_le, lg_cmp_lt, lg_cmp_eq, pu_rne, pu_req, pu_uro, RFc_n, Nat.reduceAdd, Nat.reduceMul, Nat.reduceLT, Nat.reduceLeDiff, Nat.reduceEqDiff, Nat.reduceSub]
    exact this
theorem c_clauses (h : TKC X n sl t I J F tk tv pl kT en nm NT) (hok : ∀ l sc' q' S' C', pText tk tv NT = .ok l → LAWR S' sc' C' (4 * l.length) l → Q (some (.int 1)) (n, sl, t, cR I kT pl en nm NT sc' q' l.length S' C', J, F)) (her : ∀ x sc' q' cc' S' C', pText tk tv NT = .error x → Q (some (.int 0)) (n, sl, t, cR I kT pl en nm x sc' q' cc' S' C', J, F)) : am_W X (d + 44) 43 0 [some (.ref 9), none] [] (n, sl, t, cR I kT pl en nm 0 0 0 cc S C, J, F) Q := by
  have hW := h.1
  obtain ⟨hn, hn2, ht, hF⟩ := id hW
  obtain ⟨h1, h2⟩ := h.2.1
  have hl : ∀ g u i q sc cc (S C : Nat → Int32) (l : List CL), u + g = 12 → l.length = u → i ≤ NT → q ≤ 50 → sc ≤ i → (∀ k (hk : k < l.length), CLR S sc C k l[k]) → (∀ l' sc' q' S' C', pCls tk tv NT g i q l = .ok l' → LAWR S' sc' C' (4 * l'.length) l' → Q (some (.int 1)) (n, sl, t, cR I kT pl en nm NT sc' q' l'.length S' C', J, F)) → (∀ x sc' q' cc' S' C', pCls tk tv NT g i q l = .error x → Q (some (.int 0)) (n, sl, t, cR I kT pl en nm x sc' q' cc' S' C', J, F)) → am_W X (d + 44) 43 2 [some (.ref 9), some (.int (nI u))] [] (n, sl, t, cR I kT pl en nm i sc q cc S C, J, F) Q := by
    intro g
    induction g with
    | zero =>
      intro u i q sc cc S C l hu hlu hi hq hsc hC hok her
      have eu : u = 12 := by omega
      subst eu
      have := her i sc q cc S C rfl
      rw [r43_2]
      simp only [↓r43_3, ↓r43_5, ↓r43_57, ↓r43_58, q_le, q_lt, q_eq, q_e0, q_e1, q_0e, q_1e, ps_n0, q_0le, q_le0, q_0lt, q_m1e, q_em1, Bool.false_eq_true, hn, hn2, ht, hF, am_wt, am_wf, Option.isSome_some, am_rf_s, am_rf_n, ps_lit, nI_add, nI_1, pk_mul, ps_cl, ps_neg, ps_c0, ps_c1, ps_n01, ps_n11, ps_10, ps_b01, ps_e0, pu_Ine, pu_Ieq, pu_ne, pu_eq, am_k_n, am_k_i, am_k_r, am_k_u, am_k_l, am_sz_0, am_sz_i, am_sz_r, am_sz_u, am_sz_l, Option.toList_some, Option.toList_none, List.cons_append, List.nil_append, true_and, and_true, or_false, false_or, or_self, or_true, true_or, not_false_eq_true, not_true_eq_false, Classical.not_not, ne_eq, ps_e1, ps_em, ps_z, Nat.not_le, false_implies, true_implies, forall_const, ps_01, ps_1n, ps_0n, ps_m10, ps_m1n, lg_cmp_gt, lg_cmp_ge, lg_cmp_le, lg_cmp_lt, lg_cmp_eq, pu_rne, pu_req, pu_uro, RFc_n, Nat.reduceAdd, Nat.reduceMul, Nat.reduceLT, Nat.reduceLeDiff, Nat.reduceEqDiff, Nat.reduceSub]
      exact this
    | succ g ih =>
      intro u i q sc cc S C l hu hlu hi hq hsc hC hok her
      rw [pCls] at hok her
      have zu : u < 2000000 := by omega
      have zu2 : ¬ 12 ≤ u := by omega
      have em : nI u * nI 4 = nI (4 * u) := by rw [Nat.mul_comm]; exact (Int32.ofNat_mul u 4).symm
      rw [r43_2]
      simp only [↓r43_3, ↓r43_5, ↓r43_8, ↓r43_9, ↓r43_10, ↓r43_11, ↓r43_12, q_le, q_lt, q_eq, q_e0, q_e1, q_0e, q_1e, ps_n0, q_0le, q_le0, q_0lt, q_m1e, q_em1, zu, zu2, em, Bool.false_eq_true, hn, hn2, ht, hF, am_wt, am_wf, Option.isSome_some, am_rf_s, am_rf_n, ps_lit, nI_add, nI_1, pk_mul, ps_cl, ps_neg, ps_c0, ps_c1, ps_n01, ps_n11, ps_10, ps_b01, ps_e0, pu_Ine, pu_Ieq, pu_ne, pu_eq, am_k_n, am_k_i, am_k_r, am_k_u, am_k_l, am_sz_0, am_sz_i, am_sz_r, am_sz_u, am_sz_l, Option.toList_some, Option.toList_none, List.cons_append, List.nil_append, true_and, and_true, or_false, false_or, or_self, or_true, true_or, not_false_eq_true, not_true_eq_false, Classical.not_not, ne_eq, ps_e1, ps_em, ps_z, Nat.not_le, false_implies, true_implies, forall_const, ps_01, ps_1n, ps_0n, ps_m10, ps_m1n, lg_cmp_gt, lg_cmp_ge, lg_cmp_le, lg_cmp_lt, lg_cmp_eq, pu_rne, pu_req, pu_uro, RFc_n, Nat.reduceAdd, Nat.reduceMul, Nat.reduceLT, Nat.reduceLeDiff, Nat.reduceEqDiff, Nat.reduceSub]
      refine c_clauseR h (show u < 12 by omega) hi hq hsc (fun r sc' S' C' hr hS' hss hsr hrb hC' hcl => ?_) (fun x sc' q' S' C' hx => ?_)
      · rw [hr] at hok her
        dsimp only at hok her
        obtain ⟨rb1, rb2, rb3⟩ := hrb
        have hkt := (h.2.2.1 r.1 rb2).2.1
        have hk4 := (h.2.2.1 r.1 rb2).2.2.2.1
        have zk : kT r.1 < 2000000 := by omega
        have hlen : (l ++ [r.2.2]).length = u + 1 := by rw [List.length_append, hlu]; rfl
        have hall : ∀ k (hk : k < (l ++ [r.2.2]).length), CLR S' sc' C' k (l ++ [r.2.2])[k] := by
          intro k hk
          by_cases c : k < l.length
          · rw [List.getElem_append_left c]
            exact CLR_s (hC k c) hss hS' (fun j hj => hC' j (by omega))
          · have ek : k = l.length := by omega
            subst ek
            rw [List.getElem_append_right (Nat.le_refl _)]
            simp only [Nat.sub_self, List.getElem_cons_zero]
            rw [hlu]
            exact hcl
        by_cases c1 : r.1 = NT
        · rw [if_pos c1] at hok
          have ck : kT r.1 = 0 := hkt.2 c1
          have := hok _ sc' r.2.1 S' C' rfl ⟨by omega, ⟨by omega, by omega⟩, rfl, hall⟩
          rw [hlen, ← c1] at this
          simp only [↓r43_15, ↓r43_18, ↓r43_19, ↓r43_20, ↓r43_21, ↓r43_22, ↓r43_23, ↓r43_24, ↓r43_27, ↓r43_28, ↓r43_31, ↓r43_34, ↓r43_35, cR_u3, cR_9, q9_6, q_le, q_lt, q_eq, q_e0, q_e1, q_0e, q_1e, ps_n0, q_0le, q_le0, q_0lt, q_m1e, q_em1, ck, Bool.false_eq_true, hn, hn2, ht, hF, am_wt, am_wf, Option.isSome_some, am_rf_s, am_rf_n, ps_lit, nI_add, nI_1, pk_mul, ps_cl, ps_neg, ps_c0, ps_c1, ps_n01, ps_n11, ps_10, ps_b01, ps_e0, pu_Ine, pu_Ieq, pu_ne, pu_eq, am_k_n, am_k_i, am_k_r, am_k_u, am_k_l, am_sz_0, am_sz_i, am_sz_r, am_sz_u, am_sz_l, Option.toList_some, Option.toList_none, List.cons_append, List.nil_append, true_and, and_true, or_false, false_or, or_self, or_true, true_or, not_false_eq_true, not_true_eq_false, Classical.not_not, ne_eq, ps_e1, ps_em, ps_z, Nat.not_le, false_implies, true_implies, forall_const, ps_01, ps_1n, ps_0n, ps_m10, ps_m1n, lg_cmp_gt, lg_cmp_ge, lg_cmp_le, lg_cmp_lt, lg_cmp_eq, pu_rne, pu_req, pu_uro, RFc_n, Nat.reduceAdd, Nat.reduceMul, Nat.reduceLT, Nat.reduceLeDiff, Nat.reduceEqDiff, Nat.reduceSub]
          exact this
        · rw [if_neg c1] at hok her
          have ck : ¬ kT r.1 = 0 := fun e => c1 (hkt.1 e)
          by_cases c2 : tk r.1 = 159
          · rw [if_pos c2] at hok her
            have hlt : r.1 < NT := tok_lt h2 rb2 (by omega)
            have := ih (u + 1) (r.1 + 1) r.2.1 sc' (u + 1) S' C' (l ++ [r.2.2]) (by omega) hlen hlt rb3 (by omega) hall hok her
            simp only [↓r43_15, ↓r43_18, ↓r43_19, ↓r43_20, ↓r43_21, ↓r43_22, ↓r43_23, ↓r43_24, ↓r43_27, ↓r43_28, ↓r43_31, ↓r43_34, ↓r43_35, ↓r43_36, ↓r43_37, ↓r43_39, ↓r43_42, ↓r43_45, ↓r43_46, ↓r43_47, ↓r43_48, ↓r43_51, ↓r43_54, ↓c_sign1 h rb2 (show 59 < 200 by decide) c2, ↓c_goOn h hlt, cR_u3, cR_9, q9_6, q_le, q_lt, q_eq, q_e0, q_e1, q_0e, q_1e, ps_n0, q_0le, q_le0, q_0lt, q_m1e, q_em1, zk, ck, Bool.false_eq_true, hn, hn2, ht, hF, am_wt, am_wf, Option.isSome_some, am_rf_s, am_rf_n, ps_lit, nI_add, nI_1, pk_mul, ps_cl, ps_neg, ps_c0, ps_c1, ps_n01, ps_n11, ps_10, ps_b01, ps_e0, pu_Ine, pu_Ieq, pu_ne, pu_eq, am_k_n, am_k_i, am_k_r, am_k_u, am_k_l, am_sz_0, am_sz_i, am_sz_r, am_sz_u, am_sz_l, Option.toList_some, Option.toList_none, List.cons_append, List.nil_append, true_and, and_true, or_false, false_or, or_self, or_true, true_or, not_false_eq_true, not_true_eq_false, Classical.not_not, ne_eq, ps_e1, ps_em, ps_z, Nat.not_le, false_implies, true_implies, forall_const, ps_01, ps_1n, ps_0n, ps_m10, ps_m1n, lg_cmp_gt, lg_cmp_ge, lg_cmp_le, lg_cmp_lt, lg_cmp_eq, pu_rne, pu_req, pu_uro, RFc_n, Nat.reduceAdd, Nat.reduceMul, Nat.reduceLT, Nat.reduceLeDiff, Nat.reduceEqDiff, Nat.reduceSub]
            exact this
          · rw [if_neg c2] at her
            have := her _ sc' r.2.1 (u + 1) S' C' rfl
            simp only [↓r43_15, ↓r43_18, ↓r43_19, ↓r43_20, ↓r43_21, ↓r43_22, ↓r43_23, ↓r43_24, ↓r43_27, ↓r43_28, ↓r43_31, ↓r43_34, ↓r43_35, ↓r43_36, ↓r43_37, ↓r43_39, ↓r43_42, ↓r43_45, ↓r43_46, ↓c_sign0 h rb2 (show 59 < 200 by decide) c2, cR_u3, cR_9, q9_6, q_le, q_lt, q_eq, q_e0, q_e1, q_0e, q_1e, ps_n0, q_0le, q_le0, q_0lt, q_m1e, q_em1, zk, ck, Bool.false_eq_true, hn, hn2, ht, hF, am_wt, am_wf, Option.isSome_some, am_rf_s, am_rf_n, ps_lit, nI_add, nI_1, pk_mul, ps_cl, ps_neg, ps_c0, ps_c1, ps_n01, ps_n11, ps_10, ps_b01, ps_e0, pu_Ine, pu_Ieq, pu_ne, pu_eq, am_k_n, am_k_i, am_k_r, am_k_u, am_k_l, am_sz_0, am_sz_i, am_sz_r, am_sz_u, am_sz_l, Option.toList_some, Option.toList_none, List.cons_append, List.nil_append, true_and, and_true, or_false, false_or, or_self, or_true, true_or, not_false_eq_true, not_true_eq_false, Classical.not_not, ne_eq, ps_e1, ps_em, ps_z, Nat.not_le, false_implies, true_implies, forall_const, ps_01, ps_1n, ps_0n, ps_m10, ps_m1n, lg_cmp_gt, lg_cmp_ge, lg_cmp_le, lg_cmp_lt, lg_cmp_eq, pu_rne, pu_req, pu_uro, RFc_n, Nat.reduceAdd, Nat.reduceMul, Nat.reduceLT, Nat.reduceLeDiff, Nat.reduceEqDiff, Nat.reduceSub]
            exact this
      · rw [hx] at her
        have := her x sc' q' cc S' C' rfl
        simp only [↓r43_15, ↓r43_18, ↓r43_19, Bool.false_eq_true, hn, hn2, ht, hF, am_wt, am_wf, Option.isSome_some, am_rf_s, am_rf_n, ps_lit, nI_add, nI_1, pk_mul, ps_cl, ps_neg, ps_c0, ps_c1, ps_n01, ps_n11, ps_10, ps_b01, ps_e0, pu_Ine, pu_Ieq, pu_ne, pu_eq, am_k_n, am_k_i, am_k_r, am_k_u, am_k_l, am_sz_0, am_sz_i, am_sz_r, am_sz_u, am_sz_l, Option.toList_some, Option.toList_none, List.cons_append, List.nil_append, true_and, and_true, or_false, false_or, or_self, or_true, true_or, not_false_eq_true, not_true_eq_false, Classical.not_not, ne_eq, ps_e1, ps_em, ps_z, Nat.not_le, false_implies, true_implies, forall_const, ps_01, ps_1n, ps_0n, ps_m10, ps_m1n, lg_cmp_gt, lg_cmp_ge, lg_cmp_le, lg_cmp_lt, lg_cmp_eq, pu_rne, pu_req, pu_uro, RFc_n, Nat.reduceAdd, Nat.reduceMul, Nat.reduceLT, Nat.reduceLeDiff, Nat.reduceEqDiff, Nat.reduceSub]
        exact this
  have := hl 12 0 0 0 0 cc S C [] rfl rfl (Nat.zero_le _) (by omega) (Nat.le_refl _) (fun k hk => absurd hk (Nat.not_lt_zero _)) hok her
  simp only [↓r43_0, ↓r43_1, Bool.false_eq_true, hn, hn2, ht, hF, am_wt, am_wf, Option.isSome_some, am_rf_s, am_rf_n, ps_lit, nI_add, nI_1, pk_mul, ps_cl, ps_neg, ps_c0, ps_c1, ps_n01, ps_n11, ps_10, ps_b01, ps_e0, pu_Ine, pu_Ieq, pu_ne, pu_eq, am_k_n, am_k_i, am_k_r, am_k_u, am_k_l, am_sz_0, am_sz_i, am_sz_r, am_sz_u, am_sz_l, Option.toList_some, Option.toList_none, List.cons_append, List.nil_append, true_and, and_true, or_false, false_or, or_self, or_true, true_or, not_false_eq_true, not_true_eq_false, Classical.not_not, ne_eq, ps_e1, ps_em, ps_z, Nat.not_le, false_implies, true_implies, forall_const, ps_01, ps_1n, ps_0n, ps_m10, ps_m1n, lg_cmp_gt, lg_cmp_ge, lg_cmp_le, lg_cmp_lt, lg_cmp_eq, pu_rne, pu_req, pu_uro, RFc_n, Nat.reduceAdd, Nat.reduceMul, Nat.reduceLT, Nat.reduceLeDiff, Nat.reduceEqDiff, Nat.reduceSub]
  exact this
end CV
