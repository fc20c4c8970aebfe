/-! calls, one on each side: chance, waits -/
section CH2
variable {X : am_X} {d : Nat} {Q : Option Value → am_H → Prop} {n sl : Nat} {t : Nat → Nat × Nat} {I : Nat → Nat → Int32} {J : Nat → Nat → Int64} {F : Nat → Nat → Option Nat} {h : am_H}
variable {K : Nat → Int32} {N T : Nat} {lw : Nat → List CL}
theorem isT_c {x : Int32} (hT : T ≤ 10) (h : 0 ≤ x ∧ x ≤ nI T - 1) : ∃ j, j < T ∧ x = nI j := ps_chE (by omega) h
theorem m_isText1 {j : Nat} (hC : CX n t I F K N T lw) (hj : j < T) : am_W X (d + 1) 217 0 [some (.ref 47), some (.int (nI j))] [] (n, sl, t, I, J, F) Q ↔ Q (some (.int 1)) (n, sl, t, I, J, F) := by
  obtain ⟨hW, ⟨hN, hT, hKN, hKT, hRW, hTW⟩, h49, _, _⟩ := hC
  rw [s_isText hW, h49, hKT, if_pos (by rw [ps_chT hj (by omega)]; trivial)]
theorem m_isText0 {x : Int32} (hC : CX n t I F K N T lw) (hx : ¬ (0 ≤ x ∧ x ≤ nI T - 1)) : am_W X (d + 1) 217 0 [some (.ref 47), some (.int x)] [] (n, sl, t, I, J, F) Q ↔ Q (some (.int 0)) (n, sl, t, I, J, F) := by
  obtain ⟨hW, ⟨hN, hT, hKN, hKT, hRW, hTW⟩, h49, _, _⟩ := hC
  rw [s_isText hW, h49, hKT, if_neg hx]
theorem m_isChild1 {c : Nat} (hC : CX n t I F K N T lw) (hc : c < N) : am_W X (d + 1) 177 0 [some (.ref 47), some (.int (nI c))] [] (n, sl, t, I, J, F) Q ↔ Q (some (.int 1)) (n, sl, t, I, J, F) := by
  obtain ⟨hW, ⟨hN, hT, hKN, hKT, hRW, hTW⟩, h49, _, _⟩ := hC
  rw [s_isChild hW, h49, hKN, if_pos (by rw [ps_chT hc (by omega)]; trivial)]
theorem m_isChild0 {x : Int32} (hC : CX n t I F K N T lw) (hx : ¬ (0 ≤ x ∧ x ≤ nI N - 1)) : am_W X (d + 1) 177 0 [some (.ref 47), some (.int x)] [] (n, sl, t, I, J, F) Q ↔ Q (some (.int 0)) (n, sl, t, I, J, F) := by
  obtain ⟨hW, ⟨hN, hT, hKN, hKT, hRW, hTW⟩, h49, _, _⟩ := hC
  rw [s_isChild hW, h49, hKN, if_neg hx]
theorem k_has1 {c : Nat} (hC : CX n t I F K N T lw) (hc : c < N) : am_W X (d + 1) 18 0 [some (.ref 1), some (.int (nI c))] [] (n, sl, t, I, J, F) Q ↔ Q (some (.int 1)) (n, sl, t, I, J, F) := by
  obtain ⟨hW, ⟨hN, _⟩, _, ⟨hs, _⟩, _⟩ := hC
  rw [c_has hW, hs, if_pos (by rw [ps_chT hc (by omega)]; trivial)]
theorem k_has0 {x : Int32} (hC : CX n t I F K N T lw) (hx : ¬ (0 ≤ x ∧ x ≤ nI N - 1)) : am_W X (d + 1) 18 0 [some (.ref 1), some (.int x)] [] (n, sl, t, I, J, F) Q ↔ Q (some (.int 0)) (n, sl, t, I, J, F) := by
  obtain ⟨hW, ⟨hN, _⟩, _, ⟨hs, _⟩, _⟩ := hC
  rw [c_has hW, hs, if_neg hx]
theorem k_law1 {j a : Nat} (hC : CX n t I F K N T lw) (hj : j < T) (ha : F 5 j = some a) : am_W X (d + 1) 67 0 [some (.ref 1), some (.int (nI j))] [] (n, sl, t, I, J, F) Q ↔ Q (some (.ref a)) (n, sl, t, I, J, F) := c_lawAt hC.1 hC.2.1.2.1 hC.2.2.2.1.2.1 hj ha
theorem k_law0 {x : Int32} (hC : CX n t I F K N T lw) (hx : ¬ (0 ≤ x ∧ x ≤ nI T - 1)) : am_W X (d + 1) 67 0 [some (.ref 1), some (.int x)] [] (n, sl, t, I, J, F) Q ↔ Q (some .null) (n, sl, t, I, J, F) := c_lawAt0 hC.1 hC.2.2.2.1.2.1 hx
theorem SC_47c {f47 f58 : Nat → Int32} (q1 : ∀ k, k ≠ 17 → k ≠ 18 → k ≠ 19 → k ≠ 22 → f47 k = I 47 k) : SC I (am_ro (am_ro I 47 f47) 58 f58) :=
  SC_o (SC_47 (fun k hk => q1 k (by omega) (by omega) (by omega) (by omega))) (fun _ => rfl)
/-- the words of a child as the class has asked it -/
theorem ask_w {I' : Nat → Nat → Int32} {c mi k : Nat} {f : Nat → Int32} (hC : CX n t I F K N T lw) (hc : c < N) (h2 : ∀ j, j < 15 * N → f j = K j) (hk : k < 11) (h9 : k ≠ 9) : upd (va_cpy f (I' 13) (15 * c) 0 10) 10 0 (pw k) = wd K c (nI mi) k := by
  rw [ask_r _ _ _ _ hk]
  unfold wd
  by_cases k1 : k < 9
  · rw [if_pos k1, if_pos k1, h2 _ (by omega)]
  · rw [if_neg k1, if_neg k1, if_neg h9, if_neg h9, h2 _ (by omega)]
theorem pr_chance {x c w : Int32} {i : Nat} (hX : XS X) (hi : i < 600) (hV : Inv i (n, sl, t, I, J, F)) : PR X i 95 250 [some (.ref 0), some (.int x), some (.int c), some (.int w), none] [some (.ref 47), some (.int x), some (.int c), some (.int w)] (n, sl, t, I, J, F) := by
  obtain ⟨N, T, lw, hC⟩ := CX_of hV; obtain ⟨hW, hK, _, ⟨hs, hc, hr, hu, hm⟩, hl⟩ := id hC; have hN := hK.1; obtain ⟨hn, hn2, ht, hF⟩ := id hW
  have hT := hK.2.1
  by_cases h1 : 0 ≤ x ∧ x ≤ nI T - 1
  · obtain ⟨j, hj, rfl⟩ := isT_c hT h1
    obtain ⟨a, ea, a1, a2, ta, hb⟩ := CX_law hC hj
    by_cases h2 : 0 ≤ c ∧ c ≤ nI N - 1
    · obtain ⟨k, hk, rfl⟩ := ps_chE (by omega) h2
      by_cases h3 : 0 ≤ w ∧ w ≤ nI 19
      · obtain ⟨mi, hmi, rfl⟩ := ps_rng (by decide) h3
        refine PR_ask (v := nI (chV (lw j) (wd (I 49) k (nI mi)))) hi hV ?_ ?_
        · intro Q hQ
          have e1 := fun Q => c_ask (X := X) (d := 57) (Q := Q) (sl := sl) (J := J) (I := I) (c := k) hW (by omega)
          simp only [↓r95_0, ↓r95_1, ↓r95_4, ↓r95_5, ↓r95_8, ↓r95_8n, ↓r95_10, ↓r95_10n, ↓r95_12, ↓r95_12n, ↓r95_15, ↓r95_16, ↓r95_19, ↓r95_20, ↓r95_23, ↓r95_26, ↓r95_27, ↓r95_28, ↓r95_30, ↓r95_33, ↓r95_36, ↓r95_37, ↓r95_38, ↓r95_39, ↓r95_42, ↓r95_43, ↓r95_46, ↓r95_49, ↓r95_50, ↓r95_53, ↓r95_54, ↓r95_57, ↓r95_57n, ↓r95_59, ↓r95_60, ↓k_law1 hC hj ea, ↓k_has1 hC hk, ↓c_within, ↓e1, h3, a2, ta, and_self, if_true, Bool.false_eq_true, hn, hn2, ht, hF, am_wt, am_wf, Option.isSome_some, am_rf_s, am_rf_n, ps_lit, nI_add, nI_1, pk_mul, ps_cl, ps_neg, ps_c0, ps_c1, ps_n01, ps_n11, ps_10, ps_b01, ps_e0, pu_Ine, pu_Ieq, pu_ne, pu_eq, am_k_n, am_k_i, am_k_r, am_k_u, am_k_l, am_sz_0, am_sz_i, am_sz_r, am_sz_u, am_sz_l, Option.toList_some, Option.toList_none, List.cons_append, List.nil_append, true_and, and_true, or_false, false_or, or_self, or_true, true_or, not_false_eq_true, not_true_eq_false, Classical.not_not, ne_eq, ps_e1, ps_em, ps_z, Nat.not_le, false_implies, true_implies, forall_const, ps_01, ps_1n, ps_0n, ps_m10, ps_m1n, lg_cmp_gt, lg_cmp_ge, lg_cmp_le, lg_cmp_lt, lg_cmp_eq, pu_rne, pu_req, pu_uro, RFc_n, Nat.reduceAdd, Nat.reduceMul, Nat.reduceLT, Nat.reduceLeDiff, Nat.reduceEqDiff, Nat.reduceSub]
          refine c_chanceBy hC hj ea (w := wd (I 49) k (nI mi)) (wd_WV hK hk (by omega)) rfl (SC_o (SC_r I) (fun _ => rfl)) (fun q hq hq9 => ?_) (fun f => ?_)
          · rw [pu_req]
            exact ask_w hC hk hr hq hq9
          · simp only [↓r95_63, Bool.false_eq_true, hn, hn2, ht, hF, am_wt, am_wf, Option.isSome_some, am_rf_s, am_rf_n, ps_lit, nI_add, nI_1, pk_mul, ps_cl, ps_neg, ps_c0, ps_c1, ps_n01, ps_n11, ps_10, ps_b01, ps_e0, pu_Ine, pu_Ieq, pu_ne, pu_eq, am_k_n, am_k_i, am_k_r, am_k_u, am_k_l, am_sz_0, am_sz_i, am_sz_r, am_sz_u, am_sz_l, Option.toList_some, Option.toList_none, List.cons_append, List.nil_append, true_and, and_true, or_false, false_or, or_self, or_true, true_or, not_false_eq_true, not_true_eq_false, Classical.not_not, ne_eq, ps_e1, ps_em, ps_z, Nat.not_le, false_implies, true_implies, forall_const, ps_01, ps_1n, ps_0n, ps_m10, ps_m1n, lg_cmp_gt, lg_cmp_ge, lg_cmp_le, lg_cmp_lt, lg_cmp_eq, pu_rne, pu_req, pu_uro, RFc_n, Nat.reduceAdd, Nat.reduceMul, Nat.reduceLT, Nat.reduceLeDiff, Nat.reduceEqDiff, Nat.reduceSub]
            exact hQ _ ⟨rfl, rfl, rfl, SC_o (SC_o (SC_o (SC_r I) (fun _ => rfl)) (fun _ => rfl)) (fun _ => rfl), fun _ _ _ => rfl⟩
        · rintro ⟨n', sl', t', I', J', F'⟩ ⟨e1, e2, e3, e4, e5⟩; dsimp only at e1 e2 e3 e4 e5; subst e1; subst e2; subst e3; have hC' := CX_sc hC e4 e5; obtain ⟨hn, hn2, ht, hF⟩ := id hC'.1; intro Q hQ
          simp only [↓r250_0, ↓r250_1, ↓r250_2, ↓r250_5, ↓r250_8, ↓r250_9, ↓r250_10, ↓r250_13, ↓r250_16, ↓r250_17, ↓r250_18, ↓r250_20, ↓r250_23, ↓r250_26, ↓r250_27, ↓r250_28, ↓r250_29, ↓r250_30, ↓m_isText1 hC' hj, ↓m_isChild1 hC' hk, ↓s_lies, h3, and_self, if_true, Bool.false_eq_true, hn, hn2, ht, hF, am_wt, am_wf, Option.isSome_some, am_rf_s, am_rf_n, ps_lit, nI_add, nI_1, pk_mul, ps_cl, ps_neg, ps_c0, ps_c1, ps_n01, ps_n11, ps_10, ps_b01, ps_e0, pu_Ine, pu_Ieq, pu_ne, pu_eq, am_k_n, am_k_i, am_k_r, am_k_u, am_k_l, am_sz_0, am_sz_i, am_sz_r, am_sz_u, am_sz_l, Option.toList_some, Option.toList_none, List.cons_append, List.nil_append, true_and, and_true, or_false, false_or, or_self, or_true, true_or, not_false_eq_true, not_true_eq_false, Classical.not_not, ne_eq, ps_e1, ps_em, ps_z, Nat.not_le, false_implies, true_implies, forall_const, ps_01, ps_1n, ps_0n, ps_m10, ps_m1n, lg_cmp_gt, lg_cmp_ge, lg_cmp_le, lg_cmp_lt, lg_cmp_eq, pu_rne, pu_req, pu_uro, RFc_n, Nat.reduceAdd, Nat.reduceMul, Nat.reduceLT, Nat.reduceLeDiff, Nat.reduceEqDiff, Nat.reduceSub]
          refine m_chanceOf hC' hj hk (by omega) hC'.2.2.1 (fun f47 f58 g47 q1 => ?_)
          simp only [↓r250_33, ↓r250_36, ↓r250_37, Bool.false_eq_true, hn, hn2, ht, hF, am_wt, am_wf, Option.isSome_some, am_rf_s, am_rf_n, ps_lit, nI_add, nI_1, pk_mul, ps_cl, ps_neg, ps_c0, ps_c1, ps_n01, ps_n11, ps_10, ps_b01, ps_e0, pu_Ine, pu_Ieq, pu_ne, pu_eq, am_k_n, am_k_i, am_k_r, am_k_u, am_k_l, am_sz_0, am_sz_i, am_sz_r, am_sz_u, am_sz_l, Option.toList_some, Option.toList_none, List.cons_append, List.nil_append, true_and, and_true, or_false, false_or, or_self, or_true, true_or, not_false_eq_true, not_true_eq_false, Classical.not_not, ne_eq, ps_e1, ps_em, ps_z, Nat.not_le, false_implies, true_implies, forall_const, ps_01, ps_1n, ps_0n, ps_m10, ps_m1n, lg_cmp_gt, lg_cmp_ge, lg_cmp_le, lg_cmp_lt, lg_cmp_eq, pu_rne, pu_req, pu_uro, RFc_n, Nat.reduceAdd, Nat.reduceMul, Nat.reduceLT, Nat.reduceLeDiff, Nat.reduceEqDiff, Nat.reduceSub]
          exact hQ _ ⟨rfl, rfl, rfl, SC_47c q1, fun _ _ _ => rfl⟩
      · refine PR_ask (v := -1) hi hV ?_ ?_
        · intro Q hQ
          simp only [↓r95_0, ↓r95_1, ↓r95_4, ↓r95_5, ↓r95_8, ↓r95_8n, ↓r95_10, ↓r95_10n, ↓r95_12, ↓r95_12n, ↓r95_15, ↓r95_16, ↓r95_19, ↓r95_20, ↓r95_23, ↓r95_26, ↓r95_27, ↓r95_28, ↓r95_30, ↓r95_33, ↓r95_36, ↓r95_37, ↓k_law1 hC hj ea, ↓k_has1 hC hk, ↓c_within, h3, if_false, Bool.false_eq_true, hn, hn2, ht, hF, am_wt, am_wf, Option.isSome_some, am_rf_s, am_rf_n, ps_lit, nI_add, nI_1, pk_mul, ps_cl, ps_neg, ps_c0, ps_c1, ps_n01, ps_n11, ps_10, ps_b01, ps_e0, pu_Ine, pu_Ieq, pu_ne, pu_eq, am_k_n, am_k_i, am_k_r, am_k_u, am_k_l, am_sz_0, am_sz_i, am_sz_r, am_sz_u, am_sz_l, Option.toList_some, Option.toList_none, List.cons_append, List.nil_append, true_and, and_true, or_false, false_or, or_self, or_true, true_or, not_false_eq_true, not_true_eq_false, Classical.not_not, ne_eq, ps_e1, ps_em, ps_z, Nat.not_le, false_implies, true_implies, forall_const, ps_01, ps_1n, ps_0n, ps_m10, ps_m1n, lg_cmp_gt, lg_cmp_ge, lg_cmp_le, lg_cmp_lt, lg_cmp_eq, pu_rne, pu_req, pu_uro, RFc_n, Nat.reduceAdd, Nat.reduceMul, Nat.reduceLT, Nat.reduceLeDiff, Nat.reduceEqDiff, Nat.reduceSub]
          exact hQ _ SCH_r
        · rintro ⟨n', sl', t', I', J', F'⟩ ⟨e1, e2, e3, e4, e5⟩; dsimp only at e1 e2 e3 e4 e5; subst e1; subst e2; subst e3; have hC' := CX_sc hC e4 e5; obtain ⟨hn, hn2, ht, hF⟩ := id hC'.1; intro Q hQ
          simp only [↓r250_0, ↓r250_1, ↓r250_2, ↓r250_5, ↓r250_8, ↓r250_9, ↓r250_10, ↓r250_13, ↓r250_16, ↓r250_17, ↓r250_18, ↓r250_20, ↓r250_23, ↓r250_26, ↓r250_27, ↓r250_28, ↓r250_29, ↓r250_30, ↓r250_33, ↓r250_36, ↓r250_37, ↓m_isText1 hC' hj, ↓m_isChild1 hC' hk, ↓s_lies, h3, if_false, Bool.false_eq_true, hn, hn2, ht, hF, am_wt, am_wf, Option.isSome_some, am_rf_s, am_rf_n, ps_lit, nI_add, nI_1, pk_mul, ps_cl, ps_neg, ps_c0, ps_c1, ps_n01, ps_n11, ps_10, ps_b01, ps_e0, pu_Ine, pu_Ieq, pu_ne, pu_eq, am_k_n, am_k_i, am_k_r, am_k_u, am_k_l, am_sz_0, am_sz_i, am_sz_r, am_sz_u, am_sz_l, Option.toList_some, Option.toList_none, List.cons_append, List.nil_append, true_and, and_true, or_false, false_or, or_self, or_true, true_or, not_false_eq_true, not_true_eq_false, Classical.not_not, ne_eq, ps_e1, ps_em, ps_z, Nat.not_le, false_implies, true_implies, forall_const, ps_01, ps_1n, ps_0n, ps_m10, ps_m1n, lg_cmp_gt, lg_cmp_ge, lg_cmp_le, lg_cmp_lt, lg_cmp_eq, pu_rne, pu_req, pu_uro, RFc_n, Nat.reduceAdd, Nat.reduceMul, Nat.reduceLT, Nat.reduceLeDiff, Nat.reduceEqDiff, Nat.reduceSub]
          exact hQ _ SCH_r
    · refine PR_ask (v := -1) hi hV ?_ ?_
      · intro Q hQ
        simp only [↓r95_0, ↓r95_1, ↓r95_4, ↓r95_5, ↓r95_8, ↓r95_8n, ↓r95_10, ↓r95_10n, ↓r95_12, ↓r95_12n, ↓r95_15, ↓r95_16, ↓r95_19, ↓r95_20, ↓r95_23, ↓r95_26, ↓r95_27, ↓r95_28, ↓r95_30, ↓r95_33, ↓r95_36, ↓r95_37, ↓k_law1 hC hj ea, ↓k_has0 hC h2, Bool.false_eq_true, hn, hn2, ht, hF, am_wt, am_wf, Option.isSome_some, am_rf_s, am_rf_n, ps_lit, nI_add, nI_1, pk_mul, ps_cl, ps_neg, ps_c0, ps_c1, ps_n01, ps_n11, ps_10, ps_b01, ps_e0, pu_Ine, pu_Ieq, pu_ne, pu_eq, am_k_n, am_k_i, am_k_r, am_k_u, am_k_l, am_sz_0, am_sz_i, am_sz_r, am_sz_u, am_sz_l, Option.toList_some, Option.toList_none, List.cons_append, List.nil_append, true_and, and_true, or_false, false_or, or_self, or_true, true_or, not_false_eq_true, not_true_eq_false, Classical.not_not, ne_eq, ps_e1, ps_em, ps_z, Nat.not_le, false_implies, true_implies, forall_const, ps_01, ps_1n, ps_0n, ps_m10, ps_m1n, lg_cmp_gt, lg_cmp_ge, lg_cmp_le, lg_cmp_lt, lg_cmp_eq, pu_rne, pu_req, pu_uro, RFc_n, Nat.reduceAdd, Nat.reduceMul, Nat.reduceLT, Nat.reduceLeDiff, Nat.reduceEqDiff, Nat.reduceSub]
        exact hQ _ SCH_r
      · rintro ⟨n', sl', t', I', J', F'⟩ ⟨e1, e2, e3, e4, e5⟩; dsimp only at e1 e2 e3 e4 e5; subst e1; subst e2; subst e3; have hC' := CX_sc hC e4 e5; obtain ⟨hn, hn2, ht, hF⟩ := id hC'.1; intro Q hQ
        simp only [↓r250_0, ↓r250_1, ↓r250_2, ↓r250_5, ↓r250_8, ↓r250_9, ↓r250_10, ↓r250_13, ↓r250_16, ↓r250_17, ↓r250_18, ↓r250_20, ↓r250_23, ↓r250_26, ↓r250_27, ↓r250_28, ↓r250_29, ↓r250_30, ↓r250_33, ↓r250_36, ↓r250_37, ↓m_isText1 hC' hj, ↓m_isChild0 hC' h2, Bool.false_eq_true, hn, hn2, ht, hF, am_wt, am_wf, Option.isSome_some, am_rf_s, am_rf_n, ps_lit, nI_add, nI_1, pk_mul, ps_cl, ps_neg, ps_c0, ps_c1, ps_n01, ps_n11, ps_10, ps_b01, ps_e0, pu_Ine, pu_Ieq, pu_ne, pu_eq, am_k_n, am_k_i, am_k_r, am_k_u, am_k_l, am_sz_0, am_sz_i, am_sz_r, am_sz_u, am_sz_l, Option.toList_some, Option.toList_none, List.cons_append, List.nil_append, true_and, and_true, or_false, false_or, or_self, or_true, true_or, not_false_eq_true, not_true_eq_false, Classical.not_not, ne_eq, ps_e1, ps_em, ps_z, Nat.not_le, false_implies, true_implies, forall_const, ps_01, ps_1n, ps_0n, ps_m10, ps_m1n, lg_cmp_gt, lg_cmp_ge, lg_cmp_le, lg_cmp_lt, lg_cmp_eq, pu_rne, pu_req, pu_uro, RFc_n, Nat.reduceAdd, Nat.reduceMul, Nat.reduceLT, Nat.reduceLeDiff, Nat.reduceEqDiff, Nat.reduceSub]
        exact hQ _ SCH_r
  · refine PR_ask (v := -1) hi hV ?_ ?_
    · intro Q hQ
      simp only [↓r95_0, ↓r95_1, ↓r95_4, ↓r95_5, ↓r95_8, ↓r95_8n, ↓r95_10, ↓r95_10n, ↓r95_12, ↓r95_12n, ↓r95_15, ↓r95_16, ↓r95_19, ↓r95_20, ↓r95_23, ↓r95_26, ↓r95_27, ↓r95_28, ↓r95_30, ↓r95_33, ↓r95_36, ↓r95_37, ↓k_law0 hC h1, Bool.false_eq_true, hn, hn2, ht, hF, am_wt, am_wf, Option.isSome_some, am_rf_s, am_rf_n, ps_lit, nI_add, nI_1, pk_mul, ps_cl, ps_neg, ps_c0, ps_c1, ps_n01, ps_n11, ps_10, ps_b01, ps_e0, pu_Ine, pu_Ieq, pu_ne, pu_eq, am_k_n, am_k_i, am_k_r, am_k_u, am_k_l, am_sz_0, am_sz_i, am_sz_r, am_sz_u, am_sz_l, Option.toList_some, Option.toList_none, List.cons_append, List.nil_append, true_and, and_true, or_false, false_or, or_self, or_true, true_or, not_false_eq_true, not_true_eq_false, Classical.not_not, ne_eq, ps_e1, ps_em, ps_z, Nat.not_le, false_implies, true_implies, forall_const, ps_01, ps_1n, ps_0n, ps_m10, ps_m1n, lg_cmp_gt, lg_cmp_ge, lg_cmp_le, lg_cmp_lt, lg_cmp_eq, pu_rne, pu_req, pu_uro, RFc_n, Nat.reduceAdd, Nat.reduceMul, Nat.reduceLT, Nat.reduceLeDiff, Nat.reduceEqDiff, Nat.reduceSub]
      exact hQ _ SCH_r
    · rintro ⟨n', sl', t', I', J', F'⟩ ⟨e1, e2, e3, e4, e5⟩; dsimp only at e1 e2 e3 e4 e5; subst e1; subst e2; subst e3; have hC' := CX_sc hC e4 e5; obtain ⟨hn, hn2, ht, hF⟩ := id hC'.1; intro Q hQ
      simp only [↓r250_0, ↓r250_1, ↓r250_2, ↓r250_5, ↓r250_8, ↓r250_9, ↓r250_10, ↓r250_13, ↓r250_16, ↓r250_17, ↓r250_18, ↓r250_20, ↓r250_23, ↓r250_26, ↓r250_27, ↓r250_28, ↓r250_29, ↓r250_30, ↓r250_33, ↓r250_36, ↓r250_37, ↓m_isText0 hC' h1, Bool.false_eq_true, hn, hn2, ht, hF, am_wt, am_wf, Option.isSome_some, am_rf_s, am_rf_n, ps_lit, nI_add, nI_1, pk_mul, ps_cl, ps_neg, ps_c0, ps_c1, ps_n01, ps_n11, ps_10, ps_b01, ps_e0, pu_Ine, pu_Ieq, pu_ne, pu_eq, am_k_n, am_k_i, am_k_r, am_k_u, am_k_l, am_sz_0, am_sz_i, am_sz_r, am_sz_u, am_sz_l, Option.toList_some, Option.toList_none, List.cons_append, List.nil_append, true_and, and_true, or_false, false_or, or_self, or_true, true_or, not_false_eq_true, not_true_eq_false, Classical.not_not, ne_eq, ps_e1, ps_em, ps_z, Nat.not_le, false_implies, true_implies, forall_const, ps_01, ps_1n, ps_0n, ps_m10, ps_m1n, lg_cmp_gt, lg_cmp_ge, lg_cmp_le, lg_cmp_lt, lg_cmp_eq, pu_rne, pu_req, pu_uro, RFc_n, Nat.reduceAdd, Nat.reduceMul, Nat.reduceLT, Nat.reduceLeDiff, Nat.reduceEqDiff, Nat.reduceSub]
      exact hQ _ SCH_r
/-- the words of a child in a trial -/
def wdt (K : Nat → Int32) (c : Nat) (wy de : Int32) : Nat → Int32 := fun k => if k = 5 then wy else if k = 8 then de else wd K c 0 k
theorem wdt_self {c : Nat} : wdt K c (K (15 * c + 5)) (K (15 * c + 8)) = wd K c 0 := by
  funext k
  unfold wdt
  by_cases h5 : k = 5
  · rw [if_pos h5, h5]; rfl
  · rw [if_neg h5]
    by_cases h8 : k = 8
    · rw [if_pos h8, h8]; rfl
    · rw [if_neg h8]
theorem wdt_WV {c wy de : Nat} (hK : KW K N T) (hc : c < N) (h1 : wy ≤ 23) (h2 : de ≤ 2) : WV (wdt K c (nI wy) (nI de)) := by
  intro k hk
  unfold wdt
  split
  · exact ⟨wy, by omega, rfl⟩
  · split
    · exact ⟨de, by omega, rfl⟩
    · exact wd_WV hK hc (mi := 0) (by omega) k hk
def tEnd (K : Nat → Int32) : Nat := (K 1810).toNatClampNeg
theorem tEnd_le (hK : KW K N T) : 1 ≤ tEnd K ∧ tEnd K ≤ 20 ∧ K 1810 = nI (tEnd K) := by
  obtain ⟨v, h1, h2, e⟩ := hK.2.2.2.2.2.2.2.1
  unfold tEnd
  rw [e, nI_clamp (by omega)]
  exact ⟨h1, h2, rfl⟩
/-- asked how long it waits, in the reference; -1: as it is -/
theorem m_waitsOf {j c : Nat} {wy de : Int32} {I' : Nat → Nat → Int32} (hC : CX n t I F K N T lw) (hj : j < T) (hc : c < N) (h49 : I' 49 = K) (hw : WV (wdt K c (if wy = -1 then K (15 * c + 5) else wy) (if de = -1 then K (15 * c + 8) else de))) (hQ : ∀ f47 f58 g47, (∀ k, k ≠ 17 → k ≠ 18 → k ≠ 19 → k ≠ 22 → f47 k = I' 47 k) → Q (some (.int (nI (wtV (lw j) (wdt K c (if wy = -1 then K (15 * c + 5) else wy) (if de = -1 then K (15 * c + 8) else de)) (10 * tEnd K))))) (n, sl, t, am_ro (am_ro I' 47 f47) 58 f58, am_ro J 47 g47, F)) : am_W X (d + 45) 257 0 [some (.ref 47), some (.int (nI j)), some (.int (nI c)), some (.int wy), some (.int de)] [] (n, sl, t, I', J, F) Q := by
  obtain ⟨hW, hK, _, _, _⟩ := id hC
  obtain ⟨a, ea, a1, a2, ta, hb⟩ := CX_law hC hj
  obtain ⟨x1, x2, x3⟩ := tEnd_le hK
  have hN := hK.1
  obtain ⟨hn, hn2, ht, hF⟩ := id hW
  have e2 := fun Q => s_asksChild (X := X) (d := d + 42) (Q := Q) (sl := sl) (J := J) (I := I') (k := c) (mi := 0) hW (by omega)
  have m5 : mAsk I' c 0 (I' 58) 5 = K (15 * c + 5) := by rw [mAsk_w (by decide), h49]; rfl
  have m8 : mAsk I' c 0 (I' 58) 8 = K (15 * c + 8) := by rw [mAsk_w (by decide), h49]; rfl
  have red : am_W X (d + 45) 257 0 [some (.ref 47), some (.int (nI j)), some (.int (nI c)), some (.int wy), some (.int de)] [] (n, sl, t, I', J, F) Q ↔ am_W X (d + 44) 221 0 [some (.ref 47), some (.int (nI j)), some (.int (nI 2)), none, none, none, none, none] [] (n, sl, t, am_ro I' 58 (upd (upd (mAsk I' c 0 (I' 58)) 5 (if wy = -1 then K (15 * c + 5) else wy)) 8 (if de = -1 then K (15 * c + 8) else de)), J, F) (fun v h' => am_W X (d + 44 + 1) 257 58 [some (.ref 47), some (.int (nI j)), some (.int (nI c)), some (.int wy), some (.int de)] (v.toList ++ []) h' Q) := by
    by_cases c1 : wy = -1
    · by_cases c2 : de = -1
      · simp only [↓r257_0, ↓r257_1, ↓r257_2, ↓r257_3, ↓r257_6, ↓r257_7, ↓r257_10, ↓r257_11, ↓r257_12, ↓r257_13, ↓r257_16, ↓r257_17, ↓r257_20, ↓r257_21, ↓r257_21k, ↓r257_22, ↓r257_25, ↓r257_26, ↓r257_27, ↓r257_28, ↓r257_31, ↓r257_33, ↓r257_35, ↓r257_36, ↓r257_39, ↓r257_40, ↓r257_43, ↓r257_45, ↓r257_45k, ↓r257_46, ↓r257_49, ↓r257_51, ↓r257_52, ↓r257_53, ↓r257_54, ↓r257_55, ↓e2, c1, c2, m5, m8, if_true, pu_uI, pu_ror, Bool.false_eq_true, hn, hn2, ht, hF, am_wt, am_wf, Option.isSome_some, am_rf_s, am_rf_n, ps_lit, nI_add, nI_1, pk_mul, ps_cl, ps_neg, ps_c0, ps_c1, ps_n01, ps_n11, ps_10, ps_b01, ps_e0, pu_Ine, pu_Ieq, pu_ne, pu_eq, am_k_n, am_k_i, am_k_r, am_k_u, am_k_l, am_sz_0, am_sz_i, am_sz_r, am_sz_u, am_sz_l, Option.toList_some, Option.toList_none, List.cons_append, List.nil_append, true_and, and_true, or_false, false_or, or_self, or_true, true_or, not_false_eq_true, not_true_eq_false, Classical.not_not, ne_eq, ps_e1, ps_em, ps_z, Nat.not_le, false_implies, true_implies, forall_const, ps_01, ps_1n, ps_0n, ps_m10, ps_m1n, lg_cmp_gt, lg_cmp_ge, lg_cmp_le, lg_cmp_lt, lg_cmp_eq, pu_rne, pu_req, pu_uro, RFc_n, Nat.reduceAdd, Nat.reduceMul, Nat.reduceLT, Nat.reduceLeDiff, Nat.reduceEqDiff, Nat.reduceSub]
      · simp only [↓r257_0, ↓r257_1, ↓r257_2, ↓r257_3, ↓r257_6, ↓r257_7, ↓r257_10, ↓r257_11, ↓r257_12, ↓r257_13, ↓r257_16, ↓r257_17, ↓r257_20, ↓r257_21, ↓r257_21k, ↓r257_22, ↓r257_25, ↓r257_26, ↓r257_27, ↓r257_28, ↓r257_31, ↓r257_33, ↓r257_35, ↓r257_36, ↓r257_39, ↓r257_40, ↓r257_43, ↓r257_45, ↓r257_45k, ↓r257_46, ↓r257_49, ↓r257_51, ↓r257_52, ↓r257_53, ↓r257_54, ↓r257_55, ↓e2, c1, c2, m5, m8, if_true, if_false, pu_uI, pu_ror, Bool.false_eq_true, hn, hn2, ht, hF, am_wt, am_wf, Option.isSome_some, am_rf_s, am_rf_n, ps_lit, nI_add, nI_1, pk_mul, ps_cl, ps_neg, ps_c0, ps_c1, ps_n01, ps_n11, ps_10, ps_b01, ps_e0, pu_Ine, pu_Ieq, pu_ne, pu_eq, am_k_n, am_k_i, am_k_r, am_k_u, am_k_l, am_sz_0, am_sz_i, am_sz_r, am_sz_u, am_sz_l, Option.toList_some, Option.toList_none, List.cons_append, List.nil_append, true_and, and_true, or_false, false_or, or_self, or_true, true_or, not_false_eq_true, not_true_eq_false, Classical.not_not, ne_eq, ps_e1, ps_em, ps_z, Nat.not_le, false_implies, true_implies, forall_const, ps_01, ps_1n, ps_0n, ps_m10, ps_m1n, lg_cmp_gt, lg_cmp_ge, lg_cmp_le, lg_cmp_lt, lg_cmp_eq, pu_rne, pu_req, pu_uro, RFc_n, Nat.reduceAdd, Nat.reduceMul, Nat.reduceLT, Nat.reduceLeDiff, Nat.reduceEqDiff, Nat.reduceSub]
    · by_cases c2 : de = -1
      · simp only [↓r257_0, ↓r257_1, ↓r257_2, ↓r257_3, ↓r257_6, ↓r257_7, ↓r257_10, ↓r257_11, ↓r257_12, ↓r257_13, ↓r257_16, ↓r257_17, ↓r257_20, ↓r257_21, ↓r257_21k, ↓r257_22, ↓r257_25, ↓r257_26, ↓r257_27, ↓r257_28, ↓r257_31, ↓r257_33, ↓r257_35, ↓r257_36, ↓r257_39, ↓r257_40, ↓r257_43, ↓r257_45, ↓r257_45k, ↓r257_46, ↓r257_49, ↓r257_51, ↓r257_52, ↓r257_53, ↓r257_54, ↓r257_55, ↓e2, c1, c2, m5, m8, if_true, if_false, pu_uI, pu_ror, Bool.false_eq_true, hn, hn2, ht, hF, am_wt, am_wf, Option.isSome_some, am_rf_s, am_rf_n, ps_lit, nI_add, nI_1, pk_mul, ps_cl, ps_neg, ps_c0, ps_c1, ps_n01, ps_n11, ps_10, ps_b01, ps_e0, pu_Ine, pu_Ieq, pu_ne, pu_eq, am_k_n, am_k_i, am_k_r, am_k_u, am_k_l, am_sz_0, am_sz_i, am_sz_r, am_sz_u, am_sz_l, Option.toList_some, Option.toList_none, List.cons_append, List.nil_append, true_and, and_true, or_false, false_or, or_self, or_true, true_or, not_false_eq_true, not_true_eq_false, Classical.not_not, ne_eq, ps_e1, ps_em, ps_z, Nat.not_le, false_implies, true_implies, forall_const, ps_01, ps_1n, ps_0n, ps_m10, ps_m1n, lg_cmp_gt, lg_cmp_ge, lg_cmp_le, lg_cmp_lt, lg_cmp_eq, pu_rne, pu_req, pu_uro, RFc_n, Nat.reduceAdd, Nat.reduceMul, Nat.reduceLT, Nat.reduceLeDiff, Nat.reduceEqDiff, Nat.reduceSub]
      · simp only [↓r257_0, ↓r257_1, ↓r257_2, ↓r257_3, ↓r257_6, ↓r257_7, ↓r257_10, ↓r257_11, ↓r257_12, ↓r257_13, ↓r257_16, ↓r257_17, ↓r257_20, ↓r257_21, ↓r257_21k, ↓r257_22, ↓r257_25, ↓r257_26, ↓r257_27, ↓r257_28, ↓r257_31, ↓r257_33, ↓r257_35, ↓r257_36, ↓r257_39, ↓r257_40, ↓r257_43, ↓r257_45, ↓r257_45k, ↓r257_46, ↓r257_49, ↓r257_51, ↓r257_52, ↓r257_53, ↓r257_54, ↓r257_55, ↓e2, c1, c2, m5, m8, if_true, if_false, pu_uI, pu_ror, Bool.false_eq_true, hn, hn2, ht, hF, am_wt, am_wf, Option.isSome_some, am_rf_s, am_rf_n, ps_lit, nI_add, nI_1, pk_mul, ps_cl, ps_neg, ps_c0, ps_c1, ps_n01, ps_n11, ps_10, ps_b01, ps_e0, pu_Ine, pu_Ieq, pu_ne, pu_eq, am_k_n, am_k_i, am_k_r, am_k_u, am_k_l, am_sz_0, am_sz_i, am_sz_r, am_sz_u, am_sz_l, Option.toList_some, Option.toList_none, List.cons_append, List.nil_append, true_and, and_true, or_false, false_or, or_self, or_true, true_or, not_false_eq_true, not_true_eq_false, Classical.not_not, ne_eq, ps_e1, ps_em, ps_z, Nat.not_le, false_implies, true_implies, forall_const, ps_01, ps_1n, ps_0n, ps_m10, ps_m1n, lg_cmp_gt, lg_cmp_ge, lg_cmp_le, lg_cmp_lt, lg_cmp_eq, pu_rne, pu_req, pu_uro, RFc_n, Nat.reduceAdd, Nat.reduceMul, Nat.reduceLT, Nat.reduceLeDiff, Nat.reduceEqDiff, Nat.reduceSub]
  rw [red]
  generalize (if wy = -1 then K (15 * c + 5) else wy) = wy' at hw hQ ⊢
  generalize (if de = -1 then K (15 * c + 8) else de) = de' at hw hQ ⊢
  refine s_asks hC hj (hd := 2) (w := wdt K c wy' de') (by decide) hw (by rw [pu_rne (by decide)]; exact h49) (fun k hk => ?_) (fun f g q1 q2 q3 => ?_)
  · rw [pu_req]
    unfold wdt
    by_cases k5 : k = 5
    · rw [if_pos k5, k5, pu_ne (by decide), pu_eq]
    · rw [if_neg k5]
      by_cases k8 : k = 8
      · rw [if_pos k8, k8, pu_eq]
      · rw [if_neg k8, pu_ne k8, pu_ne k5, mAsk_w hk, h49]
  · have q := hQ f (upd (upd (mAsk I' c 0 (I' 58)) 5 wy') 8 de') g (fun k k1 k2 k3 k4 => by rw [q1 k k1 k2 k3 k4, pu_rne (by decide)])
    unfold wtV at q
    rw [pu_rol (by decide)]
    have h49' : am_ro (am_ro I' 47 f) 58 (upd (upd (mAsk I' c 0 (I' 58)) 5 wy') 8 de') 49 1810 = nI (tEnd K) := by
      rw [pu_rne (by decide), pu_rne (by decide), h49]
      exact x3
    cases ho : told (lw j) 2 (wdt K c wy' de') with
    | none =>
      rw [ho] at q q3
      simp only [Option.getD_none] at q3
      have e5 := fun Q => s_near (X := X) (d := d + 44) (Q := Q) (n := n) (sl := sl) (t := t) (I := am_ro (am_ro I' 47 f) 58 (upd (upd (mAsk I' c 0 (I' 58)) 5 wy') 8 de')) (J := am_ro J 47 g) (F := F) (v := 0) (lo := 0) (hi := 10 * tEnd K) (by decide) (by decide) (by omega) (by omega)
      have e6 : nearN 0 0 (10 * tEnd K) = 0 := by
        unfold nearN
        rw [if_neg (by omega), if_neg (by omega)]
        rfl
      simp only [ps_n0, e6] at e5
      simp only [↓r257_58, ↓r257_59, ↓r257_62, ↓r257_63, ↓r257_65, ↓r257_66, ↓r257_67, ↓r257_70, ↓r257_71, ↓r257_74, ↓s_term2 hW, ↓e5, q3, h49', pu_req, ps_n0, Bool.false_eq_true, hn, hn2, ht, hF, am_wt, am_wf, Option.isSome_some, am_rf_s, am_rf_n, ps_lit, nI_add, nI_1, pk_mul, ps_cl, ps_neg, ps_c0, ps_c1, ps_n01, ps_n11, ps_10, ps_b01, ps_e0, pu_Ine, pu_Ieq, pu_ne, pu_eq, am_k_n, am_k_i, am_k_r, am_k_u, am_k_l, am_sz_0, am_sz_i, am_sz_r, am_sz_u, am_sz_l, Option.toList_some, Option.toList_none, List.cons_append, List.nil_append, true_and, and_true, or_false, false_or, or_self, or_true, true_or, not_false_eq_true, not_true_eq_false, Classical.not_not, ne_eq, ps_e1, ps_em, ps_z, Nat.not_le, false_implies, true_implies, forall_const, ps_01, ps_1n, ps_0n, ps_m10, ps_m1n, lg_cmp_gt, lg_cmp_ge, lg_cmp_le, lg_cmp_lt, lg_cmp_eq, pu_rne, pu_req, pu_uro, RFc_n, Nat.reduceAdd, Nat.reduceMul, Nat.reduceLT, Nat.reduceLeDiff, Nat.reduceEqDiff, Nat.reduceSub]
      simp only [ps_n0] at q
      exact q
    | some v =>
      rw [ho] at q q3
      obtain ⟨b1, b2⟩ := hb 2 _ v hw ho
      simp only [Option.getD_some] at q3
      have e5 := fun Q => s_near (X := X) (d := d + 44) (Q := Q) (n := n) (sl := sl) (t := t) (I := am_ro (am_ro I' 47 f) 58 (upd (upd (mAsk I' c 0 (I' 58)) 5 wy') 8 de')) (J := am_ro J 47 g) (F := F) (lo := 0) (hi := 10 * tEnd K) b1 b2 (by omega) (by omega)
      simp only [ps_n0] at e5
      simp only [↓r257_58, ↓r257_59, ↓r257_62, ↓r257_63, ↓r257_65, ↓r257_66, ↓r257_67, ↓r257_70, ↓r257_71, ↓r257_74, ↓s_term2 hW, ↓e5, q3, h49', pu_req, Bool.false_eq_true, hn, hn2, ht, hF, am_wt, am_wf, Option.isSome_some, am_rf_s, am_rf_n, ps_lit, nI_add, nI_1, pk_mul, ps_cl, ps_neg, ps_c0, ps_c1, ps_n01, ps_n11, ps_10, ps_b01, ps_e0, pu_Ine, pu_Ieq, pu_ne, pu_eq, am_k_n, am_k_i, am_k_r, am_k_u, am_k_l, am_sz_0, am_sz_i, am_sz_r, am_sz_u, am_sz_l, Option.toList_some, Option.toList_none, List.cons_append, List.nil_append, true_and, and_true, or_false, false_or, or_self, or_true, true_or, not_false_eq_true, not_true_eq_false, Classical.not_not, ne_eq, ps_e1, ps_em, ps_z, Nat.not_le, false_implies, true_implies, forall_const, ps_01, ps_1n, ps_0n, ps_m10, ps_m1n, lg_cmp_gt, lg_cmp_ge, lg_cmp_le, lg_cmp_lt, lg_cmp_eq, pu_rne, pu_req, pu_uro, RFc_n, Nat.reduceAdd, Nat.reduceMul, Nat.reduceLT, Nat.reduceLeDiff, Nat.reduceEqDiff, Nat.reduceSub]
      exact q
theorem pr_waits {x c : Int32} {i : Nat} (hX : XS X) (hi : i < 600) (hV : Inv i (n, sl, t, I, J, F)) : PR X i 108 256 [some (.ref 0), some (.int x), some (.int c), none] [some (.ref 47), some (.int x), some (.int c)] (n, sl, t, I, J, F) := by
  obtain ⟨N, T, lw, hC⟩ := CX_of hV; obtain ⟨hW, hK, _, ⟨hs, hc, hr, hu, hm⟩, hl⟩ := id hC; have hN := hK.1; obtain ⟨hn, hn2, ht, hF⟩ := id hW
  have hT := hK.2.1
  by_cases h1 : 0 ≤ x ∧ x ≤ nI T - 1
  · obtain ⟨j, hj, rfl⟩ := isT_c hT h1
    obtain ⟨a, ea, a1, a2, ta, hb⟩ := CX_law hC hj
    by_cases h2 : 0 ≤ c ∧ c ≤ nI N - 1
    · obtain ⟨k, hk, rfl⟩ := ps_chE (by omega) h2
      obtain ⟨x1, x2, x3⟩ := tEnd_le hK
      have hu2 : I 3 2 = nI (tEnd (I 49)) := (hu 2 (by decide)).trans x3
      refine PR_ask (v := nI (wtV (lw j) (wd (I 49) k 0) (10 * tEnd (I 49)))) hi hV ?_ ?_
      · intro Q hQ
        have e1 := fun Q => c_ask (X := X) (d := 57) (Q := Q) (sl := sl) (J := J) (I := I) (c := k) hW (by omega)
        simp only [↓r108_0, ↓r108_1, ↓r108_4, ↓r108_5, ↓r108_8, ↓r108_8n, ↓r108_9, ↓r108_9n, ↓r108_10, ↓r108_10n, ↓r108_13, ↓r108_14, ↓r108_17, ↓r108_18, ↓r108_21, ↓r108_24, ↓r108_25, ↓r108_26, ↓r108_27, ↓r108_30, ↓r108_31, ↓r108_34, ↓r108_37, ↓r108_38, ↓r108_41, ↓r108_42, ↓r108_45, ↓r108_45n, ↓r108_46, ↓r108_47, ↓r108_50, ↓r108_53, ↓r108_54, ↓r108_54k, ↓r108_55, ↓k_law1 hC hj ea, ↓k_has1 hC hk, ↓e1, hu2, a2, ta, Bool.false_eq_true, hn, hn2, ht, hF, am_wt, am_wf, Option.isSome_some, am_rf_s, am_rf_n, ps_lit, nI_add, nI_1, pk_mul, ps_cl, ps_neg, ps_c0, ps_c1, ps_n01, ps_n11, ps_10, ps_b01, ps_e0, pu_Ine, pu_Ieq, pu_ne, pu_eq, am_k_n, am_k_i, am_k_r, am_k_u, am_k_l, am_sz_0, am_sz_i, am_sz_r, am_sz_u, am_sz_l, Option.toList_some, Option.toList_none, List.cons_append, List.nil_append, true_and, and_true, or_false, false_or, or_self, or_true, true_or, not_false_eq_true, not_true_eq_false, Classical.not_not, ne_eq, ps_e1, ps_em, ps_z, Nat.not_le, false_implies, true_implies, forall_const, ps_01, ps_1n, ps_0n, ps_m10, ps_m1n, lg_cmp_gt, lg_cmp_ge, lg_cmp_le, lg_cmp_lt, lg_cmp_eq, pu_rne, pu_req, pu_uro, RFc_n, Nat.reduceAdd, Nat.reduceMul, Nat.reduceLT, Nat.reduceLeDiff, Nat.reduceEqDiff, Nat.reduceSub]
        refine c_waitsBy hC hj ea x2 (w := wd (I 49) k 0) (wd_WV hK hk (mi := 0) (by omega)) rfl (SC_o (SC_r I) (fun _ => rfl)) (fun q hq hq9 => ?_) (fun f => ?_)
        · rw [pu_req]
          exact ask_w (mi := 0) hC hk hr hq hq9
        · simp only [↓r108_58, Bool.false_eq_true, hn, hn2, ht, hF, am_wt, am_wf, Option.isSome_some, am_rf_s, am_rf_n, ps_lit, nI_add, nI_1, pk_mul, ps_cl, ps_neg, ps_c0, ps_c1, ps_n01, ps_n11, ps_10, ps_b01, ps_e0, pu_Ine, pu_Ieq, pu_ne, pu_eq, am_k_n, am_k_i, am_k_r, am_k_u, am_k_l, am_sz_0, am_sz_i, am_sz_r, am_sz_u, am_sz_l, Option.toList_some, Option.toList_none, List.cons_append, List.nil_append, true_and, and_true, or_false, false_or, or_self, or_true, true_or, not_false_eq_true, not_true_eq_false, Classical.not_not, ne_eq, ps_e1, ps_em, ps_z, Nat.not_le, false_implies, true_implies, forall_const, ps_01, ps_1n, ps_0n, ps_m10, ps_m1n, lg_cmp_gt, lg_cmp_ge, lg_cmp_le, lg_cmp_lt, lg_cmp_eq, pu_rne, pu_req, pu_uro, RFc_n, Nat.reduceAdd, Nat.reduceMul, Nat.reduceLT, Nat.reduceLeDiff, Nat.reduceEqDiff, Nat.reduceSub]
          exact hQ _ ⟨rfl, rfl, rfl, SC_o (SC_o (SC_o (SC_r I) (fun _ => rfl)) (fun _ => rfl)) (fun _ => rfl), fun _ _ _ => rfl⟩
      · rintro ⟨n', sl', t', I', J', F'⟩ ⟨e1, e2, e3, e4, e5⟩; dsimp only at e1 e2 e3 e4 e5; subst e1; subst e2; subst e3; have hC' := CX_sc hC e4 e5; obtain ⟨hn, hn2, ht, hF⟩ := id hC'.1; intro Q hQ
        simp only [↓r256_0, ↓r256_1, ↓r256_2, ↓r256_5, ↓r256_8, ↓r256_9, ↓r256_10, ↓r256_13, ↓r256_16, ↓r256_17, ↓r256_18, ↓r256_19, ↓r256_20, ↓r256_21, ↓m_isText1 hC' hj, ↓m_isChild1 hC' hk, Bool.false_eq_true, hn, hn2, ht, hF, am_wt, am_wf, Option.isSome_some, am_rf_s, am_rf_n, ps_lit, nI_add, nI_1, pk_mul, ps_cl, ps_neg, ps_c0, ps_c1, ps_n01, ps_n11, ps_10, ps_b01, ps_e0, pu_Ine, pu_Ieq, pu_ne, pu_eq, am_k_n, am_k_i, am_k_r, am_k_u, am_k_l, am_sz_0, am_sz_i, am_sz_r, am_sz_u, am_sz_l, Option.toList_some, Option.toList_none, List.cons_append, List.nil_append, true_and, and_true, or_false, false_or, or_self, or_true, true_or, not_false_eq_true, not_true_eq_false, Classical.not_not, ne_eq, ps_e1, ps_em, ps_z, Nat.not_le, false_implies, true_implies, forall_const, ps_01, ps_1n, ps_0n, ps_m10, ps_m1n, lg_cmp_gt, lg_cmp_ge, lg_cmp_le, lg_cmp_lt, lg_cmp_eq, pu_rne, pu_req, pu_uro, RFc_n, Nat.reduceAdd, Nat.reduceMul, Nat.reduceLT, Nat.reduceLeDiff, Nat.reduceEqDiff, Nat.reduceSub]
        refine m_waitsOf hC' hj hk hC'.2.2.1 ?_ (fun f47 f58 g47 q1 => ?_)
        · rw [if_pos rfl, if_pos rfl, wdt_self]
          exact wd_WV hK hk (mi := 0) (by omega)
        · rw [if_pos rfl, if_pos rfl, wdt_self]
          simp only [↓r256_24, ↓r256_27, ↓r256_28, Bool.false_eq_true, hn, hn2, ht, hF, am_wt, am_wf, Option.isSome_some, am_rf_s, am_rf_n, ps_lit, nI_add, nI_1, pk_mul, ps_cl, ps_neg, ps_c0, ps_c1, ps_n01, ps_n11, ps_10, ps_b01, ps_e0, pu_Ine, pu_Ieq, pu_ne, pu_eq, am_k_n, am_k_i, am_k_r, am_k_u, am_k_l, am_sz_0, am_sz_i, am_sz_r, am_sz_u, am_sz_l, Option.toList_some, Option.toList_none, List.cons_append, List.nil_append, true_and, and_true, or_false, false_or, or_self, or_true, true_or, not_false_eq_true, not_true_eq_false, Classical.not_not, ne_eq, ps_e1, ps_em, ps_z, Nat.not_le, false_implies, true_implies, forall_const, ps_01, ps_1n, ps_0n, ps_m10, ps_m1n, lg_cmp_gt, lg_cmp_ge, lg_cmp_le, lg_cmp_lt, lg_cmp_eq, pu_rne, pu_req, pu_uro, RFc_n, Nat.reduceAdd, Nat.reduceMul, Nat.reduceLT, Nat.reduceLeDiff, Nat.reduceEqDiff, Nat.reduceSub]
          exact hQ _ ⟨rfl, rfl, rfl, SC_47c q1, fun _ _ _ => rfl⟩
    · refine PR_ask (v := -1) hi hV ?_ ?_
      · intro Q hQ
        simp only [↓r108_0, ↓r108_1, ↓r108_4, ↓r108_5, ↓r108_8, ↓r108_8n, ↓r108_9, ↓r108_9n, ↓r108_10, ↓r108_10n, ↓r108_13, ↓r108_14, ↓r108_17, ↓r108_18, ↓r108_21, ↓r108_24, ↓r108_25, ↓k_law1 hC hj ea, ↓k_has0 hC h2, Bool.false_eq_true, hn, hn2, ht, hF, am_wt, am_wf, Option.isSome_some, am_rf_s, am_rf_n, ps_lit, nI_add, nI_1, pk_mul, ps_cl, ps_neg, ps_c0, ps_c1, ps_n01, ps_n11, ps_10, ps_b01, ps_e0, pu_Ine, pu_Ieq, pu_ne, pu_eq, am_k_n, am_k_i, am_k_r, am_k_u, am_k_l, am_sz_0, am_sz_i, am_sz_r, am_sz_u, am_sz_l, Option.toList_some, Option.toList_none, List.cons_append, List.nil_append, true_and, and_true, or_false, false_or, or_self, or_true, true_or, not_false_eq_true, not_true_eq_false, Classical.not_not, ne_eq, ps_e1, ps_em, ps_z, Nat.not_le, false_implies, true_implies, forall_const, ps_01, ps_1n, ps_0n, ps_m10, ps_m1n, lg_cmp_gt, lg_cmp_ge, lg_cmp_le, lg_cmp_lt, lg_cmp_eq, pu_rne, pu_req, pu_uro, RFc_n, Nat.reduceAdd, Nat.reduceMul, Nat.reduceLT, Nat.reduceLeDiff, Nat.reduceEqDiff, Nat.reduceSub]
        exact hQ _ SCH_r
      · rintro ⟨n', sl', t', I', J', F'⟩ ⟨e1, e2, e3, e4, e5⟩; dsimp only at e1 e2 e3 e4 e5; subst e1; subst e2; subst e3; have hC' := CX_sc hC e4 e5; obtain ⟨hn, hn2, ht, hF⟩ := id hC'.1; intro Q hQ
        simp only [↓r256_0, ↓r256_1, ↓r256_2, ↓r256_5, ↓r256_8, ↓r256_9, ↓r256_10, ↓r256_13, ↓r256_16, ↓r256_17, ↓r256_18, ↓r256_19, ↓r256_20, ↓r256_21, ↓r256_24, ↓r256_27, ↓r256_28, ↓m_isText1 hC' hj, ↓m_isChild0 hC' h2, Bool.false_eq_true, hn, hn2, ht, hF, am_wt, am_wf, Option.isSome_some, am_rf_s, am_rf_n, ps_lit, nI_add, nI_1, pk_mul, ps_cl, ps_neg, ps_c0, ps_c1, ps_n01, ps_n11, ps_10, ps_b01, ps_e0, pu_Ine, pu_Ieq, pu_ne, pu_eq, am_k_n, am_k_i, am_k_r, am_k_u, am_k_l, am_sz_0, am_sz_i, am_sz_r, am_sz_u, am_sz_l, Option.toList_some, Option.toList_none, List.cons_append, List.nil_append, true_and, and_true, or_false, false_or, or_self, or_true, true_or, not_false_eq_true, not_true_eq_false, Classical.not_not, ne_eq, ps_e1, ps_em, ps_z, Nat.not_le, false_implies, true_implies, forall_const, ps_01, ps_1n, ps_0n, ps_m10, ps_m1n, lg_cmp_gt, lg_cmp_ge, lg_cmp_le, lg_cmp_lt, lg_cmp_eq, pu_rne, pu_req, pu_uro, RFc_n, Nat.reduceAdd, Nat.reduceMul, Nat.reduceLT, Nat.reduceLeDiff, Nat.reduceEqDiff, Nat.reduceSub]
        exact hQ _ SCH_r
  · refine PR_ask (v := -1) hi hV ?_ ?_
    · intro Q hQ
      simp only [↓r108_0, ↓r108_1, ↓r108_4, ↓r108_5, ↓r108_8, ↓r108_8n, ↓r108_9, ↓r108_9n, ↓r108_10, ↓r108_10n, ↓r108_13, ↓r108_14, ↓r108_17, ↓r108_18, ↓r108_21, ↓r108_24, ↓r108_25, ↓k_law0 hC h1, Bool.false_eq_true, hn, hn2, ht, hF, am_wt, am_wf, Option.isSome_some, am_rf_s, am_rf_n, ps_lit, nI_add, nI_1, pk_mul, ps_cl, ps_neg, ps_c0, ps_c1, ps_n01, ps_n11, ps_10, ps_b01, ps_e0, pu_Ine, pu_Ieq, pu_ne, pu_eq, am_k_n, am_k_i, am_k_r, am_k_u, am_k_l, am_sz_0, am_sz_i, am_sz_r, am_sz_u, am_sz_l, Option.toList_some, Option.toList_none, List.cons_append, List.nil_append, true_and, and_true, or_false, false_or, or_self, or_true, true_or, not_false_eq_true, not_true_eq_false, Classical.not_not, ne_eq, ps_e1, ps_em, ps_z, Nat.not_le, false_implies, true_implies, forall_const, ps_01, ps_1n, ps_0n, ps_m10, ps_m1n, lg_cmp_gt, lg_cmp_ge, lg_cmp_le, lg_cmp_lt, lg_cmp_eq, pu_rne, pu_req, pu_uro, RFc_n, Nat.reduceAdd, Nat.reduceMul, Nat.reduceLT, Nat.reduceLeDiff, Nat.reduceEqDiff, Nat.reduceSub]
      exact hQ _ SCH_r
    · rintro ⟨n', sl', t', I', J', F'⟩ ⟨e1, e2, e3, e4, e5⟩; dsimp only at e1 e2 e3 e4 e5; subst e1; subst e2; subst e3; have hC' := CX_sc hC e4 e5; obtain ⟨hn, hn2, ht, hF⟩ := id hC'.1; intro Q hQ
      simp only [↓r256_0, ↓r256_1, ↓r256_2, ↓r256_5, ↓r256_8, ↓r256_9, ↓r256_10, ↓r256_13, ↓r256_16, ↓r256_17, ↓r256_18, ↓r256_19, ↓r256_20, ↓r256_21, ↓r256_24, ↓r256_27, ↓r256_28, ↓m_isText0 hC' h1, Bool.false_eq_true, hn, hn2, ht, hF, am_wt, am_wf, Option.isSome_some, am_rf_s, am_rf_n, ps_lit, nI_add, nI_1, pk_mul, ps_cl, ps_neg, ps_c0, ps_c1, ps_n01, ps_n11, ps_10, ps_b01, ps_e0, pu_Ine, pu_Ieq, pu_ne, pu_eq, am_k_n, am_k_i, am_k_r, am_k_u, am_k_l, am_sz_0, am_sz_i, am_sz_r, am_sz_u, am_sz_l, Option.toList_some, Option.toList_none, List.cons_append, List.nil_append, true_and, and_true, or_false, false_or, or_self, or_true, true_or, not_false_eq_true, not_true_eq_false, Classical.not_not, ne_eq, ps_e1, ps_em, ps_z, Nat.not_le, false_implies, true_implies, forall_const, ps_01, ps_1n, ps_0n, ps_m10, ps_m1n, lg_cmp_gt, lg_cmp_ge, lg_cmp_le, lg_cmp_lt, lg_cmp_eq, pu_rne, pu_req, pu_uro, RFc_n, Nat.reduceAdd, Nat.reduceMul, Nat.reduceLT, Nat.reduceLeDiff, Nat.reduceEqDiff, Nat.reduceSub]
      exact hQ _ SCH_r
end CH2
