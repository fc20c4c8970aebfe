/-! calls, one on each side: times -/
section TM
variable {X : am_X} {d : Nat} {Q : Option Value → am_H → Prop} {n sl : Nat} {t : Nat → Nat × Nat} {I : Nat → Nat → Int32} {J : Nat → Nat → Int64} {F : Nat → Nat → Option Nat} {h : am_H}
variable {K : Nat → Int32} {N T : Nat} {lw : Nat → List CL} {h : Nat → Nat}
theorem NB_one {f : Nat → Int32} {len : Nat} (q : NB f len 1) : f 0 = 1 := by
  obtain ⟨q1, q2, q3⟩ := q
  have : 0 < len := by
    refine Nat.pos_of_ne_zero (fun e => ?_)
    rw [e, Nat.pow_zero] at q2
    omega
  rw [q3 0 this, one_dig]
  rfl
theorem c_raise {b : Nat → Nat} (hW : WS n t F) (hB : FB I h b) (h1 : fp h 100 < bB ^ 600) (h2 : fp b 100 < bB ^ 600) (hQ : ∀ I', RX I I' → RAT I' (fpd h b 100) (fpd b h 100) → Q none (n, sl, t, I', J, F)) : am_W X (d + 2) 103 0 [some (.ref 19)] [] (n, sl, t, I, J, F) Q := by
  obtain ⟨hn, hn2, ht, hF⟩ := id hW
  simp only [↓r103_0, ↓r103_1, Bool.false_eq_true, hn, hn2, ht, hF, am_wt, am_wf, Option.isSome_some, am_rf_s, am_rf_n, ps_lit, nI_add, nI_1, pk_mul, ps_cl, ps_neg, ps_c0, ps_c1, ps_n01, ps_n11, ps_10, ps_b01, ps_e0, pu_Ine, pu_Ieq, pu_ne, pu_eq, am_k_n, am_k_i, am_k_r, am_k_u, am_k_l, am_sz_0, am_sz_i, am_sz_r, am_sz_u, am_sz_l, Option.toList_some, Option.toList_none, List.cons_append, List.nil_append, true_and, and_true, or_false, false_or, or_self, or_true, true_or, not_false_eq_true, not_true_eq_false, Classical.not_not, ne_eq, ps_e1, ps_em, ps_z, Nat.not_le, false_implies, true_implies, forall_const, ps_01, ps_1n, ps_0n, ps_m10, ps_m1n, lg_cmp_gt, lg_cmp_ge, lg_cmp_le, lg_cmp_lt, lg_cmp_eq, pu_rne, pu_req, pu_uro, RFc_n, Nat.reduceAdd, Nat.reduceMul, Nat.reduceLT, Nat.reduceLeDiff, Nat.reduceEqDiff, Nat.reduceSub]
  refine c_rstart hW (fun I1 hX1 hR1 => ?_)
  obtain ⟨lp, lq, e1, e2, n1, n2⟩ := hR1
  obtain ⟨x1, x2, x3, x4, x5⟩ := FB_x hB hX1
  simp only [↓r103_4, ↓r103_5, ↓r103_6, ↓r103_9, ↓r103_10, ↓r103_13, ↓r103_14, ↓r103_17, Bool.false_eq_true, hn, hn2, ht, hF, am_wt, am_wf, Option.isSome_some, am_rf_s, am_rf_n, ps_lit, nI_add, nI_1, pk_mul, ps_cl, ps_neg, ps_c0, ps_c1, ps_n01, ps_n11, ps_10, ps_b01, ps_e0, pu_Ine, pu_Ieq, pu_ne, pu_eq, am_k_n, am_k_i, am_k_r, am_k_u, am_k_l, am_sz_0, am_sz_i, am_sz_r, am_sz_u, am_sz_l, Option.toList_some, Option.toList_none, List.cons_append, List.nil_append, true_and, and_true, or_false, false_or, or_self, or_true, true_or, not_false_eq_true, not_true_eq_false, Classical.not_not, ne_eq, ps_e1, ps_em, ps_z, Nat.not_le, false_implies, true_implies, forall_const, ps_01, ps_1n, ps_0n, ps_m10, ps_m1n, lg_cmp_gt, lg_cmp_ge, lg_cmp_le, lg_cmp_lt, lg_cmp_eq, pu_rne, pu_req, pu_uro, RFc_n, Nat.reduceAdd, Nat.reduceMul, Nat.reduceLT, Nat.reduceLeDiff, Nat.reduceEqDiff, Nat.reduceSub]
  refine c_gby hn2 (hn _ (by decide)) (ht _ (by decide)) (hn _ (by decide)) (ht _ (by decide)) (hn _ (by decide)) (ht _ (by decide)) (by decide) (by decide) x1 x2 x3 x4 x5 h1 (NB_one n1) (fun g len hg => ?_)
  simp only [↓r103_20, ↓r103_23, ↓r103_24, ↓r103_25, ↓r103_28, ↓r103_29, ↓r103_32, ↓r103_33, ↓r103_36, Bool.false_eq_true, hn, hn2, ht, hF, am_wt, am_wf, Option.isSome_some, am_rf_s, am_rf_n, ps_lit, nI_add, nI_1, pk_mul, ps_cl, ps_neg, ps_c0, ps_c1, ps_n01, ps_n11, ps_10, ps_b01, ps_e0, pu_Ine, pu_Ieq, pu_ne, pu_eq, am_k_n, am_k_i, am_k_r, am_k_u, am_k_l, am_sz_0, am_sz_i, am_sz_r, am_sz_u, am_sz_l, Option.toList_some, Option.toList_none, List.cons_append, List.nil_append, true_and, and_true, or_false, false_or, or_self, or_true, true_or, not_false_eq_true, not_true_eq_false, Classical.not_not, ne_eq, ps_e1, ps_em, ps_z, Nat.not_le, false_implies, true_implies, forall_const, ps_01, ps_1n, ps_0n, ps_m10, ps_m1n, lg_cmp_gt, lg_cmp_ge, lg_cmp_le, lg_cmp_lt, lg_cmp_eq, pu_rne, pu_req, pu_uro, RFc_n, Nat.reduceAdd, Nat.reduceMul, Nat.reduceLT, Nat.reduceLeDiff, Nat.reduceEqDiff, Nat.reduceSub]
  have y1 : ∀ f, f < 100 → am_uI (am_ro I1 20 g) 19 2 (nI len) 23 f = nI (b f) := fun f hf => by rw [pu_Ine (by decide), pu_rne (by decide)]; exact x2 f hf
  have y2 : ∀ f, f < 100 → am_uI (am_ro I1 20 g) 19 2 (nI len) 22 f = nI (h f) := fun f hf => by rw [pu_Ine (by decide), pu_rne (by decide)]; exact x1 f hf
  have y3 : am_uI (am_ro I1 20 g) 19 2 (nI len) 21 0 = 1 := by rw [pu_Ine (by decide), pu_rne (by decide)]; exact NB_one n2
  refine c_gby hn2 (hn _ (by decide)) (ht _ (by decide)) (hn _ (by decide)) (ht _ (by decide)) (hn _ (by decide)) (ht _ (by decide)) (by decide) (by decide) y1 y2 (fun f => ⟨(x3 f).2, (x3 f).1⟩) x5 x4 h2 y3 (fun g2 len2 hg2 => ?_)
  simp only [↓r103_39, ↓r103_42, Bool.false_eq_true, hn, hn2, ht, hF, am_wt, am_wf, Option.isSome_some, am_rf_s, am_rf_n, ps_lit, nI_add, nI_1, pk_mul, ps_cl, ps_neg, ps_c0, ps_c1, ps_n01, ps_n11, ps_10, ps_b01, ps_e0, pu_Ine, pu_Ieq, pu_ne, pu_eq, am_k_n, am_k_i, am_k_r, am_k_u, am_k_l, am_sz_0, am_sz_i, am_sz_r, am_sz_u, am_sz_l, Option.toList_some, Option.toList_none, List.cons_append, List.nil_append, true_and, and_true, or_false, false_or, or_self, or_true, true_or, not_false_eq_true, not_true_eq_false, Classical.not_not, ne_eq, ps_e1, ps_em, ps_z, Nat.not_le, false_implies, true_implies, forall_const, ps_01, ps_1n, ps_0n, ps_m10, ps_m1n, lg_cmp_gt, lg_cmp_ge, lg_cmp_le, lg_cmp_lt, lg_cmp_eq, pu_rne, pu_req, pu_uro, RFc_n, Nat.reduceAdd, Nat.reduceMul, Nat.reduceLT, Nat.reduceLeDiff, Nat.reduceEqDiff, Nat.reduceSub]
  refine hQ _ (fun a p1 p2 p3 => ?_) ⟨len, len2, ?_, ?_, ?_, ?_⟩
  · rw [pu_Ine p1, pu_rne p3, pu_Ine p1, pu_rne p2]
    exact hX1 a p1 p2 p3
  · simp only [Bool.false_eq_true, hn, hn2, ht, hF, am_wt, am_wf, Option.isSome_some, am_rf_s, am_rf_n, ps_lit, nI_add, nI_1, pk_mul, ps_cl, ps_neg, ps_c0, ps_c1, ps_n01, ps_n11, ps_10, ps_b01, ps_e0, pu_Ine, pu_Ieq, pu_ne, pu_eq, am_k_n, am_k_i, am_k_r, am_k_u, am_k_l, am_sz_0, am_sz_i, am_sz_r, am_sz_u, am_sz_l, Option.toList_some, Option.toList_none, List.cons_append, List.nil_append, true_and, and_true, or_false, false_or, or_self, or_true, true_or, not_false_eq_true, not_true_eq_false, Classical.not_not, ne_eq, ps_e1, ps_em, ps_z, Nat.not_le, false_implies, true_implies, forall_const, ps_01, ps_1n, ps_0n, ps_m10, ps_m1n, lg_cmp_gt, lg_cmp_ge, lg_cmp_le, lg_cmp_lt, lg_cmp_eq, pu_rne, pu_req, pu_uro, RFc_n, Nat.reduceAdd, Nat.reduceMul, Nat.reduceLT, Nat.reduceLeDiff, Nat.reduceEqDiff, Nat.reduceSub]
  · simp only [Bool.false_eq_true, hn, hn2, ht, hF, am_wt, am_wf, Option.isSome_some, am_rf_s, am_rf_n, ps_lit, nI_add, nI_1, pk_mul, ps_cl, ps_neg, ps_c0, ps_c1, ps_n01, ps_n11, ps_10, ps_b01, ps_e0, pu_Ine, pu_Ieq, pu_ne, pu_eq, am_k_n, am_k_i, am_k_r, am_k_u, am_k_l, am_sz_0, am_sz_i, am_sz_r, am_sz_u, am_sz_l, Option.toList_some, Option.toList_none, List.cons_append, List.nil_append, true_and, and_true, or_false, false_or, or_self, or_true, true_or, not_false_eq_true, not_true_eq_false, Classical.not_not, ne_eq, ps_e1, ps_em, ps_z, Nat.not_le, false_implies, true_implies, forall_const, ps_01, ps_1n, ps_0n, ps_m10, ps_m1n, lg_cmp_gt, lg_cmp_ge, lg_cmp_le, lg_cmp_lt, lg_cmp_eq, pu_rne, pu_req, pu_uro, RFc_n, Nat.reduceAdd, Nat.reduceMul, Nat.reduceLT, Nat.reduceLeDiff, Nat.reduceEqDiff, Nat.reduceSub]
  · rw [pu_Ine (by decide), pu_rne (by decide), pu_Ine (by decide), pu_req]
    exact hg
  · rw [pu_Ine (by decide), pu_req]
    exact hg2
theorem jI_neg (a : Int) : -jI a = jI (-a) := (Int64.ofInt_neg a).symm
theorem jI_le {a b : Int} (h1 : -9223372036854775808 ≤ a) (h2 : a < 9223372036854775808) (h3 : -9223372036854775808 ≤ b) (h4 : b < 9223372036854775808) : (jI a ≤ jI b) = (a ≤ b) := by
  apply propext
  rw [Int64.le_iff_toInt_le, jI_t h1 h2, jI_t h3 h4]
theorem c_times {b : Nat → Nat} (hW : WS n t F) (hL : XL X) (hB : FB I h b) (h1 : fp h 100 ≤ nC) (h2 : fp b 100 ≤ nC) (hQ : ∀ I' J', RX I I' → Q (some (.int (nI (min 1000000 (fp h 100 / fp b 100))))) (n, sl, t, I', J', F)) : am_W X (d + 3) 101 0 [some (.ref 19)] [] (n, sl, t, I, J, F) Q := by
  obtain ⟨hn, hn2, ht, hF⟩ := id hW
  obtain ⟨x1, x2, x3, x4, x5⟩ := id hB
  have bb : fp h 100 < bB ^ 600 ∧ fp b 100 < bB ^ 600 := by
    have h3 : nC * 1 ≤ nC * 2000000 := Nat.mul_le_mul_left _ (by decide)
    have := nC_b
    omega
  have wb := wA_b x3 100 (Nat.le_refl _)
  have db := wD_b x3 100
  have we := wA_e (h := h) (t := b) 100
  have de := wD_e (h := h) (t := b) 100
  simp only [↓r101_0, ↓r101_1, Bool.false_eq_true, hn, hn2, ht, hF, am_wt, am_wf, Option.isSome_some, am_rf_s, am_rf_n, ps_lit, nI_add, nI_1, pk_mul, ps_cl, ps_neg, ps_c0, ps_c1, ps_n01, ps_n11, ps_10, ps_b01, ps_e0, pu_Ine, pu_Ieq, pu_ne, pu_eq, am_k_n, am_k_i, am_k_r, am_k_u, am_k_l, am_sz_0, am_sz_i, am_sz_r, am_sz_u, am_sz_l, Option.toList_some, Option.toList_none, List.cons_append, List.nil_append, true_and, and_true, or_false, false_or, or_self, or_true, true_or, not_false_eq_true, not_true_eq_false, Classical.not_not, ne_eq, ps_e1, ps_em, ps_z, Nat.not_le, false_implies, true_implies, forall_const, ps_01, ps_1n, ps_0n, ps_m10, ps_m1n, lg_cmp_gt, lg_cmp_ge, lg_cmp_le, lg_cmp_lt, lg_cmp_eq, pu_rne, pu_req, pu_uro, RFc_n, Nat.reduceAdd, Nat.reduceMul, Nat.reduceLT, Nat.reduceLeDiff, Nat.reduceEqDiff, Nat.reduceSub]
  refine c_weigh hW hL hB (fun J' e6 e7 => ?_)
  have y1 : (-jI ((wD h b 100 : Nat) : Int) ≤ jI (wA h b 100)) = (-((wD h b 100 : Nat) : Int) ≤ wA h b 100) := by
    rw [jI_neg]
    exact jI_le (by omega) (by omega) (by omega) (by omega)
  have y2 : (jI (wA h b 100) - jI ((wD h b 100 : Nat) : Int) < 20971520) = (wA h b 100 - ((wD h b 100 : Nat) : Int) < 20971520) := by
    rw [jI_sub]
    exact jI_lt (b := 20971520) (by omega) (by omega) (by omega) (by omega)
  by_cases c1 : -((wD h b 100 : Nat) : Int) ≤ wA h b 100
  · by_cases c2 : wA h b 100 - ((wD h b 100 : Nat) : Int) < 20971520
    · simp only [↓r101_4, ↓r101_5, ↓r101_8, ↓r101_9, ↓r101_12, ↓r101_13, ↓r101_14, ↓r101_17, ↓r101_18, ↓r101_19, ↓r101_20, ↓r101_23, ↓r101_24, ↓r101_27, ↓r101_28, ↓r101_31, ↓r101_32, ↓r101_35, ↓r101_37, ↓r101_38, ↓r101_39, e6, e7, lg_cmp_ge, lg_cmp_lt, y1, y2, c1, c2, Bool.false_eq_true, hn, hn2, ht, hF, am_wt, am_wf, Option.isSome_some, am_rf_s, am_rf_n, ps_lit, nI_add, nI_1, pk_mul, ps_cl, ps_neg, ps_c0, ps_c1, ps_n01, ps_n11, ps_10, ps_b01, ps_e0, pu_Ine, pu_Ieq, pu_ne, pu_eq, am_k_n, am_k_i, am_k_r, am_k_u, am_k_l, am_sz_0, am_sz_i, am_sz_r, am_sz_u, am_sz_l, Option.toList_some, Option.toList_none, List.cons_append, List.nil_append, true_and, and_true, or_false, false_or, or_self, or_true, true_or, not_false_eq_true, not_true_eq_false, Classical.not_not, ne_eq, ps_e1, ps_em, ps_z, Nat.not_le, false_implies, true_implies, forall_const, ps_01, ps_1n, ps_0n, ps_m10, ps_m1n, lg_cmp_gt, lg_cmp_ge, lg_cmp_le, lg_cmp_lt, lg_cmp_eq, pu_rne, pu_req, pu_uro, RFc_n, Nat.reduceAdd, Nat.reduceMul, Nat.reduceLT, Nat.reduceLeDiff, Nat.reduceEqDiff, Nat.reduceSub]
      refine c_raise hW hB bb.1 bb.2 (fun I1 hX1 hR1 => ?_)
      simp only [↓r101_42, ↓r101_43, ↓r101_44, ↓r101_46, Bool.false_eq_true, hn, hn2, ht, hF, am_wt, am_wf, Option.isSome_some, am_rf_s, am_rf_n, ps_lit, nI_add, nI_1, pk_mul, ps_cl, ps_neg, ps_c0, ps_c1, ps_n01, ps_n11, ps_10, ps_b01, ps_e0, pu_Ine, pu_Ieq, pu_ne, pu_eq, am_k_n, am_k_i, am_k_r, am_k_u, am_k_l, am_sz_0, am_sz_i, am_sz_r, am_sz_u, am_sz_l, Option.toList_some, Option.toList_none, List.cons_append, List.nil_append, true_and, and_true, or_false, false_or, or_self, or_true, true_or, not_false_eq_true, not_true_eq_false, Classical.not_not, ne_eq, ps_e1, ps_em, ps_z, Nat.not_le, false_implies, true_implies, forall_const, ps_01, ps_1n, ps_0n, ps_m10, ps_m1n, lg_cmp_gt, lg_cmp_ge, lg_cmp_le, lg_cmp_lt, lg_cmp_eq, pu_rne, pu_req, pu_uro, RFc_n, Nat.reduceAdd, Nat.reduceMul, Nat.reduceLT, Nat.reduceLeDiff, Nat.reduceEqDiff, Nat.reduceSub]
      have hd0 : 0 < fpd b h 100 := fp_pos (by rw [x4, x5]) 100
      have hdl := fpd_le (h := h) (t := b) x4 x5
      refine c_cut (sc := 1) hW hR1 hd0 (by decide) (by rw [Nat.mul_one]; omega) (by decide) (fun I2 hX2 => ?_)
      simp only [↓r101_49, Bool.false_eq_true, hn, hn2, ht, hF, am_wt, am_wf, Option.isSome_some, am_rf_s, am_rf_n, ps_lit, nI_add, nI_1, pk_mul, ps_cl, ps_neg, ps_c0, ps_c1, ps_n01, ps_n11, ps_10, ps_b01, ps_e0, pu_Ine, pu_Ieq, pu_ne, pu_eq, am_k_n, am_k_i, am_k_r, am_k_u, am_k_l, am_sz_0, am_sz_i, am_sz_r, am_sz_u, am_sz_l, Option.toList_some, Option.toList_none, List.cons_append, List.nil_append, true_and, and_true, or_false, false_or, or_self, or_true, true_or, not_false_eq_true, not_true_eq_false, Classical.not_not, ne_eq, ps_e1, ps_em, ps_z, Nat.not_le, false_implies, true_implies, forall_const, ps_01, ps_1n, ps_0n, ps_m10, ps_m1n, lg_cmp_gt, lg_cmp_ge, lg_cmp_le, lg_cmp_lt, lg_cmp_eq, pu_rne, pu_req, pu_uro, RFc_n, Nat.reduceAdd, Nat.reduceMul, Nat.reduceLT, Nat.reduceLeDiff, Nat.reduceEqDiff, Nat.reduceSub]
      have := hQ I2 J' (RX_t hX1 hX2)
      rw [fp_div x4 x5] at this
      rw [Nat.mul_one]
      exact this
    · have hm := lg_mill (h := h) (t := b) x4 x5 (by omega)
      have hd0 : 0 < fpd b h 100 := fp_pos (by rw [x4, x5]) 100
      have hge : 1000000 ≤ fp h 100 / fp b 100 := by
        rw [fp_div x4 x5]
        exact (Nat.le_div_iff_mul_le hd0).mpr hm
      have := hQ I J' RX_r
      rw [Nat.min_eq_left hge] at this
      simp only [↓r101_4, ↓r101_5, ↓r101_8, ↓r101_9, ↓r101_12, ↓r101_13, ↓r101_14, ↓r101_17, ↓r101_18, ↓r101_19, ↓r101_20, ↓r101_23, ↓r101_24, ↓r101_27, ↓r101_28, ↓r101_31, ↓r101_32, ↓r101_35, ↓r101_37, e6, e7, lg_cmp_ge, lg_cmp_lt, y1, y2, c1, c2, Bool.false_eq_true, hn, hn2, ht, hF, am_wt, am_wf, Option.isSome_some, am_rf_s, am_rf_n, ps_lit, nI_add, nI_1, pk_mul, ps_cl, ps_neg, ps_c0, ps_c1, ps_n01, ps_n11, ps_10, ps_b01, ps_e0, pu_Ine, pu_Ieq, pu_ne, pu_eq, am_k_n, am_k_i, am_k_r, am_k_u, am_k_l, am_sz_0, am_sz_i, am_sz_r, am_sz_u, am_sz_l, Option.toList_some, Option.toList_none, List.cons_append, List.nil_append, true_and, and_true, or_false, false_or, or_self, or_true, true_or, not_false_eq_true, not_true_eq_false, Classical.not_not, ne_eq, ps_e1, ps_em, ps_z, Nat.not_le, false_implies, true_implies, forall_const, ps_01, ps_1n, ps_0n, ps_m10, ps_m1n, lg_cmp_gt, lg_cmp_ge, lg_cmp_le, lg_cmp_lt, lg_cmp_eq, pu_rne, pu_req, pu_uro, RFc_n, Nat.reduceAdd, Nat.reduceMul, Nat.reduceLT, Nat.reduceLeDiff, Nat.reduceEqDiff, Nat.reduceSub]
      exact this
  · have hm := lg_less (h := h) (t := b) x4 x5 (by omega)
    have hlt := (fp_lt x4 x5).mpr hm
    have := hQ I J' RX_r
    rw [Nat.div_eq_of_lt hlt, Nat.min_zero] at this
    simp only [↓r101_4, ↓r101_5, ↓r101_8, ↓r101_9, ↓r101_12, ↓r101_13, ↓r101_14, ↓r101_17, ↓r101_18, e6, e7, lg_cmp_ge, y1, c1, Bool.false_eq_true, hn, hn2, ht, hF, am_wt, am_wf, Option.isSome_some, am_rf_s, am_rf_n, ps_lit, nI_add, nI_1, pk_mul, ps_cl, ps_neg, ps_c0, ps_c1, ps_n01, ps_n11, ps_10, ps_b01, ps_e0, pu_Ine, pu_Ieq, pu_ne, pu_eq, am_k_n, am_k_i, am_k_r, am_k_u, am_k_l, am_sz_0, am_sz_i, am_sz_r, am_sz_u, am_sz_l, Option.toList_some, Option.toList_none, List.cons_append, List.nil_append, true_and, and_true, or_false, false_or, or_self, or_true, true_or, not_false_eq_true, not_true_eq_false, Classical.not_not, ne_eq, ps_e1, ps_em, ps_z, Nat.not_le, false_implies, true_implies, forall_const, ps_01, ps_1n, ps_0n, ps_m10, ps_m1n, lg_cmp_gt, lg_cmp_ge, lg_cmp_le, lg_cmp_lt, lg_cmp_eq, pu_rne, pu_req, pu_uro, RFc_n, Nat.reduceAdd, Nat.reduceMul, Nat.reduceLT, Nat.reduceLeDiff, Nat.reduceEqDiff, Nat.reduceSub]
    exact this
theorem c_more {b : Nat → Nat} (hW : WS n t F) (hL : XL X) (hB : FB I h b) (h1 : fp h 100 ≤ nC) (h2 : fp b 100 ≤ nC) (hQ : ∀ I' J', RX I I' → Q (some (.int (if fp b 100 < fp h 100 then 1 else 0))) (n, sl, t, I', J', F)) : am_W X (d + 3) 106 0 [some (.ref 19)] [] (n, sl, t, I, J, F) Q := by
  obtain ⟨hn, hn2, ht, hF⟩ := id hW
  obtain ⟨x1, x2, x3, x4, x5⟩ := id hB
  have bb : fp h 100 < bB ^ 600 ∧ fp b 100 < bB ^ 600 := by
    have h3 : nC * 1 ≤ nC * 2000000 := Nat.mul_le_mul_left _ (by decide)
    have := nC_b
    omega
  have wb := wA_b x3 100 (Nat.le_refl _)
  have db := wD_b x3 100
  have we := wA_e (h := h) (t := b) 100
  have de := wD_e (h := h) (t := b) 100
  simp only [↓r106_0, ↓r106_1, Bool.false_eq_true, hn, hn2, ht, hF, am_wt, am_wf, Option.isSome_some, am_rf_s, am_rf_n, ps_lit, nI_add, nI_1, pk_mul, ps_cl, ps_neg, ps_c0, ps_c1, ps_n01, ps_n11, ps_10, ps_b01, ps_e0, pu_Ine, pu_Ieq, pu_ne, pu_eq, am_k_n, am_k_i, am_k_r, am_k_u, am_k_l, am_sz_0, am_sz_i, am_sz_r, am_sz_u, am_sz_l, Option.toList_some, Option.toList_none, List.cons_append, List.nil_append, true_and, and_true, or_false, false_or, or_self, or_true, true_or, not_false_eq_true, not_true_eq_false, Classical.not_not, ne_eq, ps_e1, ps_em, ps_z, Nat.not_le, false_implies, true_implies, forall_const, ps_01, ps_1n, ps_0n, ps_m10, ps_m1n, lg_cmp_gt, lg_cmp_ge, lg_cmp_le, lg_cmp_lt, lg_cmp_eq, pu_rne, pu_req, pu_uro, RFc_n, Nat.reduceAdd, Nat.reduceMul, Nat.reduceLT, Nat.reduceLeDiff, Nat.reduceEqDiff, Nat.reduceSub]
  refine c_weigh hW hL hB (fun J' e6 e7 => ?_)
  have y1 : (-jI ((wD h b 100 : Nat) : Int) ≤ jI (wA h b 100)) = (-((wD h b 100 : Nat) : Int) ≤ wA h b 100) := by
    rw [jI_neg]
    exact jI_le (by omega) (by omega) (by omega) (by omega)
  have y2 : (jI ((wD h b 100 : Nat) : Int) < jI (wA h b 100)) = (((wD h b 100 : Nat) : Int) < wA h b 100) := jI_lt (by omega) (by omega) (by omega) (by omega)
  have y3 : (jI (wA h b 100) ≤ 0) = (wA h b 100 ≤ 0) := jI_le (b := 0) (by omega) (by omega) (by omega) (by omega)
  by_cases c2 : ((wD h b 100 : Nat) : Int) < wA h b 100
  · have hm := lg_less (h := b) (t := h) x5 x4 (by omega)
    have hlt := (fp_lt x5 x4).mpr hm
    have c3 : ¬ wA h b 100 ≤ 0 := by omega
    have := hQ I J' RX_r
    rw [if_pos hlt] at this
    simp only [↓r106_4, ↓r106_5, ↓r106_8, ↓r106_9, ↓r106_12, ↓r106_13, ↓r106_16, ↓r106_17, ↓r106_20, ↓r106_21, ↓r106_24, ↓r106_25, ↓r106_26, ↓r106_29, ↓r106_30, ↓r106_33, ↓r106_34, ↓r106_35, ↓r106_38, ↓r106_39, ↓r106_42, ↓r106_43, e6, e7, lg_cmp_gt, lg_cmp_ge, lg_cmp_le, y1, y2, y3, c2, c3, Bool.false_eq_true, hn, hn2, ht, hF, am_wt, am_wf, Option.isSome_some, am_rf_s, am_rf_n, ps_lit, nI_add, nI_1, pk_mul, ps_cl, ps_neg, ps_c0, ps_c1, ps_n01, ps_n11, ps_10, ps_b01, ps_e0, pu_Ine, pu_Ieq, pu_ne, pu_eq, am_k_n, am_k_i, am_k_r, am_k_u, am_k_l, am_sz_0, am_sz_i, am_sz_r, am_sz_u, am_sz_l, Option.toList_some, Option.toList_none, List.cons_append, List.nil_append, true_and, and_true, or_false, false_or, or_self, or_true, true_or, not_false_eq_true, not_true_eq_false, Classical.not_not, ne_eq, ps_e1, ps_em, ps_z, Nat.not_le, false_implies, true_implies, forall_const, ps_01, ps_1n, ps_0n, ps_m10, ps_m1n, lg_cmp_gt, lg_cmp_ge, lg_cmp_le, lg_cmp_lt, lg_cmp_eq, pu_rne, pu_req, pu_uro, RFc_n, Nat.reduceAdd, Nat.reduceMul, Nat.reduceLT, Nat.reduceLeDiff, Nat.reduceEqDiff, Nat.reduceSub]
    exact this
  · by_cases c1 : -((wD h b 100 : Nat) : Int) ≤ wA h b 100
    · simp only [↓r106_4, ↓r106_5, ↓r106_8, ↓r106_9, ↓r106_12, ↓r106_13, ↓r106_16, ↓r106_17, ↓r106_20, ↓r106_21, ↓r106_24, ↓r106_25, ↓r106_26, ↓r106_29, ↓r106_30, ↓r106_33, ↓r106_34, ↓r106_35, ↓r106_38, ↓r106_39, ↓r106_42, ↓r106_43, ↓r106_44, ↓r106_45, e6, e7, lg_cmp_gt, lg_cmp_ge, y1, y2, c1, c2, Bool.false_eq_true, hn, hn2, ht, hF, am_wt, am_wf, Option.isSome_some, am_rf_s, am_rf_n, ps_lit, nI_add, nI_1, pk_mul, ps_cl, ps_neg, ps_c0, ps_c1, ps_n01, ps_n11, ps_10, ps_b01, ps_e0, pu_Ine, pu_Ieq, pu_ne, pu_eq, am_k_n, am_k_i, am_k_r, am_k_u, am_k_l, am_sz_0, am_sz_i, am_sz_r, am_sz_u, am_sz_l, Option.toList_some, Option.toList_none, List.cons_append, List.nil_append, true_and, and_true, or_false, false_or, or_self, or_true, true_or, not_false_eq_true, not_true_eq_false, Classical.not_not, ne_eq, ps_e1, ps_em, ps_z, Nat.not_le, false_implies, true_implies, forall_const, ps_01, ps_1n, ps_0n, ps_m10, ps_m1n, lg_cmp_gt, lg_cmp_ge, lg_cmp_le, lg_cmp_lt, lg_cmp_eq, pu_rne, pu_req, pu_uro, RFc_n, Nat.reduceAdd, Nat.reduceMul, Nat.reduceLT, Nat.reduceLeDiff, Nat.reduceEqDiff, Nat.reduceSub]
      refine c_raise hW hB bb.1 bb.2 (fun I1 hX1 hR1 => ?_)
      obtain ⟨lp, lq, e1, e2, n1, n2⟩ := hR1
      have g1 := fun Q => c_covers (X := X) (d := d + 2) (Q := Q) (sl := sl) (J := J') (F := F) (I := I1) (a := 21) (b := 20) (G := fpd b h 100) (S := fpd h b 100) (lg := lq) (ls := lp) (m := 1) hn2 (hn _ (by decide)) (ht _ (by decide)) (hn _ (by decide)) (ht _ (by decide)) n2.1 n1.1 n2.2.2 n1.2.2 n2.2.1 n1.2.1 (by decide)
      simp only [ps_n1] at g1
      have hlt := fp_lt (h := b) (t := h) x5 x4
      have := hQ I1 J' hX1
      by_cases c4 : fp b 100 < fp h 100
      · have c5 := hlt.mp c4
        have c6 : ¬ 1 * fpd h b 100 ≤ fpd b h 100 := by omega
        rw [if_pos c4] at this
        simp only [↓r106_48, ↓r106_49, ↓r106_52, ↓r106_53, ↓r106_56, ↓r106_57, ↓r106_58, ↓r106_61, ↓r106_62, ↓r106_65, ↓r106_68, ↓r106_71, ↓r106_72, ↓r106_75, ↓r106_76, ↓g1, e1, e2, c6, if_false, Bool.false_eq_true, hn, hn2, ht, hF, am_wt, am_wf, Option.isSome_some, am_rf_s, am_rf_n, ps_lit, nI_add, nI_1, pk_mul, ps_cl, ps_neg, ps_c0, ps_c1, ps_n01, ps_n11, ps_10, ps_b01, ps_e0, pu_Ine, pu_Ieq, pu_ne, pu_eq, am_k_n, am_k_i, am_k_r, am_k_u, am_k_l, am_sz_0, am_sz_i, am_sz_r, am_sz_u, am_sz_l, Option.toList_some, Option.toList_none, List.cons_append, List.nil_append, true_and, and_true, or_false, false_or, or_self, or_true, true_or, not_false_eq_true, not_true_eq_false, Classical.not_not, ne_eq, ps_e1, ps_em, ps_z, Nat.not_le, false_implies, true_implies, forall_const, ps_01, ps_1n, ps_0n, ps_m10, ps_m1n, lg_cmp_gt, lg_cmp_ge, lg_cmp_le, lg_cmp_lt, lg_cmp_eq, pu_rne, pu_req, pu_uro, RFc_n, Nat.reduceAdd, Nat.reduceMul, Nat.reduceLT, Nat.reduceLeDiff, Nat.reduceEqDiff, Nat.reduceSub]
        exact this
      · have c5 : ¬ fpd b h 100 < fpd h b 100 := fun q => c4 (hlt.mpr q)
        have c6 : 1 * fpd h b 100 ≤ fpd b h 100 := by omega
        rw [if_neg c4] at this
        simp only [↓r106_48, ↓r106_49, ↓r106_52, ↓r106_53, ↓r106_56, ↓r106_57, ↓r106_58, ↓r106_61, ↓r106_62, ↓r106_65, ↓r106_68, ↓r106_71, ↓r106_72, ↓r106_75, ↓r106_76, ↓g1, e1, e2, c6, if_true, Bool.false_eq_true, hn, hn2, ht, hF, am_wt, am_wf, Option.isSome_some, am_rf_s, am_rf_n, ps_lit, nI_add, nI_1, pk_mul, ps_cl, ps_neg, ps_c0, ps_c1, ps_n01, ps_n11, ps_10, ps_b01, ps_e0, pu_Ine, pu_Ieq, pu_ne, pu_eq, am_k_n, am_k_i, am_k_r, am_k_u, am_k_l, am_sz_0, am_sz_i, am_sz_r, am_sz_u, am_sz_l, Option.toList_some, Option.toList_none, List.cons_append, List.nil_append, true_and, and_true, or_false, false_or, or_self, or_true, true_or, not_false_eq_true, not_true_eq_false, Classical.not_not, ne_eq, ps_e1, ps_em, ps_z, Nat.not_le, false_implies, true_implies, forall_const, ps_01, ps_1n, ps_0n, ps_m10, ps_m1n, lg_cmp_gt, lg_cmp_ge, lg_cmp_le, lg_cmp_lt, lg_cmp_eq, pu_rne, pu_req, pu_uro, RFc_n, Nat.reduceAdd, Nat.reduceMul, Nat.reduceLT, Nat.reduceLeDiff, Nat.reduceEqDiff, Nat.reduceSub]
        exact this
    · have hm := lg_less (h := h) (t := b) x4 x5 (by omega)
      have hlt := (fp_lt x4 x5).mpr hm
      have c3 : wA h b 100 ≤ 0 := by omega
      have := hQ I J' RX_r
      rw [if_neg (by omega)] at this
      simp only [↓r106_4, ↓r106_5, ↓r106_8, ↓r106_9, ↓r106_12, ↓r106_13, ↓r106_16, ↓r106_17, ↓r106_20, ↓r106_21, ↓r106_24, ↓r106_25, ↓r106_26, ↓r106_29, ↓r106_30, ↓r106_33, ↓r106_34, ↓r106_35, ↓r106_38, ↓r106_39, ↓r106_42, ↓r106_43, e6, e7, lg_cmp_gt, lg_cmp_ge, lg_cmp_le, y1, y2, y3, c1, c2, c3, Bool.false_eq_true, hn, hn2, ht, hF, am_wt, am_wf, Option.isSome_some, am_rf_s, am_rf_n, ps_lit, nI_add, nI_1, pk_mul, ps_cl, ps_neg, ps_c0, ps_c1, ps_n01, ps_n11, ps_10, ps_b01, ps_e0, pu_Ine, pu_Ieq, pu_ne, pu_eq, am_k_n, am_k_i, am_k_r, am_k_u, am_k_l, am_sz_0, am_sz_i, am_sz_r, am_sz_u, am_sz_l, Option.toList_some, Option.toList_none, List.cons_append, List.nil_append, true_and, and_true, or_false, false_or, or_self, or_true, true_or, not_false_eq_true, not_true_eq_false, Classical.not_not, ne_eq, ps_e1, ps_em, ps_z, Nat.not_le, false_implies, true_implies, forall_const, ps_01, ps_1n, ps_0n, ps_m10, ps_m1n, lg_cmp_gt, lg_cmp_ge, lg_cmp_le, lg_cmp_lt, lg_cmp_eq, pu_rne, pu_req, pu_uro, RFc_n, Nat.reduceAdd, Nat.reduceMul, Nat.reduceLT, Nat.reduceLeDiff, Nat.reduceEqDiff, Nat.reduceSub]
      exact this
/-- a law's product for a group -/
def lkP (K : Nat → Int32) (lc : List CL) (l : List Nat) : Nat := fp (gc K lc l l.length) 100
theorem lkP_b {lc : List CL} {l : List Nat} (hl : l.length ≤ 120) (hw : ∀ i, i < l.length → wN K (l.getD i 0) ≤ 200) : lkP K lc l ≤ nC := Nat.le_trans (gc_pb l.length hw) (n99 (by omega))
theorem gc_bb {lc : List CL} {l : List Nat} (hl : l.length ≤ 120) (hw : ∀ i, i < l.length → wN K (l.getD i 0) ≤ 200) (f : Nat) : gc K lc l l.length f ≤ 2400 := by
  have := gc_b (K := K) (lc := lc) (l := l) l.length hw f
  omega
theorem lkP_p {lc : List CL} {l : List Nat} : 0 < lkP K lc l := fp_pos (gc_0 l.length) 100
theorem pr_times {x y z : Int32} (hL : XL X) {i : Nat} (hX : XS X) (hi : i < 600) (hV : Inv i (n, sl, t, I, J, F)) : PR X i 98 253 [some (.ref 0), some (.int x), some (.int y), some (.int z), none, none] [some (.ref 47), some (.int x), some (.int y), some (.int z)] (n, sl, t, I, J, F) := by
  obtain ⟨N, T, lw, hC⟩ := CX_of hV; obtain ⟨hW, hK, _, ⟨hs, hc, hr, hu, hm⟩, hl⟩ := id hC; have hN := hK.1; obtain ⟨hn, hn2, ht, hF⟩ := id hW
  have hT := hK.2.1
  have bad : ¬ ((0 ≤ x ∧ x ≤ nI T - 1) ∧ (0 ≤ y ∧ y ≤ nI T - 1) ∧ isG T z) → PR X i 98 253 [some (.ref 0), some (.int x), some (.int y), some (.int z), none, none] [some (.ref 47), some (.int x), some (.int y), some (.int z)] (n, sl, t, I, J, F) := by
    intro hbad
    refine PR_ask (v := -1) hi hV ?_ ?_
    · intro Q hQ
      by_cases h1 : 0 ≤ x ∧ x ≤ nI T - 1
      · obtain ⟨j, hj, rfl⟩ := isT_c hT h1
        obtain ⟨a, ea, a1, a2, ta, hb⟩ := CX_law hC hj
        by_cases h2 : 0 ≤ y ∧ y ≤ nI T - 1
        · obtain ⟨j2, hj2, rfl⟩ := isT_c hT h2
          obtain ⟨b, eb, b1, b2, tb, hb'⟩ := CX_law hC hj2
          have h3 : ¬ isG T z := fun q => hbad ⟨h1, h2, q⟩
          simp only [↓r98_0, ↓r98_1, ↓r98_4, ↓r98_5, ↓r98_8, ↓r98_8n, ↓r98_10, ↓r98_11, ↓r98_14, ↓r98_15, ↓r98_18, ↓r98_18n, ↓r98_20, ↓r98_20n, ↓r98_22, ↓r98_22n, ↓r98_25, ↓r98_25n, ↓r98_27, ↓r98_27n, ↓r98_30, ↓r98_31, ↓r98_32, ↓r98_35, ↓r98_36, ↓r98_39, ↓r98_42, ↓r98_43, ↓k_law1 hC hj ea, ↓k_law1 hC hj2 eb, ↓c_gather0 hC h3, Bool.false_eq_true, hn, hn2, ht, hF, am_wt, am_wf, Option.isSome_some, am_rf_s, am_rf_n, ps_lit, nI_add, nI_1, pk_mul, ps_cl, ps_neg, ps_c0, ps_c1, ps_n01, ps_n11, ps_10, ps_b01, ps_e0, pu_Ine, pu_Ieq, pu_ne, pu_eq, am_k_n, am_k_i, am_k_r, am_k_u, am_k_l, am_sz_0, am_sz_i, am_sz_r, am_sz_u, am_sz_l, Option.toList_some, Option.toList_none, List.cons_append, List.nil_append, true_and, and_true, or_false, false_or, or_self, or_true, true_or, not_false_eq_true, not_true_eq_false, Classical.not_not, ne_eq, ps_e1, ps_em, ps_z, Nat.not_le, false_implies, true_implies, forall_const, ps_01, ps_1n, ps_0n, ps_m10, ps_m1n, lg_cmp_gt, lg_cmp_ge, lg_cmp_le, lg_cmp_lt, lg_cmp_eq, pu_rne, pu_req, pu_uro, RFc_n, Nat.reduceAdd, Nat.reduceMul, Nat.reduceLT, Nat.reduceLeDiff, Nat.reduceEqDiff, Nat.reduceSub]
          exact hQ _ SCH_r
        · simp only [↓r98_0, ↓r98_1, ↓r98_4, ↓r98_5, ↓r98_8, ↓r98_8n, ↓r98_10, ↓r98_11, ↓r98_14, ↓r98_15, ↓r98_18, ↓r98_18n, ↓r98_20, ↓r98_20n, ↓r98_22, ↓r98_22n, ↓r98_25, ↓r98_25n, ↓r98_27, ↓r98_27n, ↓r98_30, ↓r98_31, ↓r98_32, ↓r98_35, ↓r98_36, ↓r98_39, ↓r98_42, ↓r98_43, ↓k_law1 hC hj ea, ↓k_law0 hC h2, Bool.false_eq_true, hn, hn2, ht, hF, am_wt, am_wf, Option.isSome_some, am_rf_s, am_rf_n, ps_lit, nI_add, nI_1, pk_mul, ps_cl, ps_neg, ps_c0, ps_c1, ps_n01, ps_n11, ps_10, ps_b01, ps_e0, pu_Ine, pu_Ieq, pu_ne, pu_eq, am_k_n, am_k_i, am_k_r, am_k_u, am_k_l, am_sz_0, am_sz_i, am_sz_r, am_sz_u, am_sz_l, Option.toList_some, Option.toList_none, List.cons_append, List.nil_append, true_and, and_true, or_false, false_or, or_self, or_true, true_or, not_false_eq_true, not_true_eq_false, Classical.not_not, ne_eq, ps_e1, ps_em, ps_z, Nat.not_le, false_implies, true_implies, forall_const, ps_01, ps_1n, ps_0n, ps_m10, ps_m1n, lg_cmp_gt, lg_cmp_ge, lg_cmp_le, lg_cmp_lt, lg_cmp_eq, pu_rne, pu_req, pu_uro, RFc_n, Nat.reduceAdd, Nat.reduceMul, Nat.reduceLT, Nat.reduceLeDiff, Nat.reduceEqDiff, Nat.reduceSub]
          exact hQ _ SCH_r
      · by_cases h2 : 0 ≤ y ∧ y ≤ nI T - 1
        · obtain ⟨j2, hj2, rfl⟩ := isT_c hT h2
          obtain ⟨b, eb, b1, b2, tb, hb'⟩ := CX_law hC hj2
          simp only [↓r98_0, ↓r98_1, ↓r98_4, ↓r98_5, ↓r98_8, ↓r98_8n, ↓r98_10, ↓r98_11, ↓r98_14, ↓r98_15, ↓r98_18, ↓r98_18n, ↓r98_20, ↓r98_20n, ↓r98_22, ↓r98_22n, ↓r98_25, ↓r98_25n, ↓r98_27, ↓r98_27n, ↓r98_30, ↓r98_31, ↓r98_32, ↓r98_35, ↓r98_36, ↓r98_39, ↓r98_42, ↓r98_43, ↓k_law0 hC h1, ↓k_law1 hC hj2 eb, Bool.false_eq_true, hn, hn2, ht, hF, am_wt, am_wf, Option.isSome_some, am_rf_s, am_rf_n, ps_lit, nI_add, nI_1, pk_mul, ps_cl, ps_neg, ps_c0, ps_c1, ps_n01, ps_n11, ps_10, ps_b01, ps_e0, pu_Ine, pu_Ieq, pu_ne, pu_eq, am_k_n, am_k_i, am_k_r, am_k_u, am_k_l, am_sz_0, am_sz_i, am_sz_r, am_sz_u, am_sz_l, Option.toList_some, Option.toList_none, List.cons_append, List.nil_append, true_and, and_true, or_false, false_or, or_self, or_true, true_or, not_false_eq_true, not_true_eq_false, Classical.not_not, ne_eq, ps_e1, ps_em, ps_z, Nat.not_le, false_implies, true_implies, forall_const, ps_01, ps_1n, ps_0n, ps_m10, ps_m1n, lg_cmp_gt, lg_cmp_ge, lg_cmp_le, lg_cmp_lt, lg_cmp_eq, pu_rne, pu_req, pu_uro, RFc_n, Nat.reduceAdd, Nat.reduceMul, Nat.reduceLT, Nat.reduceLeDiff, Nat.reduceEqDiff, Nat.reduceSub]
          exact hQ _ SCH_r
        · simp only [↓r98_0, ↓r98_1, ↓r98_4, ↓r98_5, ↓r98_8, ↓r98_8n, ↓r98_10, ↓r98_11, ↓r98_14, ↓r98_15, ↓r98_18, ↓r98_18n, ↓r98_20, ↓r98_20n, ↓r98_22, ↓r98_22n, ↓r98_25, ↓r98_25n, ↓r98_27, ↓r98_27n, ↓r98_30, ↓r98_31, ↓r98_32, ↓r98_35, ↓r98_36, ↓r98_39, ↓r98_42, ↓r98_43, ↓k_law0 hC h1, ↓k_law0 hC h2, Bool.false_eq_true, hn, hn2, ht, hF, am_wt, am_wf, Option.isSome_some, am_rf_s, am_rf_n, ps_lit, nI_add, nI_1, pk_mul, ps_cl, ps_neg, ps_c0, ps_c1, ps_n01, ps_n11, ps_10, ps_b01, ps_e0, pu_Ine, pu_Ieq, pu_ne, pu_eq, am_k_n, am_k_i, am_k_r, am_k_u, am_k_l, am_sz_0, am_sz_i, am_sz_r, am_sz_u, am_sz_l, Option.toList_some, Option.toList_none, List.cons_append, List.nil_append, true_and, and_true, or_false, false_or, or_self, or_true, true_or, not_false_eq_true, not_true_eq_false, Classical.not_not, ne_eq, ps_e1, ps_em, ps_z, Nat.not_le, false_implies, true_implies, forall_const, ps_01, ps_1n, ps_0n, ps_m10, ps_m1n, lg_cmp_gt, lg_cmp_ge, lg_cmp_le, lg_cmp_lt, lg_cmp_eq, pu_rne, pu_req, pu_uro, RFc_n, Nat.reduceAdd, Nat.reduceMul, Nat.reduceLT, Nat.reduceLeDiff, Nat.reduceEqDiff, Nat.reduceSub]
          exact hQ _ SCH_r
    · rintro ⟨n', sl', t', I', J', F'⟩ ⟨e1, e2, e3, e4, e5⟩; dsimp only at e1 e2 e3 e4 e5; subst e1; subst e2; subst e3; have hC' := CX_sc hC e4 e5; obtain ⟨hn, hn2, ht, hF⟩ := id hC'.1; intro Q hQ
      by_cases h1 : 0 ≤ x ∧ x ≤ nI T - 1
      · obtain ⟨j, hj, rfl⟩ := isT_c hT h1
        by_cases h2 : 0 ≤ y ∧ y ≤ nI T - 1
        · obtain ⟨j2, hj2, rfl⟩ := isT_c hT h2
          have h3 : ¬ isG T z := fun q => hbad ⟨h1, h2, q⟩
          simp only [↓r253_0, ↓r253_1, ↓r253_2, ↓r253_5, ↓r253_8, ↓r253_9, ↓r253_10, ↓r253_13, ↓r253_16, ↓r253_17, ↓r253_18, ↓r253_21, ↓r253_24, ↓r253_25, ↓m_isText1 hC' hj, ↓m_isText1 hC' hj2, ↓m_isGroup0 hC' h3, Bool.false_eq_true, hn, hn2, ht, hF, am_wt, am_wf, Option.isSome_some, am_rf_s, am_rf_n, ps_lit, nI_add, nI_1, pk_mul, ps_cl, ps_neg, ps_c0, ps_c1, ps_n01, ps_n11, ps_10, ps_b01, ps_e0, pu_Ine, pu_Ieq, pu_ne, pu_eq, am_k_n, am_k_i, am_k_r, am_k_u, am_k_l, am_sz_0, am_sz_i, am_sz_r, am_sz_u, am_sz_l, Option.toList_some, Option.toList_none, List.cons_append, List.nil_append, true_and, and_true, or_false, false_or, or_self, or_true, true_or, not_false_eq_true, not_true_eq_false, Classical.not_not, ne_eq, ps_e1, ps_em, ps_z, Nat.not_le, false_implies, true_implies, forall_const, ps_01, ps_1n, ps_0n, ps_m10, ps_m1n, lg_cmp_gt, lg_cmp_ge, lg_cmp_le, lg_cmp_lt, lg_cmp_eq, pu_rne, pu_req, pu_uro, RFc_n, Nat.reduceAdd, Nat.reduceMul, Nat.reduceLT, Nat.reduceLeDiff, Nat.reduceEqDiff, Nat.reduceSub]
          exact hQ _ SCH_r
        · simp only [↓r253_0, ↓r253_1, ↓r253_2, ↓r253_5, ↓r253_8, ↓r253_9, ↓r253_10, ↓r253_13, ↓r253_16, ↓r253_17, ↓r253_18, ↓r253_21, ↓r253_24, ↓r253_25, ↓m_isText1 hC' hj, ↓m_isText0 hC' h2, Bool.false_eq_true, hn, hn2, ht, hF, am_wt, am_wf, Option.isSome_some, am_rf_s, am_rf_n, ps_lit, nI_add, nI_1, pk_mul, ps_cl, ps_neg, ps_c0, ps_c1, ps_n01, ps_n11, ps_10, ps_b01, ps_e0, pu_Ine, pu_Ieq, pu_ne, pu_eq, am_k_n, am_k_i, am_k_r, am_k_u, am_k_l, am_sz_0, am_sz_i, am_sz_r, am_sz_u, am_sz_l, Option.toList_some, Option.toList_none, List.cons_append, List.nil_append, true_and, and_true, or_false, false_or, or_self, or_true, true_or, not_false_eq_true, not_true_eq_false, Classical.not_not, ne_eq, ps_e1, ps_em, ps_z, Nat.not_le, false_implies, true_implies, forall_const, ps_01, ps_1n, ps_0n, ps_m10, ps_m1n, lg_cmp_gt, lg_cmp_ge, lg_cmp_le, lg_cmp_lt, lg_cmp_eq, pu_rne, pu_req, pu_uro, RFc_n, Nat.reduceAdd, Nat.reduceMul, Nat.reduceLT, Nat.reduceLeDiff, Nat.reduceEqDiff, Nat.reduceSub]
          exact hQ _ SCH_r
      · simp only [↓r253_0, ↓r253_1, ↓r253_2, ↓r253_5, ↓r253_8, ↓r253_9, ↓r253_10, ↓r253_13, ↓r253_16, ↓r253_17, ↓r253_18, ↓r253_21, ↓r253_24, ↓r253_25, ↓m_isText0 hC' h1, Bool.false_eq_true, hn, hn2, ht, hF, am_wt, am_wf, Option.isSome_some, am_rf_s, am_rf_n, ps_lit, nI_add, nI_1, pk_mul, ps_cl, ps_neg, ps_c0, ps_c1, ps_n01, ps_n11, ps_10, ps_b01, ps_e0, pu_Ine, pu_Ieq, pu_ne, pu_eq, am_k_n, am_k_i, am_k_r, am_k_u, am_k_l, am_sz_0, am_sz_i, am_sz_r, am_sz_u, am_sz_l, Option.toList_some, Option.toList_none, List.cons_append, List.nil_append, true_and, and_true, or_false, false_or, or_self, or_true, true_or, not_false_eq_true, not_true_eq_false, Classical.not_not, ne_eq, ps_e1, ps_em, ps_z, Nat.not_le, false_implies, true_implies, forall_const, ps_01, ps_1n, ps_0n, ps_m10, ps_m1n, lg_cmp_gt, lg_cmp_ge, lg_cmp_le, lg_cmp_lt, lg_cmp_eq, pu_rne, pu_req, pu_uro, RFc_n, Nat.reduceAdd, Nat.reduceMul, Nat.reduceLT, Nat.reduceLeDiff, Nat.reduceEqDiff, Nat.reduceSub]
        exact hQ _ SCH_r
  by_cases hh : (0 ≤ x ∧ x ≤ nI T - 1) ∧ (0 ≤ y ∧ y ≤ nI T - 1) ∧ isG T z
  · obtain ⟨h1, h2, hz⟩ := hh
    obtain ⟨j, hj, rfl⟩ := isT_c hT h1
    obtain ⟨j2, hj2, rfl⟩ := isT_c hT h2
    obtain ⟨a, ea, a1, a2, ta, hb⟩ := CX_law hC hj
    obtain ⟨b, eb, b1, b2, tb, hb'⟩ := CX_law hC hj2
    refine PR_ask (v := nI (min 1000000 (lkP (I 49) (lw j) (grp (inG (I 49) lw z) N) / lkP (I 49) (lw j2) (grp (inG (I 49) lw z) N)))) hi hV ?_ ?_
    · intro Q hQ
      simp only [↓r98_0, ↓r98_1, ↓r98_4, ↓r98_5, ↓r98_8, ↓r98_8n, ↓r98_10, ↓r98_11, ↓r98_14, ↓r98_15, ↓r98_18, ↓r98_18n, ↓r98_20, ↓r98_20n, ↓r98_22, ↓r98_22n, ↓r98_25, ↓r98_25n, ↓r98_27, ↓r98_27n, ↓r98_30, ↓r98_31, ↓r98_32, ↓r98_35, ↓r98_36, ↓k_law1 hC hj ea, ↓k_law1 hC hj2 eb, Bool.false_eq_true, hn, hn2, ht, hF, am_wt, am_wf, Option.isSome_some, am_rf_s, am_rf_n, ps_lit, nI_add, nI_1, pk_mul, ps_cl, ps_neg, ps_c0, ps_c1, ps_n01, ps_n11, ps_10, ps_b01, ps_e0, pu_Ine, pu_Ieq, pu_ne, pu_eq, am_k_n, am_k_i, am_k_r, am_k_u, am_k_l, am_sz_0, am_sz_i, am_sz_r, am_sz_u, am_sz_l, Option.toList_some, Option.toList_none, List.cons_append, List.nil_append, true_and, and_true, or_false, false_or, or_self, or_true, true_or, not_false_eq_true, not_true_eq_false, Classical.not_not, ne_eq, ps_e1, ps_em, ps_z, Nat.not_le, false_implies, true_implies, forall_const, ps_01, ps_1n, ps_0n, ps_m10, ps_m1n, lg_cmp_gt, lg_cmp_ge, lg_cmp_le, lg_cmp_lt, lg_cmp_eq, pu_rne, pu_req, pu_uro, RFc_n, Nat.reduceAdd, Nat.reduceMul, Nat.reduceLT, Nat.reduceLeDiff, Nat.reduceEqDiff, Nat.reduceSub]
      refine c_gather (Or.inl rfl) hC hz (fun f13 f14 => ?_)
      have s1 := SC_gather (I := I) (f13 := f13) (f14 := f14) (l := grp (inG (I 49) lw z) N) (Or.inl rfl)
      have hC1 := CX_sc hC s1 (fun _ _ _ => rfl)
      have hG1 := GH_c (I := I) (l := []) (f13 := f13) (f14 := f14) (g := 15) (p := inG (I 49) lw z) hN
      generalize gI (am_ro (am_ro I 13 f13) 14 f14) 15 (grp (inG (I 49) lw z) N) = I1 at s1 hC1 hG1
      have hw2 : ∀ k, k < (grp (inG (I 49) lw z) N).length → wN (I 49) ((grp (inG (I 49) lw z) N).getD k 0) ≤ 200 := fun k hk => (kid_w (CK_of hC1) (hG1.2.2 k hk).2).2
      generalize grp (inG (I 49) lw z) N = l at hQ hG1 hw2
      simp only [↓r98_39, ↓r98_42, ↓r98_43, ↓r98_44, ↓r98_45, ↓r98_45n, ↓r98_47, ↓r98_48, ↓r98_51, ↓r98_54, Bool.false_eq_true, hn, hn2, ht, hF, am_wt, am_wf, Option.isSome_some, am_rf_s, am_rf_n, ps_lit, nI_add, nI_1, pk_mul, ps_cl, ps_neg, ps_c0, ps_c1, ps_n01, ps_n11, ps_10, ps_b01, ps_e0, pu_Ine, pu_Ieq, pu_ne, pu_eq, am_k_n, am_k_i, am_k_r, am_k_u, am_k_l, am_sz_0, am_sz_i, am_sz_r, am_sz_u, am_sz_l, Option.toList_some, Option.toList_none, List.cons_append, List.nil_append, true_and, and_true, or_false, false_or, or_self, or_true, true_or, not_false_eq_true, not_true_eq_false, Classical.not_not, ne_eq, ps_e1, ps_em, ps_z, Nat.not_le, false_implies, true_implies, forall_const, ps_01, ps_1n, ps_0n, ps_m10, ps_m1n, lg_cmp_gt, lg_cmp_ge, lg_cmp_le, lg_cmp_lt, lg_cmp_eq, pu_rne, pu_req, pu_uro, RFc_n, Nat.reduceAdd, Nat.reduceMul, Nat.reduceLT, Nat.reduceLeDiff, Nat.reduceEqDiff, Nat.reduceSub]
      refine c_factors (r := 22) hC hj ea (Or.inl rfl) s1 hG1 (fun I2 hF2 => ?_)
      have s2 := FS_SC (Or.inl rfl) s1 hF2
      simp only [↓r98_57, ↓r98_58, ↓r98_58n, ↓r98_60, ↓r98_61, ↓r98_64, ↓r98_67, Bool.false_eq_true, hn, hn2, ht, hF, am_wt, am_wf, Option.isSome_some, am_rf_s, am_rf_n, ps_lit, nI_add, nI_1, pk_mul, ps_cl, ps_neg, ps_c0, ps_c1, ps_n01, ps_n11, ps_10, ps_b01, ps_e0, pu_Ine, pu_Ieq, pu_ne, pu_eq, am_k_n, am_k_i, am_k_r, am_k_u, am_k_l, am_sz_0, am_sz_i, am_sz_r, am_sz_u, am_sz_l, Option.toList_some, Option.toList_none, List.cons_append, List.nil_append, true_and, and_true, or_false, false_or, or_self, or_true, true_or, not_false_eq_true, not_true_eq_false, Classical.not_not, ne_eq, ps_e1, ps_em, ps_z, Nat.not_le, false_implies, true_implies, forall_const, ps_01, ps_1n, ps_0n, ps_m10, ps_m1n, lg_cmp_gt, lg_cmp_ge, lg_cmp_le, lg_cmp_lt, lg_cmp_eq, pu_rne, pu_req, pu_uro, RFc_n, Nat.reduceAdd, Nat.reduceMul, Nat.reduceLT, Nat.reduceLeDiff, Nat.reduceEqDiff, Nat.reduceSub]
      refine c_factors (r := 23) hC hj2 eb (Or.inr rfl) s2 (l := l) (by rw [hF2.1 15 (by decide) (by decide) (by decide), hF2.1 16 (by decide) (by decide) (by decide)]; exact hG1) (fun I3 hF3 => ?_)
      have s3 := FS_SC (Or.inr rfl) s2 hF3
      have hB : FB I3 (gc (I 49) (lw j) l l.length) (gc (I 49) (lw j2) l l.length) := by
        refine ⟨fun f hf => ?_, hF3.2, fun f => ⟨gc_bb hG1.2.1 hw2 f, gc_bb hG1.2.1 hw2 f⟩, gc_0 _, gc_0 _⟩
        rw [hF3.1 22 (by decide) (by decide) (by decide)]
        exact hF2.2 f hf
      simp only [↓r98_70, ↓r98_71, ↓r98_74, Bool.false_eq_true, hn, hn2, ht, hF, am_wt, am_wf, Option.isSome_some, am_rf_s, am_rf_n, ps_lit, nI_add, nI_1, pk_mul, ps_cl, ps_neg, ps_c0, ps_c1, ps_n01, ps_n11, ps_10, ps_b01, ps_e0, pu_Ine, pu_Ieq, pu_ne, pu_eq, am_k_n, am_k_i, am_k_r, am_k_u, am_k_l, am_sz_0, am_sz_i, am_sz_r, am_sz_u, am_sz_l, Option.toList_some, Option.toList_none, List.cons_append, List.nil_append, true_and, and_true, or_false, false_or, or_self, or_true, true_or, not_false_eq_true, not_true_eq_false, Classical.not_not, ne_eq, ps_e1, ps_em, ps_z, Nat.not_le, false_implies, true_implies, forall_const, ps_01, ps_1n, ps_0n, ps_m10, ps_m1n, lg_cmp_gt, lg_cmp_ge, lg_cmp_le, lg_cmp_lt, lg_cmp_eq, pu_rne, pu_req, pu_uro, RFc_n, Nat.reduceAdd, Nat.reduceMul, Nat.reduceLT, Nat.reduceLeDiff, Nat.reduceEqDiff, Nat.reduceSub]
      refine c_times hW hL hB (lkP_b hG1.2.1 hw2) (lkP_b hG1.2.1 hw2) (fun I4 J4 hX4 => ?_)
      simp only [↓r98_77, Bool.false_eq_true, hn, hn2, ht, hF, am_wt, am_wf, Option.isSome_some, am_rf_s, am_rf_n, ps_lit, nI_add, nI_1, pk_mul, ps_cl, ps_neg, ps_c0, ps_c1, ps_n01, ps_n11, ps_10, ps_b01, ps_e0, pu_Ine, pu_Ieq, pu_ne, pu_eq, am_k_n, am_k_i, am_k_r, am_k_u, am_k_l, am_sz_0, am_sz_i, am_sz_r, am_sz_u, am_sz_l, Option.toList_some, Option.toList_none, List.cons_append, List.nil_append, true_and, and_true, or_false, false_or, or_self, or_true, true_or, not_false_eq_true, not_true_eq_false, Classical.not_not, ne_eq, ps_e1, ps_em, ps_z, Nat.not_le, false_implies, true_implies, forall_const, ps_01, ps_1n, ps_0n, ps_m10, ps_m1n, lg_cmp_gt, lg_cmp_ge, lg_cmp_le, lg_cmp_lt, lg_cmp_eq, pu_rne, pu_req, pu_uro, RFc_n, Nat.reduceAdd, Nat.reduceMul, Nat.reduceLT, Nat.reduceLeDiff, Nat.reduceEqDiff, Nat.reduceSub]
      exact hQ _ ⟨rfl, rfl, rfl, RX_SC s3 hX4, fun _ _ _ => rfl⟩
    · rintro ⟨n', sl', t', I', J', F'⟩ ⟨e1, e2, e3, e4, e5⟩; dsimp only at e1 e2 e3 e4 e5; subst e1; subst e2; subst e3; have hC' := CX_sc hC e4 e5; obtain ⟨hn, hn2, ht, hF⟩ := id hC'.1; intro Q hQ
      simp only [↓r253_0, ↓r253_1, ↓r253_2, ↓r253_5, ↓r253_8, ↓r253_9, ↓r253_10, ↓r253_13, ↓r253_16, ↓r253_17, ↓r253_18, ↓r253_21, ↓r253_24, ↓r253_25, ↓r253_26, ↓r253_27, ↓r253_28, ↓m_isText1 hC' hj, ↓m_isText1 hC' hj2, ↓m_isGroup1 hC' hz, Bool.false_eq_true, hn, hn2, ht, hF, am_wt, am_wf, Option.isSome_some, am_rf_s, am_rf_n, ps_lit, nI_add, nI_1, pk_mul, ps_cl, ps_neg, ps_c0, ps_c1, ps_n01, ps_n11, ps_10, ps_b01, ps_e0, pu_Ine, pu_Ieq, pu_ne, pu_eq, am_k_n, am_k_i, am_k_r, am_k_u, am_k_l, am_sz_0, am_sz_i, am_sz_r, am_sz_u, am_sz_l, Option.toList_some, Option.toList_none, List.cons_append, List.nil_append, true_and, and_true, or_false, false_or, or_self, or_true, true_or, not_false_eq_true, not_true_eq_false, Classical.not_not, ne_eq, ps_e1, ps_em, ps_z, Nat.not_le, false_implies, true_implies, forall_const, ps_01, ps_1n, ps_0n, ps_m10, ps_m1n, lg_cmp_gt, lg_cmp_ge, lg_cmp_le, lg_cmp_lt, lg_cmp_eq, pu_rne, pu_req, pu_uro, RFc_n, Nat.reduceAdd, Nat.reduceMul, Nat.reduceLT, Nat.reduceLeDiff, Nat.reduceEqDiff, Nat.reduceSub]
      refine s_gathers hC' hz (fun f47 f58 g47 q1 q2 => ?_)
      have s2 := SC_gathers (f58 := f58) (r := ro_g (I' 59) (grp (inG (I 49) lw z) N)) q1
      have hC1 := CX_sc hC' s2 (fun _ _ _ => rfl)
      have hG1 := GH_m (I := I') (f58 := f58) (r := I' 59) hN q2
      generalize am_ro (am_ro (am_ro I' 47 f47) 58 f58) 59 (ro_g (I' 59) (grp (inG (I 49) lw z) N)) = I1 at s2 hC1 hG1
      have hw2 : ∀ k, k < (grp (inG (I 49) lw z) N).length → wN (I 49) ((grp (inG (I 49) lw z) N).getD k 0) ≤ 200 := fun k hk => (kid_w (CK_of hC1) (hG1.2.2 k hk).2).2
      generalize grp (inG (I 49) lw z) N = l at hQ hG1 hw2
      simp only [↓r253_31, ↓r253_32, ↓r253_33, ↓r253_36, ↓r253_37, Bool.false_eq_true, hn, hn2, ht, hF, am_wt, am_wf, Option.isSome_some, am_rf_s, am_rf_n, ps_lit, nI_add, nI_1, pk_mul, ps_cl, ps_neg, ps_c0, ps_c1, ps_n01, ps_n11, ps_10, ps_b01, ps_e0, pu_Ine, pu_Ieq, pu_ne, pu_eq, am_k_n, am_k_i, am_k_r, am_k_u, am_k_l, am_sz_0, am_sz_i, am_sz_r, am_sz_u, am_sz_l, Option.toList_some, Option.toList_none, List.cons_append, List.nil_append, true_and, and_true, or_false, false_or, or_self, or_true, true_or, not_false_eq_true, not_true_eq_false, Classical.not_not, ne_eq, ps_e1, ps_em, ps_z, Nat.not_le, false_implies, true_implies, forall_const, ps_01, ps_1n, ps_0n, ps_m10, ps_m1n, lg_cmp_gt, lg_cmp_ge, lg_cmp_le, lg_cmp_lt, lg_cmp_eq, pu_rne, pu_req, pu_uro, RFc_n, Nat.reduceAdd, Nat.reduceMul, Nat.reduceLT, Nat.reduceLeDiff, Nat.reduceEqDiff, Nat.reduceSub]
      refine m_prod (a := 60) hC1 hj (Or.inl rfl) (SC_r I1) hG1 (fun I2 J2 hM2 hN2 ho2 => ?_)
      simp only [↓r253_40, ↓r253_41, ↓r253_42, ↓r253_45, ↓r253_46, Bool.false_eq_true, hn, hn2, ht, hF, am_wt, am_wf, Option.isSome_some, am_rf_s, am_rf_n, ps_lit, nI_add, nI_1, pk_mul, ps_cl, ps_neg, ps_c0, ps_c1, ps_n01, ps_n11, ps_10, ps_b01, ps_e0, pu_Ine, pu_Ieq, pu_ne, pu_eq, am_k_n, am_k_i, am_k_r, am_k_u, am_k_l, am_sz_0, am_sz_i, am_sz_r, am_sz_u, am_sz_l, Option.toList_some, Option.toList_none, List.cons_append, List.nil_append, true_and, and_true, or_false, false_or, or_self, or_true, true_or, not_false_eq_true, not_true_eq_false, Classical.not_not, ne_eq, ps_e1, ps_em, ps_z, Nat.not_le, false_implies, true_implies, forall_const, ps_01, ps_1n, ps_0n, ps_m10, ps_m1n, lg_cmp_gt, lg_cmp_ge, lg_cmp_le, lg_cmp_lt, lg_cmp_eq, pu_rne, pu_req, pu_uro, RFc_n, Nat.reduceAdd, Nat.reduceMul, Nat.reduceLT, Nat.reduceLeDiff, Nat.reduceEqDiff, Nat.reduceSub]
      refine m_prod (a := 61) hC1 hj2 (Or.inr rfl) (MS_SC (SC_r I1) hM2) (l := l) (by rw [hM2.2 24 (by decide) (by decide) (by decide) (by decide), hM2.1 59 (by decide) (by decide)]; exact hG1) (fun I3 J3 hM3 hN3 ho3 => ?_)
      have hR : RK J3 (lkP (I 49) (lw j) l) (lkP (I 49) (lw j2) l) := ⟨by rw [ho3 60 (Or.inl rfl) (by decide)]; exact hN2, hN3⟩
      simp only [↓r253_49, ↓r253_50, ↓r253_52, ↓r253_53, Bool.false_eq_true, hn, hn2, ht, hF, am_wt, am_wf, Option.isSome_some, am_rf_s, am_rf_n, ps_lit, nI_add, nI_1, pk_mul, ps_cl, ps_neg, ps_c0, ps_c1, ps_n01, ps_n11, ps_10, ps_b01, ps_e0, pu_Ine, pu_Ieq, pu_ne, pu_eq, am_k_n, am_k_i, am_k_r, am_k_u, am_k_l, am_sz_0, am_sz_i, am_sz_r, am_sz_u, am_sz_l, Option.toList_some, Option.toList_none, List.cons_append, List.nil_append, true_and, and_true, or_false, false_or, or_self, or_true, true_or, not_false_eq_true, not_true_eq_false, Classical.not_not, ne_eq, ps_e1, ps_em, ps_z, Nat.not_le, false_implies, true_implies, forall_const, ps_01, ps_1n, ps_0n, ps_m10, ps_m1n, lg_cmp_gt, lg_cmp_ge, lg_cmp_le, lg_cmp_lt, lg_cmp_eq, pu_rne, pu_req, pu_uro, RFc_n, Nat.reduceAdd, Nat.reduceMul, Nat.reduceLT, Nat.reduceLeDiff, Nat.reduceEqDiff, Nat.reduceSub]
      have hp1 := lkP_b (lc := lw j) hG1.2.1 hw2
      have hp2 := lkP_b (lc := lw j2) hG1.2.1 hw2
      refine m_quot (tf := 1) hC1.1 hR lkP_p (mulb hp2 (by decide) nC_c) (by decide) (mulb hp1 (by decide) nC_c) (by decide) (fun J4 => ?_)
      simp only [↓r253_56, Bool.false_eq_true, hn, hn2, ht, hF, am_wt, am_wf, Option.isSome_some, am_rf_s, am_rf_n, ps_lit, nI_add, nI_1, pk_mul, ps_cl, ps_neg, ps_c0, ps_c1, ps_n01, ps_n11, ps_10, ps_b01, ps_e0, pu_Ine, pu_Ieq, pu_ne, pu_eq, am_k_n, am_k_i, am_k_r, am_k_u, am_k_l, am_sz_0, am_sz_i, am_sz_r, am_sz_u, am_sz_l, Option.toList_some, Option.toList_none, List.cons_append, List.nil_append, true_and, and_true, or_false, false_or, or_self, or_true, true_or, not_false_eq_true, not_true_eq_false, Classical.not_not, ne_eq, ps_e1, ps_em, ps_z, Nat.not_le, false_implies, true_implies, forall_const, ps_01, ps_1n, ps_0n, ps_m10, ps_m1n, lg_cmp_gt, lg_cmp_ge, lg_cmp_le, lg_cmp_lt, lg_cmp_eq, pu_rne, pu_req, pu_uro, RFc_n, Nat.reduceAdd, Nat.reduceMul, Nat.reduceLT, Nat.reduceLeDiff, Nat.reduceEqDiff, Nat.reduceSub]
      rw [Nat.mul_one]
      exact hQ _ ⟨rfl, rfl, rfl, MS_SC (MS_SC s2 hM2) hM3, fun _ _ _ => rfl⟩
  · exact bad hh
end TM
