/-! TEXTS: the class reads its tape -/
section CZ
variable {X : am_X} {d : Nat} {Q : Option Value → am_H → Prop} {n sl : Nat} {t : Nat → Nat × Nat} {I : Nat → Nat → Int32} {J : Nat → Nat → Int64} {F : Nat → Nat → Option Nat} {h : am_H}
variable {u : Nat → Nat} {m : Nat}
theorem WS_lo {n' : Nat} {t' : Nat → Nat × Nat} {F' : Nat → Nat → Option Nat} (hW : WS n t F) (hn' : n ≤ n') (h6 : n' ≤ 1000000) (h : ∀ s, s < 73 → t' s = t s ∧ F' s = F s) : WS n' t' F' := by
  obtain ⟨w1, w2, w3, w4⟩ := hW
  refine ⟨fun a ha => Nat.lt_of_lt_of_le (w1 a ha) hn', h6, fun a ha => by rw [(h a ha).1]; exact w3 a ha, fun a k hk => ?_⟩
  by_cases c : a < 73
  · rw [(h a c).2]; exact w4 a k hk
  · have : am_wf a k = none := by
      unfold am_wf
      split <;> first | omega | rfl
    rw [this] at hk
    cases hk
theorem c_law {a s c : Nat} (ha : a < n) (hta : t a = (5, 2)) : am_W X d 60 0 [some (.ref a), some (.ref s), some (.ref c)] [] (n, sl, t, I, J, F) Q ↔ Q none (n, sl, t, I, J, am_uF (am_uF F a 0 (some s)) a 1 (some c)) := by
  simp only [↓r60_0, ↓r60_1, ↓r60_4, ↓r60_5, ↓r60_5n, ↓r60_6, ↓r60_9, ↓r60_10, ↓r60_10n, ↓r60_11, ↓r60_14, hta, ha, Bool.false_eq_true, ps_lit, nI_add, nI_1, pk_mul, ps_cl, ps_neg, ps_c0, ps_c1, ps_n01, ps_n11, ps_10, ps_01, ps_1n, ps_0n, ps_b01, ps_e0, am_k_n, am_k_i, am_k_r, am_k_u, am_k_l, am_sz_0, am_sz_i, am_sz_r, am_sz_u, am_sz_l, Option.toList_some, Option.toList_none, List.cons_append, List.nil_append, true_and, and_true, or_false, false_or, or_self, or_true, true_or, and_self, if_true, if_false, not_false_eq_true, not_true_eq_false, Classical.not_not, ne_eq, ps_e1, ps_em, ps_z, Nat.not_le, false_implies, true_implies, forall_const, Nat.reduceAdd, Nat.reduceMul, Nat.reduceLT, Nat.reduceLeDiff, Nat.reduceEqDiff, Nat.reduceSub]
theorem c_read {N : Nat} (hW : WS n t F) (hn6 : n + 3 ≤ 600000) (hT : TPB I u m) (hN : N ≤ m) (hN1 : plB u m N = m) (hN2 : ∀ i, i < N → plB u m i < m)
    (hok : ∀ l sc sl' t' I' J' F', pText (tkB u m) (tvB u m) N = .ok l → LAWR (I' (n + 1)) sc (I' (n + 2)) (4 * l.length) l → sl' ≤ sl + 450 → WS (n + 3) t' F' → (∀ s, s < n → t' s = t s ∧ F' s = F s) → (t' n = (5, 2) ∧ t' (n + 1) = (20, sc) ∧ t' (n + 2) = (20, 4 * l.length)) → (F' n 0 = some (n + 1) ∧ F' n 1 = some (n + 2)) → (∀ s, s < n → s ≠ 9 → s ≠ 10 → s ≠ 11 → I' s = I s) → I' 9 10 = -1 → Q (some (.ref n)) (n + 3, sl', t', I', J', F'))
    (her : ∀ x I', pText (tkB u m) (tvB u m) N = .error x → (∀ s, s ≠ 9 → s ≠ 10 → s ≠ 11 → I' s = I s) → I' 9 10 = nI (plB u m x) → Q (some .null) (n, sl, t, I', J, F)) : am_W X (d + 45) 40 0 [some (.ref 9)] [] (n, sl, t, I, J, F) Q := by
  obtain ⟨hn, hn2, ht, hF⟩ := id hW
  have hTK := c_tok (X := X) (sl := sl) (J := J) hW hT hN hN1 hN2
  have g0 := fun Q => c_go0 (X := X) (d := d + 42) (Q := Q) (sl := sl) (J := J) hW hT
  simp only [↓r40_0, ↓r40_1, ↓r40_2, ↓r40_5, ↓r40_6, ↓r40_7, ↓r40_10, ↓r40_11, ↓r40_12, ↓r40_15, ↓r40_16, ↓r40_17, ↓r40_20, ↓r40_21, ↓r40_24, ↓r40_25, ↓g0, Bool.false_eq_true, hn, hn2, ht, hF, am_wt, am_wf, Option.isSome_some, am_rf_s, am_rf_n, ps_lit, nI_add, nI_1, pk_mul, ps_cl, ps_neg, ps_c0, ps_c1, ps_n01, ps_n11, ps_10, ps_b01, ps_e0, pu_Ine, pu_Ieq, pu_ne, pu_eq, am_k_n, am_k_i, am_k_r, am_k_u, am_k_l, am_sz_0, am_sz_i, am_sz_r, am_sz_u, am_sz_l, Option.toList_some, Option.toList_none, List.cons_append, List.nil_append, true_and, and_true, or_false, false_or, or_self, or_true, true_or, not_false_eq_true, not_true_eq_false, Classical.not_not, ne_eq, ps_e1, ps_em, ps_z, Nat.not_le, false_implies, true_implies, forall_const, ps_01, ps_1n, ps_0n, ps_m10, ps_m1n, lg_cmp_gt, lg_cmp_ge, lg_cmp_le, lg_cmp_lt, lg_cmp_eq, pu_rne, pu_req, pu_uro, RFc_n, Nat.reduceAdd, Nat.reduceMul, Nat.reduceLT, Nat.reduceLeDiff, Nat.reduceEqDiff, Nat.reduceSub]
  refine c_clauses hTK (fun l sc q' S C hl hL => ?_) (fun x sc q' cc S C hx => ?_)
  · obtain ⟨L1, ⟨L2, L3⟩, L4, L5⟩ := id hL
    have z : n < 600000 ∧ n + 1 < 600000 ∧ n + 2 < 600000 ∧ 9 < n + 1 ∧ 9 < n + 1 + 1 ∧ 9 ≠ n ∧ 10 ≠ n ∧ 11 ≠ n ∧ 11 ≠ n + 1 ∧ 10 ≠ n + 1 ∧ 9 ≠ n + 1 ∧ n < n + 1 + 1 + 1 ∧ n ≠ n + 1 ∧ n ≠ n + 1 + 1 := by
      have := hn 72 (by decide)
      omega
    have em : nI l.length * 4 = nI (4 * l.length) := by rw [Nat.mul_comm]; exact (Int32.ofNat_mul l.length 4).symm
    have em2 : nI l.length * nI 4 = nI (4 * l.length) := em
    simp only [↓r40_28, ↓r40_41, ↓r40_42, ↓r40_43, ↓r40_46, ↓r40_49, ↓r40_49r, ↓r40_50, ↓r40_51, ↓r40_54, ↓r40_55, ↓r40_58, am_nw_t, cR_9, q9_2, q9_3, pu_rne, z, Bool.false_eq_true, hn, hn2, ht, hF, am_wt, am_wf, Option.isSome_some, am_rf_s, am_rf_n, ps_lit, nI_add, nI_1, pk_mul, ps_cl, ps_neg, ps_c0, ps_c1, ps_n01, ps_n11, ps_10, ps_b01, ps_e0, pu_Ine, pu_Ieq, pu_ne, pu_eq, am_k_n, am_k_i, am_k_r, am_k_u, am_k_l, am_sz_0, am_sz_i, am_sz_r, am_sz_u, am_sz_l, Option.toList_some, Option.toList_none, List.cons_append, List.nil_append, true_and, and_true, or_false, false_or, or_self, or_true, true_or, not_false_eq_true, not_true_eq_false, Classical.not_not, ne_eq, ps_e1, ps_em, ps_z, Nat.not_le, false_implies, true_implies, forall_const, ps_01, ps_1n, ps_0n, ps_m10, ps_m1n, lg_cmp_gt, lg_cmp_ge, lg_cmp_le, lg_cmp_lt, lg_cmp_eq, pu_rne, pu_req, pu_uro, RFc_n, Nat.reduceAdd, Nat.reduceMul, Nat.reduceLT, Nat.reduceLeDiff, Nat.reduceEqDiff, Nat.reduceSub]
    refine c_copyOf (a := 10) (n := n + 1) (len := 400) ?_ z.2.1 ?_ L1 (Nat.le_refl _) (fun f hf => ?_)
    · omega
    · rw [pu_rne (by omega)]; exact ht 10 (by decide)
    · simp only [↓r40_61, ↓r40_62, ↓r40_65, ↓r40_66, ↓r40_69, ↓r40_70, ↓r40_71, cR_9, q9_3, em, em2, pu_rne, z, Bool.false_eq_true, hn, hn2, ht, hF, am_wt, am_wf, Option.isSome_some, am_rf_s, am_rf_n, ps_lit, nI_add, nI_1, pk_mul, ps_cl, ps_neg, ps_c0, ps_c1, ps_n01, ps_n11, ps_10, ps_b01, ps_e0, pu_Ine, pu_Ieq, pu_ne, pu_eq, am_k_n, am_k_i, am_k_r, am_k_u, am_k_l, am_sz_0, am_sz_i, am_sz_r, am_sz_u, am_sz_l, Option.toList_some, Option.toList_none, List.cons_append, List.nil_append, true_and, and_true, or_false, false_or, or_self, or_true, true_or, not_false_eq_true, not_true_eq_false, Classical.not_not, ne_eq, ps_e1, ps_em, ps_z, Nat.not_le, false_implies, true_implies, forall_const, ps_01, ps_1n, ps_0n, ps_m10, ps_m1n, lg_cmp_gt, lg_cmp_ge, lg_cmp_le, lg_cmp_lt, lg_cmp_eq, pu_rne, pu_req, pu_uro, RFc_n, Nat.reduceAdd, Nat.reduceMul, Nat.reduceLT, Nat.reduceLeDiff, Nat.reduceEqDiff, Nat.reduceSub]
      refine c_copyOf (a := 11) (n := n + 1 + 1) (len := 48) (q := 4 * l.length) ?_ z.2.2.1 ?_ (by omega) (by omega) (fun g hg => ?_)
      · omega
      · rw [pu_rne (by omega), pu_rne (by omega)]; exact ht 11 (by decide)
      · have hw5 : am_ro (am_ro (am_ro t n (5, 2)) (n + 1) (20, sc)) (n + 1 + 1) (20, 4 * l.length) n = (5, 2) := by rw [pu_rne (by omega), pu_rne (by omega), pu_req]
        have el := fun Q => c_law (X := X) (d := d + 44) (Q := Q) (s := n + 1) (c := n + 1 + 1) (sl := sl + 2 + sc + 4 * l.length) (I := am_ro (am_ro (am_ro (am_uI (cR I (ktB u m) (plB u m) (eB u m) (nmB u m) N sc q' l.length S C) 9 10 (-1)) n (fun _ => 0)) (n + 1) f) (n + 1 + 1) g) (J := am_ro (am_ro (am_ro J n (fun _ => 0)) (n + 1) (fun _ => 0)) (n + 1 + 1) (fun _ => 0)) (F := am_ro (am_ro (am_ro F n (fun _ => none)) (n + 1) (fun _ => none)) (n + 1 + 1) (fun _ => none)) (show n < n + 1 + 1 + 1 by omega) hw5
        simp only [↓r40_74, ↓r40_77, ↓r40_77n, ↓el, Bool.false_eq_true, hn, hn2, ht, hF, am_wt, am_wf, Option.isSome_some, am_rf_s, am_rf_n, ps_lit, nI_add, nI_1, pk_mul, ps_cl, ps_neg, ps_c0, ps_c1, ps_n01, ps_n11, ps_10, ps_b01, ps_e0, pu_Ine, pu_Ieq, pu_ne, pu_eq, am_k_n, am_k_i, am_k_r, am_k_u, am_k_l, am_sz_0, am_sz_i, am_sz_r, am_sz_u, am_sz_l, Option.toList_some, Option.toList_none, List.cons_append, List.nil_append, true_and, and_true, or_false, false_or, or_self, or_true, true_or, not_false_eq_true, not_true_eq_false, Classical.not_not, ne_eq, ps_e1, ps_em, ps_z, Nat.not_le, false_implies, true_implies, forall_const, ps_01, ps_1n, ps_0n, ps_m10, ps_m1n, lg_cmp_gt, lg_cmp_ge, lg_cmp_le, lg_cmp_lt, lg_cmp_eq, pu_rne, pu_req, pu_uro, RFc_n, Nat.reduceAdd, Nat.reduceMul, Nat.reduceLT, Nat.reduceLeDiff, Nat.reduceEqDiff, Nat.reduceSub]
        have lo : ∀ s, s < n → (am_ro (am_ro (am_ro t n (5, 2)) (n + 1) (20, sc)) (n + 1 + 1) (20, 4 * l.length)) s = t s ∧ (am_uF (am_uF (am_ro (am_ro (am_ro F n fun _ => none) (n + 1) fun _ => none) (n + 1 + 1) fun _ => none) n 0 (some (n + 1))) n 1 (some (n + 1 + 1))) s = F s := fun s hs => by
          rw [pu_uF, pu_uF, pu_rne (by omega), pu_rne (by omega), pu_rne (by omega), pu_rne (by omega), pu_rne (by omega), pu_rne (by omega), pu_rne (by omega), pu_rne (by omega)]
          exact ⟨rfl, rfl⟩
        refine hok l sc _ _ _ _ _ hl ?_ ?_ ?_ lo ⟨hw5, ?_, ?_⟩ ⟨?_, ?_⟩ (fun s h1 h2 h3 h4 => ?_) ?_
        · refine LAWR_s hL (fun j hj => ?_) (fun j hj => ?_)
          · rw [pu_rne (by omega), pu_req, hf j hj, pu_rne (by omega), pu_Ine (by decide), cR_10]
          · show (am_ro _ (n + 1 + 1) g) (n + 1 + 1) j = _
            rw [pu_req, hg j hj, pu_rne (by omega), pu_rne (by omega), pu_Ine (by decide), cR_11]
        · omega
        · exact WS_lo hW (Nat.le_add_right n 3) (by omega) (fun s hs => lo s (hn s hs))
        · rw [pu_rne (by omega), pu_req]
        · exact pu_req
        · rw [pu_uF, pu_uF, pu_req, pu_req]
          rfl
        · rw [pu_uF, pu_uF, pu_req, pu_req]
          rfl
        · rw [pu_rne (by omega), pu_rne (by omega), pu_rne (by omega), pu_Ine h2, cR_n h2 h3 h4]
        · rw [pu_rne (by omega), pu_rne (by omega), pu_rne (by omega), pu_Ieq, pu_eq]
  · have := her x (am_uI (cR I (ktB u m) (plB u m) (eB u m) (nmB u m) x sc q' cc S C) 9 10 (nI (plB u m x))) hx (fun s s1 s2 s3 => by rw [pu_Ine s1, cR_n s1 s2 s3]) (by rw [pu_Ieq, pu_eq])
    simp only [↓r40_28, ↓r40_31, ↓r40_32, ↓r40_33, ↓r40_36, ↓r40_39, ↓r40_40, ↓r40_40n, cR_9, q9_7, Bool.false_eq_true, hn, hn2, ht, hF, am_wt, am_wf, Option.isSome_some, am_rf_s, am_rf_n, ps_lit, nI_add, nI_1, pk_mul, ps_cl, ps_neg, ps_c0, ps_c1, ps_n01, ps_n11, ps_10, ps_b01, ps_e0, pu_Ine, pu_Ieq, pu_ne, pu_eq, am_k_n, am_k_i, am_k_r, am_k_u, am_k_l, am_sz_0, am_sz_i, am_sz_r, am_sz_u, am_sz_l, Option.toList_some, Option.toList_none, List.cons_append, List.nil_append, true_and, and_true, or_false, false_or, or_self, or_true, true_or, not_false_eq_true, not_true_eq_false, Classical.not_not, ne_eq, ps_e1, ps_em, ps_z, Nat.not_le, false_implies, true_implies, forall_const, ps_01, ps_1n, ps_0n, ps_m10, ps_m1n, lg_cmp_gt, lg_cmp_ge, lg_cmp_le, lg_cmp_lt, lg_cmp_eq, pu_rne, pu_req, pu_uro, RFc_n, Nat.reduceAdd, Nat.reduceMul, Nat.reduceLT, Nat.reduceLeDiff, Nat.reduceEqDiff, Nat.reduceSub]
    exact this
end CZ
