/-! TEXTS: the reference's text, whole -/
section MX
variable {X : am_X} {d : Nat} {Q : Option Value → am_H → Prop} {n sl : Nat} {t : Nat → Nat × Nat} {I : Nat → Nat → Int32} {J : Nat → Nat → Int64} {F : Nat → Nat → Option Nat} {h : am_H}
variable {u : Nat → Nat} {m N T : Nat}
theorem m_txE {x : Nat} (hW : WS n t F) (hT : TPR I u m) (h8 : I 47 8 = nI m) (hWO : WO (I 52)) (hN : N ≤ m) (hN1 : plB u m N = m) (hN2 : ∀ i, i < N → plB u m i < m) (hk0 : tkB u m N = 0) (hk : ∀ j, j ≤ N → tkB u m j < 400) (hT10 : T < 10) (h49 : I 49 1812 = nI T) (hx : pText (tkB u m) (tvB u m) N = .error x)
    (hQ : ∀ I', (∀ s, s ≠ 47 → s ≠ 48 → s ≠ 55 → s ≠ 56 → s ≠ 57 → I' s = I s) → I' 48 = upd (I 48) 6 (I 48 6 + 1) → I' 47 0 = -nI 6 → I' 47 8 = 0 → I' 47 9 = nI (plB u m x) → I' 47 38 = I 47 38 → Q (some (.int (-6))) (n, sl, t, I', J, F)) : am_W X (d + 38) 195 0 [some (.ref 47), none, none] [] (n, sl, t, I, J, F) Q := by
  obtain ⟨hn, hn2, ht, hF⟩ := id hW
  have z : T < 2000000 ∧ ¬ T = 10 := by omega
  simp only [↓r195_0, ↓r195_1, ↓r195_4, ↓r195_7, ↓r195_7k, ↓r195_8, ↓r195_10, ↓r195_13, ↓r195_14, ↓r195_15, ↓r195_18, ↓r195_19, ↓r195_21, ↓r195_24, ↓r195_25, ↓r195_26, h49, q_le, q_lt, q_eq, q_e0, q_e1, q_0e, q_1e, ps_n0, q_0le, q_le0, q_0lt, q_m1e, q_em1, z, Bool.false_eq_true, hn, hn2, ht, hF, am_wt, am_wf, Option.isSome_some, am_rf_s, am_rf_n, ps_lit, nI_add, nI_1, pk_mul, ps_cl, ps_neg, ps_c0, ps_c1, ps_n01, ps_n11, ps_10, ps_b01, ps_e0, pu_Ine, pu_Ieq, pu_ne, pu_eq, am_k_n, am_k_i, am_k_r, am_k_u, am_k_l, am_sz_0, am_sz_i, am_sz_r, am_sz_u, am_sz_l, Option.toList_some, Option.toList_none, List.cons_append, List.nil_append, true_and, and_true, or_false, false_or, or_self, or_true, true_or, not_false_eq_true, not_true_eq_false, Classical.not_not, ne_eq, ps_e1, ps_em, ps_z, Nat.not_le, false_implies, true_implies, forall_const, ps_01, ps_1n, ps_0n, ps_m10, ps_m1n, lg_cmp_gt, lg_cmp_ge, lg_cmp_le, lg_cmp_lt, lg_cmp_eq, pu_rne, pu_req, pu_uro, RFc_n, Nat.reduceAdd, Nat.reduceMul, Nat.reduceLT, Nat.reduceLeDiff, Nat.reduceEqDiff, Nat.reduceSub]
  refine m_reads hW hT h8 hWO hN hN1 hN2 hk0 hk (fun l A B P f hl => ?_) (fun x' A B P f hx' f8 f9 fo => ?_)
  · rw [hx] at hl
    cases hl
  · rw [hx] at hx'
    cases hx'
    simp only [↓r195_29, ↓r195_32, ↓r195_33, ↓r195_35, ↓r195_38, ↓s_rf6 hW, Bool.false_eq_true, hn, hn2, ht, hF, am_wt, am_wf, Option.isSome_some, am_rf_s, am_rf_n, ps_lit, nI_add, nI_1, pk_mul, ps_cl, ps_neg, ps_c0, ps_c1, ps_n01, ps_n11, ps_10, ps_b01, ps_e0, pu_Ine, pu_Ieq, pu_ne, pu_eq, am_k_n, am_k_i, am_k_r, am_k_u, am_k_l, am_sz_0, am_sz_i, am_sz_r, am_sz_u, am_sz_l, Option.toList_some, Option.toList_none, List.cons_append, List.nil_append, true_and, and_true, or_false, false_or, or_self, or_true, true_or, not_false_eq_true, not_true_eq_false, Classical.not_not, ne_eq, ps_e1, ps_em, ps_z, Nat.not_le, false_implies, true_implies, forall_const, ps_01, ps_1n, ps_0n, ps_m10, ps_m1n, lg_cmp_gt, lg_cmp_ge, lg_cmp_le, lg_cmp_lt, lg_cmp_eq, pu_rne, pu_req, pu_uro, RFc_n, Nat.reduceAdd, Nat.reduceMul, Nat.reduceLT, Nat.reduceLeDiff, Nat.reduceEqDiff, Nat.reduceSub]
    refine hQ _ (fun s s1 s2 s3 s4 s5 => ?_) ?_ ?_ ?_ ?_ ?_
    · unfold RFm
      rw [pu_Ine s2, pu_Ine s1, pu_rne s5, pu_rne s4, pu_rne s3, pu_rne s1]
    · unfold RFm
      rw [pu_Ieq, pu_Ine (by decide), pu_rne (by decide), pu_rne (by decide), pu_rne (by decide), pu_rne (by decide)]
    · rfl
    · exact f8
    · exact f9
    · exact fo 38 (by decide) (by decide) (by decide) (by decide) (by decide) (by decide)
theorem m_txO {l : List CL} (hW : WS n t F) (hT : TPR I u m) (h8 : I 47 8 = nI m) (hWO : WO (I 52)) (hN : N ≤ m) (hN1 : plB u m N = m) (hN2 : ∀ i, i < N → plB u m i < m) (hk0 : tkB u m N = 0) (hk : ∀ j, j ≤ N → tkB u m j < 400) (hT10 : T < 10) (h49 : I 49 1812 = nI T) (hl : pText (tkB u m) (tvB u m) N = .ok l)
    (hQ : ∀ I', (∀ s, s ≠ 47 → s ≠ 49 → s ≠ 55 → s ≠ 56 → s ≠ 57 → I' s = I s) → I' 47 0 = 0 → I' 47 8 = 0 → I' 47 9 = -1 → I' 47 38 = I 47 38 → (∀ x, x ≠ 1812 → ¬ TX T x → I' 49 x = I 49 x) → I' 49 1812 = nI (T + 1) → TKK (I' 49) T (tkB u m) (tvB u m) N → Q (some (.int (nI T))) (n, sl, t, I', J, F)) : am_W X (d + 38) 195 0 [some (.ref 47), none, none] [] (n, sl, t, I, J, F) Q := by
  obtain ⟨hn, hn2, ht, hF⟩ := id hW
  have hm := hT.1
  have z : T < 2000000 ∧ ¬ T = 10 ∧ 1813 + T < 2000000 ∧ 1813 + T < 9823 := by omega
  simp only [↓r195_0, ↓r195_1, ↓r195_4, ↓r195_7, ↓r195_7k, ↓r195_8, ↓r195_10, ↓r195_13, ↓r195_14, ↓r195_15, ↓r195_18, ↓r195_19, ↓r195_21, ↓r195_24, ↓r195_25, ↓r195_26, h49, q_le, q_lt, q_eq, q_e0, q_e1, q_0e, q_1e, ps_n0, q_0le, q_le0, q_0lt, q_m1e, q_em1, z, Bool.false_eq_true, hn, hn2, ht, hF, am_wt, am_wf, Option.isSome_some, am_rf_s, am_rf_n, ps_lit, nI_add, nI_1, pk_mul, ps_cl, ps_neg, ps_c0, ps_c1, ps_n01, ps_n11, ps_10, ps_b01, ps_e0, pu_Ine, pu_Ieq, pu_ne, pu_eq, am_k_n, am_k_i, am_k_r, am_k_u, am_k_l, am_sz_0, am_sz_i, am_sz_r, am_sz_u, am_sz_l, Option.toList_some, Option.toList_none, List.cons_append, List.nil_append, true_and, and_true, or_false, false_or, or_self, or_true, true_or, not_false_eq_true, not_true_eq_false, Classical.not_not, ne_eq, ps_e1, ps_em, ps_z, Nat.not_le, false_implies, true_implies, forall_const, ps_01, ps_1n, ps_0n, ps_m10, ps_m1n, lg_cmp_gt, lg_cmp_ge, lg_cmp_le, lg_cmp_lt, lg_cmp_eq, pu_rne, pu_req, pu_uro, RFc_n, Nat.reduceAdd, Nat.reduceMul, Nat.reduceLT, Nat.reduceLeDiff, Nat.reduceEqDiff, Nat.reduceSub]
  refine m_reads hW hT h8 hWO hN hN1 hN2 hk0 hk (fun l' A B P f hl' hK f13 f8 f9 fo => ?_) (fun x' A B P f hx' => ?_)
  · simp only [↓r195_29, ↓r195_32, ↓r195_33, ↓r195_35, ↓r195_38, ↓r195_39, ↓r195_40, ↓r195_43, ↓r195_46, ↓r195_46k, ↓r195_47, ↓r195_48, ↓r195_49, ↓r195_52, ↓r195_55, ↓r195_56, ↓r195_57, ↓r195_58, ↓r195_61, h49, f13, pu_rne, pu_req, q_le, q_lt, q_eq, q_e0, q_e1, q_0e, q_1e, ps_n0, q_0le, q_le0, q_0lt, q_m1e, q_em1, z, Bool.false_eq_true, hn, hn2, ht, hF, am_wt, am_wf, Option.isSome_some, am_rf_s, am_rf_n, ps_lit, nI_add, nI_1, pk_mul, ps_cl, ps_neg, ps_c0, ps_c1, ps_n01, ps_n11, ps_10, ps_b01, ps_e0, pu_Ine, pu_Ieq, pu_ne, pu_eq, am_k_n, am_k_i, am_k_r, am_k_u, am_k_l, am_sz_0, am_sz_i, am_sz_r, am_sz_u, am_sz_l, Option.toList_some, Option.toList_none, List.cons_append, List.nil_append, true_and, and_true, or_false, false_or, or_self, or_true, true_or, not_false_eq_true, not_true_eq_false, Classical.not_not, ne_eq, ps_e1, ps_em, ps_z, Nat.not_le, false_implies, true_implies, forall_const, ps_01, ps_1n, ps_0n, ps_m10, ps_m1n, lg_cmp_gt, lg_cmp_ge, lg_cmp_le, lg_cmp_lt, lg_cmp_eq, pu_rne, pu_req, pu_uro, RFc_n, Nat.reduceAdd, Nat.reduceMul, Nat.reduceLT, Nat.reduceLeDiff, Nat.reduceEqDiff, Nat.reduceSub]
    have e49 : ∀ v, am_uI (am_ro (am_ro (am_ro (am_ro I 47 f) 55 A) 56 B) 57 P) 49 (1813 + T) v = am_ro (am_ro (am_ro (am_ro (am_ro I 47 f) 55 A) 56 B) 57 P) 49 (upd (I 49) (1813 + T) v) := fun v => rfl
    rw [e49]
    refine m_keep hW hT10 (by omega) f13 (fun K' hK1 hK2 l2 => ?_)
    have e12 : K' 1812 = nI T := by
      rw [hK2 1812 (by omega) (by omega), pu_ne (by omega)]
      exact h49
    have e13 : K' (1813 + T) = nI N := by
      rw [hK2 _ (by omega) (by omega)]
      exact pu_eq
    simp only [↓r195_122, ↓r195_123, ↓r195_126, ↓r195_129, ↓r195_130, ↓r195_130k, ↓r195_131, ↓r195_132, ↓r195_133, ↓r195_134, ↓r195_135, ↓r195_136, ↓r195_139, ↓s_good hW, pu_req, pu_uro, e12, q_le, q_lt, q_eq, q_e0, q_e1, q_0e, q_1e, ps_n0, q_0le, q_le0, q_0lt, q_m1e, q_em1, z, Bool.false_eq_true, hn, hn2, ht, hF, am_wt, am_wf, Option.isSome_some, am_rf_s, am_rf_n, ps_lit, nI_add, nI_1, pk_mul, ps_cl, ps_neg, ps_c0, ps_c1, ps_n01, ps_n11, ps_10, ps_b01, ps_e0, pu_Ine, pu_Ieq, pu_ne, pu_eq, am_k_n, am_k_i, am_k_r, am_k_u, am_k_l, am_sz_0, am_sz_i, am_sz_r, am_sz_u, am_sz_l, Option.toList_some, Option.toList_none, List.cons_append, List.nil_append, true_and, and_true, or_false, false_or, or_self, or_true, true_or, not_false_eq_true, not_true_eq_false, Classical.not_not, ne_eq, ps_e1, ps_em, ps_z, Nat.not_le, false_implies, true_implies, forall_const, ps_01, ps_1n, ps_0n, ps_m10, ps_m1n, lg_cmp_gt, lg_cmp_ge, lg_cmp_le, lg_cmp_lt, lg_cmp_eq, pu_rne, pu_req, pu_uro, RFc_n, Nat.reduceAdd, Nat.reduceMul, Nat.reduceLT, Nat.reduceLeDiff, Nat.reduceEqDiff, Nat.reduceSub]
    refine hQ _ (fun s s1 s2 s3 s4 s5 => ?_) ?_ ?_ ?_ ?_ (fun x x1 x2 => ?_) ?_ ?_
    · rw [pu_Ine s1, pu_rne s2, pu_rne s5, pu_rne s4, pu_rne s3, pu_rne s1]
    · rfl
    · exact f8
    · exact f9
    · exact fo 38 (by decide) (by decide) (by decide) (by decide) (by decide) (by decide)
    · rw [pu_Ine (by decide), pu_req, pu_ne x1]
      unfold TX at x2
      rw [hK2 x (by omega) (by omega), pu_ne (by omega)]
    · rw [pu_Ine (by decide), pu_req, pu_eq]
    · rw [pu_Ine (by decide), pu_req]
      refine ⟨⟨by omega, hk0, hT10⟩, ?_, fun i hi => ?_⟩
      · rw [pu_ne (by omega)]; exact e13
      · rw [pu_ne (by omega), pu_ne (by omega)]
        obtain ⟨a1, a2⟩ := hK1 i hi
        have b := hK i (by omega)
        exact ⟨a1.trans b.1, a2.trans b.2.1, hk i (by omega), vcB_r.1⟩
  · rw [hl] at hx'
    cases hx'
end MX
