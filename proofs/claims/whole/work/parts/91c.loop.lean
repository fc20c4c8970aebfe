/-! the law, from its first call on -/
section LB
variable {X : am_X} {d : Nat} {Q : Option Value → am_H → Prop} {n sl : Nat} {t : Nat → Nat × Nat} {I : Nat → Nat → Int32} {J : Nat → Nat → Int64} {F : Nat → Nat → Option Nat} {h : am_H}
theorem lw_turn {i L : Nat} (hTx : ∀ {i n sl : Nat} {t : Nat → Nat × Nat} {I : Nat → Nat → Int32} {J : Nat → Nat → Int64} {F : Nat → Nat → Option Nat}, XS X → i < 600 → Inv i (n, sl, t, I, J, F) → PR X i 39 195 [some (.ref 0), none] [some (.ref 47), none, none] (n, sl, t, I, J, F)) (hX : XS X) (hL : XL X) (h0 : (X 0).1 = L) (hiL : 7 * i + 7 ≤ L) (hL2 : L ≤ 3584) (hV : Inv i (n, sl, t, I, J, F)) (hN : ∀ h', Inv (i + 1) h' → am_W X 60 294 1767 [some (.ref (am_K0 + 0)), some (.ref 0), some (.ref 47), some (.int (nI (7 * i)))] [] h' Q) : am_W X 60 294 27 [some (.ref (am_K0 + 0)), some (.ref 0), some (.ref 47), some (.int (nI (7 * i)))] [] (n, sl, t, I, J, F) Q := by
  obtain ⟨hn, hn2, ht, hF⟩ := id hV.1
  dsimp only at hn hn2 ht hF
  have z1 : 7 * i < 2000000 := by omega
  have z2 : ¬ L ≤ 7 * i := by omega
  have z3 : (0 : Nat) < 5 := by decide
  obtain ⟨j, hj, ej⟩ := pk_andE ((X 0).2 (7 * i)) (m := nI 63) 6 (by decide)
  simp only [↓r294_27, ↓r294_27n, ↓r294_28, ↓r294_29, ↓r294_29k, ↓r294_30, ↓r294_32, h0, z1, z2, z3, ej, Bool.false_eq_true, hn, hn2, ht, hF, am_wt, am_wf, Option.isSome_some, am_rf_s, am_rf_n, ps_lit, nI_add, nI_1, pk_mul, ps_cl, ps_neg, ps_c0, ps_c1, ps_n01, ps_n11, ps_10, ps_b01, ps_e0, pu_Ine, pu_Ieq, pu_ne, pu_eq, am_k_n, am_k_i, am_k_r, am_k_u, am_k_l, am_sz_0, am_sz_i, am_sz_r, am_sz_u, am_sz_l, Option.toList_some, Option.toList_none, List.cons_append, List.nil_append, true_and, and_true, or_false, false_or, or_self, or_true, true_or, not_false_eq_true, not_true_eq_false, Classical.not_not, ne_eq, ps_e1, ps_em, ps_z, Nat.not_le, false_implies, true_implies, forall_const, ps_01, ps_1n, ps_0n, ps_m10, ps_m1n, lg_cmp_gt, lg_cmp_ge, lg_cmp_le, lg_cmp_lt, lg_cmp_eq, pu_rne, pu_req, pu_uro, RFc_n, Nat.reduceAdd, Nat.reduceMul, Nat.reduceLT, Nat.reduceLeDiff, Nat.reduceEqDiff, Nat.reduceSub]
  match j, hj with
  | 0, _ => exact (show _ ↔ _ from r294_33_0).mpr (lw_0 hX hL h0 hiL hL2 hV hN)
  | 1, _ => exact (show _ ↔ _ from r294_33_1).mpr (lw_1 hX hL h0 hiL hL2 hV hN)
  | 2, _ => exact (show _ ↔ _ from r294_33_2).mpr (lw_2 hX hL h0 hiL hL2 hV hN)
  | 3, _ => exact (show _ ↔ _ from r294_33_3).mpr (lw_3 hX hL h0 hiL hL2 hV hN)
  | 4, _ => exact (show _ ↔ _ from r294_33_4).mpr (lw_4 hX hL h0 hiL hL2 hV hN)
  | 5, _ => exact (show _ ↔ _ from r294_33_5).mpr (lw_5 hX hL h0 hiL hL2 hV hN)
  | 6, _ => exact (show _ ↔ _ from r294_33_6).mpr (lw_6 hX hL h0 hiL hL2 hV hN)
  | 7, _ => exact (show _ ↔ _ from r294_33_7).mpr (lw_7 hX hL h0 hiL hL2 hV hN)
  | 8, _ => exact (show _ ↔ _ from r294_33_8).mpr (lw_8 hX hL h0 hiL hL2 hV hN)
  | 9, _ => exact (show _ ↔ _ from r294_33_9).mpr (lw_9 hX hL h0 hiL hL2 hV hN)
  | 10, _ => exact (show _ ↔ _ from r294_33_10).mpr (lw_10 hX hL h0 hiL hL2 hV hN)
  | 11, _ => exact (show _ ↔ _ from r294_33_11).mpr (lw_11 hTx hX hL h0 hiL hL2 hV hN)
  | 12, _ => exact (show _ ↔ _ from r294_33_12).mpr (lw_12 hX hL h0 hiL hL2 hV hN)
  | 13, _ => exact (show _ ↔ _ from r294_33_13).mpr (lw_13 hX hL h0 hiL hL2 hV hN)
  | 14, _ => exact (show _ ↔ _ from r294_33_14).mpr (lw_14 hX hL h0 hiL hL2 hV hN)
  | 15, _ => exact (show _ ↔ _ from r294_33_15).mpr (lw_15 hX hL h0 hiL hL2 hV hN)
  | 16, _ => exact (show _ ↔ _ from r294_33_16).mpr (lw_16 hX hL h0 hiL hL2 hV hN)
  | 17, _ => exact (show _ ↔ _ from r294_33_17).mpr (lw_17 hX hL h0 hiL hL2 hV hN)
  | 18, _ => exact (show _ ↔ _ from r294_33_18).mpr (lw_18 hX hL h0 hiL hL2 hV hN)
  | 19, _ => exact (show _ ↔ _ from r294_33_19).mpr (lw_19 hX hL h0 hiL hL2 hV hN)
  | 20, _ => exact (show _ ↔ _ from r294_33_20).mpr (lw_20 hX hL h0 hiL hL2 hV hN)
  | 21, _ => exact (show _ ↔ _ from r294_33_21).mpr (lw_21 hX hL h0 hiL hL2 hV hN)
  | 22, _ => exact (show _ ↔ _ from r294_33_22).mpr (lw_22 hX hL h0 hiL hL2 hV hN)
  | 23, _ => exact (show _ ↔ _ from r294_33_23).mpr (lw_23 hX hL h0 hiL hL2 hV hN)
  | 24, _ => exact (show _ ↔ _ from r294_33_24).mpr (lw_24 hX hL h0 hiL hL2 hV hN)
  | 25, _ => exact (show _ ↔ _ from r294_33_25).mpr (lw_25 hX hL h0 hiL hL2 hV hN)
  | 26, _ => exact (show _ ↔ _ from r294_33_26).mpr (lw_26 hX hL h0 hiL hL2 hV hN)
  | 27, _ => exact (show _ ↔ _ from r294_33_27).mpr (lw_27 hX hL h0 hiL hL2 hV hN)
  | 28, _ => exact (show _ ↔ _ from r294_33_28).mpr (lw_28 hX hL h0 hiL hL2 hV hN)
  | 29, _ => exact (show _ ↔ _ from r294_33_29).mpr (lw_29 hX hL h0 hiL hL2 hV hN)
  | 30, _ => exact (show _ ↔ _ from r294_33_30).mpr (lw_30 hX hL h0 hiL hL2 hV hN)
  | 31, _ => exact (show _ ↔ _ from r294_33_31).mpr (lw_31 hX hL h0 hiL hL2 hV hN)
  | 32, _ => exact (show _ ↔ _ from r294_33_32).mpr (lw_32 hX hL h0 hiL hL2 hV hN)
  | 33, _ => exact (show _ ↔ _ from r294_33_33).mpr (lw_33 hX hL h0 hiL hL2 hV hN)
  | 34, _ => exact (show _ ↔ _ from r294_33_34).mpr (lw_34 hX hL h0 hiL hL2 hV hN)
  | 35, _ => exact (show _ ↔ _ from r294_33_35).mpr (lw_35 hX hL h0 hiL hL2 hV hN)
  | 36, _ => exact (show _ ↔ _ from r294_33_36).mpr (lw_36 hX hL h0 hiL hL2 hV hN)
  | 37, _ => exact (show _ ↔ _ from r294_33_37).mpr (lw_37 hX hL h0 hiL hL2 hV hN)
  | 38, _ => exact (show _ ↔ _ from r294_33_38).mpr (lw_38 hX hL h0 hiL hL2 hV hN)
  | 39, _ => exact (show _ ↔ _ from r294_33_39).mpr (lw_39 hX hL h0 hiL hL2 hV hN)
  | 40, _ => exact (show _ ↔ _ from r294_33_40).mpr (lw_40 hX hL h0 hiL hL2 hV hN)
  | 41, _ => exact (show _ ↔ _ from r294_33_41).mpr (lw_41 hX hL h0 hiL hL2 hV hN)
  | 42, _ => exact (show _ ↔ _ from r294_33_42).mpr (lw_42 hX hL h0 hiL hL2 hV hN)
  | 43, _ => exact (show _ ↔ _ from r294_33_43).mpr (lw_43 hX hL h0 hiL hL2 hV hN)
  | 44, _ => exact (show _ ↔ _ from r294_33_44).mpr (lw_44 hX hL h0 hiL hL2 hV hN)
  | j + 45, hj =>
    refine (r294_33_d ?_).mpr (hN _ (Inv_next hV (by omega)))
    rw [nI_toInt (by omega)]
    omega
/-- how the law ends -/
def LQ (v : Option Value) (h : am_H) : Prop := v = some (.int 1) ∧ ∃ i, Inv i h
theorem lw_loop {L : Nat} (hTx : ∀ {i n sl : Nat} {t : Nat → Nat × Nat} {I : Nat → Nat → Int32} {J : Nat → Nat → Int64} {F : Nat → Nat → Option Nat}, XS X → i < 600 → Inv i (n, sl, t, I, J, F) → PR X i 39 195 [some (.ref 0), none] [some (.ref 47), none, none] (n, sl, t, I, J, F)) (hX : XS X) (hL : XL X) (h0 : (X 0).1 = L) (hL2 : L ≤ 3584) : ∀ q i, i + q = L / 7 → ∀ h, Inv i h → am_W X 60 294 18 [some (.ref (am_K0 + 0)), some (.ref 0), some (.ref 47), some (.int (nI (7 * i)))] [] h LQ := by
  intro q
  induction q with
  | zero =>
    intro i hi h hV
    obtain ⟨n, sl, t, I, J, F⟩ := h
    obtain ⟨hn, hn2, ht, hF⟩ := id hV.1
    dsimp only at hn hn2 ht hF
    have z3 : (0 : Nat) < 5 := by decide
    have e : nI L - nI 7 < nI (7 * i) := by
      by_cases c : 7 ≤ L
      · rw [nI_sub c]
        exact nI_lt (by omega) (by omega)
      · have hi0 : i = 0 := by omega
        subst hi0
        match L, c with
        | 0, _ => decide
        | 1, _ => decide
        | 2, _ => decide
        | 3, _ => decide
        | 4, _ => decide
        | 5, _ => decide
        | 6, _ => decide
        | L + 7, c => exact absurd (show 7 ≤ L + 7 by omega) c
    rw [r294_18]
    simp only [↓r294_19, ↓r294_19n, ↓r294_20, ↓r294_20k, ↓r294_21, ↓r294_23, ↓r294_24, ↓r294_1773, ↓r294_1774, h0, z3, e, Bool.false_eq_true, hn, hn2, ht, hF, am_wt, am_wf, Option.isSome_some, am_rf_s, am_rf_n, ps_lit, nI_add, nI_1, pk_mul, ps_cl, ps_neg, ps_c0, ps_c1, ps_n01, ps_n11, ps_10, ps_b01, ps_e0, pu_Ine, pu_Ieq, pu_ne, pu_eq, am_k_n, am_k_i, am_k_r, am_k_u, am_k_l, am_sz_0, am_sz_i, am_sz_r, am_sz_u, am_sz_l, Option.toList_some, Option.toList_none, List.cons_append, List.nil_append, true_and, and_true, or_false, false_or, or_self, or_true, true_or, not_false_eq_true, not_true_eq_false, Classical.not_not, ne_eq, ps_e1, ps_em, ps_z, Nat.not_le, false_implies, true_implies, forall_const, ps_01, ps_1n, ps_0n, ps_m10, ps_m1n, lg_cmp_gt, lg_cmp_ge, lg_cmp_le, lg_cmp_lt, lg_cmp_eq, pu_rne, pu_req, pu_uro, RFc_n, Nat.reduceAdd, Nat.reduceMul, Nat.reduceLT, Nat.reduceLeDiff, Nat.reduceEqDiff, Nat.reduceSub]
    exact ⟨rfl, i, hV⟩
  | succ q ih =>
    intro i hi h hV
    obtain ⟨n, sl, t, I, J, F⟩ := h
    obtain ⟨hn, hn2, ht, hF⟩ := id hV.1
    dsimp only at hn hn2 ht hF
    have z3 : (0 : Nat) < 5 := by decide
    have e : ¬ nI L - nI 7 < nI (7 * i) := by
      rw [nI_sub (by omega)]
      exact nI_nlt (by omega) (by omega)
    rw [r294_18]
    simp only [↓r294_19, ↓r294_19n, ↓r294_20, ↓r294_20k, ↓r294_21, ↓r294_23, ↓r294_24, h0, z3, e, Bool.false_eq_true, hn, hn2, ht, hF, am_wt, am_wf, Option.isSome_some, am_rf_s, am_rf_n, ps_lit, nI_add, nI_1, pk_mul, ps_cl, ps_neg, ps_c0, ps_c1, ps_n01, ps_n11, ps_10, ps_b01, ps_e0, pu_Ine, pu_Ieq, pu_ne, pu_eq, am_k_n, am_k_i, am_k_r, am_k_u, am_k_l, am_sz_0, am_sz_i, am_sz_r, am_sz_u, am_sz_l, Option.toList_some, Option.toList_none, List.cons_append, List.nil_append, true_and, and_true, or_false, false_or, or_self, or_true, true_or, not_false_eq_true, not_true_eq_false, Classical.not_not, ne_eq, ps_e1, ps_em, ps_z, Nat.not_le, false_implies, true_implies, forall_const, ps_01, ps_1n, ps_0n, ps_m10, ps_m1n, lg_cmp_gt, lg_cmp_ge, lg_cmp_le, lg_cmp_lt, lg_cmp_eq, pu_rne, pu_req, pu_uro, RFc_n, Nat.reduceAdd, Nat.reduceMul, Nat.reduceLT, Nat.reduceLeDiff, Nat.reduceEqDiff, Nat.reduceSub]
    refine lw_turn hTx hX hL h0 (by omega) hL2 hV (fun h' hV' => ?_)
    have e2 : 7 * i + 7 = 7 * (i + 1) := by omega
    simp only [↓r294_1767, ↓r294_1770, e2, am_k_r, Bool.false_eq_true, hn, hn2, ht, hF, am_wt, am_wf, Option.isSome_some, am_rf_s, am_rf_n, ps_lit, nI_add, nI_1, pk_mul, ps_cl, ps_neg, ps_c0, ps_c1, ps_n01, ps_n11, ps_10, ps_b01, ps_e0, pu_Ine, pu_Ieq, pu_ne, pu_eq, am_k_n, am_k_i, am_k_r, am_k_u, am_k_l, am_sz_0, am_sz_i, am_sz_r, am_sz_u, am_sz_l, Option.toList_some, Option.toList_none, List.cons_append, List.nil_append, true_and, and_true, or_false, false_or, or_self, or_true, true_or, not_false_eq_true, not_true_eq_false, Classical.not_not, ne_eq, ps_e1, ps_em, ps_z, Nat.not_le, false_implies, true_implies, forall_const, ps_01, ps_1n, ps_0n, ps_m10, ps_m1n, lg_cmp_gt, lg_cmp_ge, lg_cmp_le, lg_cmp_lt, lg_cmp_eq, pu_rne, pu_req, pu_uro, RFc_n, Nat.reduceAdd, Nat.reduceMul, Nat.reduceLT, Nat.reduceLeDiff, Nat.reduceEqDiff, Nat.reduceSub]
    exact ih (i + 1) (by omega) h' hV'
theorem lw_all {L : Nat} (hTx : ∀ {i n sl : Nat} {t : Nat → Nat × Nat} {I : Nat → Nat → Int32} {J : Nat → Nat → Int64} {F : Nat → Nat → Option Nat}, XS X → i < 600 → Inv i (n, sl, t, I, J, F) → PR X i 39 195 [some (.ref 0), none] [some (.ref 47), none, none] (n, sl, t, I, J, F)) (hX : XS X) (hL : XL X) (h0 : (X 0).1 = L) (hL2 : L ≤ 3584) : am_W X 60 294 0 [some (.ref (am_K0 + 0)), none, none, none] [] am_h0 LQ := by
  refine lw_new (fun h hN => ?_)
  simp only [↓r294_16, ↓r294_17, am_k_r, Bool.false_eq_true, ps_lit, nI_add, nI_1, pk_mul, ps_cl, ps_neg, ps_c0, ps_c1, ps_n01, ps_n11, ps_10, ps_01, ps_1n, ps_0n, ps_b01, ps_e0, am_k_n, am_k_i, am_k_r, am_k_u, am_k_l, am_sz_0, am_sz_i, am_sz_r, am_sz_u, am_sz_l, Option.toList_some, Option.toList_none, List.cons_append, List.nil_append, true_and, and_true, or_false, false_or, or_self, or_true, true_or, and_self, if_true, if_false, not_false_eq_true, not_true_eq_false, Classical.not_not, ne_eq, ps_e1, ps_em, ps_z, Nat.not_le, false_implies, true_implies, forall_const, Nat.reduceAdd, Nat.reduceMul, Nat.reduceLT, Nat.reduceLeDiff, Nat.reduceEqDiff, Nat.reduceSub]
  exact lw_loop hTx hX hL h0 hL2 (L / 7) 0 (by omega) h (N0_Inv hN)
theorem lw_run {L : Nat} (hTx : ∀ {i n sl : Nat} {t : Nat → Nat × Nat} {I : Nat → Nat → Int32} {J : Nat → Nat → Int64} {F : Nat → Nat → Option Nat}, XS X → i < 600 → Inv i (n, sl, t, I, J, F) → PR X i 39 195 [some (.ref 0), none] [some (.ref 47), none, none] (n, sl, t, I, J, F)) (hX : XS X) (hL : XL X) (h0 : (X 0).1 = L) (hL2 : L ≤ 3584) : ∃ (n : Nat) (hE : am_H), am_ex X n 60 294 0 (am_en 4 [.ref am_K0]) [] am_h0 = some (some (.int 1), hE) ∧ hE.1 ≤ 600000 ∧ hE.2.1 ≤ 7302250 := by
  obtain ⟨n1, v1, g1, e1, rfl, i, hV⟩ := lw_all hTx hX hL h0 hL2
  refine ⟨n1, g1, e1, ?_, ?_⟩
  · have := hV.2.1
    omega
  · have := hV.2.1
    omega
end LB
