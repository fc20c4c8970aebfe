/-! calls, one on each side: drawn -/
section DS
variable {X : am_X} {d : Nat} {Q : Option Value → am_H → Prop} {n sl : Nat} {t : Nat → Nat × Nat} {I : Nat → Nat → Int32} {J : Nat → Nat → Int64} {F : Nat → Nat → Option Nat} {h : am_H}
variable {K : Nat → Int32} {N T : Nat} {lw : Nat → List CL}
theorem s4 (a b c e : Nat) : nI a - nI b + (nI c - nI e) = nI (a + c) - nI (b + e) := by
  rw [← nI_add, ← nI_add, Int32.sub_eq_add_neg, Int32.sub_eq_add_neg, Int32.sub_eq_add_neg, Int32.neg_add, Int32.sub_eq_add_neg]
  rw [Int32.add_assoc, Int32.add_assoc, ← Int32.add_assoc (-nI b), Int32.add_comm (-nI b) (nI c), Int32.add_assoc]
theorem smI_sub {f g : Nat → Nat} : ∀ j, smI (fun k => nI (f k) - nI (g k)) j = nI (sm f j) - nI (sm g j) := by
  intro j
  induction j with
  | zero =>
    show (0 : Int32) = nI 0 - nI 0
    decide
  | succ j ih => rw [smI, ih, s4, sm, sm]
theorem cmv_s (x y : Int32) : cmv x y = nI (if y < x then 1 else 0) - nI (if x < y then 1 else 0) := by
  unfold cmv
  by_cases h1 : x < y
  · have h2 : ¬ y < x := fun q => Int32.lt_irrefl (Int32.lt_trans h1 q)
    rw [if_pos h1, if_neg h2, if_pos h1]
    decide
  · rw [if_neg h1, if_neg h1]
    by_cases h3 : x = y
    · rw [if_pos h3, if_neg (by rw [h3]; exact Int32.lt_irrefl)]
      decide
    · have h2 : y < x := by
        rcases Int32.lt_or_le y x with q | q
        · exact q
        · exact absurd (Int32.le_antisymm q (Int32.not_lt.mp h1)) h3
      rw [if_neg h3, if_pos h2]
      decide
def dr1 (wf : Nat → Int32) (m : Nat) (g h : Nat → Int32) (a k : Nat) : Int32 := smI (fun b => if wNo g b = true ∧ awk wf m a b 8 = true then cmv (h a) (h b) else 0) k
def dr2 (wf : Nat → Int32) (m : Nat) (g h : Nat → Int32) (M k : Nat) : Int32 := smI (fun a => if wTa g a = true then dr1 wf m g h a M else 0) k
theorem dr_t2 {f wf : Nat → Int32} {m M : Nat} {g h : Nat → Int32} (hm : m < 256) (hf : ∀ c, c < M → ∀ i, i < 8 → f (15 * c + i) = wf (8 * c + i)) : nI (t2 (cW f m h) (wTa g) (wNo g) (grp allG M) M) - nI (t2 (cL f m h) (wTa g) (wNo g) (grp allG M) M) = dr2 wf m g h M M := by
  unfold t2 dr2
  rw [← smI_sub]
  refine smI_c M (fun a ha => ?_)
  rw [grp_alln M a ha]
  by_cases hp : wTa g a = true
  · rw [if_pos hp, if_pos hp, if_pos hp]
    unfold t1 dr1
    rw [grp_alen, ← smI_sub]
    refine smI_c M (fun b hb => ?_)
    rw [grp_alln M b hb]
    have ea : alq f m a b = true ↔ awk wf m a b 8 = true := by
      rw [alq_e hm, awk_e]
      constructor
      · intro q i hi ht
        rw [← hf a ha i hi, ← hf b hb i hi]
        exact q i hi ht
      · intro q i hi ht
        rw [hf a ha i hi, hf b hb i hi]
        exact q i hi ht
    by_cases hs : wNo g b = true
    · rw [if_pos hs, if_pos hs]
      unfold cW cL
      by_cases hq : alq f m a b = true
      · have e9 : (if wNo g b = true ∧ awk wf m a b 8 = true then cmv (h a) (h b) else 0) = cmv (h a) (h b) := if_pos ⟨hs, ea.mp hq⟩
        rw [e9, if_pos hq, if_pos hq, cmv_s]
      · rw [if_neg hq, if_neg hq, if_neg (fun z => hq (ea.mpr z.2))]
        decide
    · rw [if_neg hs, if_neg hs, if_neg (fun z => hs z.1)]
      decide
  · rw [if_neg hp, if_neg hp, if_neg hp]
    decide
theorem ml_drawn {m M : Nat} {g h : Nat → Int32} (hW : WS n t F) (hm : m < 256) (hM : M ≤ 120) (hs : I 47 38 = nI M) (h70 : ∀ c, c < M → I 70 c = g c ∧ (g c = 0 ∨ g c = 1)) (h71 : ∀ c, c < M → I 71 c = h c) : ∀ l4 : Option Value, am_W X (d + 1) 289 27 [some (.ref 47), some (.int (nI m)), some (.int 0), some (.int 0), l4] [] (n, sl, t, I, J, F) Q ↔ Q (some (.int (dr2 (I 72) m g h M M))) (n, sl, t, I, J, F) := by
  obtain ⟨hn, hn2, ht, hF⟩ := id hW
  have hin : ∀ (R : Prop) (n0 : Int32) (a : Nat), a < M → (∀ l4 : Option Value, am_W X (d + 1) 289 134 [some (.ref 47), some (.int (nI m)), some (.int (n0 + dr1 (I 72) m g h a M)), some (.int (nI a)), l4] [] (n, sl, t, I, J, F) Q ↔ R) → (am_W X (d + 1) 289 51 [some (.ref 47), some (.int (nI m)), some (.int (n0 + dr1 (I 72) m g h a 0)), some (.int (nI a)), some (.int 0)] [] (n, sl, t, I, J, F) Q ↔ R) := by
    intro R n0 a ha hR
    refine lp0 (A := fun k => am_W X (d + 1) 289 51 [some (.ref 47), some (.int (nI m)), some (.int (n0 + dr1 (I 72) m g h a k)), some (.int (nI a)), some (.int (nI k))] [] (n, sl, t, I, J, F) Q ↔ R) (N := M) ?_ ?_
    · intro k hk ih
      have z1 : k < 2000000 ∧ M < 2000000 ∧ k < 120 ∧ a < 2000000 ∧ a < 120 := by omega
      have z2 : ¬ M ≤ k := by omega
      have x0 := (h70 k hk).1
      have x1 := h71 a ha
      have x2 := h71 k hk
      have e1 := fun Q => m_were (X := X) (d := d) (Q := Q) (sl := sl) (J := J) (I := I) (m := m) (a := a) (b := k) hW hm (by omega) (by omega)
      have es : dr1 (I 72) m g h a (k + 1) = dr1 (I 72) m g h a k + (if wNo g k = true ∧ awk (I 72) m a k 8 = true then cmv (h a) (h k) else 0) := rfl
      rw [es] at ih
      rw [r289_51]
      by_cases q1 : g k = 0
      · have q2 : ¬ wNo g k = true := by unfold wNo; simp [q1]
        rw [if_neg (fun z => q2 z.1), Int32.add_zero] at ih
        simp only [↓r289_53, ↓r289_54, ↓r289_57, ↓r289_60, ↓r289_61, ↓r289_64, ↓r289_66, ↓r289_66k, ↓r289_67, ↓r289_128, ↓r289_131, q_le, q_lt, q_eq, q_e0, q_e1, q_0e, q_1e, ps_n0, q_0le, q_le0, q_0lt, q_m1e, q_em1, hs, x0, q1, z1, z2, Bool.false_eq_true, hn, hn2, ht, hF, am_wt, am_wf, Option.isSome_some, am_rf_s, am_rf_n, ps_lit, nI_add, nI_1, pk_mul, ps_cl, ps_neg, ps_c0, ps_c1, ps_n01, ps_n11, ps_10, ps_b01, ps_e0, pu_Ine, pu_Ieq, pu_ne, pu_eq, am_k_n, am_k_i, am_k_r, am_k_u, am_k_l, am_sz_0, am_sz_i, am_sz_r, am_sz_u, am_sz_l, Option.toList_some, Option.toList_none, List.cons_append, List.nil_append, true_and, and_true, or_false, false_or, or_self, or_true, true_or, not_false_eq_true, not_true_eq_false, Classical.not_not, ne_eq, ps_e1, ps_em, ps_z, Nat.not_le, false_implies, true_implies, forall_const, ps_01, ps_1n, ps_0n, ps_m10, ps_m1n, lg_cmp_gt, lg_cmp_ge, lg_cmp_le, lg_cmp_lt, lg_cmp_eq, pu_rne, pu_req, pu_uro, RFc_n, Nat.reduceAdd, Nat.reduceMul, Nat.reduceLT, Nat.reduceLeDiff, Nat.reduceEqDiff, Nat.reduceSub]
        exact ih
      · have q2 : wNo g k = true := by unfold wNo; simp [q1]
        by_cases q3 : awk (I 72) m a k 8 = true
        · rw [if_pos ⟨q2, q3⟩, ← Int32.add_assoc] at ih
          unfold cmv at ih
          simp only [↓r289_53, ↓r289_54, ↓r289_57, ↓r289_60, ↓r289_61, ↓r289_64, ↓r289_66, ↓r289_66k, ↓r289_67, ↓r289_70, ↓r289_71, ↓r289_72, ↓r289_74, ↓r289_75, ↓r289_78, ↓e1, q_le, q_lt, q_eq, q_e0, q_e1, q_0e, q_1e, ps_n0, q_0le, q_le0, q_0lt, q_m1e, q_em1, hs, x0, q1, q3, z1, z2, if_true, Bool.false_eq_true, hn, hn2, ht, hF, am_wt, am_wf, Option.isSome_some, am_rf_s, am_rf_n, ps_lit, nI_add, nI_1, pk_mul, ps_cl, ps_neg, ps_c0, ps_c1, ps_n01, ps_n11, ps_10, ps_b01, ps_e0, pu_Ine, pu_Ieq, pu_ne, pu_eq, am_k_n, am_k_i, am_k_r, am_k_u, am_k_l, am_sz_0, am_sz_i, am_sz_r, am_sz_u, am_sz_l, Option.toList_some, Option.toList_none, List.cons_append, List.nil_append, true_and, and_true, or_false, false_or, or_self, or_true, true_or, not_false_eq_true, not_true_eq_false, Classical.not_not, ne_eq, ps_e1, ps_em, ps_z, Nat.not_le, false_implies, true_implies, forall_const, ps_01, ps_1n, ps_0n, ps_m10, ps_m1n, lg_cmp_gt, lg_cmp_ge, lg_cmp_le, lg_cmp_lt, lg_cmp_eq, pu_rne, pu_req, pu_uro, RFc_n, Nat.reduceAdd, Nat.reduceMul, Nat.reduceLT, Nat.reduceLeDiff, Nat.reduceEqDiff, Nat.reduceSub]
          by_cases c1 : h a < h k
          · have c2 : ¬ h k < h a := fun q => Int32.lt_irrefl (Int32.lt_trans c1 q)
            rw [if_pos c1] at ih
            simp only [↓r289_84, ↓r289_85, ↓r289_86, ↓r289_89, ↓r289_90, ↓r289_90k, ↓r289_91, ↓r289_92, ↓r289_95, ↓r289_97, ↓r289_97k, ↓r289_98, ↓r289_101, ↓r289_102, ↓r289_105, ↓r289_106, ↓r289_109, ↓r289_110, ↓r289_110k, ↓r289_111, ↓r289_112, ↓r289_115, ↓r289_117, ↓r289_117k, ↓r289_118, ↓r289_121, ↓r289_122, ↓r289_125, ↓r289_126, ↓r289_127, ↓r289_128, ↓r289_131, z1, x1, x2, Int32.not_lt.mp c2, Int32.not_le.mpr c1, Bool.false_eq_true, hn, hn2, ht, hF, am_wt, am_wf, Option.isSome_some, am_rf_s, am_rf_n, ps_lit, nI_add, nI_1, pk_mul, ps_cl, ps_neg, ps_c0, ps_c1, ps_n01, ps_n11, ps_10, ps_b01, ps_e0, pu_Ine, pu_Ieq, pu_ne, pu_eq, am_k_n, am_k_i, am_k_r, am_k_u, am_k_l, am_sz_0, am_sz_i, am_sz_r, am_sz_u, am_sz_l, Option.toList_some, Option.toList_none, List.cons_append, List.nil_append, true_and, and_true, or_false, false_or, or_self, or_true, true_or, not_false_eq_true, not_true_eq_false, Classical.not_not, ne_eq, ps_e1, ps_em, ps_z, Nat.not_le, false_implies, true_implies, forall_const, ps_01, ps_1n, ps_0n, ps_m10, ps_m1n, lg_cmp_gt, lg_cmp_ge, lg_cmp_le, lg_cmp_lt, lg_cmp_eq, pu_rne, pu_req, pu_uro, RFc_n, Nat.reduceAdd, Nat.reduceMul, Nat.reduceLT, Nat.reduceLeDiff, Nat.reduceEqDiff, Nat.reduceSub]
            exact ih
          · rw [if_neg c1] at ih
            by_cases c3 : h a = h k
            · rw [if_pos c3] at ih
              simp only [↓r289_84, ↓r289_85, ↓r289_86, ↓r289_89, ↓r289_90, ↓r289_90k, ↓r289_91, ↓r289_92, ↓r289_95, ↓r289_97, ↓r289_97k, ↓r289_98, ↓r289_101, ↓r289_102, ↓r289_105, ↓r289_106, ↓r289_109, ↓r289_110, ↓r289_110k, ↓r289_111, ↓r289_112, ↓r289_115, ↓r289_117, ↓r289_117k, ↓r289_118, ↓r289_121, ↓r289_122, ↓r289_125, ↓r289_126, ↓r289_127, ↓r289_128, ↓r289_131, z1, x1, x2, c3, Int32.le_refl, Int32.add_zero, Bool.false_eq_true, hn, hn2, ht, hF, am_wt, am_wf, Option.isSome_some, am_rf_s, am_rf_n, ps_lit, nI_add, nI_1, pk_mul, ps_cl, ps_neg, ps_c0, ps_c1, ps_n01, ps_n11, ps_10, ps_b01, ps_e0, pu_Ine, pu_Ieq, pu_ne, pu_eq, am_k_n, am_k_i, am_k_r, am_k_u, am_k_l, am_sz_0, am_sz_i, am_sz_r, am_sz_u, am_sz_l, Option.toList_some, Option.toList_none, List.cons_append, List.nil_append, true_and, and_true, or_false, false_or, or_self, or_true, true_or, not_false_eq_true, not_true_eq_false, Classical.not_not, ne_eq, ps_e1, ps_em, ps_z, Nat.not_le, false_implies, true_implies, forall_const, ps_01, ps_1n, ps_0n, ps_m10, ps_m1n, lg_cmp_gt, lg_cmp_ge, lg_cmp_le, lg_cmp_lt, lg_cmp_eq, pu_rne, pu_req, pu_uro, RFc_n, Nat.reduceAdd, Nat.reduceMul, Nat.reduceLT, Nat.reduceLeDiff, Nat.reduceEqDiff, Nat.reduceSub]
              rw [Int32.add_zero] at ih
              exact ih
            · have c2 : h k < h a := by
                rcases Int32.lt_or_le (h k) (h a) with q | q
                · exact q
                · exact absurd (Int32.le_antisymm q (Int32.not_lt.mp c1)) c3
              rw [if_neg c3] at ih
              simp only [↓r289_84, ↓r289_85, ↓r289_86, ↓r289_89, ↓r289_90, ↓r289_90k, ↓r289_91, ↓r289_92, ↓r289_95, ↓r289_97, ↓r289_97k, ↓r289_98, ↓r289_101, ↓r289_102, ↓r289_105, ↓r289_106, ↓r289_109, ↓r289_110, ↓r289_110k, ↓r289_111, ↓r289_112, ↓r289_115, ↓r289_117, ↓r289_117k, ↓r289_118, ↓r289_121, ↓r289_122, ↓r289_125, ↓r289_126, ↓r289_127, ↓r289_128, ↓r289_131, z1, x1, x2, Int32.not_le.mpr c2, Bool.false_eq_true, hn, hn2, ht, hF, am_wt, am_wf, Option.isSome_some, am_rf_s, am_rf_n, ps_lit, nI_add, nI_1, pk_mul, ps_cl, ps_neg, ps_c0, ps_c1, ps_n01, ps_n11, ps_10, ps_b01, ps_e0, pu_Ine, pu_Ieq, pu_ne, pu_eq, am_k_n, am_k_i, am_k_r, am_k_u, am_k_l, am_sz_0, am_sz_i, am_sz_r, am_sz_u, am_sz_l, Option.toList_some, Option.toList_none, List.cons_append, List.nil_append, true_and, and_true, or_false, false_or, or_self, or_true, true_or, not_false_eq_true, not_true_eq_false, Classical.not_not, ne_eq, ps_e1, ps_em, ps_z, Nat.not_le, false_implies, true_implies, forall_const, ps_01, ps_1n, ps_0n, ps_m10, ps_m1n, lg_cmp_gt, lg_cmp_ge, lg_cmp_le, lg_cmp_lt, lg_cmp_eq, pu_rne, pu_req, pu_uro, RFc_n, Nat.reduceAdd, Nat.reduceMul, Nat.reduceLT, Nat.reduceLeDiff, Nat.reduceEqDiff, Nat.reduceSub]
              exact ih
        · rw [if_neg (fun z => q3 z.2), Int32.add_zero] at ih
          simp only [↓r289_53, ↓r289_54, ↓r289_57, ↓r289_60, ↓r289_61, ↓r289_64, ↓r289_66, ↓r289_66k, ↓r289_67, ↓r289_70, ↓r289_71, ↓r289_72, ↓r289_74, ↓r289_75, ↓r289_78, ↓r289_81, ↓r289_128, ↓r289_131, ↓e1, q_le, q_lt, q_eq, q_e0, q_e1, q_0e, q_1e, ps_n0, q_0le, q_le0, q_0lt, q_m1e, q_em1, hs, x0, q1, q3, z1, z2, if_false, Bool.false_eq_true, hn, hn2, ht, hF, am_wt, am_wf, Option.isSome_some, am_rf_s, am_rf_n, ps_lit, nI_add, nI_1, pk_mul, ps_cl, ps_neg, ps_c0, ps_c1, ps_n01, ps_n11, ps_10, ps_b01, ps_e0, pu_Ine, pu_Ieq, pu_ne, pu_eq, am_k_n, am_k_i, am_k_r, am_k_u, am_k_l, am_sz_0, am_sz_i, am_sz_r, am_sz_u, am_sz_l, Option.toList_some, Option.toList_none, List.cons_append, List.nil_append, true_and, and_true, or_false, false_or, or_self, or_true, true_or, not_false_eq_true, not_true_eq_false, Classical.not_not, ne_eq, ps_e1, ps_em, ps_z, Nat.not_le, false_implies, true_implies, forall_const, ps_01, ps_1n, ps_0n, ps_m10, ps_m1n, lg_cmp_gt, lg_cmp_ge, lg_cmp_le, lg_cmp_lt, lg_cmp_eq, pu_rne, pu_req, pu_uro, RFc_n, Nat.reduceAdd, Nat.reduceMul, Nat.reduceLT, Nat.reduceLeDiff, Nat.reduceEqDiff, Nat.reduceSub]
          exact ih
    · rw [r289_51]
      simp only [↓r289_53, ↓r289_54, ↓r289_57, hs, Int32.le_refl, Bool.false_eq_true, hn, hn2, ht, hF, am_wt, am_wf, Option.isSome_some, am_rf_s, am_rf_n, ps_lit, nI_add, nI_1, pk_mul, ps_cl, ps_neg, ps_c0, ps_c1, ps_n01, ps_n11, ps_10, ps_b01, ps_e0, pu_Ine, pu_Ieq, pu_ne, pu_eq, am_k_n, am_k_i, am_k_r, am_k_u, am_k_l, am_sz_0, am_sz_i, am_sz_r, am_sz_u, am_sz_l, Option.toList_some, Option.toList_none, List.cons_append, List.nil_append, true_and, and_true, or_false, false_or, or_self, or_true, true_or, not_false_eq_true, not_true_eq_false, Classical.not_not, ne_eq, ps_e1, ps_em, ps_z, Nat.not_le, false_implies, true_implies, forall_const, ps_01, ps_1n, ps_0n, ps_m10, ps_m1n, lg_cmp_gt, lg_cmp_ge, lg_cmp_le, lg_cmp_lt, lg_cmp_eq, pu_rne, pu_req, pu_uro, RFc_n, Nat.reduceAdd, Nat.reduceMul, Nat.reduceLT, Nat.reduceLeDiff, Nat.reduceEqDiff, Nat.reduceSub]
      exact hR _
  refine lp0 (A := fun a => ∀ l4 : Option Value, am_W X (d + 1) 289 27 [some (.ref 47), some (.int (nI m)), some (.int (dr2 (I 72) m g h M a)), some (.int (nI a)), l4] [] (n, sl, t, I, J, F) Q ↔ Q (some (.int (dr2 (I 72) m g h M M))) (n, sl, t, I, J, F)) (N := M) ?_ ?_
  · intro a ha ih l4
    have z1 : a < 2000000 ∧ M < 2000000 ∧ a < 120 := by omega
    have z2 : ¬ M ≤ a := by omega
    obtain ⟨x0, x1⟩ := h70 a ha
    have es : dr2 (I 72) m g h M (a + 1) = dr2 (I 72) m g h M a + (if wTa g a = true then dr1 (I 72) m g h a M else 0) := rfl
    rw [es] at ih
    rw [r289_27]
    rcases x1 with q | q
    · have q2 : wTa g a = true := decide_eq_true q
      rw [if_pos q2] at ih
      have q3 : ¬ (0 : Int32) = 1 := by decide
      simp only [↓r289_28, ↓r289_29, ↓r289_32, ↓r289_35, ↓r289_36, ↓r289_39, ↓r289_40, ↓r289_40k, ↓r289_41, ↓r289_42, ↓r289_45, ↓r289_48, ↓r289_49, q_le, q_lt, q_eq, q_e0, q_e1, q_0e, q_1e, ps_n0, q_0le, q_le0, q_0lt, q_m1e, q_em1, hs, x0, q, q3, z1, z2, Bool.false_eq_true, hn, hn2, ht, hF, am_wt, am_wf, Option.isSome_some, am_rf_s, am_rf_n, ps_lit, nI_add, nI_1, pk_mul, ps_cl, ps_neg, ps_c0, ps_c1, ps_n01, ps_n11, ps_10, ps_b01, ps_e0, pu_Ine, pu_Ieq, pu_ne, pu_eq, am_k_n, am_k_i, am_k_r, am_k_u, am_k_l, am_sz_0, am_sz_i, am_sz_r, am_sz_u, am_sz_l, Option.toList_some, Option.toList_none, List.cons_append, List.nil_append, true_and, and_true, or_false, false_or, or_self, or_true, true_or, not_false_eq_true, not_true_eq_false, Classical.not_not, ne_eq, ps_e1, ps_em, ps_z, Nat.not_le, false_implies, true_implies, forall_const, ps_01, ps_1n, ps_0n, ps_m10, ps_m1n, lg_cmp_gt, lg_cmp_ge, lg_cmp_le, lg_cmp_lt, lg_cmp_eq, pu_rne, pu_req, pu_uro, RFc_n, Nat.reduceAdd, Nat.reduceMul, Nat.reduceLT, Nat.reduceLeDiff, Nat.reduceEqDiff, Nat.reduceSub]
      have := hin _ (dr2 (I 72) m g h M a) a ha (fun l4 => by
        simp only [↓r289_134, ↓r289_137, Bool.false_eq_true, hn, hn2, ht, hF, am_wt, am_wf, Option.isSome_some, am_rf_s, am_rf_n, ps_lit, nI_add, nI_1, pk_mul, ps_cl, ps_neg, ps_c0, ps_c1, ps_n01, ps_n11, ps_10, ps_b01, ps_e0, pu_Ine, pu_Ieq, pu_ne, pu_eq, am_k_n, am_k_i, am_k_r, am_k_u, am_k_l, am_sz_0, am_sz_i, am_sz_r, am_sz_u, am_sz_l, Option.toList_some, Option.toList_none, List.cons_append, List.nil_append, true_and, and_true, or_false, false_or, or_self, or_true, true_or, not_false_eq_true, not_true_eq_false, Classical.not_not, ne_eq, ps_e1, ps_em, ps_z, Nat.not_le, false_implies, true_implies, forall_const, ps_01, ps_1n, ps_0n, ps_m10, ps_m1n, lg_cmp_gt, lg_cmp_ge, lg_cmp_le, lg_cmp_lt, lg_cmp_eq, pu_rne, pu_req, pu_uro, RFc_n, Nat.reduceAdd, Nat.reduceMul, Nat.reduceLT, Nat.reduceLeDiff, Nat.reduceEqDiff, Nat.reduceSub]
        exact ih _)
      rw [show dr1 (I 72) m g h a 0 = 0 from rfl, Int32.add_zero] at this
      exact this
    · have q2 : ¬ wTa g a = true := by unfold wTa; simp [q]
      rw [if_neg q2, Int32.add_zero] at ih
      simp only [↓r289_28, ↓r289_29, ↓r289_32, ↓r289_35, ↓r289_36, ↓r289_39, ↓r289_40, ↓r289_40k, ↓r289_41, ↓r289_42, ↓r289_45, ↓r289_134, ↓r289_137, q_le, q_lt, q_eq, q_e0, q_e1, q_0e, q_1e, ps_n0, q_0le, q_le0, q_0lt, q_m1e, q_em1, hs, x0, q, z1, z2, Bool.false_eq_true, hn, hn2, ht, hF, am_wt, am_wf, Option.isSome_some, am_rf_s, am_rf_n, ps_lit, nI_add, nI_1, pk_mul, ps_cl, ps_neg, ps_c0, ps_c1, ps_n01, ps_n11, ps_10, ps_b01, ps_e0, pu_Ine, pu_Ieq, pu_ne, pu_eq, am_k_n, am_k_i, am_k_r, am_k_u, am_k_l, am_sz_0, am_sz_i, am_sz_r, am_sz_u, am_sz_l, Option.toList_some, Option.toList_none, List.cons_append, List.nil_append, true_and, and_true, or_false, false_or, or_self, or_true, true_or, not_false_eq_true, not_true_eq_false, Classical.not_not, ne_eq, ps_e1, ps_em, ps_z, Nat.not_le, false_implies, true_implies, forall_const, ps_01, ps_1n, ps_0n, ps_m10, ps_m1n, lg_cmp_gt, lg_cmp_ge, lg_cmp_le, lg_cmp_lt, lg_cmp_eq, pu_rne, pu_req, pu_uro, RFc_n, Nat.reduceAdd, Nat.reduceMul, Nat.reduceLT, Nat.reduceLeDiff, Nat.reduceEqDiff, Nat.reduceSub]
      exact ih _
  · intro l4
    rw [r289_27]
    simp only [↓r289_28, ↓r289_29, ↓r289_32, ↓r289_140, ↓r289_141, hs, Int32.le_refl, Bool.false_eq_true, hn, hn2, ht, hF, am_wt, am_wf, Option.isSome_some, am_rf_s, am_rf_n, ps_lit, nI_add, nI_1, pk_mul, ps_cl, ps_neg, ps_c0, ps_c1, ps_n01, ps_n11, ps_10, ps_b01, ps_e0, pu_Ine, pu_Ieq, pu_ne, pu_eq, am_k_n, am_k_i, am_k_r, am_k_u, am_k_l, am_sz_0, am_sz_i, am_sz_r, am_sz_u, am_sz_l, Option.toList_some, Option.toList_none, List.cons_append, List.nil_append, true_and, and_true, or_false, false_or, or_self, or_true, true_or, not_false_eq_true, not_true_eq_false, Classical.not_not, ne_eq, ps_e1, ps_em, ps_z, Nat.not_le, false_implies, true_implies, forall_const, ps_01, ps_1n, ps_0n, ps_m10, ps_m1n, lg_cmp_gt, lg_cmp_ge, lg_cmp_le, lg_cmp_lt, lg_cmp_eq, pu_rne, pu_req, pu_uro, RFc_n, Nat.reduceAdd, Nat.reduceMul, Nat.reduceLT, Nat.reduceLeDiff, Nat.reduceEqDiff, Nat.reduceSub]
theorem pr_drawn {x : Int32} {i : Nat} (hX : XS X) (hi : i < 600) (hV : Inv i (n, sl, t, I, J, F)) : PR X i 156 289 [some (.ref 0), some (.int x), none, none] [some (.ref 47), some (.int x), none, none, none] (n, sl, t, I, J, F) := by
  obtain ⟨N, T, lw, hC⟩ := CX_of hV; obtain ⟨hW, hK, _, ⟨hs, hc, hr, hu, hm⟩, hl⟩ := id hC; have hN := hK.1; obtain ⟨hn, hn2, ht, hF⟩ := id hW
  have hWD : WD (I 41 2) (I 41 3) (I 42) (I 43) (I 47 38) (I 69) (I 70) (I 71) (I 72) := hV.2.2.2.2.2.2.2.1
  rcases hWD with ⟨d1, d2⟩ | ⟨d1, M, hM, d2, d3, d4⟩
  · refine PR_ask (v := -1000000) hi hV ?_ ?_
    · intro Q hQ
      simp only [↓r156_0, ↓r156_1, ↓r156_4, ↓r156_7, ↓r156_10, ↓r156_11, ↓r156_12, ↓r156_15, ↓r156_18, ↓r156_21, ↓r156_24, d1, Bool.false_eq_true, hn, hn2, ht, hF, am_wt, am_wf, Option.isSome_some, am_rf_s, am_rf_n, ps_lit, nI_add, nI_1, pk_mul, ps_cl, ps_neg, ps_c0, ps_c1, ps_n01, ps_n11, ps_10, ps_b01, ps_e0, pu_Ine, pu_Ieq, pu_ne, pu_eq, am_k_n, am_k_i, am_k_r, am_k_u, am_k_l, am_sz_0, am_sz_i, am_sz_r, am_sz_u, am_sz_l, Option.toList_some, Option.toList_none, List.cons_append, List.nil_append, true_and, and_true, or_false, false_or, or_self, or_true, true_or, not_false_eq_true, not_true_eq_false, Classical.not_not, ne_eq, ps_e1, ps_em, ps_z, Nat.not_le, false_implies, true_implies, forall_const, ps_01, ps_1n, ps_0n, ps_m10, ps_m1n, lg_cmp_gt, lg_cmp_ge, lg_cmp_le, lg_cmp_lt, lg_cmp_eq, pu_rne, pu_req, pu_uro, RFc_n, Nat.reduceAdd, Nat.reduceMul, Nat.reduceLT, Nat.reduceLeDiff, Nat.reduceEqDiff, Nat.reduceSub]
      exact hQ _ SCH_r
    · rintro ⟨n', sl', t', I', J', F'⟩ ⟨e1, e2, e3, e4, e5⟩; dsimp only at e1 e2 e3 e4 e5; subst e1; subst e2; subst e3; have hC' := CX_sc hC e4 e5; obtain ⟨hn, hn2, ht, hF⟩ := id hC'.1; intro Q hQ
      have d2' : I' 47 38 = -1 := (e4 47 38 rfl).trans d2
      simp only [↓r289_0, ↓r289_1, ↓r289_4, ↓r289_5, ↓r289_8, ↓r289_9, ↓r289_10, ↓r289_13, ↓r289_16, ↓r289_19, ↓r289_22, d2', Bool.false_eq_true, hn, hn2, ht, hF, am_wt, am_wf, Option.isSome_some, am_rf_s, am_rf_n, ps_lit, nI_add, nI_1, pk_mul, ps_cl, ps_neg, ps_c0, ps_c1, ps_n01, ps_n11, ps_10, ps_b01, ps_e0, pu_Ine, pu_Ieq, pu_ne, pu_eq, am_k_n, am_k_i, am_k_r, am_k_u, am_k_l, am_sz_0, am_sz_i, am_sz_r, am_sz_u, am_sz_l, Option.toList_some, Option.toList_none, List.cons_append, List.nil_append, true_and, and_true, or_false, false_or, or_self, or_true, true_or, not_false_eq_true, not_true_eq_false, Classical.not_not, ne_eq, ps_e1, ps_em, ps_z, Nat.not_le, false_implies, true_implies, forall_const, ps_01, ps_1n, ps_0n, ps_m10, ps_m1n, lg_cmp_gt, lg_cmp_ge, lg_cmp_le, lg_cmp_lt, lg_cmp_eq, pu_rne, pu_req, pu_uro, RFc_n, Nat.reduceAdd, Nat.reduceMul, Nat.reduceLT, Nat.reduceLeDiff, Nat.reduceEqDiff, Nat.reduceSub]
      exact hQ _ SCH_r
  · by_cases hx : 0 ≤ x ∧ x ≤ nI 255
    · obtain ⟨m, hm', rfl⟩ := ps_rng (by decide) hx
      have hm256 : m < 256 := by omega
      refine PR_ask (v := dr2 (I 72) m (I 70) (I 71) M M) hi hV ?_ ?_
      · intro Q hQ
        have hW' := WS_28 (r := 42) hW
        have hF' := hW'.2.2.2
        have h1 : ∀ c, c < M → I 43 (3 * c + 1) = I 70 c := fun c hc => by
          obtain ⟨_, ⟨v2, _, p3, p4⟩, _⟩ := d4 c hc
          exact p3.trans p4.symm
        have h2 : ∀ c, c < M → I 43 (3 * c + 2) = I 71 c ∧ ¬ I 71 c = -1 := fun c hc => by
          obtain ⟨_, _, ⟨v3, q3, p5, p6⟩, _⟩ := d4 c hc
          exact ⟨p5.trans p6.symm, by rw [p6]; exact nI_m1 (by omega)⟩
        have hD : SDH (dwI I (I 70) (I 71) (grp allG M) M) (am_uF F 28 8 (some 42)) 42 (flt (wTa (I 70)) (grp allG M) M) (flt (wNo (I 70)) (grp allG M) M) (I 71) := by
          have hg := fun p f => GH_flt (p := p) (l := grp allG M) (f := f) (N := 120) (by rw [grp_alen]; exact hM) (fun k hk => by have := grp_at hk; omega)
          simp only [grp_alen] at hg
          refine ⟨by rw [pu_Feq, vu_eq], Or.inr rfl, hg _ _, hg _ _, fun i hi => ?_, fun i hi => ?_⟩
          · obtain ⟨j, j1, j2, _⟩ := flt_mem (getD_mem hi)
            exact twr_at (p := allG) rfl M j j1 j2
          · obtain ⟨j, j1, j2, _⟩ := flt_mem (getD_mem hi)
            exact twr_at (p := allG) rfl M j j1 j2
        have e1 := fun Q => cl_match (X := X) (d := 55) (Q := Q) (sl := sl) (J := J) hW' hD hm256
        have e42 : dwI I (I 70) (I 71) (grp allG M) M 42 = I 42 := sd_n (by decide)
        have es : ∀ gg, s2 gg (flt (wTa (I 70)) (grp allG M) M) (flt (wNo (I 70)) (grp allG M) M) (flt (wTa (I 70)) (grp allG M) M).length = t2 gg (wTa (I 70)) (wNo (I 70)) (grp allG M) M := fun gg => by
          have := s2_t2 gg (wTa (I 70)) (wNo (I 70)) (grp allG M)
          rw [grp_alen] at this
          exact this
        simp only [e42, es, dr_t2 hm256 (fun c hc i hi => (d4 c hc).2.2.2 i hi)] at e1
        have s0 : SC I (dwI I (I 70) (I 71) (grp allG M) M) := SC_sd (SC_r I)
        have e2 := fun Q => c_sstart (X := X) (d := 58) (Q := Q) (sl := sl) (J := J) (I := I) (r := 42) hW
        simp only [↓r156_0, ↓r156_1, ↓r156_4, ↓r156_7, ↓r156_10, ↓r156_11, ↓r156_12, ↓r156_15, ↓r156_18, ↓r156_21, ↓r156_24, ↓r156_25, ↓r156_26, ↓r156_29, ↓r156_30, ↓r156_33, ↓r156_36, ↓r156_39, ↓r156_40, ↓c_within, ↓e2, d1, hx, and_self, if_true, Bool.false_eq_true, hn, hn2, ht, hF, am_wt, am_wf, Option.isSome_some, am_rf_s, am_rf_n, ps_lit, nI_add, nI_1, pk_mul, ps_cl, ps_neg, ps_c0, ps_c1, ps_n01, ps_n11, ps_10, ps_b01, ps_e0, pu_Ine, pu_Ieq, pu_ne, pu_eq, am_k_n, am_k_i, am_k_r, am_k_u, am_k_l, am_sz_0, am_sz_i, am_sz_r, am_sz_u, am_sz_l, Option.toList_some, Option.toList_none, List.cons_append, List.nil_append, true_and, and_true, or_false, false_or, or_self, or_true, true_or, not_false_eq_true, not_true_eq_false, Classical.not_not, ne_eq, ps_e1, ps_em, ps_z, Nat.not_le, false_implies, true_implies, forall_const, ps_01, ps_1n, ps_0n, ps_m10, ps_m1n, lg_cmp_gt, lg_cmp_ge, lg_cmp_le, lg_cmp_lt, lg_cmp_eq, pu_rne, pu_req, pu_uro, RFc_n, Nat.reduceAdd, Nat.reduceMul, Nat.reduceLT, Nat.reduceLeDiff, Nat.reduceEqDiff, Nat.reduceSub]
        refine (cl_drawn (R := True) hW hM d2 h1 h2 (fun l3 => ?_) _).mpr trivial
        rw [iff_true]
        simp only [↓r156_94, ↓r156_95, ↓r156_98, ↓r156_99, ↓r156_102, ↓e1, hF', Bool.false_eq_true, hn, hn2, ht, hF, am_wt, am_wf, Option.isSome_some, am_rf_s, am_rf_n, ps_lit, nI_add, nI_1, pk_mul, ps_cl, ps_neg, ps_c0, ps_c1, ps_n01, ps_n11, ps_10, ps_b01, ps_e0, pu_Ine, pu_Ieq, pu_ne, pu_eq, am_k_n, am_k_i, am_k_r, am_k_u, am_k_l, am_sz_0, am_sz_i, am_sz_r, am_sz_u, am_sz_l, Option.toList_some, Option.toList_none, List.cons_append, List.nil_append, true_and, and_true, or_false, false_or, or_self, or_true, true_or, not_false_eq_true, not_true_eq_false, Classical.not_not, ne_eq, ps_e1, ps_em, ps_z, Nat.not_le, false_implies, true_implies, forall_const, ps_01, ps_1n, ps_0n, ps_m10, ps_m1n, lg_cmp_gt, lg_cmp_ge, lg_cmp_le, lg_cmp_lt, lg_cmp_eq, pu_rne, pu_req, pu_uro, RFc_n, Nat.reduceAdd, Nat.reduceMul, Nat.reduceLT, Nat.reduceLeDiff, Nat.reduceEqDiff, Nat.reduceSub]
        exact hQ _ ⟨rfl, rfl, rfl, SC_o s0 (fun _ => rfl), F28_n⟩
      · rintro ⟨n', sl', t', I', J', F'⟩ ⟨e1, e2, e3, e4, e5⟩; dsimp only at e1 e2 e3 e4 e5; subst e1; subst e2; subst e3; have hC' := CX_sc hC e4 e5; obtain ⟨hn, hn2, ht, hF⟩ := id hC'.1; intro Q hQ
        have r1 : I' 70 = I 70 := SC_c e4 (a := 70) (fun _ => rfl)
        have r2 : I' 71 = I 71 := SC_c e4 (a := 71) (fun _ => rfl)
        have r3 : I' 72 = I 72 := SC_c e4 (a := 72) (fun _ => rfl)
        have d3' : I' 47 38 = nI M := (e4 47 38 rfl).trans d3
        have nm : ¬ nI M = -1 := nI_m1 (by omega)
        simp only [↓r289_0, ↓r289_1, ↓r289_4, ↓r289_5, ↓r289_8, ↓r289_9, ↓r289_10, ↓r289_13, ↓r289_16, ↓r289_19, ↓r289_22, ↓r289_23, ↓r289_24, ↓r289_25, ↓r289_26, ↓s_lies, d3', nm, hx, and_self, if_true, Bool.false_eq_true, hn, hn2, ht, hF, am_wt, am_wf, Option.isSome_some, am_rf_s, am_rf_n, ps_lit, nI_add, nI_1, pk_mul, ps_cl, ps_neg, ps_c0, ps_c1, ps_n01, ps_n11, ps_10, ps_b01, ps_e0, pu_Ine, pu_Ieq, pu_ne, pu_eq, am_k_n, am_k_i, am_k_r, am_k_u, am_k_l, am_sz_0, am_sz_i, am_sz_r, am_sz_u, am_sz_l, Option.toList_some, Option.toList_none, List.cons_append, List.nil_append, true_and, and_true, or_false, false_or, or_self, or_true, true_or, not_false_eq_true, not_true_eq_false, Classical.not_not, ne_eq, ps_e1, ps_em, ps_z, Nat.not_le, false_implies, true_implies, forall_const, ps_01, ps_1n, ps_0n, ps_m10, ps_m1n, lg_cmp_gt, lg_cmp_ge, lg_cmp_le, lg_cmp_lt, lg_cmp_eq, pu_rne, pu_req, pu_uro, RFc_n, Nat.reduceAdd, Nat.reduceMul, Nat.reduceLT, Nat.reduceLeDiff, Nat.reduceEqDiff, Nat.reduceSub]
        refine (ml_drawn (g := I 70) (h := I 71) hC'.1 hm256 hM d3' (fun c hc => ?_) (fun c hc => by rw [r2]) _).mpr ?_
        · obtain ⟨_, ⟨v2, q2, p3, p4⟩, _⟩ := d4 c hc
          refine ⟨by rw [r1], ?_⟩
          rw [p4]
          rcases Nat.lt_or_ge v2 1 with z | z
          · left
            rw [show v2 = 0 by omega]
            rfl
          · right
            rw [show v2 = 1 by omega]
            rfl
        · rw [r3]
          exact hQ _ SCH_r
    · refine PR_ask (v := -1000000) hi hV ?_ ?_
      · intro Q hQ
        simp only [↓r156_0, ↓r156_1, ↓r156_4, ↓r156_7, ↓r156_10, ↓r156_11, ↓r156_12, ↓r156_15, ↓r156_18, ↓r156_21, ↓r156_24, ↓c_within, d1, hx, if_false, Bool.false_eq_true, hn, hn2, ht, hF, am_wt, am_wf, Option.isSome_some, am_rf_s, am_rf_n, ps_lit, nI_add, nI_1, pk_mul, ps_cl, ps_neg, ps_c0, ps_c1, ps_n01, ps_n11, ps_10, ps_b01, ps_e0, pu_Ine, pu_Ieq, pu_ne, pu_eq, am_k_n, am_k_i, am_k_r, am_k_u, am_k_l, am_sz_0, am_sz_i, am_sz_r, am_sz_u, am_sz_l, Option.toList_some, Option.toList_none, List.cons_append, List.nil_append, true_and, and_true, or_false, false_or, or_self, or_true, true_or, not_false_eq_true, not_true_eq_false, Classical.not_not, ne_eq, ps_e1, ps_em, ps_z, Nat.not_le, false_implies, true_implies, forall_const, ps_01, ps_1n, ps_0n, ps_m10, ps_m1n, lg_cmp_gt, lg_cmp_ge, lg_cmp_le, lg_cmp_lt, lg_cmp_eq, pu_rne, pu_req, pu_uro, RFc_n, Nat.reduceAdd, Nat.reduceMul, Nat.reduceLT, Nat.reduceLeDiff, Nat.reduceEqDiff, Nat.reduceSub]
        exact hQ _ SCH_r
      · rintro ⟨n', sl', t', I', J', F'⟩ ⟨e1, e2, e3, e4, e5⟩; dsimp only at e1 e2 e3 e4 e5; subst e1; subst e2; subst e3; have hC' := CX_sc hC e4 e5; obtain ⟨hn, hn2, ht, hF⟩ := id hC'.1; intro Q hQ
        have d3' : I' 47 38 = nI M := (e4 47 38 rfl).trans d3
        have nm : ¬ nI M = -1 := nI_m1 (by omega)
        simp only [↓r289_0, ↓r289_1, ↓r289_4, ↓r289_5, ↓r289_8, ↓r289_9, ↓r289_10, ↓r289_13, ↓r289_16, ↓r289_19, ↓r289_22, ↓s_lies, d3', nm, hx, if_false, Bool.false_eq_true, hn, hn2, ht, hF, am_wt, am_wf, Option.isSome_some, am_rf_s, am_rf_n, ps_lit, nI_add, nI_1, pk_mul, ps_cl, ps_neg, ps_c0, ps_c1, ps_n01, ps_n11, ps_10, ps_b01, ps_e0, pu_Ine, pu_Ieq, pu_ne, pu_eq, am_k_n, am_k_i, am_k_r, am_k_u, am_k_l, am_sz_0, am_sz_i, am_sz_r, am_sz_u, am_sz_l, Option.toList_some, Option.toList_none, List.cons_append, List.nil_append, true_and, and_true, or_false, false_or, or_self, or_true, true_or, not_false_eq_true, not_true_eq_false, Classical.not_not, ne_eq, ps_e1, ps_em, ps_z, Nat.not_le, false_implies, true_implies, forall_const, ps_01, ps_1n, ps_0n, ps_m10, ps_m1n, lg_cmp_gt, lg_cmp_ge, lg_cmp_le, lg_cmp_lt, lg_cmp_eq, pu_rne, pu_req, pu_uro, RFc_n, Nat.reduceAdd, Nat.reduceMul, Nat.reduceLT, Nat.reduceLeDiff, Nat.reduceEqDiff, Nat.reduceSub]
        exact hQ _ SCH_r
end DS
