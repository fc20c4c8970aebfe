/-! how a group stays: what is counted, on both sides -/
section CU
variable {X : am_X} {d : Nat} {Q : Option Value → am_H → Prop} {n sl : Nat} {t : Nat → Nat × Nat} {I : Nat → Nat → Int32} {J : Nat → Nat → Int64} {F : Nat → Nat → Option Nat} {h : am_H}
variable {K : Nat → Int32} {N T : Nat} {lw : Nat → List CL}
def wN (K : Nat → Int32) (c : Nat) : Nat := (K (15 * c + 9)).toNatClampNeg
def isTk (K : Nat → Int32) (c t : Nat) : Bool := decide (K (15 * c + 10) = 0 ∧ wN K c = t)
def isCt (K : Nat → Int32) (c t : Nat) : Bool := decide (K (15 * c + 10) = 1 ∧ wN K c = t)
def isTh (K : Nat → Int32) (c t : Nat) : Bool := decide (fTr K c = true ∧ t ≤ wN K c)
def tkc (K : Nat → Int32) (l : List Nat) (t j : Nat) : Nat := sm (fun k => if isTk K (l.getD k 0) t = true then 1 else 0) j
def ctc (K : Nat → Int32) (l : List Nat) (t j : Nat) : Nat := sm (fun k => if isCt K (l.getD k 0) t = true then 1 else 0) j
def thc (K : Nat → Int32) (l : List Nat) (t j : Nat) : Nat := sm (fun k => if isTh K (l.getD k 0) t = true then 1 else 0) j
theorem kid_w {c : Nat} (hCK : CK n t F (I 1 4) (I 2) (I 3) (I 49) K N) (hc : c < N) : K (15 * c + 9) = nI (wN K c) ∧ wN K c ≤ 200 := by
  obtain ⟨_, ⟨T, hK⟩, _⟩ := hCK
  obtain ⟨w, hw, e⟩ := kid_ten hK hc
  unfold wN
  rw [e, nI_clamp (by omega)]
  exact ⟨rfl, hw⟩
theorem kid_h {c : Nat} (hCK : CK n t F (I 1 4) (I 2) (I 3) (I 49) K N) (hc : c < N) : ∃ w, w ≤ 3 ∧ K (15 * c + 10) = nI w := by
  obtain ⟨_, ⟨T, hK⟩, _⟩ := hCK
  exact kid_how hK hc
theorem m_tookAt {l : List Nat} {tt : Nat} (hCK : CK n t F (I 1 4) (I 2) (I 3) (I 49) K N) (hG : GH (I 47 24) (I 59) l N) (htt : tt ≤ 200) : am_W X (d + 2) 239 0 [some (.ref 47), some (.int (nI tt)), none, none] [] (n, sl, t, I, J, F) Q ↔ Q (some (.int (nI (tkc K l tt l.length)))) (n, sl, t, I, J, F) := by
  have hW : WS n t F := hCK.1
  obtain ⟨hn, hn2, ht, hF⟩ := id hW
  obtain ⟨h1, h2, h3⟩ := id hG
  have hx : am_W X (d + 2) 239 4 [some (.ref 47), some (.int (nI tt)), some (.int (nI (tkc K l tt 0))), some (.int 0)] [] (n, sl, t, I, J, F) Q ↔ Q (some (.int (nI (tkc K l tt l.length)))) (n, sl, t, I, J, F) := by
    refine lp0 (A := fun k => am_W X (d + 2) 239 4 [some (.ref 47), some (.int (nI tt)), some (.int (nI (tkc K l tt k))), some (.int (nI k))] [] (n, sl, t, I, J, F) Q ↔ Q (some (.int (nI (tkc K l tt l.length)))) (n, sl, t, I, J, F)) (N := l.length) ?_ ?_
    · intro k hk ih
      obtain ⟨g1, g2⟩ := h3 k hk
      obtain ⟨w1, w2⟩ := kid_w hCK g2
      have z1 : k < 2000000 ∧ l.length < 2000000 ∧ k < 120 ∧ tt < 2000000 ∧ wN K (l.getD k 0) < 2000000 := by omega
      have z2 : ¬ l.length ≤ k := by omega
      have e : tkc K l tt (k + 1) = tkc K l tt k + (if isTk K (l.getD k 0) tt = true then 1 else 0) := rfl
      unfold isTk at e
      rw [r239_4]
      by_cases c1 : K (15 * l.getD k 0 + 10) = 0
      · by_cases c2 : wN K (l.getD k 0) = tt
        · rw [if_pos (decide_eq_true ⟨c1, c2⟩)] at e
          rw [e] at ih
          simp only [↓r239_5, ↓r239_6, ↓r239_9, ↓r239_12, ↓r239_13, ↓r239_14, ↓r239_15, ↓r239_18, ↓r239_19, ↓r239_19k, ↓r239_20, ↓r239_23, ↓r239_26, ↓r239_27, ↓r239_28, ↓r239_31, ↓r239_32, ↓r239_32k, ↓r239_33, ↓r239_36, ↓r239_37, ↓r239_40, ↓r239_41, ↓r239_44, ↓r239_45, ↓r239_46, ↓r239_47, ↓r239_50, ↓k_at (K := K) (N := N), ↓k_isTried (K := K) (N := N), ↓k_side (K := K) (N := N), ↓k_thing (K := K) (N := N), ↓k_isFound (K := K) (N := N), ↓m_factOf (K := K) (N := N), ↓m_isTried (K := K) (N := N), ↓m_took (K := K) (N := N), ↓m_waited (K := K) (N := N), ↓m_isLong (K := K) (N := N), ↓m_isShort (K := K) (N := N), ↓m_thingOf (K := K) (N := N), ↓m_isFound (K := K) (N := N), ↓m_many (K := K) (N := N), ↓c_within, ↓s_lies, hCK, b01, b11, q_le, q_lt, q_eq, q_e0, q_e1, q_0e, q_1e, ps_n0, q_0le, q_le0, q_0lt, q_m1e, q_em1, h1, g1, g2, z1, z2, w1, c1, c2, if_true, Bool.false_eq_true, hn, hn2, ht, hF, am_wt, am_wf, Option.isSome_some, am_rf_s, am_rf_n, ps_lit, nI_add, nI_1, pk_mul, ps_cl, ps_neg, ps_c0, ps_c1, ps_n01, ps_n11, ps_10, ps_b01, ps_e0, pu_Ine, pu_Ieq, pu_ne, pu_eq, am_k_n, am_k_i, am_k_r, am_k_u, am_k_l, am_sz_0, am_sz_i, am_sz_r, am_sz_u, am_sz_l, Option.toList_some, Option.toList_none, List.cons_append, List.nil_append, true_and, and_true, or_false, false_or, or_self, or_true, true_or, not_false_eq_true, not_true_eq_false, Classical.not_not, ne_eq, ps_e1, ps_em, ps_z, Nat.not_le, false_implies, true_implies, forall_const, ps_01, ps_1n, ps_0n, ps_m10, ps_m1n, lg_cmp_gt, lg_cmp_ge, lg_cmp_le, lg_cmp_lt, lg_cmp_eq, pu_rne, pu_req, pu_uro, RFc_n, Nat.reduceAdd, Nat.reduceMul, Nat.reduceLT, Nat.reduceLeDiff, Nat.reduceEqDiff, Nat.reduceSub]
          exact ih
        · rw [if_neg (fun q => c2 (of_decide_eq_true q).2), Nat.add_zero] at e
          rw [e] at ih
          simp only [↓r239_5, ↓r239_6, ↓r239_9, ↓r239_12, ↓r239_13, ↓r239_14, ↓r239_15, ↓r239_18, ↓r239_19, ↓r239_19k, ↓r239_20, ↓r239_23, ↓r239_26, ↓r239_27, ↓r239_28, ↓r239_31, ↓r239_32, ↓r239_32k, ↓r239_33, ↓r239_36, ↓r239_37, ↓r239_40, ↓r239_41, ↓r239_44, ↓r239_45, ↓r239_46, ↓r239_47, ↓r239_50, ↓k_at (K := K) (N := N), ↓k_isTried (K := K) (N := N), ↓k_side (K := K) (N := N), ↓k_thing (K := K) (N := N), ↓k_isFound (K := K) (N := N), ↓m_factOf (K := K) (N := N), ↓m_isTried (K := K) (N := N), ↓m_took (K := K) (N := N), ↓m_waited (K := K) (N := N), ↓m_isLong (K := K) (N := N), ↓m_isShort (K := K) (N := N), ↓m_thingOf (K := K) (N := N), ↓m_isFound (K := K) (N := N), ↓m_many (K := K) (N := N), ↓c_within, ↓s_lies, hCK, b01, b11, q_le, q_lt, q_eq, q_e0, q_e1, q_0e, q_1e, ps_n0, q_0le, q_le0, q_0lt, q_m1e, q_em1, h1, g1, g2, z1, z2, w1, c1, c2, Int32.add_zero, if_true, Bool.false_eq_true, hn, hn2, ht, hF, am_wt, am_wf, Option.isSome_some, am_rf_s, am_rf_n, ps_lit, nI_add, nI_1, pk_mul, ps_cl, ps_neg, ps_c0, ps_c1, ps_n01, ps_n11, ps_10, ps_b01, ps_e0, pu_Ine, pu_Ieq, pu_ne, pu_eq, am_k_n, am_k_i, am_k_r, am_k_u, am_k_l, am_sz_0, am_sz_i, am_sz_r, am_sz_u, am_sz_l, Option.toList_some, Option.toList_none, List.cons_append, List.nil_append, true_and, and_true, or_false, false_or, or_self, or_true, true_or, not_false_eq_true, not_true_eq_false, Classical.not_not, ne_eq, ps_e1, ps_em, ps_z, Nat.not_le, false_implies, true_implies, forall_const, ps_01, ps_1n, ps_0n, ps_m10, ps_m1n, lg_cmp_gt, lg_cmp_ge, lg_cmp_le, lg_cmp_lt, lg_cmp_eq, pu_rne, pu_req, pu_uro, RFc_n, Nat.reduceAdd, Nat.reduceMul, Nat.reduceLT, Nat.reduceLeDiff, Nat.reduceEqDiff, Nat.reduceSub]
          exact ih
      · rw [if_neg (fun q => c1 (of_decide_eq_true q).1), Nat.add_zero] at e
        rw [e] at ih
        simp only [↓r239_5, ↓r239_6, ↓r239_9, ↓r239_12, ↓r239_13, ↓r239_14, ↓r239_15, ↓r239_18, ↓r239_19, ↓r239_19k, ↓r239_20, ↓r239_23, ↓r239_26, ↓r239_27, ↓r239_28, ↓r239_31, ↓r239_32, ↓r239_32k, ↓r239_33, ↓r239_36, ↓r239_37, ↓r239_40, ↓r239_41, ↓r239_44, ↓r239_45, ↓r239_46, ↓r239_47, ↓r239_50, ↓k_at (K := K) (N := N), ↓k_isTried (K := K) (N := N), ↓k_side (K := K) (N := N), ↓k_thing (K := K) (N := N), ↓k_isFound (K := K) (N := N), ↓m_factOf (K := K) (N := N), ↓m_isTried (K := K) (N := N), ↓m_took (K := K) (N := N), ↓m_waited (K := K) (N := N), ↓m_isLong (K := K) (N := N), ↓m_isShort (K := K) (N := N), ↓m_thingOf (K := K) (N := N), ↓m_isFound (K := K) (N := N), ↓m_many (K := K) (N := N), ↓c_within, ↓s_lies, hCK, b01, b11, q_le, q_lt, q_eq, q_e0, q_e1, q_0e, q_1e, ps_n0, q_0le, q_le0, q_0lt, q_m1e, q_em1, h1, g1, g2, z1, z2, c1, Int32.add_zero, if_false, Bool.false_eq_true, hn, hn2, ht, hF, am_wt, am_wf, Option.isSome_some, am_rf_s, am_rf_n, ps_lit, nI_add, nI_1, pk_mul, ps_cl, ps_neg, ps_c0, ps_c1, ps_n01, ps_n11, ps_10, ps_b01, ps_e0, pu_Ine, pu_Ieq, pu_ne, pu_eq, am_k_n, am_k_i, am_k_r, am_k_u, am_k_l, am_sz_0, am_sz_i, am_sz_r, am_sz_u, am_sz_l, Option.toList_some, Option.toList_none, List.cons_append, List.nil_append, true_and, and_true, or_false, false_or, or_self, or_true, true_or, not_false_eq_true, not_true_eq_false, Classical.not_not, ne_eq, ps_e1, ps_em, ps_z, Nat.not_le, false_implies, true_implies, forall_const, ps_01, ps_1n, ps_0n, ps_m10, ps_m1n, lg_cmp_gt, lg_cmp_ge, lg_cmp_le, lg_cmp_lt, lg_cmp_eq, pu_rne, pu_req, pu_uro, RFc_n, Nat.reduceAdd, Nat.reduceMul, Nat.reduceLT, Nat.reduceLeDiff, Nat.reduceEqDiff, Nat.reduceSub]
        exact ih
    · rw [r239_4]
      simp only [↓r239_5, ↓r239_6, ↓r239_9, ↓r239_53, ↓r239_54, h1, Int32.le_refl, Bool.false_eq_true, hn, hn2, ht, hF, am_wt, am_wf, Option.isSome_some, am_rf_s, am_rf_n, ps_lit, nI_add, nI_1, pk_mul, ps_cl, ps_neg, ps_c0, ps_c1, ps_n01, ps_n11, ps_10, ps_b01, ps_e0, pu_Ine, pu_Ieq, pu_ne, pu_eq, am_k_n, am_k_i, am_k_r, am_k_u, am_k_l, am_sz_0, am_sz_i, am_sz_r, am_sz_u, am_sz_l, Option.toList_some, Option.toList_none, List.cons_append, List.nil_append, true_and, and_true, or_false, false_or, or_self, or_true, true_or, not_false_eq_true, not_true_eq_false, Classical.not_not, ne_eq, ps_e1, ps_em, ps_z, Nat.not_le, false_implies, true_implies, forall_const, ps_01, ps_1n, ps_0n, ps_m10, ps_m1n, lg_cmp_gt, lg_cmp_ge, lg_cmp_le, lg_cmp_lt, lg_cmp_eq, pu_rne, pu_req, pu_uro, RFc_n, Nat.reduceAdd, Nat.reduceMul, Nat.reduceLT, Nat.reduceLeDiff, Nat.reduceEqDiff, Nat.reduceSub]
  rw [← hx]
  simp only [↓r239_0, ↓r239_1, ↓r239_2, ↓r239_3, Bool.false_eq_true, hn, hn2, ht, hF, am_wt, am_wf, Option.isSome_some, am_rf_s, am_rf_n, ps_lit, nI_add, nI_1, pk_mul, ps_cl, ps_neg, ps_c0, ps_c1, ps_n01, ps_n11, ps_10, ps_b01, ps_e0, pu_Ine, pu_Ieq, pu_ne, pu_eq, am_k_n, am_k_i, am_k_r, am_k_u, am_k_l, am_sz_0, am_sz_i, am_sz_r, am_sz_u, am_sz_l, Option.toList_some, Option.toList_none, List.cons_append, List.nil_append, true_and, and_true, or_false, false_or, or_self, or_true, true_or, not_false_eq_true, not_true_eq_false, Classical.not_not, ne_eq, ps_e1, ps_em, ps_z, Nat.not_le, false_implies, true_implies, forall_const, ps_01, ps_1n, ps_0n, ps_m10, ps_m1n, lg_cmp_gt, lg_cmp_ge, lg_cmp_le, lg_cmp_lt, lg_cmp_eq, pu_rne, pu_req, pu_uro, RFc_n, Nat.reduceAdd, Nat.reduceMul, Nat.reduceLT, Nat.reduceLeDiff, Nat.reduceEqDiff, Nat.reduceSub]
  exact Iff.rfl
theorem m_thereAt {l : List Nat} {tt : Nat} (hCK : CK n t F (I 1 4) (I 2) (I 3) (I 49) K N) (hG : GH (I 47 24) (I 59) l N) (htt : tt ≤ 200) : am_W X (d + 2) 240 0 [some (.ref 47), some (.int (nI tt)), none, none] [] (n, sl, t, I, J, F) Q ↔ Q (some (.int (nI (thc K l tt l.length)))) (n, sl, t, I, J, F) := by
  have hW : WS n t F := hCK.1
  obtain ⟨hn, hn2, ht, hF⟩ := id hW
  obtain ⟨h1, h2, h3⟩ := id hG
  have hx : am_W X (d + 2) 240 4 [some (.ref 47), some (.int (nI tt)), some (.int (nI (thc K l tt 0))), some (.int 0)] [] (n, sl, t, I, J, F) Q ↔ Q (some (.int (nI (thc K l tt l.length)))) (n, sl, t, I, J, F) := by
    refine lp0 (A := fun k => am_W X (d + 2) 240 4 [some (.ref 47), some (.int (nI tt)), some (.int (nI (thc K l tt k))), some (.int (nI k))] [] (n, sl, t, I, J, F) Q ↔ Q (some (.int (nI (thc K l tt l.length)))) (n, sl, t, I, J, F)) (N := l.length) ?_ ?_
    · intro k hk ih
      obtain ⟨g1, g2⟩ := h3 k hk
      obtain ⟨w1, w2⟩ := kid_w hCK g2
      have z1 : k < 2000000 ∧ l.length < 2000000 ∧ k < 120 ∧ tt < 2000000 ∧ wN K (l.getD k 0) < 2000000 := by omega
      have z2 : ¬ l.length ≤ k := by omega
      have e : thc K l tt (k + 1) = thc K l tt k + (if isTh K (l.getD k 0) tt = true then 1 else 0) := rfl
      unfold isTh at e
      rw [r240_4]
      by_cases c1 : fTr K (l.getD k 0) = true
      · by_cases c2 : tt ≤ wN K (l.getD k 0)
        · have c3 : ¬ wN K (l.getD k 0) < tt := by omega
          rw [if_pos (decide_eq_true ⟨c1, c2⟩)] at e
          rw [e] at ih
          simp only [↓r240_5, ↓r240_6, ↓r240_9, ↓r240_12, ↓r240_13, ↓r240_14, ↓r240_15, ↓r240_18, ↓r240_19, ↓r240_19k, ↓r240_20, ↓r240_23, ↓r240_26, ↓r240_27, ↓r240_28, ↓r240_31, ↓r240_32, ↓r240_32k, ↓r240_33, ↓r240_36, ↓r240_37, ↓r240_40, ↓r240_41, ↓r240_44, ↓r240_45, ↓r240_46, ↓r240_47, ↓r240_50, ↓k_at (K := K) (N := N), ↓k_isTried (K := K) (N := N), ↓k_side (K := K) (N := N), ↓k_thing (K := K) (N := N), ↓k_isFound (K := K) (N := N), ↓m_factOf (K := K) (N := N), ↓m_isTried (K := K) (N := N), ↓m_took (K := K) (N := N), ↓m_waited (K := K) (N := N), ↓m_isLong (K := K) (N := N), ↓m_isShort (K := K) (N := N), ↓m_thingOf (K := K) (N := N), ↓m_isFound (K := K) (N := N), ↓m_many (K := K) (N := N), ↓c_within, ↓s_lies, hCK, b01, b11, q_le, q_lt, q_eq, q_e0, q_e1, q_0e, q_1e, ps_n0, q_0le, q_le0, q_0lt, q_m1e, q_em1, h1, g1, g2, z1, z2, w1, c1, c3, if_true, Bool.false_eq_true, hn, hn2, ht, hF, am_wt, am_wf, Option.isSome_some, am_rf_s, am_rf_n, ps_lit, nI_add, nI_1, pk_mul, ps_cl, ps_neg, ps_c0, ps_c1, ps_n01, ps_n11, ps_10, ps_b01, ps_e0, pu_Ine, pu_Ieq, pu_ne, pu_eq, am_k_n, am_k_i, am_k_r, am_k_u, am_k_l, am_sz_0, am_sz_i, am_sz_r, am_sz_u, am_sz_l, Option.toList_some, Option.toList_none, List.cons_append, List.nil_append, true_and, and_true, or_false, false_or, or_self, or_true, true_or, not_false_eq_true, not_true_eq_false, Classical.not_not, ne_eq, ps_e1, ps_em, ps_z, Nat.not_le, false_implies, true_implies, forall_const, ps_01, ps_1n, ps_0n, ps_m10, ps_m1n, lg_cmp_gt, lg_cmp_ge, lg_cmp_le, lg_cmp_lt, lg_cmp_eq, pu_rne, pu_req, pu_uro, RFc_n, Nat.reduceAdd, Nat.reduceMul, Nat.reduceLT, Nat.reduceLeDiff, Nat.reduceEqDiff, Nat.reduceSub]
          exact ih
        · have c3 : wN K (l.getD k 0) < tt := by omega
          rw [if_neg (fun q => c2 (of_decide_eq_true q).2), Nat.add_zero] at e
          rw [e] at ih
          simp only [↓r240_5, ↓r240_6, ↓r240_9, ↓r240_12, ↓r240_13, ↓r240_14, ↓r240_15, ↓r240_18, ↓r240_19, ↓r240_19k, ↓r240_20, ↓r240_23, ↓r240_26, ↓r240_27, ↓r240_28, ↓r240_31, ↓r240_32, ↓r240_32k, ↓r240_33, ↓r240_36, ↓r240_37, ↓r240_40, ↓r240_41, ↓r240_44, ↓r240_45, ↓r240_46, ↓r240_47, ↓r240_50, ↓k_at (K := K) (N := N), ↓k_isTried (K := K) (N := N), ↓k_side (K := K) (N := N), ↓k_thing (K := K) (N := N), ↓k_isFound (K := K) (N := N), ↓m_factOf (K := K) (N := N), ↓m_isTried (K := K) (N := N), ↓m_took (K := K) (N := N), ↓m_waited (K := K) (N := N), ↓m_isLong (K := K) (N := N), ↓m_isShort (K := K) (N := N), ↓m_thingOf (K := K) (N := N), ↓m_isFound (K := K) (N := N), ↓m_many (K := K) (N := N), ↓c_within, ↓s_lies, hCK, b01, b11, q_le, q_lt, q_eq, q_e0, q_e1, q_0e, q_1e, ps_n0, q_0le, q_le0, q_0lt, q_m1e, q_em1, h1, g1, g2, z1, z2, w1, c1, c3, Int32.add_zero, if_true, Bool.false_eq_true, hn, hn2, ht, hF, am_wt, am_wf, Option.isSome_some, am_rf_s, am_rf_n, ps_lit, nI_add, nI_1, pk_mul, ps_cl, ps_neg, ps_c0, ps_c1, ps_n01, ps_n11, ps_10, ps_b01, ps_e0, pu_Ine, pu_Ieq, pu_ne, pu_eq, am_k_n, am_k_i, am_k_r, am_k_u, am_k_l, am_sz_0, am_sz_i, am_sz_r, am_sz_u, am_sz_l, Option.toList_some, Option.toList_none, List.cons_append, List.nil_append, true_and, and_true, or_false, false_or, or_self, or_true, true_or, not_false_eq_true, not_true_eq_false, Classical.not_not, ne_eq, ps_e1, ps_em, ps_z, Nat.not_le, false_implies, true_implies, forall_const, ps_01, ps_1n, ps_0n, ps_m10, ps_m1n, lg_cmp_gt, lg_cmp_ge, lg_cmp_le, lg_cmp_lt, lg_cmp_eq, pu_rne, pu_req, pu_uro, RFc_n, Nat.reduceAdd, Nat.reduceMul, Nat.reduceLT, Nat.reduceLeDiff, Nat.reduceEqDiff, Nat.reduceSub]
          exact ih
      · rw [if_neg (fun q => c1 (of_decide_eq_true q).1), Nat.add_zero] at e
        rw [e] at ih
        simp only [↓r240_5, ↓r240_6, ↓r240_9, ↓r240_12, ↓r240_13, ↓r240_14, ↓r240_15, ↓r240_18, ↓r240_19, ↓r240_19k, ↓r240_20, ↓r240_23, ↓r240_26, ↓r240_27, ↓r240_28, ↓r240_31, ↓r240_32, ↓r240_32k, ↓r240_33, ↓r240_36, ↓r240_37, ↓r240_40, ↓r240_41, ↓r240_44, ↓r240_45, ↓r240_46, ↓r240_47, ↓r240_50, ↓k_at (K := K) (N := N), ↓k_isTried (K := K) (N := N), ↓k_side (K := K) (N := N), ↓k_thing (K := K) (N := N), ↓k_isFound (K := K) (N := N), ↓m_factOf (K := K) (N := N), ↓m_isTried (K := K) (N := N), ↓m_took (K := K) (N := N), ↓m_waited (K := K) (N := N), ↓m_isLong (K := K) (N := N), ↓m_isShort (K := K) (N := N), ↓m_thingOf (K := K) (N := N), ↓m_isFound (K := K) (N := N), ↓m_many (K := K) (N := N), ↓c_within, ↓s_lies, hCK, b01, b11, q_le, q_lt, q_eq, q_e0, q_e1, q_0e, q_1e, ps_n0, q_0le, q_le0, q_0lt, q_m1e, q_em1, h1, g1, g2, z1, z2, c1, Int32.add_zero, if_false, Bool.false_eq_true, hn, hn2, ht, hF, am_wt, am_wf, Option.isSome_some, am_rf_s, am_rf_n, ps_lit, nI_add, nI_1, pk_mul, ps_cl, ps_neg, ps_c0, ps_c1, ps_n01, ps_n11, ps_10, ps_b01, ps_e0, pu_Ine, pu_Ieq, pu_ne, pu_eq, am_k_n, am_k_i, am_k_r, am_k_u, am_k_l, am_sz_0, am_sz_i, am_sz_r, am_sz_u, am_sz_l, Option.toList_some, Option.toList_none, List.cons_append, List.nil_append, true_and, and_true, or_false, false_or, or_self, or_true, true_or, not_false_eq_true, not_true_eq_false, Classical.not_not, ne_eq, ps_e1, ps_em, ps_z, Nat.not_le, false_implies, true_implies, forall_const, ps_01, ps_1n, ps_0n, ps_m10, ps_m1n, lg_cmp_gt, lg_cmp_ge, lg_cmp_le, lg_cmp_lt, lg_cmp_eq, pu_rne, pu_req, pu_uro, RFc_n, Nat.reduceAdd, Nat.reduceMul, Nat.reduceLT, Nat.reduceLeDiff, Nat.reduceEqDiff, Nat.reduceSub]
        exact ih
    · rw [r240_4]
      simp only [↓r240_5, ↓r240_6, ↓r240_9, ↓r240_53, ↓r240_54, h1, Int32.le_refl, Bool.false_eq_true, hn, hn2, ht, hF, am_wt, am_wf, Option.isSome_some, am_rf_s, am_rf_n, ps_lit, nI_add, nI_1, pk_mul, ps_cl, ps_neg, ps_c0, ps_c1, ps_n01, ps_n11, ps_10, ps_b01, ps_e0, pu_Ine, pu_Ieq, pu_ne, pu_eq, am_k_n, am_k_i, am_k_r, am_k_u, am_k_l, am_sz_0, am_sz_i, am_sz_r, am_sz_u, am_sz_l, Option.toList_some, Option.toList_none, List.cons_append, List.nil_append, true_and, and_true, or_false, false_or, or_self, or_true, true_or, not_false_eq_true, not_true_eq_false, Classical.not_not, ne_eq, ps_e1, ps_em, ps_z, Nat.not_le, false_implies, true_implies, forall_const, ps_01, ps_1n, ps_0n, ps_m10, ps_m1n, lg_cmp_gt, lg_cmp_ge, lg_cmp_le, lg_cmp_lt, lg_cmp_eq, pu_rne, pu_req, pu_uro, RFc_n, Nat.reduceAdd, Nat.reduceMul, Nat.reduceLT, Nat.reduceLeDiff, Nat.reduceEqDiff, Nat.reduceSub]
  rw [← hx]
  simp only [↓r240_0, ↓r240_1, ↓r240_2, ↓r240_3, Bool.false_eq_true, hn, hn2, ht, hF, am_wt, am_wf, Option.isSome_some, am_rf_s, am_rf_n, ps_lit, nI_add, nI_1, pk_mul, ps_cl, ps_neg, ps_c0, ps_c1, ps_n01, ps_n11, ps_10, ps_b01, ps_e0, pu_Ine, pu_Ieq, pu_ne, pu_eq, am_k_n, am_k_i, am_k_r, am_k_u, am_k_l, am_sz_0, am_sz_i, am_sz_r, am_sz_u, am_sz_l, Option.toList_some, Option.toList_none, List.cons_append, List.nil_append, true_and, and_true, or_false, false_or, or_self, or_true, true_or, not_false_eq_true, not_true_eq_false, Classical.not_not, ne_eq, ps_e1, ps_em, ps_z, Nat.not_le, false_implies, true_implies, forall_const, ps_01, ps_1n, ps_0n, ps_m10, ps_m1n, lg_cmp_gt, lg_cmp_ge, lg_cmp_le, lg_cmp_lt, lg_cmp_eq, pu_rne, pu_req, pu_uro, RFc_n, Nat.reduceAdd, Nat.reduceMul, Nat.reduceLT, Nat.reduceLeDiff, Nat.reduceEqDiff, Nat.reduceSub]
  exact Iff.rfl
/-! the class counts -/
def nsM (M a b : Nat) (I : Nat → Nat → Int32) (v w : Nat → Int32) : Nat → Nat → Int32 := am_ro (am_ro I a (rwN M (I a) v)) b (rwN M (I b) w)
theorem nsM_a {M a b e : Nat} {v w : Nat → Int32} (h : a ≠ b) (he : e < M) : nsM M a b I v w a e = v e := by
  unfold nsM
  rw [pu_rne h, pu_req, rwN_at he]
theorem nsM_b {M a b e : Nat} {v w : Nat → Int32} (he : e < M) : nsM M a b I v w b e = w e := by
  unfold nsM
  rw [pu_req, rwN_at he]
theorem nsM_n {M a b c : Nat} {v w : Nat → Int32} (h : c ≠ a) (h2 : c ≠ b) : nsM M a b I v w c = I c := by
  unfold nsM
  rw [pu_rne h2, pu_rne h]
theorem nsM_ua {M a b e : Nat} {v w : Nat → Int32} {x : Int32} (h : a ≠ b) (he : e < M) : am_uI (nsM M a b I v w) a e x = nsM M a b I (upd v e x) w := by
  funext c
  by_cases h1 : c = a
  · subst h1
    rw [pu_Ieq]
    unfold nsM
    rw [pu_rne h, pu_req, pu_rne h, pu_req, rwN_u he]
  · rw [pu_Ine h1]
    unfold nsM
    by_cases h2 : c = b
    · subst h2
      rw [pu_req, pu_req]
    · rw [pu_rne h2, pu_rne h1, pu_rne h2, pu_rne h1]
theorem nsM_ub {M a b e : Nat} {v w : Nat → Int32} {x : Int32} (he : e < M) : am_uI (nsM M a b I v w) b e x = nsM M a b I v (upd w e x) := by
  funext c
  by_cases h1 : c = b
  · subst h1
    rw [pu_Ieq]
    unfold nsM
    rw [pu_req, pu_req, rwN_u he]
  · rw [pu_Ine h1]
    unfold nsM
    rw [pu_rne h1, pu_rne h1]
def tkf (K : Nat → Int32) (l : List Nat) (k : Nat) : Nat → Int32 := fun t => nI (tkc K l t k)
def ctf (K : Nat → Int32) (l : List Nat) (k : Nat) : Nat → Int32 := fun t => nI (ctc K l t k)
theorem tkf_s {l : List Nat} {k : Nat} (h : K (15 * l.getD k 0 + 10) = 0) : tkf K l (k + 1) = upd (tkf K l k) (wN K (l.getD k 0)) (tkf K l k (wN K (l.getD k 0)) + 1) := by
  funext t
  unfold tkf upd
  have e : tkc K l t (k + 1) = tkc K l t k + (if isTk K (l.getD k 0) t = true then 1 else 0) := rfl
  unfold isTk at e
  by_cases q : t = wN K (l.getD k 0)
  · rw [if_pos (decide_eq_true ⟨h, q.symm⟩)] at e
    rw [if_pos q, e, ← q, nI_1]
  · rw [if_neg (fun z => q (of_decide_eq_true z).2.symm), Nat.add_zero] at e
    rw [if_neg q, e]
    rfl
theorem tkf_n {l : List Nat} {k : Nat} (h : ¬ K (15 * l.getD k 0 + 10) = 0) : tkf K l (k + 1) = tkf K l k := by
  funext t
  unfold tkf
  have e : tkc K l t (k + 1) = tkc K l t k + (if isTk K (l.getD k 0) t = true then 1 else 0) := rfl
  unfold isTk at e
  rw [if_neg (fun z => h (of_decide_eq_true z).1), Nat.add_zero] at e
  rw [e]
  rfl
theorem ctf_s {l : List Nat} {k : Nat} (h : K (15 * l.getD k 0 + 10) = 1) : ctf K l (k + 1) = upd (ctf K l k) (wN K (l.getD k 0)) (ctf K l k (wN K (l.getD k 0)) + 1) := by
  funext t
  unfold ctf upd
  have e : ctc K l t (k + 1) = ctc K l t k + (if isCt K (l.getD k 0) t = true then 1 else 0) := rfl
  unfold isCt at e
  by_cases q : t = wN K (l.getD k 0)
  · rw [if_pos (decide_eq_true ⟨h, q.symm⟩)] at e
    rw [if_pos q, e, ← q, nI_1]
  · rw [if_neg (fun z => q (of_decide_eq_true z).2.symm), Nat.add_zero] at e
    rw [if_neg q, e]
    rfl
theorem ctf_n {l : List Nat} {k : Nat} (h : ¬ K (15 * l.getD k 0 + 10) = 1) : ctf K l (k + 1) = ctf K l k := by
  funext t
  unfold ctf
  have e : ctc K l t (k + 1) = ctc K l t k + (if isCt K (l.getD k 0) t = true then 1 else 0) := rfl
  unfold isCt at e
  rw [if_neg (fun z => h (of_decide_eq_true z).1), Nat.add_zero] at e
  rw [e]
  rfl
theorem th_s {l : List Nat} {t' : Nat} (hCK : CK n t F (I 1 4) (I 2) (I 3) (I 49) K N) : ∀ j, (∀ k, k < j → l.getD k 0 < N) → thc K l t' j = thc K l (t' + 1) j + (tkc K l t' j + ctc K l t' j) := by
  intro j
  induction j with
  | zero => intro _; rfl
  | succ j ih =>
    intro h
    have ih := ih (fun k hk => h k (by omega))
    have hc := h j (by omega)
    obtain ⟨w, hw, e⟩ := kid_h hCK hc
    have h0 : (nI w = 0) = (w = 0) := q_e0 (by omega)
    have h1 : (nI w = 1) = (w = 1) := q_e1 (by omega)
    have h2 : fTr K (l.getD j 0) = true ↔ w < 2 := by
      unfold fTr
      rw [decide_eq_true_eq, e, nI_ltI (by omega) (by decide)]
    show thc K l t' j + _ = (thc K l (t' + 1) j + _) + ((tkc K l t' j + _) + (ctc K l t' j + _))
    unfold isTh isTk isCt
    simp only [decide_eq_true_eq, e, h0, h1, h2]
    rw [ih]
    by_cases a1 : w = 0
    · subst a1
      by_cases a2 : wN K (l.getD j 0) = t'
      · rw [if_pos ⟨by omega, by omega⟩, if_neg (fun q => by omega), if_pos ⟨rfl, a2⟩, if_neg (fun q => by omega)]; omega
      · by_cases a3 : t' ≤ wN K (l.getD j 0)
        · rw [if_pos ⟨by omega, by omega⟩, if_pos ⟨by omega, by omega⟩, if_neg (fun q => a2 q.2), if_neg (fun q => by omega)]; omega
        · rw [if_neg (fun q => by omega), if_neg (fun q => by omega), if_neg (fun q => a2 q.2), if_neg (fun q => by omega)]; omega
    · by_cases a4 : w = 1
      · subst a4
        by_cases a2 : wN K (l.getD j 0) = t'
        · rw [if_pos ⟨by omega, by omega⟩, if_neg (fun q => by omega), if_neg (fun q => by omega), if_pos ⟨rfl, a2⟩]; omega
        · by_cases a3 : t' ≤ wN K (l.getD j 0)
          · rw [if_pos ⟨by omega, by omega⟩, if_pos ⟨by omega, by omega⟩, if_neg (fun q => by omega), if_neg (fun q => a2 q.2)]; omega
          · rw [if_neg (fun q => by omega), if_neg (fun q => by omega), if_neg (fun q => by omega), if_neg (fun q => a2 q.2)]; omega
      · rw [if_neg (fun q => by omega), if_neg (fun q => by omega), if_neg (fun q => by omega), if_neg (fun q => by omega)]; omega
theorem th_201 {l : List Nat} (hCK : CK n t F (I 1 4) (I 2) (I 3) (I 49) K N) : ∀ j, (∀ k, k < j → l.getD k 0 < N) → thc K l 201 j = 0 := by
  intro j
  induction j with
  | zero => intro _; rfl
  | succ j ih =>
    intro h
    have ih := ih (fun k hk => h k (by omega))
    have hw := (kid_w hCK (h j (by omega))).2
    show thc K l 201 j + (if isTh K (l.getD j 0) 201 = true then 1 else 0) = 0
    rw [ih]
    unfold isTh
    rw [if_neg (fun q => by have := (of_decide_eq_true q).2; omega)]
/-- took, cut, still there -/
def cvI (I : Nat → Nat → Int32) (K : Nat → Int32) (l : List Nat) : Nat → Nat → Int32 := am_ro (nsM 201 25 26 I (tkf K l l.length) (ctf K l l.length)) 27 (fun k => if k < 201 then nI (thc K l k l.length) else I 27 k)
theorem c_ctake {l : List Nat} (hCK : CK n t F (I 1 4) (I 2) (I 3) (I 49) K N) (hG : GH (I 15 1) (I 16) l N) : am_W X (d + 2) 80 0 [some (.ref 24), some (.ref 1), some (.ref 15), none, none, none, none] [] (n, sl, t, I, J, F) Q ↔ Q none (n, sl, t, cvI I K l, J, F) := by
  have hW : WS n t F := hCK.1
  obtain ⟨hn, hn2, ht, hF⟩ := id hW
  obtain ⟨h1, h2, h3⟩ := id hG
  have hl2 : ∀ m, m ≤ 201 → ∀ l5 l6 : Option Value, am_W X (d + 2) 80 111 [some (.ref 24), some (.ref 1), some (.ref 15), some (.int (nI (thc K l m l.length))), some (.int (nI m - 1)), l5, l6] [] (n, sl, t, am_ro (nsM 201 25 26 I (tkf K l l.length) (ctf K l l.length)) 27 (fun k => if m ≤ k ∧ k < 201 then nI (thc K l k l.length) else I 27 k), J, F) Q ↔ Q none (n, sl, t, cvI I K l, J, F) := by
    intro m
    induction m with
    | zero =>
      intro _ l5 l6
      have e : nI 0 - 1 = -1 := by decide
      have e2 : (fun k => if 0 ≤ k ∧ k < 201 then nI (thc K l k l.length) else I 27 k) = fun k => if k < 201 then nI (thc K l k l.length) else I 27 k := by
        funext k
        by_cases h : k < 201
        · rw [if_pos ⟨by omega, h⟩, if_pos h]
        · rw [if_neg (fun q => h q.2), if_neg h]
      rw [e, e2, r80_111]
      simp only [↓r80_113, ↓r80_148, ps_m1n, Bool.false_eq_true, hn, hn2, ht, hF, am_wt, am_wf, Option.isSome_some, am_rf_s, am_rf_n, ps_lit, nI_add, nI_1, pk_mul, ps_cl, ps_neg, ps_c0, ps_c1, ps_n01, ps_n11, ps_10, ps_b01, ps_e0, pu_Ine, pu_Ieq, pu_ne, pu_eq, am_k_n, am_k_i, am_k_r, am_k_u, am_k_l, am_sz_0, am_sz_i, am_sz_r, am_sz_u, am_sz_l, Option.toList_some, Option.toList_none, List.cons_append, List.nil_append, true_and, and_true, or_false, false_or, or_self, or_true, true_or, not_false_eq_true, not_true_eq_false, Classical.not_not, ne_eq, ps_e1, ps_em, ps_z, Nat.not_le, false_implies, true_implies, forall_const, ps_01, ps_1n, ps_0n, ps_m10, ps_m1n, lg_cmp_gt, lg_cmp_ge, lg_cmp_le, lg_cmp_lt, lg_cmp_eq, pu_rne, pu_req, pu_uro, RFc_n, Nat.reduceAdd, Nat.reduceMul, Nat.reduceLT, Nat.reduceLeDiff, Nat.reduceEqDiff, Nat.reduceSub]
      exact Iff.rfl
    | succ m ih =>
      intro hm l5 l6
      have z1 : m < 2000000 ∧ m < 201 := by omega
      have e1 : tkf K l l.length m = nI (tkc K l m l.length) := rfl
      have e2 : ctf K l l.length m = nI (ctc K l m l.length) := rfl
      have e3 := th_s (t' := m) hCK l.length (fun k hk => (h3 k hk).2)
      have e4 : nI m + Int32.ofInt (-1) = nI m - 1 := by rw [Int32.sub_eq_add_neg]; rfl
      have e5 : upd (fun k => if m + 1 ≤ k ∧ k < 201 then nI (thc K l k l.length) else I 27 k) m (nI (thc K l m l.length)) = fun k => if m ≤ k ∧ k < 201 then nI (thc K l k l.length) else I 27 k := by
        funext k
        unfold upd
        by_cases h : k = m
        · rw [if_pos h, if_pos ⟨by omega, by omega⟩, h]
        · rw [if_neg h]
          show (if m + 1 ≤ k ∧ k < 201 then _ else _) = if m ≤ k ∧ k < 201 then _ else _
          by_cases h2 : m ≤ k ∧ k < 201
          · rw [if_pos h2, if_pos ⟨by omega, h2.2⟩]
          · rw [if_neg h2, if_neg (fun q => h2 ⟨by omega, q.2⟩)]
      have := ih (by omega) l5 l6
      rw [nI_pred, r80_111]
      rw [← e5, e3] at this
      simp only [↓r80_113, ↓r80_116, ↓r80_117, ↓r80_118, ↓r80_121, ↓r80_123, ↓r80_123k, ↓r80_124, ↓r80_125, ↓r80_128, ↓r80_130, ↓r80_130k, ↓r80_131, ↓r80_132, ↓r80_133, ↓r80_134, ↓r80_135, ↓r80_138, ↓r80_140, ↓r80_141, ↓r80_142, ↓r80_145, q_le, q_lt, q_eq, q_e0, q_e1, q_0e, q_1e, ps_n0, q_0le, q_le0, q_0lt, q_m1e, q_em1, z1, nsM_a, nsM_b, nsM_n, e1, e2, e4, am_k_i, Bool.false_eq_true, hn, hn2, ht, hF, am_wt, am_wf, Option.isSome_some, am_rf_s, am_rf_n, ps_lit, nI_add, nI_1, pk_mul, ps_cl, ps_neg, ps_c0, ps_c1, ps_n01, ps_n11, ps_10, ps_b01, ps_e0, pu_Ine, pu_Ieq, pu_ne, pu_eq, am_k_n, am_k_i, am_k_r, am_k_u, am_k_l, am_sz_0, am_sz_i, am_sz_r, am_sz_u, am_sz_l, Option.toList_some, Option.toList_none, List.cons_append, List.nil_append, true_and, and_true, or_false, false_or, or_self, or_true, true_or, not_false_eq_true, not_true_eq_false, Classical.not_not, ne_eq, ps_e1, ps_em, ps_z, Nat.not_le, false_implies, true_implies, forall_const, ps_01, ps_1n, ps_0n, ps_m10, ps_m1n, lg_cmp_gt, lg_cmp_ge, lg_cmp_le, lg_cmp_lt, lg_cmp_eq, pu_rne, pu_req, pu_uro, RFc_n, Nat.reduceAdd, Nat.reduceMul, Nat.reduceLT, Nat.reduceLeDiff, Nat.reduceEqDiff, Nat.reduceSub]
      exact this
  have hx : ∀ l4 l5 l6 : Option Value, am_W X (d + 2) 80 18 [some (.ref 24), some (.ref 1), some (.ref 15), some (.int 0), l4, l5, l6] [] (n, sl, t, nsM 201 25 26 I (tkf K l 0) (ctf K l 0), J, F) Q ↔ Q none (n, sl, t, cvI I K l, J, F) := by
    refine lp0 (A := fun k => ∀ l4 l5 l6 : Option Value, am_W X (d + 2) 80 18 [some (.ref 24), some (.ref 1), some (.ref 15), some (.int (nI k)), l4, l5, l6] [] (n, sl, t, nsM 201 25 26 I (tkf K l k) (ctf K l k), J, F) Q ↔ Q none (n, sl, t, cvI I K l, J, F)) (N := l.length) ?_ ?_
    · intro k hk ih l4 l5 l6
      obtain ⟨g1, g2⟩ := h3 k hk
      obtain ⟨w1, w2⟩ := kid_w hCK g2
      obtain ⟨hw, hw3, eh⟩ := kid_h hCK g2
      have hCK28 : ∀ v w, CK n t F (nsM 201 25 26 I v w 1 4) (nsM 201 25 26 I v w 2) (nsM 201 25 26 I v w 3) (nsM 201 25 26 I v w 49) K N := fun v w => hCK
      have z1 : k < 2000000 ∧ l.length < 2000000 ∧ k < 120 ∧ wN K (l.getD k 0) < 2000000 ∧ wN K (l.getD k 0) < 201 ∧ hw < 2000000 := by omega
      have z2 : ¬ l.length ≤ k ∧ ¬ 200 < wN K (l.getD k 0) := by omega
      have z3 : (0 ≤ nI (wN K (l.getD k 0)) ∧ nI (wN K (l.getD k 0)) ≤ nI 200) = True := ps_rngT w2 (by decide)
      have h0 : (nI hw = 0) = (hw = 0) := q_e0 (by omega)
      have h1' : (nI hw = 1) = (hw = 1) := q_e1 (by omega)
      have h2' : fTr K (l.getD k 0) = decide (hw < 2) := by
        unfold fTr
        rw [eh]
        have := nI_ltI (a := hw) (b := 2) (by omega) (by decide)
        simp only [this]
      rw [r80_18]
      by_cases c1 : hw = 0
      · have q1 : K (15 * l.getD k 0 + 10) = 0 := by rw [eh, c1]; rfl
        have q2 : ¬ K (15 * l.getD k 0 + 10) = 1 := by rw [q1]; decide
        have q3 : fTr K (l.getD k 0) = true := by rw [h2']; exact decide_eq_true (by omega)
        rw [tkf_s q1, ctf_n q2] at ih
        simp only [↓r80_19, ↓r80_19n, ↓r80_20, ↓r80_23, ↓r80_26, ↓r80_26n, ↓r80_27, ↓r80_30, ↓r80_31, ↓r80_31k, ↓r80_32, ↓r80_34, ↓r80_34n, ↓r80_35, ↓r80_37, ↓r80_39, ↓r80_42, ↓r80_44, ↓r80_44n, ↓r80_45, ↓r80_47, ↓r80_50, ↓r80_53, ↓r80_55, ↓r80_56, ↓r80_59, ↓r80_62, ↓r80_65, ↓r80_65n, ↓r80_66, ↓r80_68, ↓r80_70, ↓r80_73, ↓r80_76, ↓r80_77, ↓r80_80, ↓r80_83, ↓r80_84, ↓r80_87, ↓r80_87n, ↓r80_89, ↓r80_89n, ↓r80_91, ↓r80_93, ↓r80_94, ↓r80_94k, ↓r80_95, ↓r80_96, ↓r80_97, ↓r80_98, ↓r80_101, ↓k_at (K := K) (N := N), ↓k_isTried (K := K) (N := N), ↓k_side (K := K) (N := N), ↓k_thing (K := K) (N := N), ↓k_isFound (K := K) (N := N), ↓m_factOf (K := K) (N := N), ↓m_isTried (K := K) (N := N), ↓m_took (K := K) (N := N), ↓m_waited (K := K) (N := N), ↓m_isLong (K := K) (N := N), ↓m_isShort (K := K) (N := N), ↓m_thingOf (K := K) (N := N), ↓m_isFound (K := K) (N := N), ↓m_many (K := K) (N := N), ↓c_within, ↓s_lies, hCK, b01, b11, hCK28, q_le, q_lt, q_eq, q_e0, q_e1, q_0e, q_1e, ps_n0, q_0le, q_le0, q_0lt, q_m1e, q_em1, h1, g1, g2, z1, z2, z3, w1, q1, q3, nsM_a, nsM_b, nsM_n, nsM_ua, nsM_ub, if_true, Bool.false_eq_true, hn, hn2, ht, hF, am_wt, am_wf, Option.isSome_some, am_rf_s, am_rf_n, ps_lit, nI_add, nI_1, pk_mul, ps_cl, ps_neg, ps_c0, ps_c1, ps_n01, ps_n11, ps_10, ps_b01, ps_e0, pu_Ine, pu_Ieq, pu_ne, pu_eq, am_k_n, am_k_i, am_k_r, am_k_u, am_k_l, am_sz_0, am_sz_i, am_sz_r, am_sz_u, am_sz_l, Option.toList_some, Option.toList_none, List.cons_append, List.nil_append, true_and, and_true, or_false, false_or, or_self, or_true, true_or, not_false_eq_true, not_true_eq_false, Classical.not_not, ne_eq, ps_e1, ps_em, ps_z, Nat.not_le, false_implies, true_implies, forall_const, ps_01, ps_1n, ps_0n, ps_m10, ps_m1n, lg_cmp_gt, lg_cmp_ge, lg_cmp_le, lg_cmp_lt, lg_cmp_eq, pu_rne, pu_req, pu_uro, RFc_n, Nat.reduceAdd, Nat.reduceMul, Nat.reduceLT, Nat.reduceLeDiff, Nat.reduceEqDiff, Nat.reduceSub]
        exact ih _ _ _
      · by_cases c2 : hw = 1
        · have q2 : K (15 * l.getD k 0 + 10) = 1 := by rw [eh, c2]; rfl
          have q1 : ¬ K (15 * l.getD k 0 + 10) = 0 := by rw [q2]; decide
          have q3 : fTr K (l.getD k 0) = true := by rw [h2']; exact decide_eq_true (by omega)
          rw [tkf_n q1, ctf_s q2] at ih
          simp only [↓r80_19, ↓r80_19n, ↓r80_20, ↓r80_23, ↓r80_26, ↓r80_26n, ↓r80_27, ↓r80_30, ↓r80_31, ↓r80_31k, ↓r80_32, ↓r80_34, ↓r80_34n, ↓r80_35, ↓r80_37, ↓r80_39, ↓r80_42, ↓r80_44, ↓r80_44n, ↓r80_45, ↓r80_47, ↓r80_50, ↓r80_53, ↓r80_55, ↓r80_56, ↓r80_59, ↓r80_62, ↓r80_65, ↓r80_65n, ↓r80_66, ↓r80_68, ↓r80_70, ↓r80_73, ↓r80_76, ↓r80_77, ↓r80_80, ↓r80_83, ↓r80_84, ↓r80_87, ↓r80_87n, ↓r80_89, ↓r80_89n, ↓r80_91, ↓r80_93, ↓r80_94, ↓r80_94k, ↓r80_95, ↓r80_96, ↓r80_97, ↓r80_98, ↓r80_101, ↓k_at (K := K) (N := N), ↓k_isTried (K := K) (N := N), ↓k_side (K := K) (N := N), ↓k_thing (K := K) (N := N), ↓k_isFound (K := K) (N := N), ↓m_factOf (K := K) (N := N), ↓m_isTried (K := K) (N := N), ↓m_took (K := K) (N := N), ↓m_waited (K := K) (N := N), ↓m_isLong (K := K) (N := N), ↓m_isShort (K := K) (N := N), ↓m_thingOf (K := K) (N := N), ↓m_isFound (K := K) (N := N), ↓m_many (K := K) (N := N), ↓c_within, ↓s_lies, hCK, b01, b11, hCK28, q_le, q_lt, q_eq, q_e0, q_e1, q_0e, q_1e, ps_n0, q_0le, q_le0, q_0lt, q_m1e, q_em1, h1, g1, g2, z1, z2, z3, w1, q1, q3, nsM_a, nsM_b, nsM_n, nsM_ua, nsM_ub, if_true, Bool.false_eq_true, hn, hn2, ht, hF, am_wt, am_wf, Option.isSome_some, am_rf_s, am_rf_n, ps_lit, nI_add, nI_1, pk_mul, ps_cl, ps_neg, ps_c0, ps_c1, ps_n01, ps_n11, ps_10, ps_b01, ps_e0, pu_Ine, pu_Ieq, pu_ne, pu_eq, am_k_n, am_k_i, am_k_r, am_k_u, am_k_l, am_sz_0, am_sz_i, am_sz_r, am_sz_u, am_sz_l, Option.toList_some, Option.toList_none, List.cons_append, List.nil_append, true_and, and_true, or_false, false_or, or_self, or_true, true_or, not_false_eq_true, not_true_eq_false, Classical.not_not, ne_eq, ps_e1, ps_em, ps_z, Nat.not_le, false_implies, true_implies, forall_const, ps_01, ps_1n, ps_0n, ps_m10, ps_m1n, lg_cmp_gt, lg_cmp_ge, lg_cmp_le, lg_cmp_lt, lg_cmp_eq, pu_rne, pu_req, pu_uro, RFc_n, Nat.reduceAdd, Nat.reduceMul, Nat.reduceLT, Nat.reduceLeDiff, Nat.reduceEqDiff, Nat.reduceSub]
          exact ih _ _ _
        · have q1 : ¬ K (15 * l.getD k 0 + 10) = 0 := by rw [eh, h0]; exact c1
          have q2 : ¬ K (15 * l.getD k 0 + 10) = 1 := by rw [eh, h1']; exact c2
          have q3 : ¬ fTr K (l.getD k 0) = true := by rw [h2']; intro q; have := of_decide_eq_true q; omega
          rw [tkf_n q1, ctf_n q2] at ih
          simp only [↓r80_19, ↓r80_19n, ↓r80_20, ↓r80_23, ↓r80_26, ↓r80_26n, ↓r80_27, ↓r80_30, ↓r80_31, ↓r80_31k, ↓r80_32, ↓r80_34, ↓r80_34n, ↓r80_35, ↓r80_37, ↓r80_39, ↓r80_42, ↓r80_44, ↓r80_44n, ↓r80_45, ↓r80_47, ↓r80_50, ↓r80_98, ↓r80_101, ↓k_at (K := K) (N := N), ↓k_isTried (K := K) (N := N), ↓k_side (K := K) (N := N), ↓k_thing (K := K) (N := N), ↓k_isFound (K := K) (N := N), ↓m_factOf (K := K) (N := N), ↓m_isTried (K := K) (N := N), ↓m_took (K := K) (N := N), ↓m_waited (K := K) (N := N), ↓m_isLong (K := K) (N := N), ↓m_isShort (K := K) (N := N), ↓m_thingOf (K := K) (N := N), ↓m_isFound (K := K) (N := N), ↓m_many (K := K) (N := N), ↓c_within, ↓s_lies, hCK, b01, b11, hCK28, q_le, q_lt, q_eq, q_e0, q_e1, q_0e, q_1e, ps_n0, q_0le, q_le0, q_0lt, q_m1e, q_em1, h1, g1, g2, z1, z2, w1, q3, nsM_n, if_false, Bool.false_eq_true, hn, hn2, ht, hF, am_wt, am_wf, Option.isSome_some, am_rf_s, am_rf_n, ps_lit, nI_add, nI_1, pk_mul, ps_cl, ps_neg, ps_c0, ps_c1, ps_n01, ps_n11, ps_10, ps_b01, ps_e0, pu_Ine, pu_Ieq, pu_ne, pu_eq, am_k_n, am_k_i, am_k_r, am_k_u, am_k_l, am_sz_0, am_sz_i, am_sz_r, am_sz_u, am_sz_l, Option.toList_some, Option.toList_none, List.cons_append, List.nil_append, true_and, and_true, or_false, false_or, or_self, or_true, true_or, not_false_eq_true, not_true_eq_false, Classical.not_not, ne_eq, ps_e1, ps_em, ps_z, Nat.not_le, false_implies, true_implies, forall_const, ps_01, ps_1n, ps_0n, ps_m10, ps_m1n, lg_cmp_gt, lg_cmp_ge, lg_cmp_le, lg_cmp_lt, lg_cmp_eq, pu_rne, pu_req, pu_uro, RFc_n, Nat.reduceAdd, Nat.reduceMul, Nat.reduceLT, Nat.reduceLeDiff, Nat.reduceEqDiff, Nat.reduceSub]
          exact ih _ _ _
    · intro l4 l5 l6
      have e0 := th_201 hCK l.length (fun k hk => (h3 k hk).2)
      have e1 := hl2 201 (Nat.le_refl _) l5 l6
      have e2 : (fun k => if 201 ≤ k ∧ k < 201 then nI (thc K l k l.length) else I 27 k) = nsM 201 25 26 I (tkf K l l.length) (ctf K l l.length) 27 := by
        funext k
        rw [if_neg (fun q => by omega), nsM_n (by decide) (by decide)]
      have e3 : nI 201 - 1 = nI 200 := by decide
      rw [e0, e2, pu_roI, e3] at e1
      rw [← e1, r80_18]
      simp only [↓r80_19, ↓r80_19n, ↓r80_20, ↓r80_23, ↓r80_104, ↓r80_105, ↓r80_106, ↓r80_109, h1, nsM_n, Int32.le_refl, am_k_i, Bool.false_eq_true, hn, hn2, ht, hF, am_wt, am_wf, Option.isSome_some, am_rf_s, am_rf_n, ps_lit, nI_add, nI_1, pk_mul, ps_cl, ps_neg, ps_c0, ps_c1, ps_n01, ps_n11, ps_10, ps_b01, ps_e0, pu_Ine, pu_Ieq, pu_ne, pu_eq, am_k_n, am_k_i, am_k_r, am_k_u, am_k_l, am_sz_0, am_sz_i, am_sz_r, am_sz_u, am_sz_l, Option.toList_some, Option.toList_none, List.cons_append, List.nil_append, true_and, and_true, or_false, false_or, or_self, or_true, true_or, not_false_eq_true, not_true_eq_false, Classical.not_not, ne_eq, ps_e1, ps_em, ps_z, Nat.not_le, false_implies, true_implies, forall_const, ps_01, ps_1n, ps_0n, ps_m10, ps_m1n, lg_cmp_gt, lg_cmp_ge, lg_cmp_le, lg_cmp_lt, lg_cmp_eq, pu_rne, pu_req, pu_uro, RFc_n, Nat.reduceAdd, Nat.reduceMul, Nat.reduceLT, Nat.reduceLeDiff, Nat.reduceEqDiff, Nat.reduceSub]
      exact Iff.rfl
  have e4 := fun (I : Nat → Nat → Int32) Q => c_fill (X := X) (d := d + 1) (Q := Q) (sl := sl) (J := J) (F := F) (I := I) (a := 25) (len := 201) hn2 (hn _ (by decide)) (ht _ (by decide)) (by decide)
  have e5 := fun (I : Nat → Nat → Int32) Q => c_fill (X := X) (d := d + 1) (Q := Q) (sl := sl) (J := J) (F := F) (I := I) (a := 26) (len := 201) hn2 (hn _ (by decide)) (ht _ (by decide)) (by decide)
  rw [← hx none none none]
  simp only [↓r80_0, ↓r80_1, ↓r80_4, ↓r80_5, ↓r80_8, ↓r80_9, ↓r80_12, ↓r80_13, ↓r80_16, ↓r80_17, ↓e4, ↓e5, Bool.false_eq_true, hn, hn2, ht, hF, am_wt, am_wf, Option.isSome_some, am_rf_s, am_rf_n, ps_lit, nI_add, nI_1, pk_mul, ps_cl, ps_neg, ps_c0, ps_c1, ps_n01, ps_n11, ps_10, ps_b01, ps_e0, pu_Ine, pu_Ieq, pu_ne, pu_eq, am_k_n, am_k_i, am_k_r, am_k_u, am_k_l, am_sz_0, am_sz_i, am_sz_r, am_sz_u, am_sz_l, Option.toList_some, Option.toList_none, List.cons_append, List.nil_append, true_and, and_true, or_false, false_or, or_self, or_true, true_or, not_false_eq_true, not_true_eq_false, Classical.not_not, ne_eq, ps_e1, ps_em, ps_z, Nat.not_le, false_implies, true_implies, forall_const, ps_01, ps_1n, ps_0n, ps_m10, ps_m1n, lg_cmp_gt, lg_cmp_ge, lg_cmp_le, lg_cmp_lt, lg_cmp_eq, pu_rne, pu_req, pu_uro, RFc_n, Nat.reduceAdd, Nat.reduceMul, Nat.reduceLT, Nat.reduceLeDiff, Nat.reduceEqDiff, Nat.reduceSub]
  exact Iff.rfl
/-- the curve lies here -/
def CV (I : Nat → Nat → Int32) (tk ct th : Nat → Nat) : Prop := ∀ t, t < 201 → I 25 t = nI (tk t) ∧ I 26 t = nI (ct t) ∧ I 27 t = nI (th t)
theorem CV_c {l : List Nat} : CV (cvI I K l) (fun t => tkc K l t l.length) (fun t => ctc K l t l.length) (fun t => thc K l t l.length) := by
  intro t ht
  refine ⟨?_, ?_, ?_⟩
  · unfold cvI
    rw [pu_rne (by decide), nsM_a (by decide) ht]
    rfl
  · unfold cvI
    rw [pu_rne (by decide), nsM_b ht]
    rfl
  · unfold cvI
    rw [pu_req, if_pos ht]
theorem SC_cv {I0 : Nat → Nat → Int32} {l : List Nat} (h : SC I0 I) : SC I0 (cvI I K l) := SC_o (SC_o (SC_o h (fun _ => rfl)) (fun _ => rfl)) (fun _ => rfl)
theorem CV_x {tk ct th : Nat → Nat} {I' : Nat → Nat → Int32} (h : CV I tk ct th) (hx : RX I I') : CV I' tk ct th := by
  intro t ht
  rw [hx 25 (by decide) (by decide) (by decide), hx 26 (by decide) (by decide) (by decide), hx 27 (by decide) (by decide) (by decide)]
  exact h t ht
theorem sm_mono {f g : Nat → Nat} : ∀ j, (∀ i, i < j → f i ≤ g i) → sm f j ≤ sm g j := by
  intro j
  induction j with
  | zero => intro _; exact Nat.le_refl 0
  | succ j ih =>
    intro h
    have := ih (fun i hi => h i (by omega))
    have h2 := h j (by omega)
    rw [sm, sm]
    omega
theorem sm_lt {f g : Nat → Nat} {k : Nat} : ∀ j, (∀ i, i < j → f i ≤ g i) → k < j → f k < g k → sm f j < sm g j := by
  intro j
  induction j with
  | zero => intro _ h _; omega
  | succ j ih =>
    intro h hk hl
    have h2 := h j (by omega)
    rw [sm, sm]
    by_cases e : k = j
    · subst e
      have := sm_mono k (fun i hi => h i (by omega))
      omega
    · have := ih (fun i hi => h i (by omega)) (by omega) hl
      omega
theorem tr_0 {c : Nat} (h : K (15 * c + 10) = 0) : fTr K c = true := by
  unfold fTr
  rw [h]
  decide
theorem tr_1 {c : Nat} (h : K (15 * c + 10) = 1) : fTr K c = true := by
  unfold fTr
  rw [h]
  decide
theorem tk_th {l : List Nat} (t' : Nat) (j : Nat) : tkc K l t' j ≤ thc K l t' j := sm_mono j (fun i _ => by
  unfold isTk isTh
  by_cases h : K (15 * l.getD i 0 + 10) = 0 ∧ wN K (l.getD i 0) = t'
  · rw [if_pos (decide_eq_true h), if_pos (decide_eq_true ⟨tr_0 h.1, by omega⟩)]
    exact Nat.le_refl 1
  · rw [if_neg (fun q => h (of_decide_eq_true q))]
    exact Nat.zero_le _)
theorem th_le {l : List Nat} (hl : l.length ≤ 120) (t' : Nat) : thc K l t' l.length ≤ 120 := by
  have := sm_le (f := fun k => if isTh K (l.getD k 0) t' = true then 1 else 0) (b := 1) l.length (fun i _ => by split <;> omega)
  unfold thc
  omega
theorem ct_le {l : List Nat} (hl : l.length ≤ 120) (t' : Nat) : ctc K l t' l.length ≤ 120 := by
  have := sm_le (f := fun k => if isCt K (l.getD k 0) t' = true then 1 else 0) (b := 1) l.length (fun i _ => by split <;> omega)
  unfold ctc
  omega
theorem tk_lt {l : List Nat} {k t' : Nat} (hk : k < l.length) (hc : K (15 * l.getD k 0 + 10) = 1) (h : t' ≤ wN K (l.getD k 0)) : tkc K l t' l.length < thc K l t' l.length := by
  refine sm_lt (k := k) l.length (fun i _ => ?_) hk ?_
  · unfold isTk isTh
    by_cases h : K (15 * l.getD i 0 + 10) = 0 ∧ wN K (l.getD i 0) = t'
    · rw [if_pos (decide_eq_true h), if_pos (decide_eq_true ⟨tr_0 h.1, by omega⟩)]
      exact Nat.le_refl 1
    · rw [if_neg (fun q => h (of_decide_eq_true q))]
      exact Nat.zero_le _
  · unfold isTk isTh
    rw [if_neg (fun q => by have := (of_decide_eq_true q).1; rw [hc] at this; exact absurd this (by decide)), if_pos (decide_eq_true ⟨tr_1 hc, h⟩)]
    decide
end CU
