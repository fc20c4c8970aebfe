/-! TEXTS: the reference splits its tape into tokens: the loops -/
section MY
variable {X : am_X} {d : Nat} {Q : Option Value → am_H → Prop} {n sl : Nat} {t : Nat → Nat × Nat} {I : Nat → Nat → Int32} {J : Nat → Nat → Int64} {F : Nat → Nat → Option Nat} {h : am_H}
variable {u : Nat → Nat} {m : Nat}
def TKp (u : Nat → Nat) (m : Nat) (A B P : Nat → Int32) (k : Nat) : Prop := ∀ j, j < k → A j = nI (tkB u m j) ∧ B j = nI (tvB u m j) ∧ P j = nI (plB u m j)
theorem upd_2 {f : Nat → Int32} {k : Nat} {x y : Int32} : upd (upd f k x) k y = upd f k y := by
  funext i
  unfold upd
  by_cases h : i = k
  · simp [h]
  · simp [h]
theorem m_splits {N : Nat} (hW : WS n t F) (hT : TPR I u m) (hWO : WO (I 52)) (hN : N ≤ m) (hN1 : plB u m N = m) (hN2 : ∀ i, i < N → plB u m i < m) (hQ : ∀ A B P, TKp u m A B P (N + 1) → Q none (n, sl, t, tQ I N A B P, J, F)) : am_W X (d + 1) 197 0 [some (.ref 47), some (.int (nI m)), none, none, none, none] [] (n, sl, t, I, J, F) Q := by
  obtain ⟨hn, hn2, ht, hF⟩ := id hW
  have hm := hT.1
  have by_ : ∀ j, j < m → BYv (I 53 j) (u j) := fun j hj => ⟨(hT.2 j hj).1, (hT.2 j hj).2.2.1, (hT.2 j hj).2.2.2⟩
  have hpl := plB_le (u := u) (m := m)
  -- the end
  have fin : ∀ (A B P : Nat → Int32) (at' : Nat) (l3 l4 l5 : Option Value), TKp u m A B P N → am_W X (d + 1) 197 263 [some (.ref 47), some (.int (nI m)), some (.int (nI at')), l3, l4, l5] [] (n, sl, t, tQ I N A B P, J, F) Q := by
    intro A B P at' l3 l4 l5 hk
    have z : N < 2000000 ∧ N < 401 := by omega
    have k0 : kdB u m (plB u m N) = 0 := by rw [hN1]; exact kdB_0.2 (Nat.le_refl _)
    have := hQ (upd A N 0) (upd B N 0) (upd P N (nI m)) (fun j hj => by
      by_cases c : j = N
      · subst c
        rw [pu_eq, pu_eq, pu_eq]
        refine ⟨?_, ?_, by rw [hN1]⟩
        · unfold tkB
          rw [if_pos k0]
          rfl
        · unfold tvB vrB
          rw [if_neg (by omega)]
          rfl
      · rw [pu_ne c, pu_ne c, pu_ne c]
        exact hk j (by omega))
    simp only [↓r197_263, ↓r197_264, ↓r197_267, ↓r197_268, ↓r197_271, ↓r197_272, ↓r197_273, ↓r197_274, ↓r197_277, ↓r197_278, ↓r197_281, ↓r197_282, ↓r197_283, ↓r197_284, ↓r197_287, ↓r197_288, ↓r197_291, ↓r197_292, ↓r197_293, tQ_13, tQ_u55, tQ_u56, tQ_u57, q_le, q_lt, q_eq, q_e0, q_e1, q_0e, q_1e, ps_n0, q_0le, q_le0, q_0lt, q_m1e, q_em1, z, Bool.false_eq_true, hn, hn2, ht, hF, am_wt, am_wf, Option.isSome_some, am_rf_s, am_rf_n, ps_lit, nI_add, nI_1, pk_mul, ps_cl, ps_neg, ps_c0, ps_c1, ps_n01, ps_n11, ps_10, ps_b01, ps_e0, pu_Ine, pu_Ieq, pu_ne, pu_eq, am_k_n, am_k_i, am_k_r, am_k_u, am_k_l, am_sz_0, am_sz_i, am_sz_r, am_sz_u, am_sz_l, Option.toList_some, Option.toList_none, List.cons_append, List.nil_append, true_and, and_true, or_false, false_or, or_self, or_true, true_or, not_false_eq_true, not_true_eq_false, Classical.not_not, ne_eq, ps_e1, ps_em, ps_z, Nat.not_le, false_implies, true_implies, forall_const, ps_01, ps_1n, ps_0n, ps_m10, ps_m1n, lg_cmp_gt, lg_cmp_ge, lg_cmp_le, lg_cmp_lt, lg_cmp_eq, pu_rne, pu_req, pu_uro, RFc_n, Nat.reduceAdd, Nat.reduceMul, Nat.reduceLT, Nat.reduceLeDiff, Nat.reduceEqDiff, Nat.reduceSub]
    exact this
  have hl : ∀ w at' g k (A B P : Nat → Int32) (l3 l4 l5 : Option Value), m - at' ≤ w → at' ≤ m → m ≤ at' + g → skF u m g at' = plB u m k → k ≤ N → TKp u m A B P k → am_W X (d + 1) 197 7 [some (.ref 47), some (.int (nI m)), some (.int (nI at')), l3, l4, l5] [] (n, sl, t, tQ I k A B P, J, F) Q := by
    intro w
    induction w with
    | zero =>
      intro at' g k A B P l3 l4 l5 hw ha hg hs hk hK
      have ea : at' = m := by omega
      subst ea
      have e1 : skF u at' g at' = at' := by
        have := (skF_b (u := u) (m := at') g at').1
        have := (skF_b (u := u) (m := at') g at').2 (Nat.le_refl _)
        omega
      have ek : k = N := by
        by_cases c : k < N
        · have := hN2 k c
          omega
        · omega
      subst ek
      have z : at' < 2000000 := by omega
      have := fin A B P at' l3 l4 l5 hK
      rw [r197_7]
      simp only [↓r197_8, ↓r197_9, q_le, q_lt, q_eq, q_e0, q_e1, q_0e, q_1e, ps_n0, q_0le, q_le0, q_0lt, q_m1e, q_em1, z, Nat.le_refl, Int32.le_refl, Bool.false_eq_true, hn, hn2, ht, hF, am_wt, am_wf, Option.isSome_some, am_rf_s, am_rf_n, ps_lit, nI_add, nI_1, pk_mul, ps_cl, ps_neg, ps_c0, ps_c1, ps_n01, ps_n11, ps_10, ps_b01, ps_e0, pu_Ine, pu_Ieq, pu_ne, pu_eq, am_k_n, am_k_i, am_k_r, am_k_u, am_k_l, am_sz_0, am_sz_i, am_sz_r, am_sz_u, am_sz_l, Option.toList_some, Option.toList_none, List.cons_append, List.nil_append, true_and, and_true, or_false, false_or, or_self, or_true, true_or, not_false_eq_true, not_true_eq_false, Classical.not_not, ne_eq, ps_e1, ps_em, ps_z, Nat.not_le, false_implies, true_implies, forall_const, ps_01, ps_1n, ps_0n, ps_m10, ps_m1n, lg_cmp_gt, lg_cmp_ge, lg_cmp_le, lg_cmp_lt, lg_cmp_eq, pu_rne, pu_req, pu_uro, RFc_n, Nat.reduceAdd, Nat.reduceMul, Nat.reduceLT, Nat.reduceLeDiff, Nat.reduceEqDiff, Nat.reduceSub]
      exact this
    | succ w ih =>
      intro p g k A B P l3 l4 l5 hw ha hg hs hk hK
      by_cases ca : p = m
      · exact ih p g k A B P l3 l4 l5 (by omega) ha hg hs hk hK
      have hpm : p < m := by omega
      have z : p < 2000000 ∧ m < 2000000 ∧ ¬ m ≤ p ∧ p < 400 := by omega
      have et := TPR_e hT hpm (show 32 < 128 by decide)
      cases g with
      | zero => omega
      | succ g =>
      rw [skF] at hs
      rw [r197_7]
      by_cases c1 : p < m ∧ u p = 32
      · rw [if_pos c1] at hs
        have et2 : I 53 p = nI 32 := by rw [et]; exact c1.2
        have := ih (p + 1) g k A B P (some (.int (nI 32))) l4 l5 (by omega) (by omega) (by omega) hs hk hK
        simp only [↓r197_8, ↓r197_9, ↓r197_12, ↓r197_13, ↓r197_16, ↓r197_17, ↓r197_18, ↓r197_19, ↓r197_20, ↓r197_22, ↓r197_25, ↓r197_28, tQ_53, q_le, q_lt, q_eq, q_e0, q_e1, q_0e, q_1e, ps_n0, q_0le, q_le0, q_0lt, q_m1e, q_em1, z, et2, Bool.false_eq_true, hn, hn2, ht, hF, am_wt, am_wf, Option.isSome_some, am_rf_s, am_rf_n, ps_lit, nI_add, nI_1, pk_mul, ps_cl, ps_neg, ps_c0, ps_c1, ps_n01, ps_n11, ps_10, ps_b01, ps_e0, pu_Ine, pu_Ieq, pu_ne, pu_eq, am_k_n, am_k_i, am_k_r, am_k_u, am_k_l, am_sz_0, am_sz_i, am_sz_r, am_sz_u, am_sz_l, Option.toList_some, Option.toList_none, List.cons_append, List.nil_append, true_and, and_true, or_false, false_or, or_self, or_true, true_or, not_false_eq_true, not_true_eq_false, Classical.not_not, ne_eq, ps_e1, ps_em, ps_z, Nat.not_le, false_implies, true_implies, forall_const, ps_01, ps_1n, ps_0n, ps_m10, ps_m1n, lg_cmp_gt, lg_cmp_ge, lg_cmp_le, lg_cmp_lt, lg_cmp_eq, pu_rne, pu_req, pu_uro, RFc_n, Nat.reduceAdd, Nat.reduceMul, Nat.reduceLT, Nat.reduceLeDiff, Nat.reduceEqDiff, Nat.reduceSub]
        exact this
      · rw [if_neg c1] at hs
        have et2 : ¬ I 53 p = nI 32 := by rw [et]; exact fun h => c1 ⟨hpm, h⟩
        have hkN : k < N := by
          by_cases c : k = N
          · rw [c, hN1] at hs
            omega
          · omega
        have hx := by_ p hpm
        obtain ⟨ks1, ks2⟩ := kdB_s (u := u) hpm
        have hkd := kdB_le (u := u) (m := m) (j := p)
        have hkd0 : ¬ kdB u m p = 0 := fun h => by have := kdB_0.1 h; omega
        have hen := enB_b (u := u) (m := m) (p := p) ha
        have hen1 := hen.2.1 hpm
        have zk : k < 2000000 ∧ k < 401 := by omega
        have etk : tkB u m k = if kdB u m p = 1 then wcB (blB u p (enB u m p)) else if kdB u m p = 2 then 50 else 100 + u p := by
          unfold tkB
          rw [← hs, if_neg hkd0]
        -- the number
        have last : ∀ (A B P : Nat → Int32) (l5 : Option Value), TKp u m A B P (k + 1) → am_W X (d + 1) 197 247 [some (.ref 47), some (.int (nI m)), some (.int (nI p)), some (.int (I 53 p)), some (.int (nI (enB u m p))), l5] [] (n, sl, t, tQ I k A B P, J, F) Q := by
          intro A B P l5 hK'
          have := ih (enB u m p) 400 (k + 1) A B P (some (.int (I 53 p))) (some (.int (nI (enB u m p)))) l5 (by omega) hen.1 (by omega) (by rw [plB, hs]) (by omega) hK'
          simp only [↓r197_247, ↓r197_248, ↓r197_248r, ↓r197_249, ↓r197_252, ↓r197_253, ↓r197_254, ↓r197_257, ↓r197_259, ↓r197_260, tQ_13, tQ_u13, Bool.false_eq_true, hn, hn2, ht, hF, am_wt, am_wf, Option.isSome_some, am_rf_s, am_rf_n, ps_lit, nI_add, nI_1, pk_mul, ps_cl, ps_neg, ps_c0, ps_c1, ps_n01, ps_n11, ps_10, ps_b01, ps_e0, pu_Ine, pu_Ieq, pu_ne, pu_eq, am_k_n, am_k_i, am_k_r, am_k_u, am_k_l, am_sz_0, am_sz_i, am_sz_r, am_sz_u, am_sz_l, Option.toList_some, Option.toList_none, List.cons_append, List.nil_append, true_and, and_true, or_false, false_or, or_self, or_true, true_or, not_false_eq_true, not_true_eq_false, Classical.not_not, ne_eq, ps_e1, ps_em, ps_z, Nat.not_le, false_implies, true_implies, forall_const, ps_01, ps_1n, ps_0n, ps_m10, ps_m1n, lg_cmp_gt, lg_cmp_ge, lg_cmp_le, lg_cmp_lt, lg_cmp_eq, pu_rne, pu_req, pu_uro, RFc_n, Nat.reduceAdd, Nat.reduceMul, Nat.reduceLT, Nat.reduceLeDiff, Nat.reduceEqDiff, Nat.reduceSub]
          exact this
        have hv : kdB u m p = 2 → ∀ (A B P : Nat → Int32) g j v, v < 20000000 → j ≤ m → (∀ l5 : Option Value, am_W X (d + 1) 197 247 [some (.ref 47), some (.int (nI m)), some (.int (nI p)), some (.int (I 53 p)), some (.int (nI (rnF u m 2 g j))), l5] [] (n, sl, t, tQ I k A (upd B k (nI (vrF u m g j v))) P, J, F) Q) → am_W X (d + 1) 197 169 [some (.ref 47), some (.int (nI m)), some (.int (nI p)), some (.int (I 53 p)), some (.int (nI (rnF u m 2 g j))), some (.int (nI j))] [] (n, sl, t, tQ I k A (upd B k (nI v)) P, J, F) Q := by
          intro d2 A B P g
          induction g with
          | zero =>
            intro j v hv hj hR
            rw [rnF, vrF] at hR
            have zj : j < 2000000 := by omega
            have := hR (some (.int (nI j)))
            rw [rnF, r197_169]
            simp only [↓r197_171, ↓r197_173, q_le, q_lt, q_eq, q_e0, q_e1, q_0e, q_1e, ps_n0, q_0le, q_le0, q_0lt, q_m1e, q_em1, zj, Nat.le_refl, Int32.le_refl, Bool.false_eq_true, hn, hn2, ht, hF, am_wt, am_wf, Option.isSome_some, am_rf_s, am_rf_n, ps_lit, nI_add, nI_1, pk_mul, ps_cl, ps_neg, ps_c0, ps_c1, ps_n01, ps_n11, ps_10, ps_b01, ps_e0, pu_Ine, pu_Ieq, pu_ne, pu_eq, am_k_n, am_k_i, am_k_r, am_k_u, am_k_l, am_sz_0, am_sz_i, am_sz_r, am_sz_u, am_sz_l, Option.toList_some, Option.toList_none, List.cons_append, List.nil_append, true_and, and_true, or_false, false_or, or_self, or_true, true_or, not_false_eq_true, not_true_eq_false, Classical.not_not, ne_eq, ps_e1, ps_em, ps_z, Nat.not_le, false_implies, true_implies, forall_const, ps_01, ps_1n, ps_0n, ps_m10, ps_m1n, lg_cmp_gt, lg_cmp_ge, lg_cmp_le, lg_cmp_lt, lg_cmp_eq, pu_rne, pu_req, pu_uro, RFc_n, Nat.reduceAdd, Nat.reduceMul, Nat.reduceLT, Nat.reduceLeDiff, Nat.reduceEqDiff, Nat.reduceSub]
            exact this
          | succ g ih2 =>
            intro j v hv hj hR
            rw [rnF, vrF] at hR
            rw [rnF, r197_169]
            by_cases c2 : kdB u m j = 2
            · rw [if_pos c2] at hR ⊢
              rw [if_pos c2] at hR
              obtain ⟨j1, j2, j3⟩ := kdB_2 c2
              have hr := rnF_b (u := u) (m := m) (k := 2) (by decide) g (j + 1)
              have hr2 := hr.2 (by omega)
              have zj : j < 2000000 ∧ j < 400 ∧ rnF u m 2 g (j + 1) < 2000000 ∧ ¬ rnF u m 2 g (j + 1) ≤ j := by omega
              have ej : I 53 j = nI (u j) := (hT.2 j j1).2.2.1 (by omega)
              have y1 : (nI v ≤ nI 1000000) = (v ≤ 1000000) := propext (nI_leI (by omega) (by decide))
              by_cases c3 : 1000000 < v
              · rw [if_pos c3] at hR
                have c3' : ¬ v ≤ 1000000 := by omega
                have := ih2 (j + 1) v hv (by omega) hR
                simp only [↓r197_171, ↓r197_173, ↓r197_176, ↓r197_177, ↓r197_180, ↓r197_183, ↓r197_184, ↓r197_187, ↓r197_188, ↓r197_191, ↓r197_192, ↓r197_195, ↓r197_196, ↓r197_199, ↓r197_199k, ↓r197_200, ↓r197_202, ↓r197_205, ↓r197_206, ↓r197_209, ↓r197_210, ↓r197_213, ↓r197_213k, ↓r197_214, ↓r197_217, ↓r197_219, ↓r197_220, ↓r197_223, ↓r197_224, ↓r197_227, ↓r197_227k, ↓r197_228, ↓r197_229, ↓r197_230, ↓r197_233, ↓r197_235, ↓r197_236, ↓r197_237, ↓r197_239, ↓r197_240, ↓r197_241, ↓r197_244, ↓m_digit hx, tQ_13, tQ_56, tQ_53, tQ_u56, upd_2, pu_eq, y1, c3', q_le, q_lt, q_eq, q_e0, q_e1, q_0e, q_1e, ps_n0, q_0le, q_le0, q_0lt, q_m1e, q_em1, zj, zk, ks2, d2, if_true, Bool.false_eq_true, hn, hn2, ht, hF, am_wt, am_wf, Option.isSome_some, am_rf_s, am_rf_n, ps_lit, nI_add, nI_1, pk_mul, ps_cl, ps_neg, ps_c0, ps_c1, ps_n01, ps_n11, ps_10, ps_b01, ps_e0, pu_Ine, pu_Ieq, pu_ne, pu_eq, am_k_n, am_k_i, am_k_r, am_k_u, am_k_l, am_sz_0, am_sz_i, am_sz_r, am_sz_u, am_sz_l, Option.toList_some, Option.toList_none, List.cons_append, List.nil_append, true_and, and_true, or_false, false_or, or_self, or_true, true_or, not_false_eq_true, not_true_eq_false, Classical.not_not, ne_eq, ps_e1, ps_em, ps_z, Nat.not_le, false_implies, true_implies, forall_const, ps_01, ps_1n, ps_0n, ps_m10, ps_m1n, lg_cmp_gt, lg_cmp_ge, lg_cmp_le, lg_cmp_lt, lg_cmp_eq, pu_rne, pu_req, pu_uro, RFc_n, Nat.reduceAdd, Nat.reduceMul, Nat.reduceLT, Nat.reduceLeDiff, Nat.reduceEqDiff, Nat.reduceSub]
                exact this
              · rw [if_neg c3] at hR
                have c3' : v ≤ 1000000 := by omega
                have ev : nI (10 * v + u j) - nI 48 = nI (10 * v + u j - 48) := nI_sub (by omega)
                have := ih2 (j + 1) (10 * v + u j - 48) (by omega) (by omega) hR
                simp only [↓r197_171, ↓r197_173, ↓r197_176, ↓r197_177, ↓r197_180, ↓r197_183, ↓r197_184, ↓r197_187, ↓r197_188, ↓r197_191, ↓r197_192, ↓r197_195, ↓r197_196, ↓r197_199, ↓r197_199k, ↓r197_200, ↓r197_202, ↓r197_205, ↓r197_206, ↓r197_209, ↓r197_210, ↓r197_213, ↓r197_213k, ↓r197_214, ↓r197_217, ↓r197_219, ↓r197_220, ↓r197_223, ↓r197_224, ↓r197_227, ↓r197_227k, ↓r197_228, ↓r197_229, ↓r197_230, ↓r197_233, ↓r197_235, ↓r197_236, ↓r197_237, ↓r197_239, ↓r197_240, ↓r197_241, ↓r197_244, ↓m_digit hx, tQ_13, tQ_56, tQ_53, tQ_u56, upd_2, pu_eq, y1, c3', ej, ev, q_le, q_lt, q_eq, q_e0, q_e1, q_0e, q_1e, ps_n0, q_0le, q_le0, q_0lt, q_m1e, q_em1, zj, zk, ks2, d2, if_true, Bool.false_eq_true, hn, hn2, ht, hF, am_wt, am_wf, Option.isSome_some, am_rf_s, am_rf_n, ps_lit, nI_add, nI_1, pk_mul, ps_cl, ps_neg, ps_c0, ps_c1, ps_n01, ps_n11, ps_10, ps_b01, ps_e0, pu_Ine, pu_Ieq, pu_ne, pu_eq, am_k_n, am_k_i, am_k_r, am_k_u, am_k_l, am_sz_0, am_sz_i, am_sz_r, am_sz_u, am_sz_l, Option.toList_some, Option.toList_none, List.cons_append, List.nil_append, true_and, and_true, or_false, false_or, or_self, or_true, true_or, not_false_eq_true, not_true_eq_false, Classical.not_not, ne_eq, ps_e1, ps_em, ps_z, Nat.not_le, false_implies, true_implies, forall_const, ps_01, ps_1n, ps_0n, ps_m10, ps_m1n, lg_cmp_gt, lg_cmp_ge, lg_cmp_le, lg_cmp_lt, lg_cmp_eq, pu_rne, pu_req, pu_uro, RFc_n, Nat.reduceAdd, Nat.reduceMul, Nat.reduceLT, Nat.reduceLeDiff, Nat.reduceEqDiff, Nat.reduceSub]
                exact this
            · rw [if_neg c2] at hR ⊢
              rw [if_neg c2] at hR
              have zj : j < 2000000 := by omega
              have := hR (some (.int (nI j)))
              simp only [↓r197_171, ↓r197_173, q_le, q_lt, q_eq, q_e0, q_e1, q_0e, q_1e, ps_n0, q_0le, q_le0, q_0lt, q_m1e, q_em1, zj, Nat.le_refl, Int32.le_refl, Bool.false_eq_true, hn, hn2, ht, hF, am_wt, am_wf, Option.isSome_some, am_rf_s, am_rf_n, ps_lit, nI_add, nI_1, pk_mul, ps_cl, ps_neg, ps_c0, ps_c1, ps_n01, ps_n11, ps_10, ps_b01, ps_e0, pu_Ine, pu_Ieq, pu_ne, pu_eq, am_k_n, am_k_i, am_k_r, am_k_u, am_k_l, am_sz_0, am_sz_i, am_sz_r, am_sz_u, am_sz_l, Option.toList_some, Option.toList_none, List.cons_append, List.nil_append, true_and, and_true, or_false, false_or, or_self, or_true, true_or, not_false_eq_true, not_true_eq_false, Classical.not_not, ne_eq, ps_e1, ps_em, ps_z, Nat.not_le, false_implies, true_implies, forall_const, ps_01, ps_1n, ps_0n, ps_m10, ps_m1n, lg_cmp_gt, lg_cmp_ge, lg_cmp_le, lg_cmp_lt, lg_cmp_eq, pu_rne, pu_req, pu_uro, RFc_n, Nat.reduceAdd, Nat.reduceMul, Nat.reduceLT, Nat.reduceLeDiff, Nat.reduceEqDiff, Nat.reduceSub]
              exact this
        -- behind the run
        have store : am_W X (d + 1) 197 100 [some (.ref 47), some (.int (nI m)), some (.int (nI p)), some (.int (I 53 p)), some (.int (nI (enB u m p))), l5] [] (n, sl, t, tQ I k A B P, J, F) Q := by
          have hKn : ∀ (x y : Int32), x = nI (tkB u m k) → y = nI (tvB u m k) → TKp u m (upd A k x) (upd B k y) (upd P k (nI p)) (k + 1) := by
            intro x y hx hy j hj
            by_cases c : j = k
            · subst c
              rw [pu_eq, pu_eq, pu_eq]
              exact ⟨hx, hy, by rw [hs]⟩
            · rw [pu_ne c, pu_ne c, pu_ne c]
              exact hK j (by omega)
          have z2 : enB u m p < 2000000 ∧ ¬ enB u m p ≤ p := by omega
          by_cases d1 : kdB u m p = 1
          · rw [if_pos d1] at etk
            have := last _ _ _ (some (.int (nI p))) (hKn (nI (wcB (blB u p (enB u m p)))) 0 (by rw [etk]) (by unfold tvB vrB; rw [← hs, if_neg (by omega)]; rfl))
            have d2 : ¬ kdB u m p = 2 := by omega
            simp only [↓r197_100, ↓r197_101, ↓r197_104, ↓r197_105, ↓r197_108, ↓r197_109, ↓r197_110, ↓r197_111, ↓r197_114, ↓r197_115, ↓r197_118, ↓r197_119, ↓r197_120, ↓r197_121, ↓r197_124, ↓r197_125, ↓r197_128, ↓r197_129, ↓r197_132, ↓r197_135, ↓r197_136, ↓r197_137, ↓r197_139, ↓r197_142, ↓r197_145, ↓r197_146, ↓r197_149, ↓r197_152, ↓r197_154, ↓r197_157, ↓r197_159, ↓r197_160, ↓r197_163, ↓r197_164, ↓r197_165, ↓r197_166, ↓r197_167, ↓r197_169, ↓r197_171, ↓r197_173, ↓r197_176, ↓r197_177, ↓r197_180, ↓m_small hx, ↓m_digit hx, ↓m_wordOf hW (TPR_q hT) (show WO (tQ I k A (upd B k 0) (upd P k (nI p)) 52) from hWO) (show p ≤ enB u m p by omega) hen.1, tQ_13, tQ_53, tQ_u55, tQ_u56, tQ_u57, q_le, q_lt, q_eq, q_e0, q_e1, q_0e, q_1e, ps_n0, q_0le, q_le0, q_0lt, q_m1e, q_em1, z, z2, zk, ks1, ks2, d1, d2, if_true, if_false, Bool.false_eq_true, hn, hn2, ht, hF, am_wt, am_wf, Option.isSome_some, am_rf_s, am_rf_n, ps_lit, nI_add, nI_1, pk_mul, ps_cl, ps_neg, ps_c0, ps_c1, ps_n01, ps_n11, ps_10, ps_b01, ps_e0, pu_Ine, pu_Ieq, pu_ne, pu_eq, am_k_n, am_k_i, am_k_r, am_k_u, am_k_l, am_sz_0, am_sz_i, am_sz_r, am_sz_u, am_sz_l, Option.toList_some, Option.toList_none, List.cons_append, List.nil_append, true_and, and_true, or_false, false_or, or_self, or_true, true_or, not_false_eq_true, not_true_eq_false, Classical.not_not, ne_eq, ps_e1, ps_em, ps_z, Nat.not_le, false_implies, true_implies, forall_const, ps_01, ps_1n, ps_0n, ps_m10, ps_m1n, lg_cmp_gt, lg_cmp_ge, lg_cmp_le, lg_cmp_lt, lg_cmp_eq, pu_rne, pu_req, pu_uro, RFc_n, Nat.reduceAdd, Nat.reduceMul, Nat.reduceLT, Nat.reduceLeDiff, Nat.reduceEqDiff, Nat.reduceSub]
            exact this
          · by_cases d2 : kdB u m p = 2
            · rw [if_neg d1, if_pos d2] at etk
              have e1 : enB u m p = rnF u m 2 400 p := by unfold enB; rw [if_neg (by omega), if_neg (by omega), d2]
              have := hv d2 (upd A k (nI 50)) B (upd P k (nI p)) 400 p 0 (by decide) ha (fun l5 => by
                rw [← e1]
                exact last _ _ _ l5 (hKn (nI 50) _ (by rw [etk]) (by unfold tvB vrB; rw [← hs, if_pos d2])))
              rw [← e1] at this
              simp only [↓r197_100, ↓r197_101, ↓r197_104, ↓r197_105, ↓r197_108, ↓r197_109, ↓r197_110, ↓r197_111, ↓r197_114, ↓r197_115, ↓r197_118, ↓r197_119, ↓r197_120, ↓r197_121, ↓r197_124, ↓r197_125, ↓r197_128, ↓r197_129, ↓r197_132, ↓r197_135, ↓r197_136, ↓r197_137, ↓r197_139, ↓r197_142, ↓r197_145, ↓r197_146, ↓r197_149, ↓r197_152, ↓r197_154, ↓r197_157, ↓r197_159, ↓r197_160, ↓r197_163, ↓r197_164, ↓r197_165, ↓r197_166, ↓r197_167, ↓m_small hx, ↓m_digit hx, tQ_13, tQ_u55, tQ_u56, tQ_u57, q_le, q_lt, q_eq, q_e0, q_e1, q_0e, q_1e, ps_n0, q_0le, q_le0, q_0lt, q_m1e, q_em1, z, zk, ks1, ks2, d1, d2, if_true, if_false, Bool.false_eq_true, hn, hn2, ht, hF, am_wt, am_wf, Option.isSome_some, am_rf_s, am_rf_n, ps_lit, nI_add, nI_1, pk_mul, ps_cl, ps_neg, ps_c0, ps_c1, ps_n01, ps_n11, ps_10, ps_b01, ps_e0, pu_Ine, pu_Ieq, pu_ne, pu_eq, am_k_n, am_k_i, am_k_r, am_k_u, am_k_l, am_sz_0, am_sz_i, am_sz_r, am_sz_u, am_sz_l, Option.toList_some, Option.toList_none, List.cons_append, List.nil_append, true_and, and_true, or_false, false_or, or_self, or_true, true_or, not_false_eq_true, not_true_eq_false, Classical.not_not, ne_eq, ps_e1, ps_em, ps_z, Nat.not_le, false_implies, true_implies, forall_const, ps_01, ps_1n, ps_0n, ps_m10, ps_m1n, lg_cmp_gt, lg_cmp_ge, lg_cmp_le, lg_cmp_lt, lg_cmp_eq, pu_rne, pu_req, pu_uro, RFc_n, Nat.reduceAdd, Nat.reduceMul, Nat.reduceLT, Nat.reduceLeDiff, Nat.reduceEqDiff, Nat.reduceSub]
              exact this
            · rw [if_neg d1, if_neg d2] at etk
              have ex := (hT.2 p hpm).2.1
              have := last _ _ _ (some (.int (nI p))) (hKn (nI (100 + u p)) 0 (by rw [etk]) (by unfold tvB vrB; rw [← hs, if_neg (by omega)]; rfl))
              simp only [↓r197_100, ↓r197_101, ↓r197_104, ↓r197_105, ↓r197_108, ↓r197_109, ↓r197_110, ↓r197_111, ↓r197_114, ↓r197_115, ↓r197_118, ↓r197_119, ↓r197_120, ↓r197_121, ↓r197_124, ↓r197_125, ↓r197_128, ↓r197_129, ↓r197_132, ↓r197_135, ↓r197_136, ↓r197_137, ↓r197_139, ↓r197_142, ↓r197_145, ↓r197_146, ↓r197_149, ↓r197_152, ↓r197_154, ↓r197_157, ↓r197_159, ↓r197_160, ↓r197_163, ↓r197_164, ↓r197_165, ↓r197_166, ↓r197_167, ↓r197_169, ↓r197_171, ↓r197_173, ↓r197_176, ↓r197_177, ↓r197_180, ↓m_small hx, ↓m_digit hx, tQ_13, tQ_u55, tQ_u56, tQ_u57, q_le, q_lt, q_eq, q_e0, q_e1, q_0e, q_1e, ps_n0, q_0le, q_le0, q_0lt, q_m1e, q_em1, z, z2, zk, ks1, ks2, d1, d2, ex, if_false, Bool.false_eq_true, hn, hn2, ht, hF, am_wt, am_wf, Option.isSome_some, am_rf_s, am_rf_n, ps_lit, nI_add, nI_1, pk_mul, ps_cl, ps_neg, ps_c0, ps_c1, ps_n01, ps_n11, ps_10, ps_b01, ps_e0, pu_Ine, pu_Ieq, pu_ne, pu_eq, am_k_n, am_k_i, am_k_r, am_k_u, am_k_l, am_sz_0, am_sz_i, am_sz_r, am_sz_u, am_sz_l, Option.toList_some, Option.toList_none, List.cons_append, List.nil_append, true_and, and_true, or_false, false_or, or_self, or_true, true_or, not_false_eq_true, not_true_eq_false, Classical.not_not, ne_eq, ps_e1, ps_em, ps_z, Nat.not_le, false_implies, true_implies, forall_const, ps_01, ps_1n, ps_0n, ps_m10, ps_m1n, lg_cmp_gt, lg_cmp_ge, lg_cmp_le, lg_cmp_lt, lg_cmp_eq, pu_rne, pu_req, pu_uro, RFc_n, Nat.reduceAdd, Nat.reduceMul, Nat.reduceLT, Nat.reduceLeDiff, Nat.reduceEqDiff, Nat.reduceSub]
              exact this
        -- letters
        have lr1 : kdB u m p = 1 → ∀ g q, m ≤ q + g → q ≤ m → am_W X (d + 1) 197 68 [some (.ref 47), some (.int (nI m)), some (.int (nI p)), some (.int (I 53 p)), some (.int (nI (rnF u m 1 g q))), l5] [] (n, sl, t, tQ I k A B P, J, F) Q → am_W X (d + 1) 197 43 [some (.ref 47), some (.int (nI m)), some (.int (nI p)), some (.int (I 53 p)), some (.int (nI q)), l5] [] (n, sl, t, tQ I k A B P, J, F) Q := by
          intro d1 g
          induction g with
          | zero =>
            intro q hq hqm hR
            have zq : q < 2000000 ∧ m ≤ q := by omega
            rw [r197_43]
            simp only [↓r197_45, ↓r197_46, q_le, q_lt, q_eq, q_e0, q_e1, q_0e, q_1e, ps_n0, q_0le, q_le0, q_0lt, q_m1e, q_em1, z, zq, Bool.false_eq_true, hn, hn2, ht, hF, am_wt, am_wf, Option.isSome_some, am_rf_s, am_rf_n, ps_lit, nI_add, nI_1, pk_mul, ps_cl, ps_neg, ps_c0, ps_c1, ps_n01, ps_n11, ps_10, ps_b01, ps_e0, pu_Ine, pu_Ieq, pu_ne, pu_eq, am_k_n, am_k_i, am_k_r, am_k_u, am_k_l, am_sz_0, am_sz_i, am_sz_r, am_sz_u, am_sz_l, Option.toList_some, Option.toList_none, List.cons_append, List.nil_append, true_and, and_true, or_false, false_or, or_self, or_true, true_or, not_false_eq_true, not_true_eq_false, Classical.not_not, ne_eq, ps_e1, ps_em, ps_z, Nat.not_le, false_implies, true_implies, forall_const, ps_01, ps_1n, ps_0n, ps_m10, ps_m1n, lg_cmp_gt, lg_cmp_ge, lg_cmp_le, lg_cmp_lt, lg_cmp_eq, pu_rne, pu_req, pu_uro, RFc_n, Nat.reduceAdd, Nat.reduceMul, Nat.reduceLT, Nat.reduceLeDiff, Nat.reduceEqDiff, Nat.reduceSub]
            exact hR
          | succ g ih2 =>
            intro q hq hqm hR
            rw [rnF] at hR
            rw [r197_43]
            by_cases c2 : m ≤ q
            · have : ¬ kdB u m q = 1 := by have := (kdB_0 (u := u)).2 c2; omega
              rw [if_neg this] at hR
              have zq : q < 2000000 := by omega
              simp only [↓r197_45, ↓r197_46, q_le, q_lt, q_eq, q_e0, q_e1, q_0e, q_1e, ps_n0, q_0le, q_le0, q_0lt, q_m1e, q_em1, z, zq, c2, Bool.false_eq_true, hn, hn2, ht, hF, am_wt, am_wf, Option.isSome_some, am_rf_s, am_rf_n, ps_lit, nI_add, nI_1, pk_mul, ps_cl, ps_neg, ps_c0, ps_c1, ps_n01, ps_n11, ps_10, ps_b01, ps_e0, pu_Ine, pu_Ieq, pu_ne, pu_eq, am_k_n, am_k_i, am_k_r, am_k_u, am_k_l, am_sz_0, am_sz_i, am_sz_r, am_sz_u, am_sz_l, Option.toList_some, Option.toList_none, List.cons_append, List.nil_append, true_and, and_true, or_false, false_or, or_self, or_true, true_or, not_false_eq_true, not_true_eq_false, Classical.not_not, ne_eq, ps_e1, ps_em, ps_z, Nat.not_le, false_implies, true_implies, forall_const, ps_01, ps_1n, ps_0n, ps_m10, ps_m1n, lg_cmp_gt, lg_cmp_ge, lg_cmp_le, lg_cmp_lt, lg_cmp_eq, pu_rne, pu_req, pu_uro, RFc_n, Nat.reduceAdd, Nat.reduceMul, Nat.reduceLT, Nat.reduceLeDiff, Nat.reduceEqDiff, Nat.reduceSub]
              exact hR
            · have zq : q < 2000000 ∧ q < 400 := by omega
              obtain ⟨kq1, kq2⟩ := kdB_s (u := u) (show q < m by omega)
              by_cases c3 : kdB u m q = 1
              · rw [if_pos c3] at hR
                have := ih2 (q + 1) (by omega) (by omega) hR
                simp only [↓r197_45, ↓r197_46, ↓r197_49, ↓r197_50, ↓r197_53, ↓r197_55, ↓r197_56, ↓r197_59, ↓r197_62, ↓r197_65, ↓m_small (by_ q (show q < m by omega)), tQ_53, q_le, q_lt, q_eq, q_e0, q_e1, q_0e, q_1e, ps_n0, q_0le, q_le0, q_0lt, q_m1e, q_em1, z, zq, c2, kq1, c3, if_true, Bool.false_eq_true, hn, hn2, ht, hF, am_wt, am_wf, Option.isSome_some, am_rf_s, am_rf_n, ps_lit, nI_add, nI_1, pk_mul, ps_cl, ps_neg, ps_c0, ps_c1, ps_n01, ps_n11, ps_10, ps_b01, ps_e0, pu_Ine, pu_Ieq, pu_ne, pu_eq, am_k_n, am_k_i, am_k_r, am_k_u, am_k_l, am_sz_0, am_sz_i, am_sz_r, am_sz_u, am_sz_l, Option.toList_some, Option.toList_none, List.cons_append, List.nil_append, true_and, and_true, or_false, false_or, or_self, or_true, true_or, not_false_eq_true, not_true_eq_false, Classical.not_not, ne_eq, ps_e1, ps_em, ps_z, Nat.not_le, false_implies, true_implies, forall_const, ps_01, ps_1n, ps_0n, ps_m10, ps_m1n, lg_cmp_gt, lg_cmp_ge, lg_cmp_le, lg_cmp_lt, lg_cmp_eq, pu_rne, pu_req, pu_uro, RFc_n, Nat.reduceAdd, Nat.reduceMul, Nat.reduceLT, Nat.reduceLeDiff, Nat.reduceEqDiff, Nat.reduceSub]
                exact this
              · rw [if_neg c3] at hR
                simp only [↓r197_45, ↓r197_46, ↓r197_49, ↓r197_50, ↓r197_53, ↓r197_55, ↓r197_56, ↓r197_59, ↓r197_62, ↓r197_65, ↓m_small (by_ q (show q < m by omega)), tQ_53, q_le, q_lt, q_eq, q_e0, q_e1, q_0e, q_1e, ps_n0, q_0le, q_le0, q_0lt, q_m1e, q_em1, z, zq, c2, kq1, c3, if_false, Bool.false_eq_true, hn, hn2, ht, hF, am_wt, am_wf, Option.isSome_some, am_rf_s, am_rf_n, ps_lit, nI_add, nI_1, pk_mul, ps_cl, ps_neg, ps_c0, ps_c1, ps_n01, ps_n11, ps_10, ps_b01, ps_e0, pu_Ine, pu_Ieq, pu_ne, pu_eq, am_k_n, am_k_i, am_k_r, am_k_u, am_k_l, am_sz_0, am_sz_i, am_sz_r, am_sz_u, am_sz_l, Option.toList_some, Option.toList_none, List.cons_append, List.nil_append, true_and, and_true, or_false, false_or, or_self, or_true, true_or, not_false_eq_true, not_true_eq_false, Classical.not_not, ne_eq, ps_e1, ps_em, ps_z, Nat.not_le, false_implies, true_implies, forall_const, ps_01, ps_1n, ps_0n, ps_m10, ps_m1n, lg_cmp_gt, lg_cmp_ge, lg_cmp_le, lg_cmp_lt, lg_cmp_eq, pu_rne, pu_req, pu_uro, RFc_n, Nat.reduceAdd, Nat.reduceMul, Nat.reduceLT, Nat.reduceLeDiff, Nat.reduceEqDiff, Nat.reduceSub]
                exact hR
        -- digits
        have lr2 : kdB u m p = 2 → ∀ g q, m ≤ q + g → q ≤ m → am_W X (d + 1) 197 100 [some (.ref 47), some (.int (nI m)), some (.int (nI p)), some (.int (I 53 p)), some (.int (nI (rnF u m 2 g q))), l5] [] (n, sl, t, tQ I k A B P, J, F) Q → am_W X (d + 1) 197 75 [some (.ref 47), some (.int (nI m)), some (.int (nI p)), some (.int (I 53 p)), some (.int (nI q)), l5] [] (n, sl, t, tQ I k A B P, J, F) Q := by
          intro d1 g
          induction g with
          | zero =>
            intro q hq hqm hR
            have zq : q < 2000000 ∧ m ≤ q := by omega
            rw [r197_75]
            simp only [↓r197_77, ↓r197_78, q_le, q_lt, q_eq, q_e0, q_e1, q_0e, q_1e, ps_n0, q_0le, q_le0, q_0lt, q_m1e, q_em1, z, zq, Bool.false_eq_true, hn, hn2, ht, hF, am_wt, am_wf, Option.isSome_some, am_rf_s, am_rf_n, ps_lit, nI_add, nI_1, pk_mul, ps_cl, ps_neg, ps_c0, ps_c1, ps_n01, ps_n11, ps_10, ps_b01, ps_e0, pu_Ine, pu_Ieq, pu_ne, pu_eq, am_k_n, am_k_i, am_k_r, am_k_u, am_k_l, am_sz_0, am_sz_i, am_sz_r, am_sz_u, am_sz_l, Option.toList_some, Option.toList_none, List.cons_append, List.nil_append, true_and, and_true, or_false, false_or, or_self, or_true, true_or, not_false_eq_true, not_true_eq_false, Classical.not_not, ne_eq, ps_e1, ps_em, ps_z, Nat.not_le, false_implies, true_implies, forall_const, ps_01, ps_1n, ps_0n, ps_m10, ps_m1n, lg_cmp_gt, lg_cmp_ge, lg_cmp_le, lg_cmp_lt, lg_cmp_eq, pu_rne, pu_req, pu_uro, RFc_n, Nat.reduceAdd, Nat.reduceMul, Nat.reduceLT, Nat.reduceLeDiff, Nat.reduceEqDiff, Nat.reduceSub]
            exact hR
          | succ g ih2 =>
            intro q hq hqm hR
            rw [rnF] at hR
            rw [r197_75]
            by_cases c2 : m ≤ q
            · have : ¬ kdB u m q = 2 := by have := (kdB_0 (u := u)).2 c2; omega
              rw [if_neg this] at hR
              have zq : q < 2000000 := by omega
              simp only [↓r197_77, ↓r197_78, q_le, q_lt, q_eq, q_e0, q_e1, q_0e, q_1e, ps_n0, q_0le, q_le0, q_0lt, q_m1e, q_em1, z, zq, c2, Bool.false_eq_true, hn, hn2, ht, hF, am_wt, am_wf, Option.isSome_some, am_rf_s, am_rf_n, ps_lit, nI_add, nI_1, pk_mul, ps_cl, ps_neg, ps_c0, ps_c1, ps_n01, ps_n11, ps_10, ps_b01, ps_e0, pu_Ine, pu_Ieq, pu_ne, pu_eq, am_k_n, am_k_i, am_k_r, am_k_u, am_k_l, am_sz_0, am_sz_i, am_sz_r, am_sz_u, am_sz_l, Option.toList_some, Option.toList_none, List.cons_append, List.nil_append, true_and, and_true, or_false, false_or, or_self, or_true, true_or, not_false_eq_true, not_true_eq_false, Classical.not_not, ne_eq, ps_e1, ps_em, ps_z, Nat.not_le, false_implies, true_implies, forall_const, ps_01, ps_1n, ps_0n, ps_m10, ps_m1n, lg_cmp_gt, lg_cmp_ge, lg_cmp_le, lg_cmp_lt, lg_cmp_eq, pu_rne, pu_req, pu_uro, RFc_n, Nat.reduceAdd, Nat.reduceMul, Nat.reduceLT, Nat.reduceLeDiff, Nat.reduceEqDiff, Nat.reduceSub]
              exact hR
            · have zq : q < 2000000 ∧ q < 400 := by omega
              obtain ⟨kq1, kq2⟩ := kdB_s (u := u) (show q < m by omega)
              by_cases c3 : kdB u m q = 2
              · rw [if_pos c3] at hR
                have := ih2 (q + 1) (by omega) (by omega) hR
                simp only [↓r197_77, ↓r197_78, ↓r197_81, ↓r197_82, ↓r197_85, ↓r197_87, ↓r197_88, ↓r197_91, ↓r197_94, ↓r197_97, ↓m_digit (by_ q (show q < m by omega)), tQ_53, q_le, q_lt, q_eq, q_e0, q_e1, q_0e, q_1e, ps_n0, q_0le, q_le0, q_0lt, q_m1e, q_em1, z, zq, c2, kq2, c3, if_true, Bool.false_eq_true, hn, hn2, ht, hF, am_wt, am_wf, Option.isSome_some, am_rf_s, am_rf_n, ps_lit, nI_add, nI_1, pk_mul, ps_cl, ps_neg, ps_c0, ps_c1, ps_n01, ps_n11, ps_10, ps_b01, ps_e0, pu_Ine, pu_Ieq, pu_ne, pu_eq, am_k_n, am_k_i, am_k_r, am_k_u, am_k_l, am_sz_0, am_sz_i, am_sz_r, am_sz_u, am_sz_l, Option.toList_some, Option.toList_none, List.cons_append, List.nil_append, true_and, and_true, or_false, false_or, or_self, or_true, true_or, not_false_eq_true, not_true_eq_false, Classical.not_not, ne_eq, ps_e1, ps_em, ps_z, Nat.not_le, false_implies, true_implies, forall_const, ps_01, ps_1n, ps_0n, ps_m10, ps_m1n, lg_cmp_gt, lg_cmp_ge, lg_cmp_le, lg_cmp_lt, lg_cmp_eq, pu_rne, pu_req, pu_uro, RFc_n, Nat.reduceAdd, Nat.reduceMul, Nat.reduceLT, Nat.reduceLeDiff, Nat.reduceEqDiff, Nat.reduceSub]
                exact this
              · rw [if_neg c3] at hR
                simp only [↓r197_77, ↓r197_78, ↓r197_81, ↓r197_82, ↓r197_85, ↓r197_87, ↓r197_88, ↓r197_91, ↓r197_94, ↓r197_97, ↓m_digit (by_ q (show q < m by omega)), tQ_53, q_le, q_lt, q_eq, q_e0, q_e1, q_0e, q_1e, ps_n0, q_0le, q_le0, q_0lt, q_m1e, q_em1, z, zq, c2, kq2, c3, if_false, Bool.false_eq_true, hn, hn2, ht, hF, am_wt, am_wf, Option.isSome_some, am_rf_s, am_rf_n, ps_lit, nI_add, nI_1, pk_mul, ps_cl, ps_neg, ps_c0, ps_c1, ps_n01, ps_n11, ps_10, ps_b01, ps_e0, pu_Ine, pu_Ieq, pu_ne, pu_eq, am_k_n, am_k_i, am_k_r, am_k_u, am_k_l, am_sz_0, am_sz_i, am_sz_r, am_sz_u, am_sz_l, Option.toList_some, Option.toList_none, List.cons_append, List.nil_append, true_and, and_true, or_false, false_or, or_self, or_true, true_or, not_false_eq_true, not_true_eq_false, Classical.not_not, ne_eq, ps_e1, ps_em, ps_z, Nat.not_le, false_implies, true_implies, forall_const, ps_01, ps_1n, ps_0n, ps_m10, ps_m1n, lg_cmp_gt, lg_cmp_ge, lg_cmp_le, lg_cmp_lt, lg_cmp_eq, pu_rne, pu_req, pu_uro, RFc_n, Nat.reduceAdd, Nat.reduceMul, Nat.reduceLT, Nat.reduceLeDiff, Nat.reduceEqDiff, Nat.reduceSub]
                exact hR
        by_cases d1 : kdB u m p = 1
        · have e1 : enB u m p = rnF u m 1 399 (p + 1) := by unfold enB; rw [if_neg (by omega), if_neg (by omega), d1, rnF, if_pos d1]
          have d2 : ¬ kdB u m p = 2 := by omega
          have := lr1 d1 399 (p + 1) (by omega) (by omega) (by
            rw [← e1]
            simp only [↓r197_68, ↓r197_69, ↓r197_72, ↓m_digit hx, ks2, d2, if_false, Bool.false_eq_true, hn, hn2, ht, hF, am_wt, am_wf, Option.isSome_some, am_rf_s, am_rf_n, ps_lit, nI_add, nI_1, pk_mul, ps_cl, ps_neg, ps_c0, ps_c1, ps_n01, ps_n11, ps_10, ps_b01, ps_e0, pu_Ine, pu_Ieq, pu_ne, pu_eq, am_k_n, am_k_i, am_k_r, am_k_u, am_k_l, am_sz_0, am_sz_i, am_sz_r, am_sz_u, am_sz_l, Option.toList_some, Option.toList_none, List.cons_append, List.nil_append, true_and, and_true, or_false, false_or, or_self, or_true, true_or, not_false_eq_true, not_true_eq_false, Classical.not_not, ne_eq, ps_e1, ps_em, ps_z, Nat.not_le, false_implies, true_implies, forall_const, ps_01, ps_1n, ps_0n, ps_m10, ps_m1n, lg_cmp_gt, lg_cmp_ge, lg_cmp_le, lg_cmp_lt, lg_cmp_eq, pu_rne, pu_req, pu_uro, RFc_n, Nat.reduceAdd, Nat.reduceMul, Nat.reduceLT, Nat.reduceLeDiff, Nat.reduceEqDiff, Nat.reduceSub]
            exact store)
          simp only [↓r197_8, ↓r197_9, ↓r197_12, ↓r197_13, ↓r197_16, ↓r197_17, ↓r197_18, ↓r197_19, ↓r197_20, ↓r197_22, ↓r197_25, ↓r197_28, ↓r197_31, ↓r197_32, ↓r197_33, ↓r197_34, ↓r197_36, ↓r197_37, ↓r197_40, ↓m_small hx, tQ_53, q_le, q_lt, q_eq, q_e0, q_e1, q_0e, q_1e, ps_n0, q_0le, q_le0, q_0lt, q_m1e, q_em1, z, et2, ks1, d1, if_true, Bool.false_eq_true, hn, hn2, ht, hF, am_wt, am_wf, Option.isSome_some, am_rf_s, am_rf_n, ps_lit, nI_add, nI_1, pk_mul, ps_cl, ps_neg, ps_c0, ps_c1, ps_n01, ps_n11, ps_10, ps_b01, ps_e0, pu_Ine, pu_Ieq, pu_ne, pu_eq, am_k_n, am_k_i, am_k_r, am_k_u, am_k_l, am_sz_0, am_sz_i, am_sz_r, am_sz_u, am_sz_l, Option.toList_some, Option.toList_none, List.cons_append, List.nil_append, true_and, and_true, or_false, false_or, or_self, or_true, true_or, not_false_eq_true, not_true_eq_false, Classical.not_not, ne_eq, ps_e1, ps_em, ps_z, Nat.not_le, false_implies, true_implies, forall_const, ps_01, ps_1n, ps_0n, ps_m10, ps_m1n, lg_cmp_gt, lg_cmp_ge, lg_cmp_le, lg_cmp_lt, lg_cmp_eq, pu_rne, pu_req, pu_uro, RFc_n, Nat.reduceAdd, Nat.reduceMul, Nat.reduceLT, Nat.reduceLeDiff, Nat.reduceEqDiff, Nat.reduceSub]
          exact this
        · by_cases d2 : kdB u m p = 2
          · have e1 : enB u m p = rnF u m 2 399 (p + 1) := by unfold enB; rw [if_neg (by omega), if_neg (by omega), d2, rnF, if_pos d2]
            have := lr2 d2 399 (p + 1) (by omega) (by omega) (by
              rw [← e1]
              exact store)
            simp only [↓r197_8, ↓r197_9, ↓r197_12, ↓r197_13, ↓r197_16, ↓r197_17, ↓r197_18, ↓r197_19, ↓r197_20, ↓r197_22, ↓r197_25, ↓r197_28, ↓r197_31, ↓r197_32, ↓r197_33, ↓r197_34, ↓r197_36, ↓r197_37, ↓r197_40, ↓r197_68, ↓r197_69, ↓r197_72, ↓m_small hx, ↓m_digit hx, tQ_53, q_le, q_lt, q_eq, q_e0, q_e1, q_0e, q_1e, ps_n0, q_0le, q_le0, q_0lt, q_m1e, q_em1, z, et2, ks1, ks2, d1, d2, if_true, if_false, Bool.false_eq_true, hn, hn2, ht, hF, am_wt, am_wf, Option.isSome_some, am_rf_s, am_rf_n, ps_lit, nI_add, nI_1, pk_mul, ps_cl, ps_neg, ps_c0, ps_c1, ps_n01, ps_n11, ps_10, ps_b01, ps_e0, pu_Ine, pu_Ieq, pu_ne, pu_eq, am_k_n, am_k_i, am_k_r, am_k_u, am_k_l, am_sz_0, am_sz_i, am_sz_r, am_sz_u, am_sz_l, Option.toList_some, Option.toList_none, List.cons_append, List.nil_append, true_and, and_true, or_false, false_or, or_self, or_true, true_or, not_false_eq_true, not_true_eq_false, Classical.not_not, ne_eq, ps_e1, ps_em, ps_z, Nat.not_le, false_implies, true_implies, forall_const, ps_01, ps_1n, ps_0n, ps_m10, ps_m1n, lg_cmp_gt, lg_cmp_ge, lg_cmp_le, lg_cmp_lt, lg_cmp_eq, pu_rne, pu_req, pu_uro, RFc_n, Nat.reduceAdd, Nat.reduceMul, Nat.reduceLT, Nat.reduceLeDiff, Nat.reduceEqDiff, Nat.reduceSub]
            exact this
          · have e1 : enB u m p = p + 1 := by unfold enB; rw [if_neg (by omega), if_pos (by omega)]
            have := store
            rw [e1] at this
            simp only [↓r197_8, ↓r197_9, ↓r197_12, ↓r197_13, ↓r197_16, ↓r197_17, ↓r197_18, ↓r197_19, ↓r197_20, ↓r197_22, ↓r197_25, ↓r197_28, ↓r197_31, ↓r197_32, ↓r197_33, ↓r197_34, ↓r197_36, ↓r197_37, ↓r197_40, ↓r197_68, ↓r197_69, ↓r197_72, ↓m_small hx, ↓m_digit hx, tQ_53, q_le, q_lt, q_eq, q_e0, q_e1, q_0e, q_1e, ps_n0, q_0le, q_le0, q_0lt, q_m1e, q_em1, z, et2, ks1, ks2, d1, d2, if_false, Bool.false_eq_true, hn, hn2, ht, hF, am_wt, am_wf, Option.isSome_some, am_rf_s, am_rf_n, ps_lit, nI_add, nI_1, pk_mul, ps_cl, ps_neg, ps_c0, ps_c1, ps_n01, ps_n11, ps_10, ps_b01, ps_e0, pu_Ine, pu_Ieq, pu_ne, pu_eq, am_k_n, am_k_i, am_k_r, am_k_u, am_k_l, am_sz_0, am_sz_i, am_sz_r, am_sz_u, am_sz_l, Option.toList_some, Option.toList_none, List.cons_append, List.nil_append, true_and, and_true, or_false, false_or, or_self, or_true, true_or, not_false_eq_true, not_true_eq_false, Classical.not_not, ne_eq, ps_e1, ps_em, ps_z, Nat.not_le, false_implies, true_implies, forall_const, ps_01, ps_1n, ps_0n, ps_m10, ps_m1n, lg_cmp_gt, lg_cmp_ge, lg_cmp_le, lg_cmp_lt, lg_cmp_eq, pu_rne, pu_req, pu_uro, RFc_n, Nat.reduceAdd, Nat.reduceMul, Nat.reduceLT, Nat.reduceLeDiff, Nat.reduceEqDiff, Nat.reduceSub]
            exact this
  have := hl m 0 400 0 (I 55) (I 56) (I 57) none none none (by omega) (Nat.zero_le _) (by omega) rfl (Nat.zero_le _) (fun j hj => absurd hj (Nat.not_lt_zero _))
  simp only [↓r197_0, ↓r197_1, ↓r197_2, ↓r197_5, ↓r197_6, tQ_0, Bool.false_eq_true, hn, hn2, ht, hF, am_wt, am_wf, Option.isSome_some, am_rf_s, am_rf_n, ps_lit, nI_add, nI_1, pk_mul, ps_cl, ps_neg, ps_c0, ps_c1, ps_n01, ps_n11, ps_10, ps_b01, ps_e0, pu_Ine, pu_Ieq, pu_ne, pu_eq, am_k_n, am_k_i, am_k_r, am_k_u, am_k_l, am_sz_0, am_sz_i, am_sz_r, am_sz_u, am_sz_l, Option.toList_some, Option.toList_none, List.cons_append, List.nil_append, true_and, and_true, or_false, false_or, or_self, or_true, true_or, not_false_eq_true, not_true_eq_false, Classical.not_not, ne_eq, ps_e1, ps_em, ps_z, Nat.not_le, false_implies, true_implies, forall_const, ps_01, ps_1n, ps_0n, ps_m10, ps_m1n, lg_cmp_gt, lg_cmp_ge, lg_cmp_le, lg_cmp_lt, lg_cmp_eq, pu_rne, pu_req, pu_uro, RFc_n, Nat.reduceAdd, Nat.reduceMul, Nat.reduceLT, Nat.reduceLeDiff, Nat.reduceEqDiff, Nat.reduceSub]
  exact this
end MY
