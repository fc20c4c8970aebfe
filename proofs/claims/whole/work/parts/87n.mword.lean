/-! TEXTS: the reference finds a word -/
section MW
variable {X : am_X} {d : Nat} {Q : Option Value → am_H → Prop} {n sl : Nat} {t : Nat → Nat × Nat} {I : Nat → Nat → Int32} {J : Nat → Nat → Int64} {F : Nat → Nat → Option Nat} {h : am_H}
variable {u : Nat → Nat} {m : Nat}
/-- the reference's tape has the bytes u -/
def TPR (I : Nat → Nat → Int32) (u : Nat → Nat) (m : Nat) : Prop := m ≤ 400 ∧ ∀ j, j < m → u j < 256 ∧ I 53 j &&& nI 255 = nI (u j) ∧ (u j < 128 → I 53 j = nI (u j)) ∧ (128 ≤ u j → I 53 j < 0)
theorem TPR_e (h : TPR I u m) {j w : Nat} (hj : j < m) (hw : w < 128) : (I 53 j = nI w) = (u j = w) := by
  obtain ⟨h1, h2⟩ := h
  obtain ⟨a1, a2, a3, a4⟩ := h2 j hj
  apply propext
  by_cases c : u j < 128
  · rw [a3 c]
    exact ⟨fun e => by rw [q_eq (by omega) (by omega)] at e; exact e, fun e => by rw [e]⟩
  · have hn := a4 (by omega)
    refine ⟨fun e => ?_, fun e => by omega⟩
    rw [e] at hn
    have : ¬ nI w < 0 := by
      have : ∀ w, w < 128 → ¬ nI w < 0 := by decide
      exact this w hw
    exact absurd hn this
def psW : Nat → Nat
  | 0 => 0
  | c + 1 => psW c + (wdsL.getD c []).length + 1
theorem psW_f : ∀ c, c < 19 → (1 ≤ (wdsL.getD c []).length ∧ (wdsL.getD c []).length ≤ 7) ∧ psW c + (wdsL.getD c []).length + 1 ≤ 103 ∧ wordsL.getD (psW c + (wdsL.getD c []).length) 0 = nI 32 ∧ ∀ j, j < 7 → j < (wdsL.getD c []).length → wordsL.getD (psW c + j) 0 = nI ((wdsL.getD c []).getD j 0) ∧ (wdsL.getD c []).getD j 0 < 128 ∧ (wdsL.getD c []).getD j 0 ≠ 32 := by
  decide
/-- the words from the c-th on -/
def wfF (l : List Nat) : Nat → Nat → Nat
  | 0, _ => 0
  | g + 1, c => if l = wdsL.getD c [] then c + 1 else wfF l g (c + 1)
theorem wfF_e {l : List Nat} : ∀ g c, c + g = 19 → (∀ k, k < c → l ≠ wdsL.getD k []) → wfF l g c = wcB l := by
  intro g
  induction g with
  | zero =>
    intro c hc hn
    rw [wfF]
    have h1 := wcB_le (l := l)
    by_cases e : wcB l = 0
    · exact e.symm
    · have h2 := (wcB_i (l := l) (c := wcB l - 1) (by omega)).1 (by omega)
      exact absurd h2 (hn _ (by omega))
  | succ g ih =>
    intro c hc hn
    rw [wfF]
    by_cases e : l = wdsL.getD c []
    · rw [if_pos e]
      exact ((wcB_i (l := l) (c := c) (by omega)).2 e).symm
    · rw [if_neg e]
      refine ih (c + 1) (by omega) (fun k hk => ?_)
      by_cases c2 : k < c
      · exact hn k c2
      · have : k = c := by omega
        rw [this]
        exact e
theorem m_wordOf {p e : Nat} (hW : WS n t F) (hT : TPR I u m) (hWO : WO (I 52)) (hp : p ≤ e) (he : e ≤ m) : am_W X d 200 0 [some (.ref 47), some (.int (nI p)), some (.int (nI e)), none, none, none, none, none] [] (n, sl, t, I, J, F) Q ↔ Q (some (.int (nI (wcB (blB u p e))))) (n, sl, t, I, J, F) := by
  obtain ⟨hn, hn2, ht, hF⟩ := id hW
  have hm := hT.1
  have es : nI e - nI p = nI (e - p) := nI_sub hp
  -- how long the word is
  have lL : ∀ (R : Prop) c, c < 19 → ∀ (l6 l7 : Option Value) g j, j + g = (wdsL.getD c []).length → (am_W X d 200 39 [some (.ref 47), some (.int (nI p)), some (.int (nI e)), some (.int (nI (c + 1))), some (.int (nI (psW c))), some (.int (nI (wdsL.getD c []).length)), l6, l7] [] (n, sl, t, I, J, F) Q ↔ R) → (am_W X d 200 18 [some (.ref 47), some (.int (nI p)), some (.int (nI e)), some (.int (nI (c + 1))), some (.int (nI (psW c))), some (.int (nI j)), l6, l7] [] (n, sl, t, I, J, F) Q ↔ R) := by
    intro R c hc l6 l7 g
    obtain ⟨⟨f0, f1⟩, f2, f3, f4⟩ := psW_f c hc
    induction g with
    | zero =>
      intro j hj hR
      have ej : j = (wdsL.getD c []).length := by omega
      subst ej
      have z : psW c + (wdsL.getD c []).length < 2000000 ∧ psW c + (wdsL.getD c []).length < 103 := by omega
      have ew := hWO _ z.2
      rw [f3] at ew
      rw [r200_18]
      simp only [↓r200_19, ↓r200_22, ↓r200_24, ↓r200_26, ↓r200_27, ↓r200_28, ↓r200_30, nI_add, q_le, q_lt, q_eq, q_e0, q_e1, q_0e, q_1e, ps_n0, q_0le, q_le0, q_0lt, q_m1e, q_em1, z, ew, Bool.false_eq_true, hn, hn2, ht, hF, am_wt, am_wf, Option.isSome_some, am_rf_s, am_rf_n, ps_lit, nI_add, nI_1, pk_mul, ps_cl, ps_neg, ps_c0, ps_c1, ps_n01, ps_n11, ps_10, ps_b01, ps_e0, pu_Ine, pu_Ieq, pu_ne, pu_eq, am_k_n, am_k_i, am_k_r, am_k_u, am_k_l, am_sz_0, am_sz_i, am_sz_r, am_sz_u, am_sz_l, Option.toList_some, Option.toList_none, List.cons_append, List.nil_append, true_and, and_true, or_false, false_or, or_self, or_true, true_or, not_false_eq_true, not_true_eq_false, Classical.not_not, ne_eq, ps_e1, ps_em, ps_z, Nat.not_le, false_implies, true_implies, forall_const, ps_01, ps_1n, ps_0n, ps_m10, ps_m1n, lg_cmp_gt, lg_cmp_ge, lg_cmp_le, lg_cmp_lt, lg_cmp_eq, pu_rne, pu_req, pu_uro, RFc_n, Nat.reduceAdd, Nat.reduceMul, Nat.reduceLT, Nat.reduceLeDiff, Nat.reduceEqDiff, Nat.reduceSub]
      exact hR
    | succ g ih =>
      intro j hj hR
      obtain ⟨k1, k2, k3⟩ := f4 j (by omega) (by omega)
      have z : psW c + j < 2000000 ∧ psW c + j < 103 ∧ (wdsL.getD c []).getD j 0 < 2000000 := by omega
      have ew := hWO _ z.2.1
      rw [k1] at ew
      rw [r200_18]
      simp only [↓r200_19, ↓r200_22, ↓r200_24, ↓r200_26, ↓r200_27, ↓r200_28, ↓r200_30, ↓r200_33, ↓r200_36, nI_add, q_le, q_lt, q_eq, q_e0, q_e1, q_0e, q_1e, ps_n0, q_0le, q_le0, q_0lt, q_m1e, q_em1, z, ew, k3, Bool.false_eq_true, hn, hn2, ht, hF, am_wt, am_wf, Option.isSome_some, am_rf_s, am_rf_n, ps_lit, nI_add, nI_1, pk_mul, ps_cl, ps_neg, ps_c0, ps_c1, ps_n01, ps_n11, ps_10, ps_b01, ps_e0, pu_Ine, pu_Ieq, pu_ne, pu_eq, am_k_n, am_k_i, am_k_r, am_k_u, am_k_l, am_sz_0, am_sz_i, am_sz_r, am_sz_u, am_sz_l, Option.toList_some, Option.toList_none, List.cons_append, List.nil_append, true_and, and_true, or_false, false_or, or_self, or_true, true_or, not_false_eq_true, not_true_eq_false, Classical.not_not, ne_eq, ps_e1, ps_em, ps_z, Nat.not_le, false_implies, true_implies, forall_const, ps_01, ps_1n, ps_0n, ps_m10, ps_m1n, lg_cmp_gt, lg_cmp_ge, lg_cmp_le, lg_cmp_lt, lg_cmp_eq, pu_rne, pu_req, pu_uro, RFc_n, Nat.reduceAdd, Nat.reduceMul, Nat.reduceLT, Nat.reduceLeDiff, Nat.reduceEqDiff, Nat.reduceSub]
      exact ih (j + 1) (by omega) hR
  -- letter by letter
  have lC : ∀ (R : Prop) c, c < 19 → e - p = (wdsL.getD c []).length → ∀ g j, j + g = (wdsL.getD c []).length → (∀ l7 : Option Value, (am_W X d 200 104 [some (.ref 47), some (.int (nI p)), some (.int (nI e)), some (.int (nI (c + 1))), some (.int (nI (psW c))), some (.int (nI (wdsL.getD c []).length)), some (.int (if mtF u (wdsL.getD c []) p g j = true then 1 else 0)), l7] [] (n, sl, t, I, J, F) Q ↔ R)) → (am_W X d 200 57 [some (.ref 47), some (.int (nI p)), some (.int (nI e)), some (.int (nI (c + 1))), some (.int (nI (psW c))), some (.int (nI (wdsL.getD c []).length)), some (.int 1), some (.int (nI j))] [] (n, sl, t, I, J, F) Q ↔ R) := by
    intro R c hc hep g
    obtain ⟨⟨f0, f1⟩, f2, f3, f4⟩ := psW_f c hc
    induction g with
    | zero =>
      intro j hj hR
      have z : j < 2000000 ∧ (wdsL.getD c []).length < 2000000 ∧ (wdsL.getD c []).length ≤ j := by omega
      have := hR (some (.int (nI j)))
      rw [mtF, if_pos rfl] at this
      rw [r200_57]
      simp only [↓r200_59, ↓r200_61, q_le, q_lt, q_eq, q_e0, q_e1, q_0e, q_1e, ps_n0, q_0le, q_le0, q_0lt, q_m1e, q_em1, z, Bool.false_eq_true, hn, hn2, ht, hF, am_wt, am_wf, Option.isSome_some, am_rf_s, am_rf_n, ps_lit, nI_add, nI_1, pk_mul, ps_cl, ps_neg, ps_c0, ps_c1, ps_n01, ps_n11, ps_10, ps_b01, ps_e0, pu_Ine, pu_Ieq, pu_ne, pu_eq, am_k_n, am_k_i, am_k_r, am_k_u, am_k_l, am_sz_0, am_sz_i, am_sz_r, am_sz_u, am_sz_l, Option.toList_some, Option.toList_none, List.cons_append, List.nil_append, true_and, and_true, or_false, false_or, or_self, or_true, true_or, not_false_eq_true, not_true_eq_false, Classical.not_not, ne_eq, ps_e1, ps_em, ps_z, Nat.not_le, false_implies, true_implies, forall_const, ps_01, ps_1n, ps_0n, ps_m10, ps_m1n, lg_cmp_gt, lg_cmp_ge, lg_cmp_le, lg_cmp_lt, lg_cmp_eq, pu_rne, pu_req, pu_uro, RFc_n, Nat.reduceAdd, Nat.reduceMul, Nat.reduceLT, Nat.reduceLeDiff, Nat.reduceEqDiff, Nat.reduceSub]
      exact this
    | succ g ih =>
      intro j hj hR
      obtain ⟨k1, k2, k3⟩ := f4 j (by omega) (by omega)
      have z : j < 2000000 ∧ (wdsL.getD c []).length < 2000000 ∧ ¬ (wdsL.getD c []).length ≤ j ∧ psW c + j < 2000000 ∧ psW c + j < 103 ∧ p + j < 2000000 ∧ p + j < 400 := by omega
      have hpj : p + j < m := by omega
      have ew := hWO (psW c + j) (by omega)
      rw [k1] at ew
      have et := TPR_e hT hpj k2
      rw [mtF] at hR
      rw [r200_57]
      by_cases c3 : u (p + j) = (wdsL.getD c []).getD j 0
      · rw [decide_eq_true c3, Bool.true_and] at hR
        have et2 : I 53 (p + j) = nI ((wdsL.getD c []).getD j 0) := by rw [et]; exact c3
        have := ih (j + 1) (by omega) hR
        simp only [↓r200_59, ↓r200_61, ↓r200_64, ↓r200_66, ↓r200_69, ↓r200_70, ↓r200_73, ↓r200_75, ↓r200_77, ↓r200_78, ↓r200_79, ↓r200_80, ↓r200_83, ↓r200_84, ↓r200_86, ↓r200_87, ↓r200_88, ↓r200_91, ↓r200_92, ↓r200_95, ↓r200_96, ↓r200_98, ↓r200_101, nI_add, q_le, q_lt, q_eq, q_e0, q_e1, q_0e, q_1e, ps_n0, q_0le, q_le0, q_0lt, q_m1e, q_em1, z, ew, et2, Bool.false_eq_true, hn, hn2, ht, hF, am_wt, am_wf, Option.isSome_some, am_rf_s, am_rf_n, ps_lit, nI_add, nI_1, pk_mul, ps_cl, ps_neg, ps_c0, ps_c1, ps_n01, ps_n11, ps_10, ps_b01, ps_e0, pu_Ine, pu_Ieq, pu_ne, pu_eq, am_k_n, am_k_i, am_k_r, am_k_u, am_k_l, am_sz_0, am_sz_i, am_sz_r, am_sz_u, am_sz_l, Option.toList_some, Option.toList_none, List.cons_append, List.nil_append, true_and, and_true, or_false, false_or, or_self, or_true, true_or, not_false_eq_true, not_true_eq_false, Classical.not_not, ne_eq, ps_e1, ps_em, ps_z, Nat.not_le, false_implies, true_implies, forall_const, ps_01, ps_1n, ps_0n, ps_m10, ps_m1n, lg_cmp_gt, lg_cmp_ge, lg_cmp_le, lg_cmp_lt, lg_cmp_eq, pu_rne, pu_req, pu_uro, RFc_n, Nat.reduceAdd, Nat.reduceMul, Nat.reduceLT, Nat.reduceLeDiff, Nat.reduceEqDiff, Nat.reduceSub]
        exact this
      · rw [decide_eq_false c3, Bool.false_and] at hR
        have et2 : ¬ nI ((wdsL.getD c []).getD j 0) = I 53 (p + j) := fun h => c3 (et ▸ h.symm)
        have := hR (some (.int (nI (j + 1))))
        rw [if_neg (by decide)] at this
        simp only [↓r200_59, ↓r200_61, ↓r200_64, ↓r200_66, ↓r200_69, ↓r200_70, ↓r200_73, ↓r200_75, ↓r200_77, ↓r200_78, ↓r200_79, ↓r200_80, ↓r200_83, ↓r200_84, ↓r200_86, ↓r200_87, ↓r200_88, ↓r200_91, ↓r200_92, ↓r200_95, ↓r200_96, ↓r200_98, ↓r200_101, nI_add, q_le, q_lt, q_eq, q_e0, q_e1, q_0e, q_1e, ps_n0, q_0le, q_le0, q_0lt, q_m1e, q_em1, z, ew, et2, Bool.false_eq_true, hn, hn2, ht, hF, am_wt, am_wf, Option.isSome_some, am_rf_s, am_rf_n, ps_lit, nI_add, nI_1, pk_mul, ps_cl, ps_neg, ps_c0, ps_c1, ps_n01, ps_n11, ps_10, ps_b01, ps_e0, pu_Ine, pu_Ieq, pu_ne, pu_eq, am_k_n, am_k_i, am_k_r, am_k_u, am_k_l, am_sz_0, am_sz_i, am_sz_r, am_sz_u, am_sz_l, Option.toList_some, Option.toList_none, List.cons_append, List.nil_append, true_and, and_true, or_false, false_or, or_self, or_true, true_or, not_false_eq_true, not_true_eq_false, Classical.not_not, ne_eq, ps_e1, ps_em, ps_z, Nat.not_le, false_implies, true_implies, forall_const, ps_01, ps_1n, ps_0n, ps_m10, ps_m1n, lg_cmp_gt, lg_cmp_ge, lg_cmp_le, lg_cmp_lt, lg_cmp_eq, pu_rne, pu_req, pu_uro, RFc_n, Nat.reduceAdd, Nat.reduceMul, Nat.reduceLT, Nat.reduceLeDiff, Nat.reduceEqDiff, Nat.reduceSub]
        rw [r200_57]
        have z2 : j + 1 < 2000000 := by omega
        by_cases c4 : (wdsL.getD c []).length ≤ j + 1
        · simp only [↓r200_59, ↓r200_61, ↓r200_64, ↓r200_66, q_le, q_lt, q_eq, q_e0, q_e1, q_0e, q_1e, ps_n0, q_0le, q_le0, q_0lt, q_m1e, q_em1, z, z2, c4, Bool.false_eq_true, hn, hn2, ht, hF, am_wt, am_wf, Option.isSome_some, am_rf_s, am_rf_n, ps_lit, nI_add, nI_1, pk_mul, ps_cl, ps_neg, ps_c0, ps_c1, ps_n01, ps_n11, ps_10, ps_b01, ps_e0, pu_Ine, pu_Ieq, pu_ne, pu_eq, am_k_n, am_k_i, am_k_r, am_k_u, am_k_l, am_sz_0, am_sz_i, am_sz_r, am_sz_u, am_sz_l, Option.toList_some, Option.toList_none, List.cons_append, List.nil_append, true_and, and_true, or_false, false_or, or_self, or_true, true_or, not_false_eq_true, not_true_eq_false, Classical.not_not, ne_eq, ps_e1, ps_em, ps_z, Nat.not_le, false_implies, true_implies, forall_const, ps_01, ps_1n, ps_0n, ps_m10, ps_m1n, lg_cmp_gt, lg_cmp_ge, lg_cmp_le, lg_cmp_lt, lg_cmp_eq, pu_rne, pu_req, pu_uro, RFc_n, Nat.reduceAdd, Nat.reduceMul, Nat.reduceLT, Nat.reduceLeDiff, Nat.reduceEqDiff, Nat.reduceSub]
          exact this
        · simp only [↓r200_59, ↓r200_61, ↓r200_64, ↓r200_66, q_le, q_lt, q_eq, q_e0, q_e1, q_0e, q_1e, ps_n0, q_0le, q_le0, q_0lt, q_m1e, q_em1, z, z2, c4, Bool.false_eq_true, hn, hn2, ht, hF, am_wt, am_wf, Option.isSome_some, am_rf_s, am_rf_n, ps_lit, nI_add, nI_1, pk_mul, ps_cl, ps_neg, ps_c0, ps_c1, ps_n01, ps_n11, ps_10, ps_b01, ps_e0, pu_Ine, pu_Ieq, pu_ne, pu_eq, am_k_n, am_k_i, am_k_r, am_k_u, am_k_l, am_sz_0, am_sz_i, am_sz_r, am_sz_u, am_sz_l, Option.toList_some, Option.toList_none, List.cons_append, List.nil_append, true_and, and_true, or_false, false_or, or_self, or_true, true_or, not_false_eq_true, not_true_eq_false, Classical.not_not, ne_eq, ps_e1, ps_em, ps_z, Nat.not_le, false_implies, true_implies, forall_const, ps_01, ps_1n, ps_0n, ps_m10, ps_m1n, lg_cmp_gt, lg_cmp_ge, lg_cmp_le, lg_cmp_lt, lg_cmp_eq, pu_rne, pu_req, pu_uro, RFc_n, Nat.reduceAdd, Nat.reduceMul, Nat.reduceLT, Nat.reduceLeDiff, Nat.reduceEqDiff, Nat.reduceSub]
          exact this
  have hl : ∀ g c (l5 l6 l7 : Option Value), c + g = 19 → (am_W X d 200 5 [some (.ref 47), some (.int (nI p)), some (.int (nI e)), some (.int (nI (c + 1))), some (.int (nI (psW c))), l5, l6, l7] [] (n, sl, t, I, J, F) Q ↔ Q (some (.int (nI (wfF (blB u p e) g c)))) (n, sl, t, I, J, F)) := by
    intro g
    induction g with
    | zero =>
      intro c l5 l6 l7 hc
      have ec : c = 19 := by omega
      subst ec
      have e1 : psW 19 = 103 := by decide
      rw [e1, wfF, r200_5]
      simp only [↓r200_7, ↓r200_8, ↓r200_11, ↓r200_11k, ↓r200_12, ↓r200_126, ↓r200_127, q_le, q_lt, q_eq, q_e0, q_e1, q_0e, q_1e, ps_n0, q_0le, q_le0, q_0lt, q_m1e, q_em1, Bool.false_eq_true, hn, hn2, ht, hF, am_wt, am_wf, Option.isSome_some, am_rf_s, am_rf_n, ps_lit, nI_add, nI_1, pk_mul, ps_cl, ps_neg, ps_c0, ps_c1, ps_n01, ps_n11, ps_10, ps_b01, ps_e0, pu_Ine, pu_Ieq, pu_ne, pu_eq, am_k_n, am_k_i, am_k_r, am_k_u, am_k_l, am_sz_0, am_sz_i, am_sz_r, am_sz_u, am_sz_l, Option.toList_some, Option.toList_none, List.cons_append, List.nil_append, true_and, and_true, or_false, false_or, or_self, or_true, true_or, not_false_eq_true, not_true_eq_false, Classical.not_not, ne_eq, ps_e1, ps_em, ps_z, Nat.not_le, false_implies, true_implies, forall_const, ps_01, ps_1n, ps_0n, ps_m10, ps_m1n, lg_cmp_gt, lg_cmp_ge, lg_cmp_le, lg_cmp_lt, lg_cmp_eq, pu_rne, pu_req, pu_uro, RFc_n, Nat.reduceAdd, Nat.reduceMul, Nat.reduceLT, Nat.reduceLeDiff, Nat.reduceEqDiff, Nat.reduceSub]
    | succ g ih =>
      intro c l5 l6 l7 hc
      have hc19 : c < 19 := by omega
      obtain ⟨⟨f0, f1⟩, f2, f3, f4⟩ := psW_f c hc19
      have z : psW c < 2000000 ∧ ¬ 103 ≤ psW c ∧ (wdsL.getD c []).length < 2000000 ∧ e - p < 2000000 := by omega
      have enx : psW c + ((wdsL.getD c []).length + 1) = psW (c + 1) := rfl
      have nx : ∀ l7 : Option Value, am_W X d 200 104 [some (.ref 47), some (.int (nI p)), some (.int (nI e)), some (.int (nI (c + 1))), some (.int (nI (psW c))), some (.int (nI (wdsL.getD c []).length)), some (.int 0), l7] [] (n, sl, t, I, J, F) Q ↔ Q (some (.int (nI (wfF (blB u p e) g (c + 1))))) (n, sl, t, I, J, F) := by
        intro l7
        have := ih (c + 1) (some (.int (nI (wdsL.getD c []).length))) (some (.int 0)) l7 (by omega)
        simp only [↓r200_104, ↓r200_106, ↓r200_109, ↓r200_110, ↓r200_111, ↓r200_113, ↓r200_115, ↓r200_116, ↓r200_117, ↓r200_118, ↓r200_120, ↓r200_123, nI_add, enx, Bool.false_eq_true, hn, hn2, ht, hF, am_wt, am_wf, Option.isSome_some, am_rf_s, am_rf_n, ps_lit, nI_add, nI_1, pk_mul, ps_cl, ps_neg, ps_c0, ps_c1, ps_n01, ps_n11, ps_10, ps_b01, ps_e0, pu_Ine, pu_Ieq, pu_ne, pu_eq, am_k_n, am_k_i, am_k_r, am_k_u, am_k_l, am_sz_0, am_sz_i, am_sz_r, am_sz_u, am_sz_l, Option.toList_some, Option.toList_none, List.cons_append, List.nil_append, true_and, and_true, or_false, false_or, or_self, or_true, true_or, not_false_eq_true, not_true_eq_false, Classical.not_not, ne_eq, ps_e1, ps_em, ps_z, Nat.not_le, false_implies, true_implies, forall_const, ps_01, ps_1n, ps_0n, ps_m10, ps_m1n, lg_cmp_gt, lg_cmp_ge, lg_cmp_le, lg_cmp_lt, lg_cmp_eq, pu_rne, pu_req, pu_uro, RFc_n, Nat.reduceAdd, Nat.reduceMul, Nat.reduceLT, Nat.reduceLeDiff, Nat.reduceEqDiff, Nat.reduceSub]
        exact this
      rw [wfF, r200_5]
      simp only [↓r200_7, ↓r200_8, ↓r200_11, ↓r200_11k, ↓r200_12, ↓r200_15, ↓r200_16, q_le, q_lt, q_eq, q_e0, q_e1, q_0e, q_1e, ps_n0, q_0le, q_le0, q_0lt, q_m1e, q_em1, z, Bool.false_eq_true, hn, hn2, ht, hF, am_wt, am_wf, Option.isSome_some, am_rf_s, am_rf_n, ps_lit, nI_add, nI_1, pk_mul, ps_cl, ps_neg, ps_c0, ps_c1, ps_n01, ps_n11, ps_10, ps_b01, ps_e0, pu_Ine, pu_Ieq, pu_ne, pu_eq, am_k_n, am_k_i, am_k_r, am_k_u, am_k_l, am_sz_0, am_sz_i, am_sz_r, am_sz_u, am_sz_l, Option.toList_some, Option.toList_none, List.cons_append, List.nil_append, true_and, and_true, or_false, false_or, or_self, or_true, true_or, not_false_eq_true, not_true_eq_false, Classical.not_not, ne_eq, ps_e1, ps_em, ps_z, Nat.not_le, false_implies, true_implies, forall_const, ps_01, ps_1n, ps_0n, ps_m10, ps_m1n, lg_cmp_gt, lg_cmp_ge, lg_cmp_le, lg_cmp_lt, lg_cmp_eq, pu_rne, pu_req, pu_uro, RFc_n, Nat.reduceAdd, Nat.reduceMul, Nat.reduceLT, Nat.reduceLeDiff, Nat.reduceEqDiff, Nat.reduceSub]
      refine lL _ c hc19 _ _ (wdsL.getD c []).length 0 (by omega) ?_
      by_cases c2 : (wdsL.getD c []).length = e - p
      · have e2 : (blB u p e = wdsL.getD c []) = (mtF u (wdsL.getD c []) p (wdsL.getD c []).length 0 = true) := by
          rw [blB_i]
          exact propext ⟨fun h => h.2, fun h => ⟨c2.symm, h⟩⟩
        have := lC _ c hc19 c2.symm (wdsL.getD c []).length 0 (by omega) (fun l7 => by
          by_cases c3 : mtF u (wdsL.getD c []) p (wdsL.getD c []).length 0 = true
          · rw [if_pos c3]
            have : am_W X d 200 104 [some (.ref 47), some (.int (nI p)), some (.int (nI e)), some (.int (nI (c + 1))), some (.int (nI (psW c))), some (.int (nI (wdsL.getD c []).length)), some (.int 1), l7] [] (n, sl, t, I, J, F) Q ↔ Q (some (.int (nI (if blB u p e = wdsL.getD c [] then c + 1 else wfF (blB u p e) g (c + 1))))) (n, sl, t, I, J, F) := by
              rw [if_pos (by rw [e2]; exact c3)]
              simp only [↓r200_104, ↓r200_106, ↓r200_109, ↓r200_110, Bool.false_eq_true, hn, hn2, ht, hF, am_wt, am_wf, Option.isSome_some, am_rf_s, am_rf_n, ps_lit, nI_add, nI_1, pk_mul, ps_cl, ps_neg, ps_c0, ps_c1, ps_n01, ps_n11, ps_10, ps_b01, ps_e0, pu_Ine, pu_Ieq, pu_ne, pu_eq, am_k_n, am_k_i, am_k_r, am_k_u, am_k_l, am_sz_0, am_sz_i, am_sz_r, am_sz_u, am_sz_l, Option.toList_some, Option.toList_none, List.cons_append, List.nil_append, true_and, and_true, or_false, false_or, or_self, or_true, true_or, not_false_eq_true, not_true_eq_false, Classical.not_not, ne_eq, ps_e1, ps_em, ps_z, Nat.not_le, false_implies, true_implies, forall_const, ps_01, ps_1n, ps_0n, ps_m10, ps_m1n, lg_cmp_gt, lg_cmp_ge, lg_cmp_le, lg_cmp_lt, lg_cmp_eq, pu_rne, pu_req, pu_uro, RFc_n, Nat.reduceAdd, Nat.reduceMul, Nat.reduceLT, Nat.reduceLeDiff, Nat.reduceEqDiff, Nat.reduceSub]
            exact this
          · rw [if_neg c3]
            have : am_W X d 200 104 [some (.ref 47), some (.int (nI p)), some (.int (nI e)), some (.int (nI (c + 1))), some (.int (nI (psW c))), some (.int (nI (wdsL.getD c []).length)), some (.int 0), l7] [] (n, sl, t, I, J, F) Q ↔ Q (some (.int (nI (if blB u p e = wdsL.getD c [] then c + 1 else wfF (blB u p e) g (c + 1))))) (n, sl, t, I, J, F) := by
              rw [if_neg (by rw [e2]; exact c3)]
              exact nx l7
            exact this)
        simp only [↓r200_39, ↓r200_41, ↓r200_42, ↓r200_43, ↓r200_44, ↓r200_47, ↓r200_48, ↓r200_51, ↓r200_52, ↓r200_54, ↓r200_55, q_le, q_lt, q_eq, q_e0, q_e1, q_0e, q_1e, ps_n0, q_0le, q_le0, q_0lt, q_m1e, q_em1, z, es, ← c2, Bool.false_eq_true, hn, hn2, ht, hF, am_wt, am_wf, Option.isSome_some, am_rf_s, am_rf_n, ps_lit, nI_add, nI_1, pk_mul, ps_cl, ps_neg, ps_c0, ps_c1, ps_n01, ps_n11, ps_10, ps_b01, ps_e0, pu_Ine, pu_Ieq, pu_ne, pu_eq, am_k_n, am_k_i, am_k_r, am_k_u, am_k_l, am_sz_0, am_sz_i, am_sz_r, am_sz_u, am_sz_l, Option.toList_some, Option.toList_none, List.cons_append, List.nil_append, true_and, and_true, or_false, false_or, or_self, or_true, true_or, not_false_eq_true, not_true_eq_false, Classical.not_not, ne_eq, ps_e1, ps_em, ps_z, Nat.not_le, false_implies, true_implies, forall_const, ps_01, ps_1n, ps_0n, ps_m10, ps_m1n, lg_cmp_gt, lg_cmp_ge, lg_cmp_le, lg_cmp_lt, lg_cmp_eq, pu_rne, pu_req, pu_uro, RFc_n, Nat.reduceAdd, Nat.reduceMul, Nat.reduceLT, Nat.reduceLeDiff, Nat.reduceEqDiff, Nat.reduceSub]
        exact this
      · have n1 : ¬ blB u p e = wdsL.getD c [] := fun h => c2 (blB_i.1 h).1.symm
        rw [if_neg n1]
        have := nx (some (.int 0))
        have z5 : ¬ (wdsL.getD c []).length ≤ 0 := by omega
        simp only [↓r200_39, ↓r200_41, ↓r200_42, ↓r200_43, ↓r200_44, ↓r200_47, ↓r200_48, ↓r200_51, ↓r200_52, ↓r200_54, ↓r200_55, q_le, q_lt, q_eq, q_e0, q_e1, q_0e, q_1e, ps_n0, q_0le, q_le0, q_0lt, q_m1e, q_em1, z, es, c2, Bool.false_eq_true, hn, hn2, ht, hF, am_wt, am_wf, Option.isSome_some, am_rf_s, am_rf_n, ps_lit, nI_add, nI_1, pk_mul, ps_cl, ps_neg, ps_c0, ps_c1, ps_n01, ps_n11, ps_10, ps_b01, ps_e0, pu_Ine, pu_Ieq, pu_ne, pu_eq, am_k_n, am_k_i, am_k_r, am_k_u, am_k_l, am_sz_0, am_sz_i, am_sz_r, am_sz_u, am_sz_l, Option.toList_some, Option.toList_none, List.cons_append, List.nil_append, true_and, and_true, or_false, false_or, or_self, or_true, true_or, not_false_eq_true, not_true_eq_false, Classical.not_not, ne_eq, ps_e1, ps_em, ps_z, Nat.not_le, false_implies, true_implies, forall_const, ps_01, ps_1n, ps_0n, ps_m10, ps_m1n, lg_cmp_gt, lg_cmp_ge, lg_cmp_le, lg_cmp_lt, lg_cmp_eq, pu_rne, pu_req, pu_uro, RFc_n, Nat.reduceAdd, Nat.reduceMul, Nat.reduceLT, Nat.reduceLeDiff, Nat.reduceEqDiff, Nat.reduceSub]
        rw [r200_57]
        simp only [↓r200_59, ↓r200_61, ↓r200_64, ↓r200_66, q_le, q_lt, q_eq, q_e0, q_e1, q_0e, q_1e, ps_n0, q_0le, q_le0, q_0lt, q_m1e, q_em1, z, z5, Bool.false_eq_true, hn, hn2, ht, hF, am_wt, am_wf, Option.isSome_some, am_rf_s, am_rf_n, ps_lit, nI_add, nI_1, pk_mul, ps_cl, ps_neg, ps_c0, ps_c1, ps_n01, ps_n11, ps_10, ps_b01, ps_e0, pu_Ine, pu_Ieq, pu_ne, pu_eq, am_k_n, am_k_i, am_k_r, am_k_u, am_k_l, am_sz_0, am_sz_i, am_sz_r, am_sz_u, am_sz_l, Option.toList_some, Option.toList_none, List.cons_append, List.nil_append, true_and, and_true, or_false, false_or, or_self, or_true, true_or, not_false_eq_true, not_true_eq_false, Classical.not_not, ne_eq, ps_e1, ps_em, ps_z, Nat.not_le, false_implies, true_implies, forall_const, ps_01, ps_1n, ps_0n, ps_m10, ps_m1n, lg_cmp_gt, lg_cmp_ge, lg_cmp_le, lg_cmp_lt, lg_cmp_eq, pu_rne, pu_req, pu_uro, RFc_n, Nat.reduceAdd, Nat.reduceMul, Nat.reduceLT, Nat.reduceLeDiff, Nat.reduceEqDiff, Nat.reduceSub]
        exact this
  have := hl 19 0 none none none rfl
  rw [wfF_e 19 0 rfl (fun k hk => absurd hk (Nat.not_lt_zero _))] at this
  simp only [↓r200_0, ↓r200_1, ↓r200_2, ↓r200_3, Bool.false_eq_true, hn, hn2, ht, hF, am_wt, am_wf, Option.isSome_some, am_rf_s, am_rf_n, ps_lit, nI_add, nI_1, pk_mul, ps_cl, ps_neg, ps_c0, ps_c1, ps_n01, ps_n11, ps_10, ps_b01, ps_e0, pu_Ine, pu_Ieq, pu_ne, pu_eq, am_k_n, am_k_i, am_k_r, am_k_u, am_k_l, am_sz_0, am_sz_i, am_sz_r, am_sz_u, am_sz_l, Option.toList_some, Option.toList_none, List.cons_append, List.nil_append, true_and, and_true, or_false, false_or, or_self, or_true, true_or, not_false_eq_true, not_true_eq_false, Classical.not_not, ne_eq, ps_e1, ps_em, ps_z, Nat.not_le, false_implies, true_implies, forall_const, ps_01, ps_1n, ps_0n, ps_m10, ps_m1n, lg_cmp_gt, lg_cmp_ge, lg_cmp_le, lg_cmp_lt, lg_cmp_eq, pu_rne, pu_req, pu_uro, RFc_n, Nat.reduceAdd, Nat.reduceMul, Nat.reduceLT, Nat.reduceLeDiff, Nat.reduceEqDiff, Nat.reduceSub]
  exact this
end MW
