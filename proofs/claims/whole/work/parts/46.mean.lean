/-! calls, one on each side: bounds, apart -/
section ME2
variable {X : am_X} {d : Nat} {Q : Option Value → am_H → Prop} {n sl : Nat} {t : Nat → Nat × Nat} {I : Nat → Nat → Int32} {J : Nat → Nat → Int64} {F : Nat → Nat → Option Nat} {h : am_H}
variable {K : Nat → Int32} {N T : Nat} {lw : Nat → List CL}
/-- the sum of the first j -/
def sm (f : Nat → Nat) : Nat → Nat
  | 0 => 0
  | j + 1 => sm f j + f j
theorem sm_le {f : Nat → Nat} {b : Nat} : ∀ j, (∀ i, i < j → f i ≤ b) → sm f j ≤ b * j := by
  intro j
  induction j with
  | zero => intro _; exact Nat.le_refl 0
  | succ j ih =>
    intro h
    rw [sm, Nat.mul_succ]
    exact Nat.add_le_add (ih (fun i hi => h i (by omega))) (h j (by omega))
theorem sm_c {f g : Nat → Nat} : ∀ j, (∀ i, i < j → f i = g i) → sm f j = sm g j := by
  intro j
  induction j with
  | zero => intro _; rfl
  | succ j ih =>
    intro h
    rw [sm, sm, ih (fun i hi => h i (by omega)), h j (by omega)]
/-- what was found of a child, 0 of one that is not found -/
def vth (K : Nat → Int32) (c : Nat) : Nat := if fFo K c = true then (fTh K c).toNatClampNeg else 0
theorem vth_le {c : Nat} (h : KW K N T) (hc : c < N) : vth K c ≤ 999 := by
  unfold vth
  split
  · rcases kid_th h hc with q | ⟨w, hw, q⟩
    · rw [q]; decide
    · rw [q, nI_clamp (by omega)]; exact hw
  · omega
theorem vth_f {c : Nat} (h : KW K N T) (hc : c < N) (hf : fFo K c = true) : fTh K c = nI (vth K c) := by
  unfold vth
  rw [if_pos hf]
  rcases kid_th h hc with q | ⟨w, hw, q⟩
  · unfold fFo at hf
    rw [q] at hf
    simp at hf
  · rw [q, nI_clamp (by omega)]
theorem vth_n {c : Nat} (hf : ¬ fFo K c = true) : fTh K c = -1 := by
  unfold fFo at hf
  simpa using hf
def mS (K : Nat → Int32) (l : List Nat) (j : Nat) : Nat := sm (fun i => vth K (l.getD i 0)) j
def mC (K : Nat → Int32) (l : List Nat) (j : Nat) : Nat := cnt (fun i => fFo K (l.getD i 0)) j
/-- MEAN -/
def meanV (K : Nat → Int32) (l : List Nat) (w : Nat) : Int32 :=
  if (if w = 0 then mC K l l.length else l.length) = 0 then -1 else nI ((mS K l l.length + (if w = 2 then 999 * (l.length - mC K l l.length) else 0)) * 100) / nI (if w = 0 then mC K l l.length else l.length)
theorem cl_mean {w g : Nat} {l : List Nat} (hw : w ≤ 2) (hg : g = 15 ∨ g = 17) (hCK : CK n t F (I 1 4) (I 2) (I 3) (I 49) K N) (hG : GH (I g 1) (I (g + 1)) l N) : am_W X (d + 2) 117 0 [some (.ref 0), some (.ref g), some (.int (nI w)), none, none, none, none] [] (n, sl, t, I, J, F) Q ↔ Q (some (.int (meanV K l w))) (n, sl, t, I, J, F) := by
  have hW : WS n t F := hCK.1
  obtain ⟨hn, hn2, ht, hF⟩ := id hW
  have g1 : g < n := by rcases hg with e | e <;> rw [e] <;> exact hn _ (by decide)
  have g2 : g + 1 < n := by rcases hg with e | e <;> rw [e] <;> exact hn _ (by decide)
  have g3 : t g = (4, 2) := by rcases hg with e | e <;> rw [e] <;> exact ht _ (by decide)
  have g4 : t (g + 1) = (20, 120) := by rcases hg with e | e <;> rw [e] <;> exact ht _ (by decide)
  have g5 : F g 0 = some (g + 1) := by rcases hg with e | e <;> rw [e] <;> exact hF _ _ rfl
  have g6 : g + 1 < 1000000 := by omega
  obtain ⟨h1, h2, h3⟩ := hG
  obtain ⟨_, ⟨T, hK⟩, _⟩ := id hCK
  have b1 : ∀ j, j ≤ l.length → mS K l j ≤ 999 * j := fun j hj => sm_le j (fun i hi => vth_le hK (h3 i (by omega)).2)
  have b2 : ∀ j, mC K l j ≤ j := fun j => cnt_le _ j
  have hx : ∀ l6 : Option Value, am_W X (d + 2) 117 8 [some (.ref 0), some (.ref g), some (.int (nI w)), some (.int 0), some (.int 0), some (.int 0), l6] [] (n, sl, t, I, J, F) Q ↔ Q (some (.int (meanV K l w))) (n, sl, t, I, J, F) := by
    refine lp0 (A := fun k => ∀ l6 : Option Value, am_W X (d + 2) 117 8 [some (.ref 0), some (.ref g), some (.int (nI w)), some (.int (nI (mC K l k))), some (.int (nI (mS K l k))), some (.int (nI k)), l6] [] (n, sl, t, I, J, F) Q ↔ Q (some (.int (meanV K l w))) (n, sl, t, I, J, F)) (N := l.length) ?_ ?_
    · intro k hk ih l6
      obtain ⟨k1, k2⟩ := h3 k hk
      have z1 : k < 2000000 ∧ l.length < 2000000 ∧ k < 120 := by omega
      have z2 : ¬ l.length ≤ k := by omega
      rw [r117_8]
      by_cases hb : fFo K (l.getD k 0) = true
      · have e1 : mC K l (k + 1) = mC K l k + 1 := cnt_s1 hb
        have e2 : mS K l (k + 1) = mS K l k + vth K (l.getD k 0) := rfl
        have e3 := vth_f hK k2 hb
        have e4 : vth K (l.getD k 0) < 2000000 := by have := vth_le hK k2; omega
        rw [e1, e2] at ih
        simp only [↓r117_10, ↓r117_10n, ↓r117_11, ↓r117_14, ↓r117_17, ↓r117_18, ↓r117_21, ↓r117_21n, ↓r117_22, ↓r117_25, ↓r117_27, ↓r117_27k, ↓r117_28, ↓r117_31, ↓r117_33, ↓r117_35, ↓r117_36, ↓r117_39, ↓r117_42, ↓r117_44, ↓r117_46, ↓r117_47, ↓r117_49, ↓r117_52, ↓k_at (K := K) (N := N), ↓k_isTried (K := K) (N := N), ↓k_side (K := K) (N := N), ↓k_thing (K := K) (N := N), ↓k_isFound (K := K) (N := N), ↓m_factOf (K := K) (N := N), ↓m_isTried (K := K) (N := N), ↓m_took (K := K) (N := N), ↓m_waited (K := K) (N := N), ↓m_isLong (K := K) (N := N), ↓m_isShort (K := K) (N := N), ↓m_thingOf (K := K) (N := N), ↓m_isFound (K := K) (N := N), ↓m_many (K := K) (N := N), ↓c_within, ↓s_lies, hCK, b01, b11, q_le, q_lt, q_eq, q_e0, q_e1, q_0e, q_1e, ps_n0, q_0le, q_le0, q_0lt, q_m1e, q_em1, h1, k1, k2, e3, e4, g1, g2, g3, g4, g5, g6, z1, z2, Bool.false_eq_true, hn, hn2, ht, hF, am_wt, am_wf, Option.isSome_some, am_rf_s, am_rf_n, ps_lit, nI_add, nI_1, pk_mul, ps_cl, ps_neg, ps_c0, ps_c1, ps_n01, ps_n11, ps_10, ps_b01, ps_e0, pu_Ine, pu_Ieq, pu_ne, pu_eq, am_k_n, am_k_i, am_k_r, am_k_u, am_k_l, am_sz_0, am_sz_i, am_sz_r, am_sz_u, am_sz_l, Option.toList_some, Option.toList_none, List.cons_append, List.nil_append, true_and, and_true, or_false, false_or, or_self, or_true, true_or, not_false_eq_true, not_true_eq_false, Classical.not_not, ne_eq, ps_e1, ps_em, ps_z, Nat.not_le, false_implies, true_implies, forall_const, ps_01, ps_1n, ps_0n, ps_m10, ps_m1n, lg_cmp_gt, lg_cmp_ge, lg_cmp_le, lg_cmp_lt, lg_cmp_eq, pu_rne, pu_req, pu_uro, RFc_n, Nat.reduceAdd, Nat.reduceMul, Nat.reduceLT, Nat.reduceLeDiff, Nat.reduceEqDiff, Nat.reduceSub]
        exact ih _
      · have e1 : mC K l (k + 1) = mC K l k := cnt_s0 (by simpa using hb)
        have e2 : mS K l (k + 1) = mS K l k := by
          show mS K l k + vth K (l.getD k 0) = mS K l k
          unfold vth
          rw [if_neg hb, Nat.add_zero]
        have e3 := vth_n hb
        rw [e1, e2] at ih
        simp only [↓r117_10, ↓r117_10n, ↓r117_11, ↓r117_14, ↓r117_17, ↓r117_18, ↓r117_21, ↓r117_21n, ↓r117_22, ↓r117_25, ↓r117_27, ↓r117_27k, ↓r117_28, ↓r117_31, ↓r117_33, ↓r117_35, ↓r117_36, ↓r117_39, ↓r117_42, ↓r117_44, ↓r117_46, ↓r117_47, ↓r117_49, ↓r117_52, ↓k_at (K := K) (N := N), ↓k_isTried (K := K) (N := N), ↓k_side (K := K) (N := N), ↓k_thing (K := K) (N := N), ↓k_isFound (K := K) (N := N), ↓m_factOf (K := K) (N := N), ↓m_isTried (K := K) (N := N), ↓m_took (K := K) (N := N), ↓m_waited (K := K) (N := N), ↓m_isLong (K := K) (N := N), ↓m_isShort (K := K) (N := N), ↓m_thingOf (K := K) (N := N), ↓m_isFound (K := K) (N := N), ↓m_many (K := K) (N := N), ↓c_within, ↓s_lies, hCK, b01, b11, q_le, q_lt, q_eq, q_e0, q_e1, q_0e, q_1e, ps_n0, q_0le, q_le0, q_0lt, q_m1e, q_em1, h1, k1, k2, e3, g1, g2, g3, g4, g5, g6, z1, z2, Bool.false_eq_true, hn, hn2, ht, hF, am_wt, am_wf, Option.isSome_some, am_rf_s, am_rf_n, ps_lit, nI_add, nI_1, pk_mul, ps_cl, ps_neg, ps_c0, ps_c1, ps_n01, ps_n11, ps_10, ps_b01, ps_e0, pu_Ine, pu_Ieq, pu_ne, pu_eq, am_k_n, am_k_i, am_k_r, am_k_u, am_k_l, am_sz_0, am_sz_i, am_sz_r, am_sz_u, am_sz_l, Option.toList_some, Option.toList_none, List.cons_append, List.nil_append, true_and, and_true, or_false, false_or, or_self, or_true, true_or, not_false_eq_true, not_true_eq_false, Classical.not_not, ne_eq, ps_e1, ps_em, ps_z, Nat.not_le, false_implies, true_implies, forall_const, ps_01, ps_1n, ps_0n, ps_m10, ps_m1n, lg_cmp_gt, lg_cmp_ge, lg_cmp_le, lg_cmp_lt, lg_cmp_eq, pu_rne, pu_req, pu_uro, RFc_n, Nat.reduceAdd, Nat.reduceMul, Nat.reduceLT, Nat.reduceLeDiff, Nat.reduceEqDiff, Nat.reduceSub]
        exact ih _
    · intro l6
      have y1 := b1 l.length (Nat.le_refl _)
      have y2 := b2 l.length
      have z1 : l.length < 2000000 ∧ mC K l l.length < 2000000 := by omega
      have z3 : mC K l l.length ≤ l.length := y2
      rw [r117_8]
      match w, hw with
      | 0, _ =>
        by_cases q : mC K l l.length = 0
        · simp only [↓r117_10, ↓r117_10n, ↓r117_11, ↓r117_14, ↓r117_17, ↓r117_18, ↓r117_21, ↓r117_21n, ↓r117_22, ↓r117_25, ↓r117_27, ↓r117_27k, ↓r117_28, ↓r117_31, ↓r117_33, ↓r117_35, ↓r117_36, ↓r117_39, ↓r117_42, ↓r117_44, ↓r117_46, ↓r117_47, ↓r117_49, ↓r117_52, ↓r117_55, ↓r117_56, ↓r117_59, ↓r117_60, ↓r117_63, ↓r117_63n, ↓r117_64, ↓r117_67, ↓r117_69, ↓r117_70, ↓r117_71, ↓r117_74, ↓r117_76, ↓r117_79, ↓r117_81, ↓r117_82, ↓r117_83, ↓r117_84, ↓r117_85, ↓r117_87, ↓r117_89, ↓r117_92, ↓r117_93, ↓r117_96, ↓r117_98, ↓r117_100, ↓r117_101, ↓r117_103, ↓r117_104, q_le, q_lt, q_eq, q_e0, q_e1, q_0e, q_1e, ps_n0, q_0le, q_le0, q_0lt, q_m1e, q_em1, h1, meanV, q, g1, g3, z1, if_true, if_false, Int32.le_refl, Nat.le_refl, Nat.add_zero, Bool.false_eq_true, hn, hn2, ht, hF, am_wt, am_wf, Option.isSome_some, am_rf_s, am_rf_n, ps_lit, nI_add, nI_1, pk_mul, ps_cl, ps_neg, ps_c0, ps_c1, ps_n01, ps_n11, ps_10, ps_b01, ps_e0, pu_Ine, pu_Ieq, pu_ne, pu_eq, am_k_n, am_k_i, am_k_r, am_k_u, am_k_l, am_sz_0, am_sz_i, am_sz_r, am_sz_u, am_sz_l, Option.toList_some, Option.toList_none, List.cons_append, List.nil_append, true_and, and_true, or_false, false_or, or_self, or_true, true_or, not_false_eq_true, not_true_eq_false, Classical.not_not, ne_eq, ps_e1, ps_em, ps_z, Nat.not_le, false_implies, true_implies, forall_const, ps_01, ps_1n, ps_0n, ps_m10, ps_m1n, lg_cmp_gt, lg_cmp_ge, lg_cmp_le, lg_cmp_lt, lg_cmp_eq, pu_rne, pu_req, pu_uro, RFc_n, Nat.reduceAdd, Nat.reduceMul, Nat.reduceLT, Nat.reduceLeDiff, Nat.reduceEqDiff, Nat.reduceSub]
        · simp only [↓r117_10, ↓r117_10n, ↓r117_11, ↓r117_14, ↓r117_17, ↓r117_18, ↓r117_21, ↓r117_21n, ↓r117_22, ↓r117_25, ↓r117_27, ↓r117_27k, ↓r117_28, ↓r117_31, ↓r117_33, ↓r117_35, ↓r117_36, ↓r117_39, ↓r117_42, ↓r117_44, ↓r117_46, ↓r117_47, ↓r117_49, ↓r117_52, ↓r117_55, ↓r117_56, ↓r117_59, ↓r117_60, ↓r117_63, ↓r117_63n, ↓r117_64, ↓r117_67, ↓r117_69, ↓r117_70, ↓r117_71, ↓r117_74, ↓r117_76, ↓r117_79, ↓r117_81, ↓r117_82, ↓r117_83, ↓r117_84, ↓r117_85, ↓r117_87, ↓r117_89, ↓r117_92, ↓r117_93, ↓r117_96, ↓r117_98, ↓r117_100, ↓r117_101, ↓r117_103, ↓r117_104, q_le, q_lt, q_eq, q_e0, q_e1, q_0e, q_1e, ps_n0, q_0le, q_le0, q_0lt, q_m1e, q_em1, h1, meanV, q, g1, g3, z1, if_true, if_false, Int32.le_refl, Nat.le_refl, Nat.add_zero, Bool.false_eq_true, hn, hn2, ht, hF, am_wt, am_wf, Option.isSome_some, am_rf_s, am_rf_n, ps_lit, nI_add, nI_1, pk_mul, ps_cl, ps_neg, ps_c0, ps_c1, ps_n01, ps_n11, ps_10, ps_b01, ps_e0, pu_Ine, pu_Ieq, pu_ne, pu_eq, am_k_n, am_k_i, am_k_r, am_k_u, am_k_l, am_sz_0, am_sz_i, am_sz_r, am_sz_u, am_sz_l, Option.toList_some, Option.toList_none, List.cons_append, List.nil_append, true_and, and_true, or_false, false_or, or_self, or_true, true_or, not_false_eq_true, not_true_eq_false, Classical.not_not, ne_eq, ps_e1, ps_em, ps_z, Nat.not_le, false_implies, true_implies, forall_const, ps_01, ps_1n, ps_0n, ps_m10, ps_m1n, lg_cmp_gt, lg_cmp_ge, lg_cmp_le, lg_cmp_lt, lg_cmp_eq, pu_rne, pu_req, pu_uro, RFc_n, Nat.reduceAdd, Nat.reduceMul, Nat.reduceLT, Nat.reduceLeDiff, Nat.reduceEqDiff, Nat.reduceSub]
      | 1, _ =>
        by_cases q : l.length = 0
        · simp only [↓r117_10, ↓r117_10n, ↓r117_11, ↓r117_14, ↓r117_17, ↓r117_18, ↓r117_21, ↓r117_21n, ↓r117_22, ↓r117_25, ↓r117_27, ↓r117_27k, ↓r117_28, ↓r117_31, ↓r117_33, ↓r117_35, ↓r117_36, ↓r117_39, ↓r117_42, ↓r117_44, ↓r117_46, ↓r117_47, ↓r117_49, ↓r117_52, ↓r117_55, ↓r117_56, ↓r117_59, ↓r117_60, ↓r117_63, ↓r117_63n, ↓r117_64, ↓r117_67, ↓r117_69, ↓r117_70, ↓r117_71, ↓r117_74, ↓r117_76, ↓r117_79, ↓r117_81, ↓r117_82, ↓r117_83, ↓r117_84, ↓r117_85, ↓r117_87, ↓r117_89, ↓r117_92, ↓r117_93, ↓r117_96, ↓r117_98, ↓r117_100, ↓r117_101, ↓r117_103, ↓r117_104, q_le, q_lt, q_eq, q_e0, q_e1, q_0e, q_1e, ps_n0, q_0le, q_le0, q_0lt, q_m1e, q_em1, h1, meanV, q, g1, g3, z1, if_true, if_false, Int32.le_refl, Nat.le_refl, Nat.add_zero, Bool.false_eq_true, hn, hn2, ht, hF, am_wt, am_wf, Option.isSome_some, am_rf_s, am_rf_n, ps_lit, nI_add, nI_1, pk_mul, ps_cl, ps_neg, ps_c0, ps_c1, ps_n01, ps_n11, ps_10, ps_b01, ps_e0, pu_Ine, pu_Ieq, pu_ne, pu_eq, am_k_n, am_k_i, am_k_r, am_k_u, am_k_l, am_sz_0, am_sz_i, am_sz_r, am_sz_u, am_sz_l, Option.toList_some, Option.toList_none, List.cons_append, List.nil_append, true_and, and_true, or_false, false_or, or_self, or_true, true_or, not_false_eq_true, not_true_eq_false, Classical.not_not, ne_eq, ps_e1, ps_em, ps_z, Nat.not_le, false_implies, true_implies, forall_const, ps_01, ps_1n, ps_0n, ps_m10, ps_m1n, lg_cmp_gt, lg_cmp_ge, lg_cmp_le, lg_cmp_lt, lg_cmp_eq, pu_rne, pu_req, pu_uro, RFc_n, Nat.reduceAdd, Nat.reduceMul, Nat.reduceLT, Nat.reduceLeDiff, Nat.reduceEqDiff, Nat.reduceSub]
        · simp only [↓r117_10, ↓r117_10n, ↓r117_11, ↓r117_14, ↓r117_17, ↓r117_18, ↓r117_21, ↓r117_21n, ↓r117_22, ↓r117_25, ↓r117_27, ↓r117_27k, ↓r117_28, ↓r117_31, ↓r117_33, ↓r117_35, ↓r117_36, ↓r117_39, ↓r117_42, ↓r117_44, ↓r117_46, ↓r117_47, ↓r117_49, ↓r117_52, ↓r117_55, ↓r117_56, ↓r117_59, ↓r117_60, ↓r117_63, ↓r117_63n, ↓r117_64, ↓r117_67, ↓r117_69, ↓r117_70, ↓r117_71, ↓r117_74, ↓r117_76, ↓r117_79, ↓r117_81, ↓r117_82, ↓r117_83, ↓r117_84, ↓r117_85, ↓r117_87, ↓r117_89, ↓r117_92, ↓r117_93, ↓r117_96, ↓r117_98, ↓r117_100, ↓r117_101, ↓r117_103, ↓r117_104, q_le, q_lt, q_eq, q_e0, q_e1, q_0e, q_1e, ps_n0, q_0le, q_le0, q_0lt, q_m1e, q_em1, h1, meanV, q, g1, g3, z1, if_true, if_false, Int32.le_refl, Nat.le_refl, Nat.add_zero, Bool.false_eq_true, hn, hn2, ht, hF, am_wt, am_wf, Option.isSome_some, am_rf_s, am_rf_n, ps_lit, nI_add, nI_1, pk_mul, ps_cl, ps_neg, ps_c0, ps_c1, ps_n01, ps_n11, ps_10, ps_b01, ps_e0, pu_Ine, pu_Ieq, pu_ne, pu_eq, am_k_n, am_k_i, am_k_r, am_k_u, am_k_l, am_sz_0, am_sz_i, am_sz_r, am_sz_u, am_sz_l, Option.toList_some, Option.toList_none, List.cons_append, List.nil_append, true_and, and_true, or_false, false_or, or_self, or_true, true_or, not_false_eq_true, not_true_eq_false, Classical.not_not, ne_eq, ps_e1, ps_em, ps_z, Nat.not_le, false_implies, true_implies, forall_const, ps_01, ps_1n, ps_0n, ps_m10, ps_m1n, lg_cmp_gt, lg_cmp_ge, lg_cmp_le, lg_cmp_lt, lg_cmp_eq, pu_rne, pu_req, pu_uro, RFc_n, Nat.reduceAdd, Nat.reduceMul, Nat.reduceLT, Nat.reduceLeDiff, Nat.reduceEqDiff, Nat.reduceSub]
      | 2, _ =>
        by_cases q : l.length = 0
        · simp only [↓r117_10, ↓r117_10n, ↓r117_11, ↓r117_14, ↓r117_17, ↓r117_18, ↓r117_21, ↓r117_21n, ↓r117_22, ↓r117_25, ↓r117_27, ↓r117_27k, ↓r117_28, ↓r117_31, ↓r117_33, ↓r117_35, ↓r117_36, ↓r117_39, ↓r117_42, ↓r117_44, ↓r117_46, ↓r117_47, ↓r117_49, ↓r117_52, ↓r117_55, ↓r117_56, ↓r117_59, ↓r117_60, ↓r117_63, ↓r117_63n, ↓r117_64, ↓r117_67, ↓r117_69, ↓r117_70, ↓r117_71, ↓r117_74, ↓r117_76, ↓r117_79, ↓r117_81, ↓r117_82, ↓r117_83, ↓r117_84, ↓r117_85, ↓r117_87, ↓r117_89, ↓r117_92, ↓r117_93, ↓r117_96, ↓r117_98, ↓r117_100, ↓r117_101, ↓r117_103, ↓r117_104, q_le, q_lt, q_eq, q_e0, q_e1, q_0e, q_1e, ps_n0, q_0le, q_le0, q_0lt, q_m1e, q_em1, h1, meanV, q, g1, g3, z1, z3, pk_sub, if_true, if_false, Int32.le_refl, Nat.le_refl, Nat.add_zero, Bool.false_eq_true, hn, hn2, ht, hF, am_wt, am_wf, Option.isSome_some, am_rf_s, am_rf_n, ps_lit, nI_add, nI_1, pk_mul, ps_cl, ps_neg, ps_c0, ps_c1, ps_n01, ps_n11, ps_10, ps_b01, ps_e0, pu_Ine, pu_Ieq, pu_ne, pu_eq, am_k_n, am_k_i, am_k_r, am_k_u, am_k_l, am_sz_0, am_sz_i, am_sz_r, am_sz_u, am_sz_l, Option.toList_some, Option.toList_none, List.cons_append, List.nil_append, true_and, and_true, or_false, false_or, or_self, or_true, true_or, not_false_eq_true, not_true_eq_false, Classical.not_not, ne_eq, ps_e1, ps_em, ps_z, Nat.not_le, false_implies, true_implies, forall_const, ps_01, ps_1n, ps_0n, ps_m10, ps_m1n, lg_cmp_gt, lg_cmp_ge, lg_cmp_le, lg_cmp_lt, lg_cmp_eq, pu_rne, pu_req, pu_uro, RFc_n, Nat.reduceAdd, Nat.reduceMul, Nat.reduceLT, Nat.reduceLeDiff, Nat.reduceEqDiff, Nat.reduceSub]
        · simp only [↓r117_10, ↓r117_10n, ↓r117_11, ↓r117_14, ↓r117_17, ↓r117_18, ↓r117_21, ↓r117_21n, ↓r117_22, ↓r117_25, ↓r117_27, ↓r117_27k, ↓r117_28, ↓r117_31, ↓r117_33, ↓r117_35, ↓r117_36, ↓r117_39, ↓r117_42, ↓r117_44, ↓r117_46, ↓r117_47, ↓r117_49, ↓r117_52, ↓r117_55, ↓r117_56, ↓r117_59, ↓r117_60, ↓r117_63, ↓r117_63n, ↓r117_64, ↓r117_67, ↓r117_69, ↓r117_70, ↓r117_71, ↓r117_74, ↓r117_76, ↓r117_79, ↓r117_81, ↓r117_82, ↓r117_83, ↓r117_84, ↓r117_85, ↓r117_87, ↓r117_89, ↓r117_92, ↓r117_93, ↓r117_96, ↓r117_98, ↓r117_100, ↓r117_101, ↓r117_103, ↓r117_104, q_le, q_lt, q_eq, q_e0, q_e1, q_0e, q_1e, ps_n0, q_0le, q_le0, q_0lt, q_m1e, q_em1, h1, meanV, q, g1, g3, z1, z3, pk_sub, if_true, if_false, Int32.le_refl, Nat.le_refl, Nat.add_zero, Bool.false_eq_true, hn, hn2, ht, hF, am_wt, am_wf, Option.isSome_some, am_rf_s, am_rf_n, ps_lit, nI_add, nI_1, pk_mul, ps_cl, ps_neg, ps_c0, ps_c1, ps_n01, ps_n11, ps_10, ps_b01, ps_e0, pu_Ine, pu_Ieq, pu_ne, pu_eq, am_k_n, am_k_i, am_k_r, am_k_u, am_k_l, am_sz_0, am_sz_i, am_sz_r, am_sz_u, am_sz_l, Option.toList_some, Option.toList_none, List.cons_append, List.nil_append, true_and, and_true, or_false, false_or, or_self, or_true, true_or, not_false_eq_true, not_true_eq_false, Classical.not_not, ne_eq, ps_e1, ps_em, ps_z, Nat.not_le, false_implies, true_implies, forall_const, ps_01, ps_1n, ps_0n, ps_m10, ps_m1n, lg_cmp_gt, lg_cmp_ge, lg_cmp_le, lg_cmp_lt, lg_cmp_eq, pu_rne, pu_req, pu_uro, RFc_n, Nat.reduceAdd, Nat.reduceMul, Nat.reduceLT, Nat.reduceLeDiff, Nat.reduceEqDiff, Nat.reduceSub]
  rw [← hx none]
  simp only [↓r117_0, ↓r117_1, ↓r117_2, ↓r117_3, ↓r117_5, ↓r117_6, am_k_i]
/-- the reference's sum -/
def mR (K : Nat → Int32) (l : List Nat) (w j : Nat) : Nat := sm (fun i => if fFo K (l.getD i 0) = true then vth K (l.getD i 0) else if w = 2 then 999 else 0) j
def mN (K : Nat → Int32) (l : List Nat) (w j : Nat) : Nat := if w = 0 then mC K l j else j
theorem mR_e (l : List Nat) (w : Nat) : ∀ j, mR K l w j = mS K l j + (if w = 2 then 999 * (j - mC K l j) else 0) := by
  intro j
  induction j with
  | zero =>
    show 0 = 0 + (if w = 2 then 999 * 0 else 0)
    split <;> rfl
  | succ j ih =>
    have h1 : mR K l w (j + 1) = mR K l w j + (if fFo K (l.getD j 0) = true then vth K (l.getD j 0) else if w = 2 then 999 else 0) := rfl
    have h2 : mS K l (j + 1) = mS K l j + vth K (l.getD j 0) := rfl
    have h3 : mC K l (j + 1) = mC K l j + (if fFo K (l.getD j 0) = true then 1 else 0) := rfl
    have h4 : mC K l j ≤ j := cnt_le _ j
    rw [h1, h2, h3, ih]
    by_cases hb : fFo K (l.getD j 0) = true
    · rw [if_pos hb, if_pos hb]
      by_cases hw : w = 2
      · rw [if_pos hw, if_pos hw]; omega
      · rw [if_neg hw, if_neg hw]; omega
    · rw [if_neg hb, if_neg hb]
      unfold vth
      rw [if_neg hb]
      by_cases hw : w = 2
      · rw [if_pos hw, if_pos hw, if_pos hw]; omega
      · rw [if_neg hw, if_neg hw, if_neg hw]
theorem ml_mean {w : Nat} {l : List Nat} (hw : w ≤ 2) (hCK : CK n t F (I 1 4) (I 2) (I 3) (I 49) K N) (hG : GH (I 47 24) (I 59) l N) : am_W X (d + 3) 265 0 [some (.ref 47), some (.int (nI w)), none, none, none, none] [] (n, sl, t, I, J, F) Q ↔ Q (some (.int (meanV K l w))) (n, sl, t, I, J, F) := by
  have hW : WS n t F := hCK.1
  obtain ⟨hn, hn2, ht, hF⟩ := id hW
  obtain ⟨h1, h2, h3⟩ := hG
  obtain ⟨_, ⟨T, hK⟩, _⟩ := id hCK
  have b2 : ∀ j, mC K l j ≤ j := fun j => cnt_le _ j
  have hx : ∀ l5 : Option Value, am_W X (d + 3) 265 7 [some (.ref 47), some (.int (nI w)), some (.int 0), some (.int (nI (mN K l w 0))), some (.int 0), l5] [] (n, sl, t, I, J, F) Q ↔ Q (some (.int (meanV K l w))) (n, sl, t, I, J, F) := by
    refine lp0 (A := fun k => ∀ l5 : Option Value, am_W X (d + 3) 265 7 [some (.ref 47), some (.int (nI w)), some (.int (nI (mR K l w k))), some (.int (nI (mN K l w k))), some (.int (nI k)), l5] [] (n, sl, t, I, J, F) Q ↔ Q (some (.int (meanV K l w))) (n, sl, t, I, J, F)) (N := l.length) ?_ ?_
    · intro k hk ih l5
      obtain ⟨k1, k2⟩ := h3 k hk
      have z1 : k < 2000000 ∧ l.length < 2000000 ∧ k < 120 ∧ w < 2000000 := by omega
      have z2 : ¬ l.length ≤ k := by omega
      have e0 : mR K l w (k + 1) = mR K l w k + (if fFo K (l.getD k 0) = true then vth K (l.getD k 0) else if w = 2 then 999 else 0) := rfl
      have e5 : mC K l (k + 1) = mC K l k + (if fFo K (l.getD k 0) = true then 1 else 0) := rfl
      rw [r265_7]
      by_cases hb : fFo K (l.getD k 0) = true
      · have e3 := vth_f hK k2 hb
        have e4 : mN K l w (k + 1) = mN K l w k + 1 := by
          unfold mN
          rw [e5, if_pos hb]
          split <;> rfl
        rw [e0, if_pos hb, e4] at ih
        simp only [↓r265_9, ↓r265_10, ↓r265_13, ↓r265_16, ↓r265_17, ↓r265_18, ↓r265_21, ↓r265_23, ↓r265_23k, ↓r265_24, ↓r265_27, ↓r265_29, ↓r265_31, ↓r265_34, ↓r265_35, ↓r265_38, ↓r265_41, ↓r265_42, ↓r265_44, ↓r265_47, ↓r265_48, ↓r265_49, ↓r265_52, ↓r265_54, ↓r265_54k, ↓r265_55, ↓r265_58, ↓r265_61, ↓r265_62, ↓r265_63, ↓r265_66, ↓r265_67, ↓r265_70, ↓r265_73, ↓r265_74, ↓r265_75, ↓r265_78, ↓r265_81, ↓k_at (K := K) (N := N), ↓k_isTried (K := K) (N := N), ↓k_side (K := K) (N := N), ↓k_thing (K := K) (N := N), ↓k_isFound (K := K) (N := N), ↓m_factOf (K := K) (N := N), ↓m_isTried (K := K) (N := N), ↓m_took (K := K) (N := N), ↓m_waited (K := K) (N := N), ↓m_isLong (K := K) (N := N), ↓m_isShort (K := K) (N := N), ↓m_thingOf (K := K) (N := N), ↓m_isFound (K := K) (N := N), ↓m_many (K := K) (N := N), ↓c_within, ↓s_lies, hCK, b01, b11, q_le, q_lt, q_eq, q_e0, q_e1, q_0e, q_1e, ps_n0, q_0le, q_le0, q_0lt, q_m1e, q_em1, h1, k1, k2, e3, hb, z1, z2, if_true, Bool.false_eq_true, hn, hn2, ht, hF, am_wt, am_wf, Option.isSome_some, am_rf_s, am_rf_n, ps_lit, nI_add, nI_1, pk_mul, ps_cl, ps_neg, ps_c0, ps_c1, ps_n01, ps_n11, ps_10, ps_b01, ps_e0, pu_Ine, pu_Ieq, pu_ne, pu_eq, am_k_n, am_k_i, am_k_r, am_k_u, am_k_l, am_sz_0, am_sz_i, am_sz_r, am_sz_u, am_sz_l, Option.toList_some, Option.toList_none, List.cons_append, List.nil_append, true_and, and_true, or_false, false_or, or_self, or_true, true_or, not_false_eq_true, not_true_eq_false, Classical.not_not, ne_eq, ps_e1, ps_em, ps_z, Nat.not_le, false_implies, true_implies, forall_const, ps_01, ps_1n, ps_0n, ps_m10, ps_m1n, lg_cmp_gt, lg_cmp_ge, lg_cmp_le, lg_cmp_lt, lg_cmp_eq, pu_rne, pu_req, pu_uro, RFc_n, Nat.reduceAdd, Nat.reduceMul, Nat.reduceLT, Nat.reduceLeDiff, Nat.reduceEqDiff, Nat.reduceSub]
        exact ih _
      · by_cases w0 : w = 0
        · have e4 : mN K l w (k + 1) = mN K l w k := by
            unfold mN
            rw [e5, if_neg hb, if_pos w0, if_pos w0, Nat.add_zero]
          rw [e0, if_neg hb, if_neg (by omega), e4, Nat.add_zero] at ih
          simp only [↓r265_9, ↓r265_10, ↓r265_13, ↓r265_16, ↓r265_17, ↓r265_18, ↓r265_21, ↓r265_23, ↓r265_23k, ↓r265_24, ↓r265_27, ↓r265_29, ↓r265_31, ↓r265_34, ↓r265_35, ↓r265_38, ↓r265_41, ↓r265_42, ↓r265_44, ↓r265_47, ↓r265_48, ↓r265_49, ↓r265_52, ↓r265_54, ↓r265_54k, ↓r265_55, ↓r265_58, ↓r265_61, ↓r265_62, ↓r265_63, ↓r265_66, ↓r265_67, ↓r265_70, ↓r265_73, ↓r265_74, ↓r265_75, ↓r265_78, ↓r265_81, ↓k_at (K := K) (N := N), ↓k_isTried (K := K) (N := N), ↓k_side (K := K) (N := N), ↓k_thing (K := K) (N := N), ↓k_isFound (K := K) (N := N), ↓m_factOf (K := K) (N := N), ↓m_isTried (K := K) (N := N), ↓m_took (K := K) (N := N), ↓m_waited (K := K) (N := N), ↓m_isLong (K := K) (N := N), ↓m_isShort (K := K) (N := N), ↓m_thingOf (K := K) (N := N), ↓m_isFound (K := K) (N := N), ↓m_many (K := K) (N := N), ↓c_within, ↓s_lies, hCK, b01, b11, q_le, q_lt, q_eq, q_e0, q_e1, q_0e, q_1e, ps_n0, q_0le, q_le0, q_0lt, q_m1e, q_em1, h1, k1, k2, hb, z1, z2, (show (w = 0) = True from eq_true w0), if_false, Bool.false_eq_true, hn, hn2, ht, hF, am_wt, am_wf, Option.isSome_some, am_rf_s, am_rf_n, ps_lit, nI_add, nI_1, pk_mul, ps_cl, ps_neg, ps_c0, ps_c1, ps_n01, ps_n11, ps_10, ps_b01, ps_e0, pu_Ine, pu_Ieq, pu_ne, pu_eq, am_k_n, am_k_i, am_k_r, am_k_u, am_k_l, am_sz_0, am_sz_i, am_sz_r, am_sz_u, am_sz_l, Option.toList_some, Option.toList_none, List.cons_append, List.nil_append, true_and, and_true, or_false, false_or, or_self, or_true, true_or, not_false_eq_true, not_true_eq_false, Classical.not_not, ne_eq, ps_e1, ps_em, ps_z, Nat.not_le, false_implies, true_implies, forall_const, ps_01, ps_1n, ps_0n, ps_m10, ps_m1n, lg_cmp_gt, lg_cmp_ge, lg_cmp_le, lg_cmp_lt, lg_cmp_eq, pu_rne, pu_req, pu_uro, RFc_n, Nat.reduceAdd, Nat.reduceMul, Nat.reduceLT, Nat.reduceLeDiff, Nat.reduceEqDiff, Nat.reduceSub]
          exact ih _
        · have e4 : mN K l w (k + 1) = mN K l w k + 1 := by
            unfold mN
            rw [if_neg w0, if_neg w0]
          by_cases w1 : w = 1
          · rw [e0, if_neg hb, if_neg (by omega), e4, Nat.add_zero] at ih
            simp only [↓r265_9, ↓r265_10, ↓r265_13, ↓r265_16, ↓r265_17, ↓r265_18, ↓r265_21, ↓r265_23, ↓r265_23k, ↓r265_24, ↓r265_27, ↓r265_29, ↓r265_31, ↓r265_34, ↓r265_35, ↓r265_38, ↓r265_41, ↓r265_42, ↓r265_44, ↓r265_47, ↓r265_48, ↓r265_49, ↓r265_52, ↓r265_54, ↓r265_54k, ↓r265_55, ↓r265_58, ↓r265_61, ↓r265_62, ↓r265_63, ↓r265_66, ↓r265_67, ↓r265_70, ↓r265_73, ↓r265_74, ↓r265_75, ↓r265_78, ↓r265_81, ↓k_at (K := K) (N := N), ↓k_isTried (K := K) (N := N), ↓k_side (K := K) (N := N), ↓k_thing (K := K) (N := N), ↓k_isFound (K := K) (N := N), ↓m_factOf (K := K) (N := N), ↓m_isTried (K := K) (N := N), ↓m_took (K := K) (N := N), ↓m_waited (K := K) (N := N), ↓m_isLong (K := K) (N := N), ↓m_isShort (K := K) (N := N), ↓m_thingOf (K := K) (N := N), ↓m_isFound (K := K) (N := N), ↓m_many (K := K) (N := N), ↓c_within, ↓s_lies, hCK, b01, b11, q_le, q_lt, q_eq, q_e0, q_e1, q_0e, q_1e, ps_n0, q_0le, q_le0, q_0lt, q_m1e, q_em1, h1, k1, k2, hb, z1, z2, w0, (show (w = 1) = True from eq_true w1), if_false, Int32.add_zero, Bool.false_eq_true, hn, hn2, ht, hF, am_wt, am_wf, Option.isSome_some, am_rf_s, am_rf_n, ps_lit, nI_add, nI_1, pk_mul, ps_cl, ps_neg, ps_c0, ps_c1, ps_n01, ps_n11, ps_10, ps_b01, ps_e0, pu_Ine, pu_Ieq, pu_ne, pu_eq, am_k_n, am_k_i, am_k_r, am_k_u, am_k_l, am_sz_0, am_sz_i, am_sz_r, am_sz_u, am_sz_l, Option.toList_some, Option.toList_none, List.cons_append, List.nil_append, true_and, and_true, or_false, false_or, or_self, or_true, true_or, not_false_eq_true, not_true_eq_false, Classical.not_not, ne_eq, ps_e1, ps_em, ps_z, Nat.not_le, false_implies, true_implies, forall_const, ps_01, ps_1n, ps_0n, ps_m10, ps_m1n, lg_cmp_gt, lg_cmp_ge, lg_cmp_le, lg_cmp_lt, lg_cmp_eq, pu_rne, pu_req, pu_uro, RFc_n, Nat.reduceAdd, Nat.reduceMul, Nat.reduceLT, Nat.reduceLeDiff, Nat.reduceEqDiff, Nat.reduceSub]
            exact ih _
          · rw [e0, if_neg hb, if_pos (by omega), e4] at ih
            simp only [↓r265_9, ↓r265_10, ↓r265_13, ↓r265_16, ↓r265_17, ↓r265_18, ↓r265_21, ↓r265_23, ↓r265_23k, ↓r265_24, ↓r265_27, ↓r265_29, ↓r265_31, ↓r265_34, ↓r265_35, ↓r265_38, ↓r265_41, ↓r265_42, ↓r265_44, ↓r265_47, ↓r265_48, ↓r265_49, ↓r265_52, ↓r265_54, ↓r265_54k, ↓r265_55, ↓r265_58, ↓r265_61, ↓r265_62, ↓r265_63, ↓r265_66, ↓r265_67, ↓r265_70, ↓r265_73, ↓r265_74, ↓r265_75, ↓r265_78, ↓r265_81, ↓k_at (K := K) (N := N), ↓k_isTried (K := K) (N := N), ↓k_side (K := K) (N := N), ↓k_thing (K := K) (N := N), ↓k_isFound (K := K) (N := N), ↓m_factOf (K := K) (N := N), ↓m_isTried (K := K) (N := N), ↓m_took (K := K) (N := N), ↓m_waited (K := K) (N := N), ↓m_isLong (K := K) (N := N), ↓m_isShort (K := K) (N := N), ↓m_thingOf (K := K) (N := N), ↓m_isFound (K := K) (N := N), ↓m_many (K := K) (N := N), ↓c_within, ↓s_lies, hCK, b01, b11, q_le, q_lt, q_eq, q_e0, q_e1, q_0e, q_1e, ps_n0, q_0le, q_le0, q_0lt, q_m1e, q_em1, h1, k1, k2, hb, z1, z2, w0, w1, if_false, Bool.false_eq_true, hn, hn2, ht, hF, am_wt, am_wf, Option.isSome_some, am_rf_s, am_rf_n, ps_lit, nI_add, nI_1, pk_mul, ps_cl, ps_neg, ps_c0, ps_c1, ps_n01, ps_n11, ps_10, ps_b01, ps_e0, pu_Ine, pu_Ieq, pu_ne, pu_eq, am_k_n, am_k_i, am_k_r, am_k_u, am_k_l, am_sz_0, am_sz_i, am_sz_r, am_sz_u, am_sz_l, Option.toList_some, Option.toList_none, List.cons_append, List.nil_append, true_and, and_true, or_false, false_or, or_self, or_true, true_or, not_false_eq_true, not_true_eq_false, Classical.not_not, ne_eq, ps_e1, ps_em, ps_z, Nat.not_le, false_implies, true_implies, forall_const, ps_01, ps_1n, ps_0n, ps_m10, ps_m1n, lg_cmp_gt, lg_cmp_ge, lg_cmp_le, lg_cmp_lt, lg_cmp_eq, pu_rne, pu_req, pu_uro, RFc_n, Nat.reduceAdd, Nat.reduceMul, Nat.reduceLT, Nat.reduceLeDiff, Nat.reduceEqDiff, Nat.reduceSub]
            exact ih _
    · intro l5
      have y2 := b2 l.length
      have z1 : l.length < 2000000 ∧ mN K l w l.length < 2000000 := by
        refine ⟨by omega, ?_⟩
        unfold mN
        split <;> omega
      rw [r265_7]
      have e1 := mR_e (K := K) l w l.length
      by_cases q : mN K l w l.length = 0
      · have q2 : meanV K l w = -1 := by
          unfold meanV
          unfold mN at q
          rw [if_pos q]
        simp only [↓r265_9, ↓r265_10, ↓r265_13, ↓r265_16, ↓r265_17, ↓r265_18, ↓r265_21, ↓r265_23, ↓r265_23k, ↓r265_24, ↓r265_27, ↓r265_29, ↓r265_31, ↓r265_34, ↓r265_35, ↓r265_38, ↓r265_41, ↓r265_42, ↓r265_44, ↓r265_47, ↓r265_48, ↓r265_49, ↓r265_52, ↓r265_54, ↓r265_54k, ↓r265_55, ↓r265_58, ↓r265_61, ↓r265_62, ↓r265_63, ↓r265_66, ↓r265_67, ↓r265_70, ↓r265_73, ↓r265_74, ↓r265_75, ↓r265_78, ↓r265_81, ↓r265_84, ↓r265_85, ↓r265_88, ↓r265_89, ↓r265_92, ↓r265_93, ↓r265_95, ↓r265_96, ↓r265_97, ↓r265_98, q_le, q_lt, q_eq, q_e0, q_e1, q_0e, q_1e, ps_n0, q_0le, q_le0, q_0lt, q_m1e, q_em1, h1, q, q2, z1, Int32.le_refl, Nat.le_refl, Bool.false_eq_true, hn, hn2, ht, hF, am_wt, am_wf, Option.isSome_some, am_rf_s, am_rf_n, ps_lit, nI_add, nI_1, pk_mul, ps_cl, ps_neg, ps_c0, ps_c1, ps_n01, ps_n11, ps_10, ps_b01, ps_e0, pu_Ine, pu_Ieq, pu_ne, pu_eq, am_k_n, am_k_i, am_k_r, am_k_u, am_k_l, am_sz_0, am_sz_i, am_sz_r, am_sz_u, am_sz_l, Option.toList_some, Option.toList_none, List.cons_append, List.nil_append, true_and, and_true, or_false, false_or, or_self, or_true, true_or, not_false_eq_true, not_true_eq_false, Classical.not_not, ne_eq, ps_e1, ps_em, ps_z, Nat.not_le, false_implies, true_implies, forall_const, ps_01, ps_1n, ps_0n, ps_m10, ps_m1n, lg_cmp_gt, lg_cmp_ge, lg_cmp_le, lg_cmp_lt, lg_cmp_eq, pu_rne, pu_req, pu_uro, RFc_n, Nat.reduceAdd, Nat.reduceMul, Nat.reduceLT, Nat.reduceLeDiff, Nat.reduceEqDiff, Nat.reduceSub]
      · have q2 : meanV K l w = nI (mR K l w l.length * 100) / nI (mN K l w l.length) := by
          unfold meanV
          rw [e1]
          unfold mN at q ⊢
          rw [if_neg q]
        simp only [↓r265_9, ↓r265_10, ↓r265_13, ↓r265_16, ↓r265_17, ↓r265_18, ↓r265_21, ↓r265_23, ↓r265_23k, ↓r265_24, ↓r265_27, ↓r265_29, ↓r265_31, ↓r265_34, ↓r265_35, ↓r265_38, ↓r265_41, ↓r265_42, ↓r265_44, ↓r265_47, ↓r265_48, ↓r265_49, ↓r265_52, ↓r265_54, ↓r265_54k, ↓r265_55, ↓r265_58, ↓r265_61, ↓r265_62, ↓r265_63, ↓r265_66, ↓r265_67, ↓r265_70, ↓r265_73, ↓r265_74, ↓r265_75, ↓r265_78, ↓r265_81, ↓r265_84, ↓r265_85, ↓r265_88, ↓r265_89, ↓r265_92, ↓r265_93, ↓r265_95, ↓r265_96, ↓r265_97, ↓r265_98, q_le, q_lt, q_eq, q_e0, q_e1, q_0e, q_1e, ps_n0, q_0le, q_le0, q_0lt, q_m1e, q_em1, h1, q, q2, z1, Int32.le_refl, Nat.le_refl, Bool.false_eq_true, hn, hn2, ht, hF, am_wt, am_wf, Option.isSome_some, am_rf_s, am_rf_n, ps_lit, nI_add, nI_1, pk_mul, ps_cl, ps_neg, ps_c0, ps_c1, ps_n01, ps_n11, ps_10, ps_b01, ps_e0, pu_Ine, pu_Ieq, pu_ne, pu_eq, am_k_n, am_k_i, am_k_r, am_k_u, am_k_l, am_sz_0, am_sz_i, am_sz_r, am_sz_u, am_sz_l, Option.toList_some, Option.toList_none, List.cons_append, List.nil_append, true_and, and_true, or_false, false_or, or_self, or_true, true_or, not_false_eq_true, not_true_eq_false, Classical.not_not, ne_eq, ps_e1, ps_em, ps_z, Nat.not_le, false_implies, true_implies, forall_const, ps_01, ps_1n, ps_0n, ps_m10, ps_m1n, lg_cmp_gt, lg_cmp_ge, lg_cmp_le, lg_cmp_lt, lg_cmp_eq, pu_rne, pu_req, pu_uro, RFc_n, Nat.reduceAdd, Nat.reduceMul, Nat.reduceLT, Nat.reduceLeDiff, Nat.reduceEqDiff, Nat.reduceSub]
  have e0 : mN K l w 0 = 0 := by
    unfold mN
    split <;> rfl
  rw [← hx none, e0]
  simp only [↓r265_0, ↓r265_1, ↓r265_2, ↓r265_3, ↓r265_4, ↓r265_5, am_k_i]
  try exact Iff.rfl
theorem pr_bounds {x w : Int32} {i : Nat} (hX : XS X) (hi : i < 600) (hV : Inv i (n, sl, t, I, J, F)) : PR X i 116 264 [some (.ref 0), some (.int x), some (.int w)] [some (.ref 47), some (.int x), some (.int w)] (n, sl, t, I, J, F) := by
  obtain ⟨N, T, lw, hC⟩ := CX_of hV; obtain ⟨hW, hK, _, ⟨hs, hc, hr, hu, hm⟩, hl⟩ := id hC; have hN := hK.1; obtain ⟨hn, hn2, ht, hF⟩ := id hW
  by_cases hx : isG T x
  · by_cases hw : 0 ≤ w ∧ w ≤ nI 2
    · obtain ⟨w', hw', rfl⟩ := ps_rng (by decide) hw
      refine PR_ask (v := meanV (I 49) (grp (inG (I 49) lw x) N) w') hi hV ?_ ?_
      · intro Q hQ
        simp only [↓r116_0, ↓r116_1, ↓r116_2, ↓r116_3, ↓r116_6, ↓r116_9, ↓r116_10, ↓r116_11, ↓r116_14, ↓r116_15, ↓c_within, hw, and_self, if_true, Bool.false_eq_true, hn, hn2, ht, hF, am_wt, am_wf, Option.isSome_some, am_rf_s, am_rf_n, ps_lit, nI_add, nI_1, pk_mul, ps_cl, ps_neg, ps_c0, ps_c1, ps_n01, ps_n11, ps_10, ps_b01, ps_e0, pu_Ine, pu_Ieq, pu_ne, pu_eq, am_k_n, am_k_i, am_k_r, am_k_u, am_k_l, am_sz_0, am_sz_i, am_sz_r, am_sz_u, am_sz_l, Option.toList_some, Option.toList_none, List.cons_append, List.nil_append, true_and, and_true, or_false, false_or, or_self, or_true, true_or, not_false_eq_true, not_true_eq_false, Classical.not_not, ne_eq, ps_e1, ps_em, ps_z, Nat.not_le, false_implies, true_implies, forall_const, ps_01, ps_1n, ps_0n, ps_m10, ps_m1n, lg_cmp_gt, lg_cmp_ge, lg_cmp_le, lg_cmp_lt, lg_cmp_eq, pu_rne, pu_req, pu_uro, RFc_n, Nat.reduceAdd, Nat.reduceMul, Nat.reduceLT, Nat.reduceLeDiff, Nat.reduceEqDiff, Nat.reduceSub]
        refine c_gather (Or.inl rfl) hC hx (fun f13 f14 => ?_)
        have e := fun Q => cl_mean (X := X) (d := 56) (Q := Q) (sl := sl) (J := J) (l := grp (inG (I 49) lw x) N) hw' (Or.inl rfl) (CK_of (CX_sc hC (SC_gather (f13 := f13) (f14 := f14) (l := grp (inG (I 49) lw x) N) (Or.inl rfl)) (fun _ _ _ => rfl))) (GH_c (l := []) hN)
        simp only [↓r116_18, ↓r116_21, ↓r116_22, ↓r116_23, ↓r116_24, ↓r116_25, ↓r116_28, ↓r116_29, ↓r116_32, ↓e, Bool.false_eq_true, hn, hn2, ht, hF, am_wt, am_wf, Option.isSome_some, am_rf_s, am_rf_n, ps_lit, nI_add, nI_1, pk_mul, ps_cl, ps_neg, ps_c0, ps_c1, ps_n01, ps_n11, ps_10, ps_b01, ps_e0, pu_Ine, pu_Ieq, pu_ne, pu_eq, am_k_n, am_k_i, am_k_r, am_k_u, am_k_l, am_sz_0, am_sz_i, am_sz_r, am_sz_u, am_sz_l, Option.toList_some, Option.toList_none, List.cons_append, List.nil_append, true_and, and_true, or_false, false_or, or_self, or_true, true_or, not_false_eq_true, not_true_eq_false, Classical.not_not, ne_eq, ps_e1, ps_em, ps_z, Nat.not_le, false_implies, true_implies, forall_const, ps_01, ps_1n, ps_0n, ps_m10, ps_m1n, lg_cmp_gt, lg_cmp_ge, lg_cmp_le, lg_cmp_lt, lg_cmp_eq, pu_rne, pu_req, pu_uro, RFc_n, Nat.reduceAdd, Nat.reduceMul, Nat.reduceLT, Nat.reduceLeDiff, Nat.reduceEqDiff, Nat.reduceSub]
        exact hQ _ ⟨rfl, rfl, rfl, SC_gather (Or.inl rfl), fun _ _ _ => rfl⟩
      · rintro ⟨n', sl', t', I', J', F'⟩ ⟨e1, e2, e3, e4, e5⟩; dsimp only at e1 e2 e3 e4 e5; subst e1; subst e2; subst e3; have hC' := CX_sc hC e4 e5; obtain ⟨hn, hn2, ht, hF⟩ := id hC'.1; intro Q hQ
        simp only [↓r264_0, ↓r264_1, ↓r264_2, ↓r264_5, ↓r264_8, ↓r264_9, ↓r264_10, ↓r264_11, ↓r264_14, ↓r264_17, ↓r264_18, ↓r264_19, ↓r264_20, ↓r264_21, ↓m_isGroup1 hC' hx, ↓s_lies, hw, and_self, if_true, Bool.false_eq_true, hn, hn2, ht, hF, am_wt, am_wf, Option.isSome_some, am_rf_s, am_rf_n, ps_lit, nI_add, nI_1, pk_mul, ps_cl, ps_neg, ps_c0, ps_c1, ps_n01, ps_n11, ps_10, ps_b01, ps_e0, pu_Ine, pu_Ieq, pu_ne, pu_eq, am_k_n, am_k_i, am_k_r, am_k_u, am_k_l, am_sz_0, am_sz_i, am_sz_r, am_sz_u, am_sz_l, Option.toList_some, Option.toList_none, List.cons_append, List.nil_append, true_and, and_true, or_false, false_or, or_self, or_true, true_or, not_false_eq_true, not_true_eq_false, Classical.not_not, ne_eq, ps_e1, ps_em, ps_z, Nat.not_le, false_implies, true_implies, forall_const, ps_01, ps_1n, ps_0n, ps_m10, ps_m1n, lg_cmp_gt, lg_cmp_ge, lg_cmp_le, lg_cmp_lt, lg_cmp_eq, pu_rne, pu_req, pu_uro, RFc_n, Nat.reduceAdd, Nat.reduceMul, Nat.reduceLT, Nat.reduceLeDiff, Nat.reduceEqDiff, Nat.reduceSub]
        refine s_gathers hC' hx (fun f47 f58 g47 q1 q2 => ?_)
        have e := fun Q => ml_mean (X := X) (d := 55) (Q := Q) (sl := sl') (J := am_ro J' 47 g47) (l := grp (inG (I 49) lw x) N) hw' (CK_of (CX_sc hC' (SC_gathers (f58 := f58) (r := ro_g (I' 59) (grp (inG (I 49) lw x) N)) q1) (fun _ _ _ => rfl))) (GH_m hN q2)
        simp only [↓r264_24, ↓r264_25, ↓r264_26, ↓r264_29, ↓e, Bool.false_eq_true, hn, hn2, ht, hF, am_wt, am_wf, Option.isSome_some, am_rf_s, am_rf_n, ps_lit, nI_add, nI_1, pk_mul, ps_cl, ps_neg, ps_c0, ps_c1, ps_n01, ps_n11, ps_10, ps_b01, ps_e0, pu_Ine, pu_Ieq, pu_ne, pu_eq, am_k_n, am_k_i, am_k_r, am_k_u, am_k_l, am_sz_0, am_sz_i, am_sz_r, am_sz_u, am_sz_l, Option.toList_some, Option.toList_none, List.cons_append, List.nil_append, true_and, and_true, or_false, false_or, or_self, or_true, true_or, not_false_eq_true, not_true_eq_false, Classical.not_not, ne_eq, ps_e1, ps_em, ps_z, Nat.not_le, false_implies, true_implies, forall_const, ps_01, ps_1n, ps_0n, ps_m10, ps_m1n, lg_cmp_gt, lg_cmp_ge, lg_cmp_le, lg_cmp_lt, lg_cmp_eq, pu_rne, pu_req, pu_uro, RFc_n, Nat.reduceAdd, Nat.reduceMul, Nat.reduceLT, Nat.reduceLeDiff, Nat.reduceEqDiff, Nat.reduceSub]
        exact hQ _ ⟨rfl, rfl, rfl, SC_gathers q1, fun _ _ _ => rfl⟩
    · refine PR_ask (v := -1) hi hV ?_ ?_
      · intro Q hQ
        simp only [↓r116_0, ↓r116_1, ↓r116_2, ↓r116_3, ↓r116_6, ↓r116_9, ↓r116_10, ↓r116_11, ↓r116_14, ↓r116_15, ↓r116_18, ↓r116_21, ↓r116_22, ↓c_within, hw, if_false, Bool.false_eq_true, hn, hn2, ht, hF, am_wt, am_wf, Option.isSome_some, am_rf_s, am_rf_n, ps_lit, nI_add, nI_1, pk_mul, ps_cl, ps_neg, ps_c0, ps_c1, ps_n01, ps_n11, ps_10, ps_b01, ps_e0, pu_Ine, pu_Ieq, pu_ne, pu_eq, am_k_n, am_k_i, am_k_r, am_k_u, am_k_l, am_sz_0, am_sz_i, am_sz_r, am_sz_u, am_sz_l, Option.toList_some, Option.toList_none, List.cons_append, List.nil_append, true_and, and_true, or_false, false_or, or_self, or_true, true_or, not_false_eq_true, not_true_eq_false, Classical.not_not, ne_eq, ps_e1, ps_em, ps_z, Nat.not_le, false_implies, true_implies, forall_const, ps_01, ps_1n, ps_0n, ps_m10, ps_m1n, lg_cmp_gt, lg_cmp_ge, lg_cmp_le, lg_cmp_lt, lg_cmp_eq, pu_rne, pu_req, pu_uro, RFc_n, Nat.reduceAdd, Nat.reduceMul, Nat.reduceLT, Nat.reduceLeDiff, Nat.reduceEqDiff, Nat.reduceSub]
        exact hQ _ SCH_r
      · rintro ⟨n', sl', t', I', J', F'⟩ ⟨e1, e2, e3, e4, e5⟩; dsimp only at e1 e2 e3 e4 e5; subst e1; subst e2; subst e3; have hC' := CX_sc hC e4 e5; obtain ⟨hn, hn2, ht, hF⟩ := id hC'.1; intro Q hQ
        simp only [↓r264_0, ↓r264_1, ↓r264_2, ↓r264_5, ↓r264_8, ↓r264_9, ↓r264_10, ↓r264_11, ↓r264_14, ↓r264_17, ↓r264_18, ↓r264_19, ↓r264_20, ↓r264_21, ↓m_isGroup1 hC' hx, ↓s_lies, hw, if_false, Bool.false_eq_true, hn, hn2, ht, hF, am_wt, am_wf, Option.isSome_some, am_rf_s, am_rf_n, ps_lit, nI_add, nI_1, pk_mul, ps_cl, ps_neg, ps_c0, ps_c1, ps_n01, ps_n11, ps_10, ps_b01, ps_e0, pu_Ine, pu_Ieq, pu_ne, pu_eq, am_k_n, am_k_i, am_k_r, am_k_u, am_k_l, am_sz_0, am_sz_i, am_sz_r, am_sz_u, am_sz_l, Option.toList_some, Option.toList_none, List.cons_append, List.nil_append, true_and, and_true, or_false, false_or, or_self, or_true, true_or, not_false_eq_true, not_true_eq_false, Classical.not_not, ne_eq, ps_e1, ps_em, ps_z, Nat.not_le, false_implies, true_implies, forall_const, ps_01, ps_1n, ps_0n, ps_m10, ps_m1n, lg_cmp_gt, lg_cmp_ge, lg_cmp_le, lg_cmp_lt, lg_cmp_eq, pu_rne, pu_req, pu_uro, RFc_n, Nat.reduceAdd, Nat.reduceMul, Nat.reduceLT, Nat.reduceLeDiff, Nat.reduceEqDiff, Nat.reduceSub]
        exact hQ _ SCH_r
  · refine PR_ask (v := -1) hi hV ?_ ?_
    · intro Q hQ
      by_cases hw : 0 ≤ w ∧ w ≤ nI 2
      · simp only [↓r116_0, ↓r116_1, ↓r116_2, ↓r116_3, ↓r116_6, ↓r116_9, ↓r116_10, ↓r116_11, ↓r116_14, ↓r116_15, ↓r116_18, ↓r116_21, ↓r116_22, ↓c_within, ↓c_gather0 hC hx, hw, and_self, if_true, Bool.false_eq_true, hn, hn2, ht, hF, am_wt, am_wf, Option.isSome_some, am_rf_s, am_rf_n, ps_lit, nI_add, nI_1, pk_mul, ps_cl, ps_neg, ps_c0, ps_c1, ps_n01, ps_n11, ps_10, ps_b01, ps_e0, pu_Ine, pu_Ieq, pu_ne, pu_eq, am_k_n, am_k_i, am_k_r, am_k_u, am_k_l, am_sz_0, am_sz_i, am_sz_r, am_sz_u, am_sz_l, Option.toList_some, Option.toList_none, List.cons_append, List.nil_append, true_and, and_true, or_false, false_or, or_self, or_true, true_or, not_false_eq_true, not_true_eq_false, Classical.not_not, ne_eq, ps_e1, ps_em, ps_z, Nat.not_le, false_implies, true_implies, forall_const, ps_01, ps_1n, ps_0n, ps_m10, ps_m1n, lg_cmp_gt, lg_cmp_ge, lg_cmp_le, lg_cmp_lt, lg_cmp_eq, pu_rne, pu_req, pu_uro, RFc_n, Nat.reduceAdd, Nat.reduceMul, Nat.reduceLT, Nat.reduceLeDiff, Nat.reduceEqDiff, Nat.reduceSub]
        exact hQ _ SCH_r
      · simp only [↓r116_0, ↓r116_1, ↓r116_2, ↓r116_3, ↓r116_6, ↓r116_9, ↓r116_10, ↓r116_11, ↓r116_14, ↓r116_15, ↓r116_18, ↓r116_21, ↓r116_22, ↓c_within, hw, if_false, Bool.false_eq_true, hn, hn2, ht, hF, am_wt, am_wf, Option.isSome_some, am_rf_s, am_rf_n, ps_lit, nI_add, nI_1, pk_mul, ps_cl, ps_neg, ps_c0, ps_c1, ps_n01, ps_n11, ps_10, ps_b01, ps_e0, pu_Ine, pu_Ieq, pu_ne, pu_eq, am_k_n, am_k_i, am_k_r, am_k_u, am_k_l, am_sz_0, am_sz_i, am_sz_r, am_sz_u, am_sz_l, Option.toList_some, Option.toList_none, List.cons_append, List.nil_append, true_and, and_true, or_false, false_or, or_self, or_true, true_or, not_false_eq_true, not_true_eq_false, Classical.not_not, ne_eq, ps_e1, ps_em, ps_z, Nat.not_le, false_implies, true_implies, forall_const, ps_01, ps_1n, ps_0n, ps_m10, ps_m1n, lg_cmp_gt, lg_cmp_ge, lg_cmp_le, lg_cmp_lt, lg_cmp_eq, pu_rne, pu_req, pu_uro, RFc_n, Nat.reduceAdd, Nat.reduceMul, Nat.reduceLT, Nat.reduceLeDiff, Nat.reduceEqDiff, Nat.reduceSub]
        exact hQ _ SCH_r
    · rintro ⟨n', sl', t', I', J', F'⟩ ⟨e1, e2, e3, e4, e5⟩; dsimp only at e1 e2 e3 e4 e5; subst e1; subst e2; subst e3; have hC' := CX_sc hC e4 e5; obtain ⟨hn, hn2, ht, hF⟩ := id hC'.1; intro Q hQ
      simp only [↓r264_0, ↓r264_1, ↓r264_2, ↓r264_5, ↓r264_8, ↓r264_9, ↓r264_10, ↓r264_11, ↓r264_14, ↓r264_17, ↓r264_18, ↓r264_19, ↓r264_20, ↓r264_21, ↓m_isGroup0 hC' hx, Bool.false_eq_true, hn, hn2, ht, hF, am_wt, am_wf, Option.isSome_some, am_rf_s, am_rf_n, ps_lit, nI_add, nI_1, pk_mul, ps_cl, ps_neg, ps_c0, ps_c1, ps_n01, ps_n11, ps_10, ps_b01, ps_e0, pu_Ine, pu_Ieq, pu_ne, pu_eq, am_k_n, am_k_i, am_k_r, am_k_u, am_k_l, am_sz_0, am_sz_i, am_sz_r, am_sz_u, am_sz_l, Option.toList_some, Option.toList_none, List.cons_append, List.nil_append, true_and, and_true, or_false, false_or, or_self, or_true, true_or, not_false_eq_true, not_true_eq_false, Classical.not_not, ne_eq, ps_e1, ps_em, ps_z, Nat.not_le, false_implies, true_implies, forall_const, ps_01, ps_1n, ps_0n, ps_m10, ps_m1n, lg_cmp_gt, lg_cmp_ge, lg_cmp_le, lg_cmp_lt, lg_cmp_eq, pu_rne, pu_req, pu_uro, RFc_n, Nat.reduceAdd, Nat.reduceMul, Nat.reduceLT, Nat.reduceLeDiff, Nat.reduceEqDiff, Nat.reduceSub]
      exact hQ _ SCH_r
end ME2
