/-! calls, one on each side: likely -/
section LK
variable {X : am_X} {d : Nat} {Q : Option Value → am_H → Prop} {n sl : Nat} {t : Nat → Nat × Nat} {I : Nat → Nat → Int32} {J : Nat → Nat → Int64} {F : Nat → Nat → Option Nat} {h : am_H}
variable {K : Nat → Int32} {N T : Nat} {lw : Nat → List CL}
/-- the first of the most likely -/
def lkb (p : Nat → Nat) : Nat → Nat
  | 0 => 0
  | i + 1 => if p (lkb p i) < p (i + 1) then i + 1 else lkb p i
theorem lkb_le (p : Nat → Nat) : ∀ i, lkb p i ≤ i := by
  intro i
  induction i with
  | zero => exact Nat.le_refl 0
  | succ i ih =>
    rw [lkb]
    split <;> omega
theorem c_putBelow (hW : WS n t F) : am_W X d 107 0 [some (.ref 19)] [] (n, sl, t, I, J, F) Q ↔ Q none (n, sl, t, am_ro I 23 (va_cpy (I 22) (I 23) 0 0 100), J, F) := by
  obtain ⟨hn, hn2, ht, hF⟩ := id hW
  have z : ¬ nI 100 < 0 := by decide
  simp only [↓r107_0, ↓r107_1, ↓r107_4, ↓r107_5, ↓r107_6, ↓r107_9, ↓r107_10, ↓r107_12, ↓r107_15, z, ps_cl, Bool.false_eq_true, hn, hn2, ht, hF, am_wt, am_wf, Option.isSome_some, am_rf_s, am_rf_n, ps_lit, nI_add, nI_1, pk_mul, ps_cl, ps_neg, ps_c0, ps_c1, ps_n01, ps_n11, ps_10, ps_b01, ps_e0, pu_Ine, pu_Ieq, pu_ne, pu_eq, am_k_n, am_k_i, am_k_r, am_k_u, am_k_l, am_sz_0, am_sz_i, am_sz_r, am_sz_u, am_sz_l, Option.toList_some, Option.toList_none, List.cons_append, List.nil_append, true_and, and_true, or_false, false_or, or_self, or_true, true_or, not_false_eq_true, not_true_eq_false, Classical.not_not, ne_eq, ps_e1, ps_em, ps_z, Nat.not_le, false_implies, true_implies, forall_const, ps_01, ps_1n, ps_0n, ps_m10, ps_m1n, lg_cmp_gt, lg_cmp_ge, lg_cmp_le, lg_cmp_lt, lg_cmp_eq, pu_rne, pu_req, pu_uro, RFc_n, Nat.reduceAdd, Nat.reduceMul, Nat.reduceLT, Nat.reduceLeDiff, Nat.reduceEqDiff, Nat.reduceSub]
theorem pr_likely {z : Int32} (hL : XL X) {i : Nat} (hX : XS X) (hi : i < 600) (hV : Inv i (n, sl, t, I, J, F)) : PR X i 105 255 [some (.ref 0), some (.int z), none, none] [some (.ref 47), some (.int z), none, none, none] (n, sl, t, I, J, F) := by
  obtain ⟨N, T, lw, hC⟩ := CX_of hV; obtain ⟨hW, hK, _, ⟨hs, hc, hr, hu, hm⟩, hl⟩ := id hC; have hN := hK.1; obtain ⟨hn, hn2, ht, hF⟩ := id hW
  have hT := hK.2.1
  have hKT := hK.2.2.2.1
  have z0 : T < 2000000 := by omega
  by_cases hT0 : T = 0
  · subst hT0
    refine PR_ask (v := -1) hi hV ?_ ?_
    · intro Q hQ
      simp only [↓r105_0, ↓r105_1, ↓r105_4, ↓r105_7, ↓r105_10, ↓r105_11, ↓r105_12, ↓r105_15, ↓r105_16, ↓r105_19, ↓r105_22, ↓r105_23, hc, q_le, q_lt, q_eq, q_e0, q_e1, q_0e, q_1e, ps_n0, q_0le, q_le0, q_0lt, q_m1e, q_em1, Bool.false_eq_true, hn, hn2, ht, hF, am_wt, am_wf, Option.isSome_some, am_rf_s, am_rf_n, ps_lit, nI_add, nI_1, pk_mul, ps_cl, ps_neg, ps_c0, ps_c1, ps_n01, ps_n11, ps_10, ps_b01, ps_e0, pu_Ine, pu_Ieq, pu_ne, pu_eq, am_k_n, am_k_i, am_k_r, am_k_u, am_k_l, am_sz_0, am_sz_i, am_sz_r, am_sz_u, am_sz_l, Option.toList_some, Option.toList_none, List.cons_append, List.nil_append, true_and, and_true, or_false, false_or, or_self, or_true, true_or, not_false_eq_true, not_true_eq_false, Classical.not_not, ne_eq, ps_e1, ps_em, ps_z, Nat.not_le, false_implies, true_implies, forall_const, ps_01, ps_1n, ps_0n, ps_m10, ps_m1n, lg_cmp_gt, lg_cmp_ge, lg_cmp_le, lg_cmp_lt, lg_cmp_eq, pu_rne, pu_req, pu_uro, RFc_n, Nat.reduceAdd, Nat.reduceMul, Nat.reduceLT, Nat.reduceLeDiff, Nat.reduceEqDiff, Nat.reduceSub]
      exact hQ _ SCH_r
    · rintro ⟨n', sl', t', I', J', F'⟩ ⟨e1, e2, e3, e4, e5⟩; dsimp only at e1 e2 e3 e4 e5; subst e1; subst e2; subst e3; have hC' := CX_sc hC e4 e5; obtain ⟨hn, hn2, ht, hF⟩ := id hC'.1; intro Q hQ
      have h49 := hC'.2.2.1
      by_cases hz : isG 0 z
      · simp only [↓r255_0, ↓r255_1, ↓r255_2, ↓r255_5, ↓r255_8, ↓r255_9, ↓r255_12, ↓r255_15, ↓r255_15k, ↓r255_16, ↓r255_19, ↓r255_20, ↓m_isGroup1 hC' hz, h49, hKT, q_le, q_lt, q_eq, q_e0, q_e1, q_0e, q_1e, ps_n0, q_0le, q_le0, q_0lt, q_m1e, q_em1, Bool.false_eq_true, hn, hn2, ht, hF, am_wt, am_wf, Option.isSome_some, am_rf_s, am_rf_n, ps_lit, nI_add, nI_1, pk_mul, ps_cl, ps_neg, ps_c0, ps_c1, ps_n01, ps_n11, ps_10, ps_b01, ps_e0, pu_Ine, pu_Ieq, pu_ne, pu_eq, am_k_n, am_k_i, am_k_r, am_k_u, am_k_l, am_sz_0, am_sz_i, am_sz_r, am_sz_u, am_sz_l, Option.toList_some, Option.toList_none, List.cons_append, List.nil_append, true_and, and_true, or_false, false_or, or_self, or_true, true_or, not_false_eq_true, not_true_eq_false, Classical.not_not, ne_eq, ps_e1, ps_em, ps_z, Nat.not_le, false_implies, true_implies, forall_const, ps_01, ps_1n, ps_0n, ps_m10, ps_m1n, lg_cmp_gt, lg_cmp_ge, lg_cmp_le, lg_cmp_lt, lg_cmp_eq, pu_rne, pu_req, pu_uro, RFc_n, Nat.reduceAdd, Nat.reduceMul, Nat.reduceLT, Nat.reduceLeDiff, Nat.reduceEqDiff, Nat.reduceSub]
        exact hQ _ SCH_r
      · simp only [↓r255_0, ↓r255_1, ↓r255_2, ↓r255_5, ↓r255_8, ↓r255_9, ↓r255_12, ↓r255_15, ↓r255_15k, ↓r255_16, ↓r255_19, ↓r255_20, ↓m_isGroup0 hC' hz, Bool.false_eq_true, hn, hn2, ht, hF, am_wt, am_wf, Option.isSome_some, am_rf_s, am_rf_n, ps_lit, nI_add, nI_1, pk_mul, ps_cl, ps_neg, ps_c0, ps_c1, ps_n01, ps_n11, ps_10, ps_b01, ps_e0, pu_Ine, pu_Ieq, pu_ne, pu_eq, am_k_n, am_k_i, am_k_r, am_k_u, am_k_l, am_sz_0, am_sz_i, am_sz_r, am_sz_u, am_sz_l, Option.toList_some, Option.toList_none, List.cons_append, List.nil_append, true_and, and_true, or_false, false_or, or_self, or_true, true_or, not_false_eq_true, not_true_eq_false, Classical.not_not, ne_eq, ps_e1, ps_em, ps_z, Nat.not_le, false_implies, true_implies, forall_const, ps_01, ps_1n, ps_0n, ps_m10, ps_m1n, lg_cmp_gt, lg_cmp_ge, lg_cmp_le, lg_cmp_lt, lg_cmp_eq, pu_rne, pu_req, pu_uro, RFc_n, Nat.reduceAdd, Nat.reduceMul, Nat.reduceLT, Nat.reduceLeDiff, Nat.reduceEqDiff, Nat.reduceSub]
        exact hQ _ SCH_r
  · by_cases hz : isG T z
    · have hC0 : 0 < T := by omega
      refine PR_ask (v := nI (lkb (fun j => lkP (I 49) (lw j) (grp (inG (I 49) lw z) N)) (T - 1))) hi hV ?_ ?_
      · intro Q hQ
        simp only [↓r105_0, ↓r105_1, ↓r105_4, ↓r105_7, ↓r105_10, ↓r105_11, ↓r105_12, ↓r105_15, ↓r105_16, hc, q_le, q_lt, q_eq, q_e0, q_e1, q_0e, q_1e, ps_n0, q_0le, q_le0, q_0lt, q_m1e, q_em1, z0, hT0, Bool.false_eq_true, hn, hn2, ht, hF, am_wt, am_wf, Option.isSome_some, am_rf_s, am_rf_n, ps_lit, nI_add, nI_1, pk_mul, ps_cl, ps_neg, ps_c0, ps_c1, ps_n01, ps_n11, ps_10, ps_b01, ps_e0, pu_Ine, pu_Ieq, pu_ne, pu_eq, am_k_n, am_k_i, am_k_r, am_k_u, am_k_l, am_sz_0, am_sz_i, am_sz_r, am_sz_u, am_sz_l, Option.toList_some, Option.toList_none, List.cons_append, List.nil_append, true_and, and_true, or_false, false_or, or_self, or_true, true_or, not_false_eq_true, not_true_eq_false, Classical.not_not, ne_eq, ps_e1, ps_em, ps_z, Nat.not_le, false_implies, true_implies, forall_const, ps_01, ps_1n, ps_0n, ps_m10, ps_m1n, lg_cmp_gt, lg_cmp_ge, lg_cmp_le, lg_cmp_lt, lg_cmp_eq, pu_rne, pu_req, pu_uro, RFc_n, Nat.reduceAdd, Nat.reduceMul, Nat.reduceLT, Nat.reduceLeDiff, Nat.reduceEqDiff, Nat.reduceSub]
        refine c_gather (Or.inl rfl) hC hz (fun f13 f14 => ?_)
        have s1 := SC_gather (I := I) (f13 := f13) (f14 := f14) (l := grp (inG (I 49) lw z) N) (Or.inl rfl)
        have hC1 := CX_sc hC s1 (fun _ _ _ => rfl)
        have hG1 := GH_c (I := I) (l := []) (f13 := f13) (f14 := f14) (g := 15) (p := inG (I 49) lw z) hN
        generalize gI (am_ro (am_ro I 13 f13) 14 f14) 15 (grp (inG (I 49) lw z) N) = I1 at s1 hC1 hG1
        have hw2 : ∀ k, k < (grp (inG (I 49) lw z) N).length → wN (I 49) ((grp (inG (I 49) lw z) N).getD k 0) ≤ 200 := fun k hk => (kid_w (CK_of hC1) (hG1.2.2 k hk).2).2
        generalize grp (inG (I 49) lw z) N = l at hQ hG1 hw2
        obtain ⟨a, ea, a1, a2, ta, hb⟩ := CX_law hC hC0
        have el := fun Q => k_law1 (X := X) (d := 57) (Q := Q) (sl := sl) (J := J) hC1 hC0 ea
        rw [ps_n0] at el
        simp only [↓r105_19, ↓r105_22, ↓r105_23, ↓r105_24, ↓r105_25, ↓r105_26, ↓r105_27, ↓r105_28, ↓r105_31, ↓r105_32, ↓r105_35, ↓r105_36, ↓r105_39, ↓r105_42, ↓el, Bool.false_eq_true, hn, hn2, ht, hF, am_wt, am_wf, Option.isSome_some, am_rf_s, am_rf_n, ps_lit, nI_add, nI_1, pk_mul, ps_cl, ps_neg, ps_c0, ps_c1, ps_n01, ps_n11, ps_10, ps_b01, ps_e0, pu_Ine, pu_Ieq, pu_ne, pu_eq, am_k_n, am_k_i, am_k_r, am_k_u, am_k_l, am_sz_0, am_sz_i, am_sz_r, am_sz_u, am_sz_l, Option.toList_some, Option.toList_none, List.cons_append, List.nil_append, true_and, and_true, or_false, false_or, or_self, or_true, true_or, not_false_eq_true, not_true_eq_false, Classical.not_not, ne_eq, ps_e1, ps_em, ps_z, Nat.not_le, false_implies, true_implies, forall_const, ps_01, ps_1n, ps_0n, ps_m10, ps_m1n, lg_cmp_gt, lg_cmp_ge, lg_cmp_le, lg_cmp_lt, lg_cmp_eq, pu_rne, pu_req, pu_uro, RFc_n, Nat.reduceAdd, Nat.reduceMul, Nat.reduceLT, Nat.reduceLeDiff, Nat.reduceEqDiff, Nat.reduceSub]
        refine c_factors (r := 23) hC hC0 ea (Or.inr rfl) s1 hG1 (fun I2 hF2 => ?_)
        have s2 := FS_SC (Or.inr rfl) s1 hF2
        have hl : ∀ m i, 1 ≤ i → i + m = T → ∀ (I3 : Nat → Nat → Int32) (J3 : Nat → Nat → Int64), SC I I3 → I3 15 = I1 15 → I3 16 = I1 16 → (∀ f, f < 100 → I3 23 f = nI (gc (I 49) (lw (lkb (fun j => lkP (I 49) (lw j) l) (i - 1))) l l.length f)) → am_W X 59 105 47 [some (.ref 0), some (.int z), some (.int (nI (lkb (fun j => lkP (I 49) (lw j) l) (i - 1)))), some (.int (nI i))] [] (n, sl, t, I3, J3, F) Q := by
          intro m
          induction m with
          | zero =>
            intro i hi1 him I3 J3 hS3 h15 h16 h23
            obtain rfl : i = T := by omega
            have hc3 : I3 1 5 = nI i := (CX_sc hC hS3 (fun _ _ _ => rfl)).2.2.2.1.2.1
            rw [r105_47]
            simp only [↓r105_48, ↓r105_49, ↓r105_52, ↓r105_55, ↓r105_102, ↓r105_103, hc3, Int32.le_refl, Bool.false_eq_true, hn, hn2, ht, hF, am_wt, am_wf, Option.isSome_some, am_rf_s, am_rf_n, ps_lit, nI_add, nI_1, pk_mul, ps_cl, ps_neg, ps_c0, ps_c1, ps_n01, ps_n11, ps_10, ps_b01, ps_e0, pu_Ine, pu_Ieq, pu_ne, pu_eq, am_k_n, am_k_i, am_k_r, am_k_u, am_k_l, am_sz_0, am_sz_i, am_sz_r, am_sz_u, am_sz_l, Option.toList_some, Option.toList_none, List.cons_append, List.nil_append, true_and, and_true, or_false, false_or, or_self, or_true, true_or, not_false_eq_true, not_true_eq_false, Classical.not_not, ne_eq, ps_e1, ps_em, ps_z, Nat.not_le, false_implies, true_implies, forall_const, ps_01, ps_1n, ps_0n, ps_m10, ps_m1n, lg_cmp_gt, lg_cmp_ge, lg_cmp_le, lg_cmp_lt, lg_cmp_eq, pu_rne, pu_req, pu_uro, RFc_n, Nat.reduceAdd, Nat.reduceMul, Nat.reduceLT, Nat.reduceLeDiff, Nat.reduceEqDiff, Nat.reduceSub]
            exact hQ _ ⟨rfl, rfl, rfl, hS3, fun _ _ _ => rfl⟩
          | succ m ih =>
            intro i hi1 him I3 J3 hS3 h15 h16 h23
            have hiT : i < T := by omega
            have hC3 := CX_sc hC hS3 (fun _ _ _ => rfl)
            have hc3 : I3 1 5 = nI T := hC3.2.2.2.1.2.1
            obtain ⟨a', ea', a1', a2', ta', hb'⟩ := CX_law hC hiT
            have el' := fun Q => k_law1 (X := X) (d := 57) (Q := Q) (sl := sl) (J := J3) hC3 hiT ea'
            have z1 : i < 2000000 := by omega
            have z2 : ¬ T ≤ i := by omega
            have hlk := lkb_le (fun j => lkP (I 49) (lw j) l) (i - 1)
            have ih' := ih (i + 1) (by omega) (by omega)
            obtain ⟨i', rfl⟩ : ∃ i', i = i' + 1 := ⟨i - 1, by omega⟩
            rw [Nat.add_sub_cancel] at h23 hlk
            rw [show i' + 1 + 1 - 1 = i' + 1 by omega, lkb] at ih'
            rw [Nat.add_sub_cancel, r105_47]
            simp only [↓r105_48, ↓r105_49, ↓r105_52, ↓r105_55, ↓r105_58, ↓r105_59, ↓r105_60, ↓r105_63, ↓r105_64, ↓r105_67, ↓r105_68, ↓r105_71, ↓r105_74, ↓el', q_le, q_lt, q_eq, q_e0, q_e1, q_0e, q_1e, ps_n0, q_0le, q_le0, q_0lt, q_m1e, q_em1, hc3, z0, z1, z2, Bool.false_eq_true, hn, hn2, ht, hF, am_wt, am_wf, Option.isSome_some, am_rf_s, am_rf_n, ps_lit, nI_add, nI_1, pk_mul, ps_cl, ps_neg, ps_c0, ps_c1, ps_n01, ps_n11, ps_10, ps_b01, ps_e0, pu_Ine, pu_Ieq, pu_ne, pu_eq, am_k_n, am_k_i, am_k_r, am_k_u, am_k_l, am_sz_0, am_sz_i, am_sz_r, am_sz_u, am_sz_l, Option.toList_some, Option.toList_none, List.cons_append, List.nil_append, true_and, and_true, or_false, false_or, or_self, or_true, true_or, not_false_eq_true, not_true_eq_false, Classical.not_not, ne_eq, ps_e1, ps_em, ps_z, Nat.not_le, false_implies, true_implies, forall_const, ps_01, ps_1n, ps_0n, ps_m10, ps_m1n, lg_cmp_gt, lg_cmp_ge, lg_cmp_le, lg_cmp_lt, lg_cmp_eq, pu_rne, pu_req, pu_uro, RFc_n, Nat.reduceAdd, Nat.reduceMul, Nat.reduceLT, Nat.reduceLeDiff, Nat.reduceEqDiff, Nat.reduceSub]
            refine c_factors (r := 22) hC hiT ea' (Or.inl rfl) hS3 (l := l) (by rw [h15, h16]; exact hG1) (fun I4 hF4 => ?_)
            have s4 := FS_SC (Or.inl rfl) hS3 hF4
            have hB : FB I4 (gc (I 49) (lw (i' + 1)) l l.length) (gc (I 49) (lw (lkb (fun j => lkP (I 49) (lw j) l) i')) l l.length) := by
              refine ⟨hF4.2, fun f hf => ?_, fun f => ⟨gc_bb hG1.2.1 hw2 f, gc_bb hG1.2.1 hw2 f⟩, gc_0 _, gc_0 _⟩
              rw [hF4.1 23 (by decide) (by decide) (by decide)]
              exact h23 f hf
            simp only [↓r105_77, ↓r105_78, ↓r105_81, Bool.false_eq_true, hn, hn2, ht, hF, am_wt, am_wf, Option.isSome_some, am_rf_s, am_rf_n, ps_lit, nI_add, nI_1, pk_mul, ps_cl, ps_neg, ps_c0, ps_c1, ps_n01, ps_n11, ps_10, ps_b01, ps_e0, pu_Ine, pu_Ieq, pu_ne, pu_eq, am_k_n, am_k_i, am_k_r, am_k_u, am_k_l, am_sz_0, am_sz_i, am_sz_r, am_sz_u, am_sz_l, Option.toList_some, Option.toList_none, List.cons_append, List.nil_append, true_and, and_true, or_false, false_or, or_self, or_true, true_or, not_false_eq_true, not_true_eq_false, Classical.not_not, ne_eq, ps_e1, ps_em, ps_z, Nat.not_le, false_implies, true_implies, forall_const, ps_01, ps_1n, ps_0n, ps_m10, ps_m1n, lg_cmp_gt, lg_cmp_ge, lg_cmp_le, lg_cmp_lt, lg_cmp_eq, pu_rne, pu_req, pu_uro, RFc_n, Nat.reduceAdd, Nat.reduceMul, Nat.reduceLT, Nat.reduceLeDiff, Nat.reduceEqDiff, Nat.reduceSub]
            refine c_more hW hL hB (lkP_b hG1.2.1 hw2) (lkP_b hG1.2.1 hw2) (fun I5 J5 hX5 => ?_)
            have hB5 := FB_x hB hX5
            have s5 := RX_SC s4 hX5
            have e15 : I5 15 = I1 15 := by rw [hX5 15 (by decide) (by decide) (by decide), hF4.1 15 (by decide) (by decide) (by decide), h15]
            have e16 : I5 16 = I1 16 := by rw [hX5 16 (by decide) (by decide) (by decide), hF4.1 16 (by decide) (by decide) (by decide), h16]
            by_cases c : lkP (I 49) (lw (lkb (fun j => lkP (I 49) (lw j) l) i')) l < lkP (I 49) (lw (i' + 1)) l
            · have c' : fp (gc (I 49) (lw (lkb (fun j => lkP (I 49) (lw j) l) i')) l l.length) 100 < fp (gc (I 49) (lw (i' + 1)) l l.length) 100 := c
              rw [if_pos c] at ih'
              have e1 := fun Q => c_putBelow (X := X) (d := 58) (Q := Q) (sl := sl) (J := J5) (I := I5) hW
              simp only [↓r105_84, ↓r105_87, ↓r105_88, ↓r105_89, ↓r105_90, ↓r105_93, ↓r105_96, ↓r105_99, ↓e1, c', if_true, Bool.false_eq_true, hn, hn2, ht, hF, am_wt, am_wf, Option.isSome_some, am_rf_s, am_rf_n, ps_lit, nI_add, nI_1, pk_mul, ps_cl, ps_neg, ps_c0, ps_c1, ps_n01, ps_n11, ps_10, ps_b01, ps_e0, pu_Ine, pu_Ieq, pu_ne, pu_eq, am_k_n, am_k_i, am_k_r, am_k_u, am_k_l, am_sz_0, am_sz_i, am_sz_r, am_sz_u, am_sz_l, Option.toList_some, Option.toList_none, List.cons_append, List.nil_append, true_and, and_true, or_false, false_or, or_self, or_true, true_or, not_false_eq_true, not_true_eq_false, Classical.not_not, ne_eq, ps_e1, ps_em, ps_z, Nat.not_le, false_implies, true_implies, forall_const, ps_01, ps_1n, ps_0n, ps_m10, ps_m1n, lg_cmp_gt, lg_cmp_ge, lg_cmp_le, lg_cmp_lt, lg_cmp_eq, pu_rne, pu_req, pu_uro, RFc_n, Nat.reduceAdd, Nat.reduceMul, Nat.reduceLT, Nat.reduceLeDiff, Nat.reduceEqDiff, Nat.reduceSub]
              refine ih' _ _ (SC_o s5 (fun _ => rfl)) ?_ ?_ (fun f hf => ?_)
              · rw [pu_rne (by decide)]; exact e15
              · rw [pu_rne (by decide)]; exact e16
              · rw [pu_req]
                unfold va_cpy
                rw [if_pos ⟨by omega, by omega⟩, Nat.sub_zero, Nat.zero_add]
                exact hB5.1 f hf
            · have c' : ¬ fp (gc (I 49) (lw (lkb (fun j => lkP (I 49) (lw j) l) i')) l l.length) 100 < fp (gc (I 49) (lw (i' + 1)) l l.length) 100 := c
              rw [if_neg c] at ih'
              simp only [↓r105_84, ↓r105_87, ↓r105_88, ↓r105_89, ↓r105_90, ↓r105_93, ↓r105_96, ↓r105_99, c', if_false, Bool.false_eq_true, hn, hn2, ht, hF, am_wt, am_wf, Option.isSome_some, am_rf_s, am_rf_n, ps_lit, nI_add, nI_1, pk_mul, ps_cl, ps_neg, ps_c0, ps_c1, ps_n01, ps_n11, ps_10, ps_b01, ps_e0, pu_Ine, pu_Ieq, pu_ne, pu_eq, am_k_n, am_k_i, am_k_r, am_k_u, am_k_l, am_sz_0, am_sz_i, am_sz_r, am_sz_u, am_sz_l, Option.toList_some, Option.toList_none, List.cons_append, List.nil_append, true_and, and_true, or_false, false_or, or_self, or_true, true_or, not_false_eq_true, not_true_eq_false, Classical.not_not, ne_eq, ps_e1, ps_em, ps_z, Nat.not_le, false_implies, true_implies, forall_const, ps_01, ps_1n, ps_0n, ps_m10, ps_m1n, lg_cmp_gt, lg_cmp_ge, lg_cmp_le, lg_cmp_lt, lg_cmp_eq, pu_rne, pu_req, pu_uro, RFc_n, Nat.reduceAdd, Nat.reduceMul, Nat.reduceLT, Nat.reduceLeDiff, Nat.reduceEqDiff, Nat.reduceSub]
              exact ih' _ _ s5 e15 e16 hB5.2.1
        simp only [↓r105_45, ↓r105_46, Bool.false_eq_true, hn, hn2, ht, hF, am_wt, am_wf, Option.isSome_some, am_rf_s, am_rf_n, ps_lit, nI_add, nI_1, pk_mul, ps_cl, ps_neg, ps_c0, ps_c1, ps_n01, ps_n11, ps_10, ps_b01, ps_e0, pu_Ine, pu_Ieq, pu_ne, pu_eq, am_k_n, am_k_i, am_k_r, am_k_u, am_k_l, am_sz_0, am_sz_i, am_sz_r, am_sz_u, am_sz_l, Option.toList_some, Option.toList_none, List.cons_append, List.nil_append, true_and, and_true, or_false, false_or, or_self, or_true, true_or, not_false_eq_true, not_true_eq_false, Classical.not_not, ne_eq, ps_e1, ps_em, ps_z, Nat.not_le, false_implies, true_implies, forall_const, ps_01, ps_1n, ps_0n, ps_m10, ps_m1n, lg_cmp_gt, lg_cmp_ge, lg_cmp_le, lg_cmp_lt, lg_cmp_eq, pu_rne, pu_req, pu_uro, RFc_n, Nat.reduceAdd, Nat.reduceMul, Nat.reduceLT, Nat.reduceLeDiff, Nat.reduceEqDiff, Nat.reduceSub]
        exact hl (T - 1) 1 (Nat.le_refl _) (by omega) I2 J s2 (hF2.1 15 (by decide) (by decide) (by decide)) (hF2.1 16 (by decide) (by decide) (by decide)) hF2.2
      · rintro ⟨n', sl', t', I', J', F'⟩ ⟨e1, e2, e3, e4, e5⟩; dsimp only at e1 e2 e3 e4 e5; subst e1; subst e2; subst e3; have hC' := CX_sc hC e4 e5; obtain ⟨hn, hn2, ht, hF⟩ := id hC'.1; intro Q hQ
        have h49 := hC'.2.2.1
        simp only [↓r255_0, ↓r255_1, ↓r255_2, ↓r255_5, ↓r255_8, ↓r255_9, ↓r255_12, ↓r255_15, ↓r255_15k, ↓r255_16, ↓r255_19, ↓r255_20, ↓r255_21, ↓r255_22, ↓r255_23, ↓m_isGroup1 hC' hz, h49, hKT, q_le, q_lt, q_eq, q_e0, q_e1, q_0e, q_1e, ps_n0, q_0le, q_le0, q_0lt, q_m1e, q_em1, z0, hT0, Bool.false_eq_true, hn, hn2, ht, hF, am_wt, am_wf, Option.isSome_some, am_rf_s, am_rf_n, ps_lit, nI_add, nI_1, pk_mul, ps_cl, ps_neg, ps_c0, ps_c1, ps_n01, ps_n11, ps_10, ps_b01, ps_e0, pu_Ine, pu_Ieq, pu_ne, pu_eq, am_k_n, am_k_i, am_k_r, am_k_u, am_k_l, am_sz_0, am_sz_i, am_sz_r, am_sz_u, am_sz_l, Option.toList_some, Option.toList_none, List.cons_append, List.nil_append, true_and, and_true, or_false, false_or, or_self, or_true, true_or, not_false_eq_true, not_true_eq_false, Classical.not_not, ne_eq, ps_e1, ps_em, ps_z, Nat.not_le, false_implies, true_implies, forall_const, ps_01, ps_1n, ps_0n, ps_m10, ps_m1n, lg_cmp_gt, lg_cmp_ge, lg_cmp_le, lg_cmp_lt, lg_cmp_eq, pu_rne, pu_req, pu_uro, RFc_n, Nat.reduceAdd, Nat.reduceMul, Nat.reduceLT, Nat.reduceLeDiff, Nat.reduceEqDiff, Nat.reduceSub]
        refine s_gathers hC' hz (fun f47 f58 g47 q1 q2 => ?_)
        have s2 := SC_gathers (f58 := f58) (r := ro_g (I' 59) (grp (inG (I 49) lw z) N)) q1
        have hC1 := CX_sc hC' s2 (fun _ _ _ => rfl)
        have hG1 := GH_m (I := I') (f58 := f58) (r := I' 59) hN q2
        generalize am_ro (am_ro (am_ro I' 47 f47) 58 f58) 59 (ro_g (I' 59) (grp (inG (I 49) lw z) N)) = I1 at s2 hC1 hG1
        have hw2 : ∀ k, k < (grp (inG (I 49) lw z) N).length → wN (I 49) ((grp (inG (I 49) lw z) N).getD k 0) ≤ 200 := fun k hk => (kid_w (CK_of hC1) (hG1.2.2 k hk).2).2
        generalize grp (inG (I 49) lw z) N = l at hQ hG1 hw2
        simp only [↓r255_26, ↓r255_27, ↓r255_28, ↓r255_29, ↓r255_30, ↓r255_33, ↓r255_34, Bool.false_eq_true, hn, hn2, ht, hF, am_wt, am_wf, Option.isSome_some, am_rf_s, am_rf_n, ps_lit, nI_add, nI_1, pk_mul, ps_cl, ps_neg, ps_c0, ps_c1, ps_n01, ps_n11, ps_10, ps_b01, ps_e0, pu_Ine, pu_Ieq, pu_ne, pu_eq, am_k_n, am_k_i, am_k_r, am_k_u, am_k_l, am_sz_0, am_sz_i, am_sz_r, am_sz_u, am_sz_l, Option.toList_some, Option.toList_none, List.cons_append, List.nil_append, true_and, and_true, or_false, false_or, or_self, or_true, true_or, not_false_eq_true, not_true_eq_false, Classical.not_not, ne_eq, ps_e1, ps_em, ps_z, Nat.not_le, false_implies, true_implies, forall_const, ps_01, ps_1n, ps_0n, ps_m10, ps_m1n, lg_cmp_gt, lg_cmp_ge, lg_cmp_le, lg_cmp_lt, lg_cmp_eq, pu_rne, pu_req, pu_uro, RFc_n, Nat.reduceAdd, Nat.reduceMul, Nat.reduceLT, Nat.reduceLeDiff, Nat.reduceEqDiff, Nat.reduceSub]
        have pr0 := fun (I0 : Nat → Nat → Int32) (J0 : Nat → Nat → Int64) hS hG Q hQ => m_prod (X := X) (d := 12) (Q := Q) (sl := sl') (a := 60) (j := 0) (l := l) (I0 := I0) (J0 := J0) hC1 hC0 (Or.inl rfl) hS hG hQ
        rw [ps_n0] at pr0
        refine pr0 I1 _ (SC_r I1) hG1 _ (fun I2 J2 hM2 hN2 ho2 => ?_)
        have hl : ∀ m i, 1 ≤ i → i + m = T → ∀ (I3 : Nat → Nat → Int32) (J3 : Nat → Nat → Int64), MS I1 I3 → NC (J3 60) (lkP (I 49) (lw (lkb (fun j => lkP (I 49) (lw j) l) (i - 1))) l) → ∀ l4 : Option Value, am_W X 59 255 39 [some (.ref 47), some (.int z), some (.int (nI (lkb (fun j => lkP (I 49) (lw j) l) (i - 1)))), some (.int (nI i)), l4] [] (n', sl', t', I3, J3, F') Q := by
          intro m
          induction m with
          | zero =>
            intro i hi1 him I3 J3 hM3 hN3 l4
            obtain rfl : i = T := by omega
            have h493 : I3 49 = I 49 := (CX_sc hC1 (MS_SC (SC_r I1) hM3) (fun _ _ _ => rfl)).2.2.1
            rw [r255_39]
            simp only [↓r255_40, ↓r255_41, ↓r255_44, ↓r255_47, ↓r255_47k, ↓r255_48, ↓r255_116, ↓r255_117, h493, hKT, Int32.le_refl, Bool.false_eq_true, hn, hn2, ht, hF, am_wt, am_wf, Option.isSome_some, am_rf_s, am_rf_n, ps_lit, nI_add, nI_1, pk_mul, ps_cl, ps_neg, ps_c0, ps_c1, ps_n01, ps_n11, ps_10, ps_b01, ps_e0, pu_Ine, pu_Ieq, pu_ne, pu_eq, am_k_n, am_k_i, am_k_r, am_k_u, am_k_l, am_sz_0, am_sz_i, am_sz_r, am_sz_u, am_sz_l, Option.toList_some, Option.toList_none, List.cons_append, List.nil_append, true_and, and_true, or_false, false_or, or_self, or_true, true_or, not_false_eq_true, not_true_eq_false, Classical.not_not, ne_eq, ps_e1, ps_em, ps_z, Nat.not_le, false_implies, true_implies, forall_const, ps_01, ps_1n, ps_0n, ps_m10, ps_m1n, lg_cmp_gt, lg_cmp_ge, lg_cmp_le, lg_cmp_lt, lg_cmp_eq, pu_rne, pu_req, pu_uro, RFc_n, Nat.reduceAdd, Nat.reduceMul, Nat.reduceLT, Nat.reduceLeDiff, Nat.reduceEqDiff, Nat.reduceSub]
            exact hQ _ ⟨rfl, rfl, rfl, MS_SC s2 hM3, fun _ _ _ => rfl⟩
          | succ m ih =>
            intro i hi1 him I3 J3 hM3 hN3 l4
            have hiT : i < T := by omega
            have h493 : I3 49 = I 49 := (CX_sc hC1 (MS_SC (SC_r I1) hM3) (fun _ _ _ => rfl)).2.2.1
            have z1 : i < 2000000 := by omega
            have z2 : ¬ T ≤ i := by omega
            have ih' := ih (i + 1) (by omega) (by omega)
            obtain ⟨i', rfl⟩ : ∃ i', i = i' + 1 := ⟨i - 1, by omega⟩
            rw [Nat.add_sub_cancel] at hN3
            rw [show i' + 1 + 1 - 1 = i' + 1 by omega, lkb] at ih'
            rw [Nat.add_sub_cancel, r255_39]
            simp only [↓r255_40, ↓r255_41, ↓r255_44, ↓r255_47, ↓r255_47k, ↓r255_48, ↓r255_51, ↓r255_52, ↓r255_53, ↓r255_56, ↓r255_57, q_le, q_lt, q_eq, q_e0, q_e1, q_0e, q_1e, ps_n0, q_0le, q_le0, q_0lt, q_m1e, q_em1, h493, hKT, z0, z1, z2, Bool.false_eq_true, hn, hn2, ht, hF, am_wt, am_wf, Option.isSome_some, am_rf_s, am_rf_n, ps_lit, nI_add, nI_1, pk_mul, ps_cl, ps_neg, ps_c0, ps_c1, ps_n01, ps_n11, ps_10, ps_b01, ps_e0, pu_Ine, pu_Ieq, pu_ne, pu_eq, am_k_n, am_k_i, am_k_r, am_k_u, am_k_l, am_sz_0, am_sz_i, am_sz_r, am_sz_u, am_sz_l, Option.toList_some, Option.toList_none, List.cons_append, List.nil_append, true_and, and_true, or_false, false_or, or_self, or_true, true_or, not_false_eq_true, not_true_eq_false, Classical.not_not, ne_eq, ps_e1, ps_em, ps_z, Nat.not_le, false_implies, true_implies, forall_const, ps_01, ps_1n, ps_0n, ps_m10, ps_m1n, lg_cmp_gt, lg_cmp_ge, lg_cmp_le, lg_cmp_lt, lg_cmp_eq, pu_rne, pu_req, pu_uro, RFc_n, Nat.reduceAdd, Nat.reduceMul, Nat.reduceLT, Nat.reduceLeDiff, Nat.reduceEqDiff, Nat.reduceSub]
            refine m_prod (a := 61) hC1 hiT (Or.inr rfl) (MS_SC (SC_r I1) hM3) (l := l) (by rw [hM3.2 24 (by decide) (by decide) (by decide) (by decide), hM3.1 59 (by decide) (by decide)]; exact hG1) (fun I4 J4 hM4 hN4 ho4 => ?_)
            have hM := MS_t hM3 hM4
            have h60 : NC (J4 60) (lkP (I 49) (lw (lkb (fun j => lkP (I 49) (lw j) l) i')) l) := by rw [ho4 60 (Or.inl rfl) (by decide)]; exact hN3
            have h61 : NC (J4 61) (lkP (I 49) (lw (i' + 1)) l) := hN4
            have e4 := fun Q => m_order (X := X) (d := 58) (Q := Q) (sl := sl') (I := I4) (J := J4) (F := F') (a := 61) (b := 60) hn2 (hn _ (by decide)) (ht _ (by decide)) (hn _ (by decide)) (ht _ (by decide)) h61 h60
            by_cases c : lkP (I 49) (lw (lkb (fun j => lkP (I 49) (lw j) l) i')) l < lkP (I 49) (lw (i' + 1)) l
            · rw [if_pos c] at ih'
              simp only [↓r255_60, ↓r255_61, ↓r255_64, ↓r255_65, ↓r255_68, ↓r255_71, ↓r255_74, ↓r255_77, ↓r255_78, ↓r255_79, ↓r255_80, ↓e4, ord_le, c, Bool.false_eq_true, hn, hn2, ht, hF, am_wt, am_wf, Option.isSome_some, am_rf_s, am_rf_n, ps_lit, nI_add, nI_1, pk_mul, ps_cl, ps_neg, ps_c0, ps_c1, ps_n01, ps_n11, ps_10, ps_b01, ps_e0, pu_Ine, pu_Ieq, pu_ne, pu_eq, am_k_n, am_k_i, am_k_r, am_k_u, am_k_l, am_sz_0, am_sz_i, am_sz_r, am_sz_u, am_sz_l, Option.toList_some, Option.toList_none, List.cons_append, List.nil_append, true_and, and_true, or_false, false_or, or_self, or_true, true_or, not_false_eq_true, not_true_eq_false, Classical.not_not, ne_eq, ps_e1, ps_em, ps_z, Nat.not_le, false_implies, true_implies, forall_const, ps_01, ps_1n, ps_0n, ps_m10, ps_m1n, lg_cmp_gt, lg_cmp_ge, lg_cmp_le, lg_cmp_lt, lg_cmp_eq, pu_rne, pu_req, pu_uro, RFc_n, Nat.reduceAdd, Nat.reduceMul, Nat.reduceLT, Nat.reduceLeDiff, Nat.reduceEqDiff, Nat.reduceSub]
              have hx : am_W X 59 255 82 [some (.ref 47), some (.int z), some (.int (nI (i' + 1))), some (.int (nI (i' + 1))), some (.int 0)] [] (n', sl', t', I4, am_ro J4 60 (rwL 0 (J4 60) (J4 61)), F') Q := by
                refine lp0 (A := fun k => am_W X 59 255 82 [some (.ref 47), some (.int z), some (.int (nI (i' + 1))), some (.int (nI (i' + 1))), some (.int (nI k))] [] (n', sl', t', I4, am_ro J4 60 (rwL k (J4 60) (J4 61)), F') Q) (N := 620) ?_ ?_
                · intro k hk ihk
                  have y1 : k < 2000000 ∧ k < 620 := by omega
                  have y2 : ¬ 620 ≤ k := by omega
                  rw [← rwL_s] at ihk
                  rw [r255_82]
                  simp only [↓r255_84, ↓r255_87, ↓r255_90, ↓r255_91, ↓r255_94, ↓r255_96, ↓r255_97, ↓r255_100, ↓r255_102, ↓r255_103, ↓r255_104, ↓r255_107, q_le, q_lt, q_eq, q_e0, q_e1, q_0e, q_1e, ps_n0, q_0le, q_le0, q_0lt, q_m1e, q_em1, y1, y2, pu_uJ, pu_ror, Bool.false_eq_true, hn, hn2, ht, hF, am_wt, am_wf, Option.isSome_some, am_rf_s, am_rf_n, ps_lit, nI_add, nI_1, pk_mul, ps_cl, ps_neg, ps_c0, ps_c1, ps_n01, ps_n11, ps_10, ps_b01, ps_e0, pu_Ine, pu_Ieq, pu_ne, pu_eq, am_k_n, am_k_i, am_k_r, am_k_u, am_k_l, am_sz_0, am_sz_i, am_sz_r, am_sz_u, am_sz_l, Option.toList_some, Option.toList_none, List.cons_append, List.nil_append, true_and, and_true, or_false, false_or, or_self, or_true, true_or, not_false_eq_true, not_true_eq_false, Classical.not_not, ne_eq, ps_e1, ps_em, ps_z, Nat.not_le, false_implies, true_implies, forall_const, ps_01, ps_1n, ps_0n, ps_m10, ps_m1n, lg_cmp_gt, lg_cmp_ge, lg_cmp_le, lg_cmp_lt, lg_cmp_eq, pu_rne, pu_req, pu_uro, RFc_n, Nat.reduceAdd, Nat.reduceMul, Nat.reduceLT, Nat.reduceLeDiff, Nat.reduceEqDiff, Nat.reduceSub]
                  exact ihk
                · rw [r255_82]
                  simp only [↓r255_84, ↓r255_87, ↓r255_110, ↓r255_113, q_le, q_lt, q_eq, q_e0, q_e1, q_0e, q_1e, ps_n0, q_0le, q_le0, q_0lt, q_m1e, q_em1, Bool.false_eq_true, hn, hn2, ht, hF, am_wt, am_wf, Option.isSome_some, am_rf_s, am_rf_n, ps_lit, nI_add, nI_1, pk_mul, ps_cl, ps_neg, ps_c0, ps_c1, ps_n01, ps_n11, ps_10, ps_b01, ps_e0, pu_Ine, pu_Ieq, pu_ne, pu_eq, am_k_n, am_k_i, am_k_r, am_k_u, am_k_l, am_sz_0, am_sz_i, am_sz_r, am_sz_u, am_sz_l, Option.toList_some, Option.toList_none, List.cons_append, List.nil_append, true_and, and_true, or_false, false_or, or_self, or_true, true_or, not_false_eq_true, not_true_eq_false, Classical.not_not, ne_eq, ps_e1, ps_em, ps_z, Nat.not_le, false_implies, true_implies, forall_const, ps_01, ps_1n, ps_0n, ps_m10, ps_m1n, lg_cmp_gt, lg_cmp_ge, lg_cmp_le, lg_cmp_lt, lg_cmp_eq, pu_rne, pu_req, pu_uro, RFc_n, Nat.reduceAdd, Nat.reduceMul, Nat.reduceLT, Nat.reduceLeDiff, Nat.reduceEqDiff, Nat.reduceSub]
                  exact ih' _ _ hM (by rw [pu_req]; exact NC_c h61) _
              rw [rwL_0, pu_roJ] at hx
              exact hx
            · rw [if_neg c] at ih'
              simp only [↓r255_60, ↓r255_61, ↓r255_64, ↓r255_65, ↓r255_68, ↓r255_71, ↓r255_74, ↓r255_110, ↓r255_113, ↓e4, ord_le, c, Bool.false_eq_true, hn, hn2, ht, hF, am_wt, am_wf, Option.isSome_some, am_rf_s, am_rf_n, ps_lit, nI_add, nI_1, pk_mul, ps_cl, ps_neg, ps_c0, ps_c1, ps_n01, ps_n11, ps_10, ps_b01, ps_e0, pu_Ine, pu_Ieq, pu_ne, pu_eq, am_k_n, am_k_i, am_k_r, am_k_u, am_k_l, am_sz_0, am_sz_i, am_sz_r, am_sz_u, am_sz_l, Option.toList_some, Option.toList_none, List.cons_append, List.nil_append, true_and, and_true, or_false, false_or, or_self, or_true, true_or, not_false_eq_true, not_true_eq_false, Classical.not_not, ne_eq, ps_e1, ps_em, ps_z, Nat.not_le, false_implies, true_implies, forall_const, ps_01, ps_1n, ps_0n, ps_m10, ps_m1n, lg_cmp_gt, lg_cmp_ge, lg_cmp_le, lg_cmp_lt, lg_cmp_eq, pu_rne, pu_req, pu_uro, RFc_n, Nat.reduceAdd, Nat.reduceMul, Nat.reduceLT, Nat.reduceLeDiff, Nat.reduceEqDiff, Nat.reduceSub]
              exact ih' _ _ hM h60 _
        simp only [↓r255_37, ↓r255_38, Bool.false_eq_true, hn, hn2, ht, hF, am_wt, am_wf, Option.isSome_some, am_rf_s, am_rf_n, ps_lit, nI_add, nI_1, pk_mul, ps_cl, ps_neg, ps_c0, ps_c1, ps_n01, ps_n11, ps_10, ps_b01, ps_e0, pu_Ine, pu_Ieq, pu_ne, pu_eq, am_k_n, am_k_i, am_k_r, am_k_u, am_k_l, am_sz_0, am_sz_i, am_sz_r, am_sz_u, am_sz_l, Option.toList_some, Option.toList_none, List.cons_append, List.nil_append, true_and, and_true, or_false, false_or, or_self, or_true, true_or, not_false_eq_true, not_true_eq_false, Classical.not_not, ne_eq, ps_e1, ps_em, ps_z, Nat.not_le, false_implies, true_implies, forall_const, ps_01, ps_1n, ps_0n, ps_m10, ps_m1n, lg_cmp_gt, lg_cmp_ge, lg_cmp_le, lg_cmp_lt, lg_cmp_eq, pu_rne, pu_req, pu_uro, RFc_n, Nat.reduceAdd, Nat.reduceMul, Nat.reduceLT, Nat.reduceLeDiff, Nat.reduceEqDiff, Nat.reduceSub]
        exact hl (T - 1) 1 (Nat.le_refl _) (by omega) I2 J2 hM2 hN2 _
    · refine PR_ask (v := -1) hi hV ?_ ?_
      · intro Q hQ
        simp only [↓r105_0, ↓r105_1, ↓r105_4, ↓r105_7, ↓r105_10, ↓r105_11, ↓r105_12, ↓r105_15, ↓r105_16, ↓r105_19, ↓r105_22, ↓r105_23, hc, q_le, q_lt, q_eq, q_e0, q_e1, q_0e, q_1e, ps_n0, q_0le, q_le0, q_0lt, q_m1e, q_em1, z0, hT0, ↓c_gather0 hC hz, Bool.false_eq_true, hn, hn2, ht, hF, am_wt, am_wf, Option.isSome_some, am_rf_s, am_rf_n, ps_lit, nI_add, nI_1, pk_mul, ps_cl, ps_neg, ps_c0, ps_c1, ps_n01, ps_n11, ps_10, ps_b01, ps_e0, pu_Ine, pu_Ieq, pu_ne, pu_eq, am_k_n, am_k_i, am_k_r, am_k_u, am_k_l, am_sz_0, am_sz_i, am_sz_r, am_sz_u, am_sz_l, Option.toList_some, Option.toList_none, List.cons_append, List.nil_append, true_and, and_true, or_false, false_or, or_self, or_true, true_or, not_false_eq_true, not_true_eq_false, Classical.not_not, ne_eq, ps_e1, ps_em, ps_z, Nat.not_le, false_implies, true_implies, forall_const, ps_01, ps_1n, ps_0n, ps_m10, ps_m1n, lg_cmp_gt, lg_cmp_ge, lg_cmp_le, lg_cmp_lt, lg_cmp_eq, pu_rne, pu_req, pu_uro, RFc_n, Nat.reduceAdd, Nat.reduceMul, Nat.reduceLT, Nat.reduceLeDiff, Nat.reduceEqDiff, Nat.reduceSub]
        exact hQ _ SCH_r
      · rintro ⟨n', sl', t', I', J', F'⟩ ⟨e1, e2, e3, e4, e5⟩; dsimp only at e1 e2 e3 e4 e5; subst e1; subst e2; subst e3; have hC' := CX_sc hC e4 e5; obtain ⟨hn, hn2, ht, hF⟩ := id hC'.1; intro Q hQ
        simp only [↓r255_0, ↓r255_1, ↓r255_2, ↓r255_5, ↓r255_8, ↓r255_9, ↓r255_12, ↓r255_15, ↓r255_15k, ↓r255_16, ↓r255_19, ↓r255_20, ↓m_isGroup0 hC' hz, Bool.false_eq_true, hn, hn2, ht, hF, am_wt, am_wf, Option.isSome_some, am_rf_s, am_rf_n, ps_lit, nI_add, nI_1, pk_mul, ps_cl, ps_neg, ps_c0, ps_c1, ps_n01, ps_n11, ps_10, ps_b01, ps_e0, pu_Ine, pu_Ieq, pu_ne, pu_eq, am_k_n, am_k_i, am_k_r, am_k_u, am_k_l, am_sz_0, am_sz_i, am_sz_r, am_sz_u, am_sz_l, Option.toList_some, Option.toList_none, List.cons_append, List.nil_append, true_and, and_true, or_false, false_or, or_self, or_true, true_or, not_false_eq_true, not_true_eq_false, Classical.not_not, ne_eq, ps_e1, ps_em, ps_z, Nat.not_le, false_implies, true_implies, forall_const, ps_01, ps_1n, ps_0n, ps_m10, ps_m1n, lg_cmp_gt, lg_cmp_ge, lg_cmp_le, lg_cmp_lt, lg_cmp_eq, pu_rne, pu_req, pu_uro, RFc_n, Nat.reduceAdd, Nat.reduceMul, Nat.reduceLT, Nat.reduceLeDiff, Nat.reduceEqDiff, Nat.reduceSub]
        exact hQ _ SCH_r
end LK
