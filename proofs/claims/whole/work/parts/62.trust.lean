/-! calls, one on each side: trust -/
section TR
variable {X : am_X} {d : Nat} {Q : Option Value → am_H → Prop} {n sl : Nat} {t : Nat → Nat × Nat} {I : Nat → Nat → Int32} {J : Nat → Nat → Int64} {F : Nat → Nat → Option Nat} {h : am_H}
variable {K : Nat → Int32} {N T : Nat} {lw : Nat → List CL}
def pD (K : Nat → Int32) (v : Int32) : Nat → Bool := fun c => decide (K (15 * c + 8) = v)
def tI (I : Nat → Nat → Int32) (K : Nat → Int32) (c : Nat) : Nat → Nat → Int32 := am_ro (am_ro (am_ro I 47 (upd (I 47) 24 (nI (grp (pD K (nI 2)) c).length))) 59 (ro_g (I 59) (grp (pD K (nI 2)) c))) 68 (bo (I 68) (pD K 1) c)
theorem tI_n {c a : Nat} (h1 : a ≠ 47) (h2 : a ≠ 59) (h3 : a ≠ 68) : tI I K c a = I a := by
  unfold tI
  rw [pu_rne h3, pu_rne h2, pu_rne h1]
theorem m_trust {w : Int32} (hCK : CK n t F (I 1 4) (I 2) (I 3) (I 49) K N) : am_W X (d + 4) 286 18 [some (.ref 47), some (.int w), some (.int 0)] [] (n, sl, t, tI I K 0, J, F) Q ↔ am_W X (d + 4) 286 88 [some (.ref 47), some (.int w), some (.int (nI N))] [] (n, sl, t, tI I K N, J, F) Q := by
  have hW : WS n t F := hCK.1
  obtain ⟨hn, hn2, ht, hF⟩ := id hW
  have hN := CK_N hCK
  refine lp0 (A := fun c => am_W X (d + 4) 286 18 [some (.ref 47), some (.int w), some (.int (nI c))] [] (n, sl, t, tI I K c, J, F) Q ↔ am_W X (d + 4) 286 88 [some (.ref 47), some (.int w), some (.int (nI N))] [] (n, sl, t, tI I K N, J, F) Q) (N := N) ?_ ?_
  · intro c hc ih
    have z1 : c < 2000000 ∧ N < 2000000 ∧ c < 120 := by omega
    have z2 : ¬ N ≤ c := by omega
    have gl := grp_le (pD K (nI 2)) c
    have z3 : (grp (pD K (nI 2)) c).length < 2000000 ∧ (grp (pD K (nI 2)) c).length < 120 := by omega
    have hk : ∀ b, b ≠ 47 → b ≠ 59 → b ≠ 68 → tI I K c b = I b := fun b => tI_n
    have h1 : bo (I 68) (pD K 1) (c + 1) = upd (bo (I 68) (pD K 1) c) c (if pD K 1 c = true then 1 else 0) := (bo_s _ _ _).symm
    rw [r286_18]
    have e1 : (if K (15 * c + 8) = 1 then (1 : Int32) else 0) = if pD K 1 c = true then 1 else 0 := by
      unfold pD
      simp only [decide_eq_true_eq]
    by_cases q2 : K (15 * c + 8) = nI 2
    · have g2 : grp (pD K (nI 2)) (c + 1) = grp (pD K (nI 2)) c ++ [c] := by
        rw [grp, if_pos (by unfold pD; simpa using q2)]
      have q1 : ¬ (nI 2 = 1) := by decide
      have p1 : pD K 1 c = false := by
        unfold pD
        rw [q2]
        decide
      rw [p1] at h1
      unfold tI at ih
      rw [h1, g2, List.length_append, List.length_singleton, ← ro_gs] at ih
      unfold tI at hk ⊢
      simp only [↓r286_19, ↓r286_20, ↓r286_23, ↓r286_26, ↓r286_27, ↓r286_30, ↓r286_31, ↓r286_32, ↓r286_33, ↓r286_35, ↓r286_38, ↓r286_39, ↓r286_42, ↓r286_43, ↓r286_46, ↓r286_47, ↓r286_47z, ↓r286_48, ↓r286_49, ↓r286_50, ↓r286_52, ↓r286_55, ↓r286_56, ↓r286_59, ↓r286_62, ↓r286_63, ↓r286_66, ↓r286_67, ↓r286_70, ↓r286_71, ↓r286_72, ↓r286_73, ↓r286_73r, ↓r286_74, ↓r286_77, ↓r286_78, ↓r286_79, ↓r286_82, ↓r286_85, ↓k_at (K := K) (N := N), ↓k_isTried (K := K) (N := N), ↓k_side (K := K) (N := N), ↓k_thing (K := K) (N := N), ↓k_isFound (K := K) (N := N), ↓m_factOf (K := K) (N := N), ↓m_isTried (K := K) (N := N), ↓m_took (K := K) (N := N), ↓m_waited (K := K) (N := N), ↓m_isLong (K := K) (N := N), ↓m_isShort (K := K) (N := N), ↓m_thingOf (K := K) (N := N), ↓m_isFound (K := K) (N := N), ↓m_many (K := K) (N := N), ↓c_within, ↓s_lies, hCK, b01, b11, q_le, q_lt, q_eq, q_e0, q_e1, q_0e, q_1e, ps_n0, q_0le, q_le0, q_0lt, q_m1e, q_em1, hk 1, hk 2, hk 3, hk 49, hc, z1, z2, z3, q1, q2, b_and, pu_uI, pu_rol, pu_ror, pu_uu, if_true, if_false, Bool.false_eq_true, hn, hn2, ht, hF, am_wt, am_wf, Option.isSome_some, am_rf_s, am_rf_n, ps_lit, nI_add, nI_1, pk_mul, ps_cl, ps_neg, ps_c0, ps_c1, ps_n01, ps_n11, ps_10, ps_b01, ps_e0, pu_Ine, pu_Ieq, pu_ne, pu_eq, am_k_n, am_k_i, am_k_r, am_k_u, am_k_l, am_sz_0, am_sz_i, am_sz_r, am_sz_u, am_sz_l, Option.toList_some, Option.toList_none, List.cons_append, List.nil_append, true_and, and_true, or_false, false_or, or_self, or_true, true_or, not_false_eq_true, not_true_eq_false, Classical.not_not, ne_eq, ps_e1, ps_em, ps_z, Nat.not_le, false_implies, true_implies, forall_const, ps_01, ps_1n, ps_0n, ps_m10, ps_m1n, lg_cmp_gt, lg_cmp_ge, lg_cmp_le, lg_cmp_lt, lg_cmp_eq, pu_rne, pu_req, pu_uro, RFc_n, Nat.reduceAdd, Nat.reduceMul, Nat.reduceLT, Nat.reduceLeDiff, Nat.reduceEqDiff, Nat.reduceSub]
      exact ih
    · have g2 : grp (pD K (nI 2)) (c + 1) = grp (pD K (nI 2)) c := by
        rw [grp, if_neg (by unfold pD; simpa using q2), List.append_nil]
      by_cases q1 : K (15 * c + 8) = 1
      · have p1 : pD K 1 c = true := by unfold pD; simpa using q1
        have q3 : ¬ (1 : Int32) = nI 2 := by decide
        rw [p1] at h1
        unfold tI at ih
        rw [h1, g2] at ih
        unfold tI at hk ⊢
        simp only [↓r286_19, ↓r286_20, ↓r286_23, ↓r286_26, ↓r286_27, ↓r286_30, ↓r286_31, ↓r286_32, ↓r286_33, ↓r286_35, ↓r286_38, ↓r286_39, ↓r286_42, ↓r286_43, ↓r286_46, ↓r286_47, ↓r286_47z, ↓r286_48, ↓r286_49, ↓r286_50, ↓r286_52, ↓r286_55, ↓r286_56, ↓r286_59, ↓r286_62, ↓r286_63, ↓r286_66, ↓r286_67, ↓r286_70, ↓r286_71, ↓r286_72, ↓r286_73, ↓r286_73r, ↓r286_74, ↓r286_77, ↓r286_78, ↓r286_79, ↓r286_82, ↓r286_85, ↓k_at (K := K) (N := N), ↓k_isTried (K := K) (N := N), ↓k_side (K := K) (N := N), ↓k_thing (K := K) (N := N), ↓k_isFound (K := K) (N := N), ↓m_factOf (K := K) (N := N), ↓m_isTried (K := K) (N := N), ↓m_took (K := K) (N := N), ↓m_waited (K := K) (N := N), ↓m_isLong (K := K) (N := N), ↓m_isShort (K := K) (N := N), ↓m_thingOf (K := K) (N := N), ↓m_isFound (K := K) (N := N), ↓m_many (K := K) (N := N), ↓c_within, ↓s_lies, hCK, b01, b11, q_le, q_lt, q_eq, q_e0, q_e1, q_0e, q_1e, ps_n0, q_0le, q_le0, q_0lt, q_m1e, q_em1, hk 1, hk 2, hk 3, hk 49, hc, z1, z2, z3, q1, q3, b_and, pu_uI, pu_rol, pu_ror, pu_uu, if_true, if_false, Bool.false_eq_true, hn, hn2, ht, hF, am_wt, am_wf, Option.isSome_some, am_rf_s, am_rf_n, ps_lit, nI_add, nI_1, pk_mul, ps_cl, ps_neg, ps_c0, ps_c1, ps_n01, ps_n11, ps_10, ps_b01, ps_e0, pu_Ine, pu_Ieq, pu_ne, pu_eq, am_k_n, am_k_i, am_k_r, am_k_u, am_k_l, am_sz_0, am_sz_i, am_sz_r, am_sz_u, am_sz_l, Option.toList_some, Option.toList_none, List.cons_append, List.nil_append, true_and, and_true, or_false, false_or, or_self, or_true, true_or, not_false_eq_true, not_true_eq_false, Classical.not_not, ne_eq, ps_e1, ps_em, ps_z, Nat.not_le, false_implies, true_implies, forall_const, ps_01, ps_1n, ps_0n, ps_m10, ps_m1n, lg_cmp_gt, lg_cmp_ge, lg_cmp_le, lg_cmp_lt, lg_cmp_eq, pu_rne, pu_req, pu_uro, RFc_n, Nat.reduceAdd, Nat.reduceMul, Nat.reduceLT, Nat.reduceLeDiff, Nat.reduceEqDiff, Nat.reduceSub]
        exact ih
      · have p1 : pD K 1 c = false := by unfold pD; simpa using q1
        rw [p1] at h1
        unfold tI at ih
        rw [h1, g2] at ih
        unfold tI at hk ⊢
        simp only [↓r286_19, ↓r286_20, ↓r286_23, ↓r286_26, ↓r286_27, ↓r286_30, ↓r286_31, ↓r286_32, ↓r286_33, ↓r286_35, ↓r286_38, ↓r286_39, ↓r286_42, ↓r286_43, ↓r286_46, ↓r286_47, ↓r286_47z, ↓r286_48, ↓r286_49, ↓r286_50, ↓r286_52, ↓r286_55, ↓r286_56, ↓r286_59, ↓r286_62, ↓r286_63, ↓r286_66, ↓r286_67, ↓r286_70, ↓r286_71, ↓r286_72, ↓r286_73, ↓r286_73r, ↓r286_74, ↓r286_77, ↓r286_78, ↓r286_79, ↓r286_82, ↓r286_85, ↓k_at (K := K) (N := N), ↓k_isTried (K := K) (N := N), ↓k_side (K := K) (N := N), ↓k_thing (K := K) (N := N), ↓k_isFound (K := K) (N := N), ↓m_factOf (K := K) (N := N), ↓m_isTried (K := K) (N := N), ↓m_took (K := K) (N := N), ↓m_waited (K := K) (N := N), ↓m_isLong (K := K) (N := N), ↓m_isShort (K := K) (N := N), ↓m_thingOf (K := K) (N := N), ↓m_isFound (K := K) (N := N), ↓m_many (K := K) (N := N), ↓c_within, ↓s_lies, hCK, b01, b11, q_le, q_lt, q_eq, q_e0, q_e1, q_0e, q_1e, ps_n0, q_0le, q_le0, q_0lt, q_m1e, q_em1, hk 1, hk 2, hk 3, hk 49, hc, z1, z2, z3, q1, q2, b_and, pu_uI, pu_rol, pu_ror, pu_uu, if_true, if_false, Bool.false_eq_true, hn, hn2, ht, hF, am_wt, am_wf, Option.isSome_some, am_rf_s, am_rf_n, ps_lit, nI_add, nI_1, pk_mul, ps_cl, ps_neg, ps_c0, ps_c1, ps_n01, ps_n11, ps_10, ps_b01, ps_e0, pu_Ine, pu_Ieq, pu_ne, pu_eq, am_k_n, am_k_i, am_k_r, am_k_u, am_k_l, am_sz_0, am_sz_i, am_sz_r, am_sz_u, am_sz_l, Option.toList_some, Option.toList_none, List.cons_append, List.nil_append, true_and, and_true, or_false, false_or, or_self, or_true, true_or, not_false_eq_true, not_true_eq_false, Classical.not_not, ne_eq, ps_e1, ps_em, ps_z, Nat.not_le, false_implies, true_implies, forall_const, ps_01, ps_1n, ps_0n, ps_m10, ps_m1n, lg_cmp_gt, lg_cmp_ge, lg_cmp_le, lg_cmp_lt, lg_cmp_eq, pu_rne, pu_req, pu_uro, RFc_n, Nat.reduceAdd, Nat.reduceMul, Nat.reduceLT, Nat.reduceLeDiff, Nat.reduceEqDiff, Nat.reduceSub]
        exact ih
  · rw [r286_18]
    have hk : ∀ b, b ≠ 47 → b ≠ 59 → b ≠ 68 → tI I K N b = I b := fun b => tI_n
    simp only [↓r286_19, ↓r286_20, ↓r286_23, ↓k_at (K := K) (N := N), ↓k_isTried (K := K) (N := N), ↓k_side (K := K) (N := N), ↓k_thing (K := K) (N := N), ↓k_isFound (K := K) (N := N), ↓m_factOf (K := K) (N := N), ↓m_isTried (K := K) (N := N), ↓m_took (K := K) (N := N), ↓m_waited (K := K) (N := N), ↓m_isLong (K := K) (N := N), ↓m_isShort (K := K) (N := N), ↓m_thingOf (K := K) (N := N), ↓m_isFound (K := K) (N := N), ↓m_many (K := K) (N := N), ↓c_within, ↓s_lies, hCK, b01, b11, hk 1, hk 2, hk 3, hk 49, Int32.le_refl, Bool.false_eq_true, hn, hn2, ht, hF, am_wt, am_wf, Option.isSome_some, am_rf_s, am_rf_n, ps_lit, nI_add, nI_1, pk_mul, ps_cl, ps_neg, ps_c0, ps_c1, ps_n01, ps_n11, ps_10, ps_b01, ps_e0, pu_Ine, pu_Ieq, pu_ne, pu_eq, am_k_n, am_k_i, am_k_r, am_k_u, am_k_l, am_sz_0, am_sz_i, am_sz_r, am_sz_u, am_sz_l, Option.toList_some, Option.toList_none, List.cons_append, List.nil_append, true_and, and_true, or_false, false_or, or_self, or_true, true_or, not_false_eq_true, not_true_eq_false, Classical.not_not, ne_eq, ps_e1, ps_em, ps_z, Nat.not_le, false_implies, true_implies, forall_const, ps_01, ps_1n, ps_0n, ps_m10, ps_m1n, lg_cmp_gt, lg_cmp_ge, lg_cmp_le, lg_cmp_lt, lg_cmp_eq, pu_rne, pu_req, pu_uro, RFc_n, Nat.reduceAdd, Nat.reduceMul, Nat.reduceLT, Nat.reduceLeDiff, Nat.reduceEqDiff, Nat.reduceSub]
theorem SC_tI {c : Nat} : SC I (tI I K c) := by
  unfold tI
  exact SC_o (SC_o (SC_47 (fun k hk => pu_ne (by omega))) (fun _ => rfl)) (fun _ => rfl)
theorem pr_trust {w : Int32} {i : Nat} (hX : XS X) (hi : i < 600) (hV : Inv i (n, sl, t, I, J, F)) : PR X i 147 286 [some (.ref 0), some (.int w)] [some (.ref 47), some (.int w), none] (n, sl, t, I, J, F) := by
  obtain ⟨N, T, lw, hC⟩ := CX_of hV; obtain ⟨hW, hK, _, ⟨hs, hc, hr, hu, hm⟩, hl⟩ := id hC; have hN := hK.1; obtain ⟨hn, hn2, ht, hF⟩ := id hW
  by_cases hw : 0 ≤ w ∧ w ≤ nI 3
  · obtain ⟨w', hw', rfl⟩ := ps_rng (by decide) hw
    refine PR_ask (v := nI (sm (fun i => lcn (I 49) (grp (pD (I 49) (nI 2)) N) w' ((grp (pD (I 49) 1) N).getD i 0)) (grp (pD (I 49) 1) N).length)) hi hV ?_ ?_
    · intro Q hQ
      have hCK := CK_of hC
      have e1 := fun Q => c_takeDealt (X := X) (d := 55) (Q := Q) (sl := sl) (J := J) (v := 1) (Or.inl rfl) hCK
      have s1 : SC I (gI I 15 (grp (pD (I 49) 1) N)) := SC_gI (SC_r I) (fun _ => rfl) (fun _ => rfl)
      have hC1 := CX_sc hC s1 (fun _ _ _ => rfl)
      have e2 := fun Q => c_takeDealt (X := X) (d := 55) (Q := Q) (sl := sl) (J := J) (v := nI 2) (Or.inr rfl) (CK_of hC1)
      have s2 : SC (gI I 15 (grp (pD (I 49) 1) N)) (gI (gI I 15 (grp (pD (I 49) 1) N)) 17 (grp (pD (I 49) (nI 2)) N)) := SC_gI (SC_r _) (fun _ => rfl) (fun _ => rfl)
      have hC2 := CX_sc hC1 s2 (fun _ _ _ => rfl)
      have hG1 : GH (gI (gI I 15 (grp (pD (I 49) 1) N)) 17 (grp (pD (I 49) (nI 2)) N) 15 1) (gI (gI I 15 (grp (pD (I 49) 1) N)) 17 (grp (pD (I 49) (nI 2)) N) 16) (grp (pD (I 49) 1) N) N := by
        rw [gI_n (a := 15) (g := 17) (by decide) (by decide), gI_n (a := 16) (g := 17) (by decide) (by decide), gI_g, gI_m (g := 15)]
        exact GH_g hN
      have hG2 : GH (gI (gI I 15 (grp (pD (I 49) 1) N)) 17 (grp (pD (I 49) (nI 2)) N) 17 1) (gI (gI I 15 (grp (pD (I 49) 1) N)) 17 (grp (pD (I 49) (nI 2)) N) 18) (grp (pD (I 49) (nI 2)) N) N := by
        rw [gI_g, gI_m (g := 17)]
        exact GH_g hN
      have e3 := fun Q => cl_lasts (X := X) (d := 55) (Q := Q) (sl := sl) (J := J) hw' (CK_of hC2) hG1 hG2
      simp only [↓r147_0, ↓r147_1, ↓r147_2, ↓r147_3, ↓r147_6, ↓r147_9, ↓r147_10, ↓r147_11, ↓r147_12, ↓r147_13, ↓r147_16, ↓r147_17, ↓r147_20, ↓r147_21, ↓r147_22, ↓r147_25, ↓r147_26, ↓r147_29, ↓r147_30, ↓r147_31, ↓r147_34, ↓c_within, ↓e1, hw, and_self, if_true, Bool.false_eq_true, hn, hn2, ht, hF, am_wt, am_wf, Option.isSome_some, am_rf_s, am_rf_n, ps_lit, nI_add, nI_1, pk_mul, ps_cl, ps_neg, ps_c0, ps_c1, ps_n01, ps_n11, ps_10, ps_b01, ps_e0, pu_Ine, pu_Ieq, pu_ne, pu_eq, am_k_n, am_k_i, am_k_r, am_k_u, am_k_l, am_sz_0, am_sz_i, am_sz_r, am_sz_u, am_sz_l, Option.toList_some, Option.toList_none, List.cons_append, List.nil_append, true_and, and_true, or_false, false_or, or_self, or_true, true_or, not_false_eq_true, not_true_eq_false, Classical.not_not, ne_eq, ps_e1, ps_em, ps_z, Nat.not_le, false_implies, true_implies, forall_const, ps_01, ps_1n, ps_0n, ps_m10, ps_m1n, lg_cmp_gt, lg_cmp_ge, lg_cmp_le, lg_cmp_lt, lg_cmp_eq, pu_rne, pu_req, pu_uro, RFc_n, Nat.reduceAdd, Nat.reduceMul, Nat.reduceLT, Nat.reduceLeDiff, Nat.reduceEqDiff, Nat.reduceSub]
      refine (e2 _).mpr ?_
      simp only [↓r147_29, ↓r147_30, ↓r147_31, ↓r147_34, Bool.false_eq_true, hn, hn2, ht, hF, am_wt, am_wf, Option.isSome_some, am_rf_s, am_rf_n, ps_lit, nI_add, nI_1, pk_mul, ps_cl, ps_neg, ps_c0, ps_c1, ps_n01, ps_n11, ps_10, ps_b01, ps_e0, pu_Ine, pu_Ieq, pu_ne, pu_eq, am_k_n, am_k_i, am_k_r, am_k_u, am_k_l, am_sz_0, am_sz_i, am_sz_r, am_sz_u, am_sz_l, Option.toList_some, Option.toList_none, List.cons_append, List.nil_append, true_and, and_true, or_false, false_or, or_self, or_true, true_or, not_false_eq_true, not_true_eq_false, Classical.not_not, ne_eq, ps_e1, ps_em, ps_z, Nat.not_le, false_implies, true_implies, forall_const, ps_01, ps_1n, ps_0n, ps_m10, ps_m1n, lg_cmp_gt, lg_cmp_ge, lg_cmp_le, lg_cmp_lt, lg_cmp_eq, pu_rne, pu_req, pu_uro, RFc_n, Nat.reduceAdd, Nat.reduceMul, Nat.reduceLT, Nat.reduceLeDiff, Nat.reduceEqDiff, Nat.reduceSub]
      refine (e3 _).mpr ?_
      simp only [↓r147_34, Bool.false_eq_true, hn, hn2, ht, hF, am_wt, am_wf, Option.isSome_some, am_rf_s, am_rf_n, ps_lit, nI_add, nI_1, pk_mul, ps_cl, ps_neg, ps_c0, ps_c1, ps_n01, ps_n11, ps_10, ps_b01, ps_e0, pu_Ine, pu_Ieq, pu_ne, pu_eq, am_k_n, am_k_i, am_k_r, am_k_u, am_k_l, am_sz_0, am_sz_i, am_sz_r, am_sz_u, am_sz_l, Option.toList_some, Option.toList_none, List.cons_append, List.nil_append, true_and, and_true, or_false, false_or, or_self, or_true, true_or, not_false_eq_true, not_true_eq_false, Classical.not_not, ne_eq, ps_e1, ps_em, ps_z, Nat.not_le, false_implies, true_implies, forall_const, ps_01, ps_1n, ps_0n, ps_m10, ps_m1n, lg_cmp_gt, lg_cmp_ge, lg_cmp_le, lg_cmp_lt, lg_cmp_eq, pu_rne, pu_req, pu_uro, RFc_n, Nat.reduceAdd, Nat.reduceMul, Nat.reduceLT, Nat.reduceLeDiff, Nat.reduceEqDiff, Nat.reduceSub]
      exact hQ _ ⟨rfl, rfl, rfl, SC_t s1 s2, fun _ _ _ => rfl⟩
    · rintro ⟨n', sl', t', I', J', F'⟩ ⟨e1, e2, e3, e4, e5⟩; dsimp only at e1 e2 e3 e4 e5; subst e1; subst e2; subst e3; have hC' := CX_sc hC e4 e5; obtain ⟨hn, hn2, ht, hF⟩ := id hC'.1; intro Q hQ
      have e0 : tI I' (I 49) 0 = am_uI I' 47 24 0 := by
        unfold tI
        rw [bo_0]
        show am_ro (am_ro (am_ro I' 47 (upd (I' 47) 24 0)) 59 (ro_g (I' 59) [])) 68 (I' 68) = am_uI I' 47 24 0
        rw [ro_g0]
        have a1 := pu_roI (I := am_uI I' 47 24 0) (a := 59)
        have a2 := pu_roI (I := am_uI I' 47 24 0) (a := 68)
        rw [pu_Ine (by decide)] at a1 a2
        rw [pu_uI] at a1 a2 ⊢
        rw [a1, a2]
      have e1 := m_trust (X := X) (d := 55) (sl := sl') (J := J') (w := nI w') (Q := Q) (CK_of hC')
      rw [e0] at e1
      have s1 : SC I' (tI I' (I 49) N) := SC_tI
      have hG : GH (tI I' (I 49) N 47 24) (tI I' (I 49) N 59) (grp (pD (I 49) (nI 2)) N) N := by
        unfold tI
        rw [pu_rne (by decide), pu_rne (by decide), pu_req, pu_eq, pu_rne (by decide), pu_req]
        exact GH_g hN
      have hp : ∀ a, a < N → tI I' (I 49) N 68 a = if pD (I 49) 1 a = true then 1 else 0 := fun a ha => by
        unfold tI
        rw [pu_req]
        exact if_pos ha
      have e2 := fun Q => ml_lasts (X := X) (d := 54) (Q := Q) (sl := sl') (J := J') hw' (CK_of (CX_sc hC' s1 (fun _ _ _ => rfl))) hp hG
      rw [sm_grp] at hQ
      simp only [↓r286_0, ↓r286_1, ↓r286_2, ↓r286_3, ↓r286_6, ↓r286_9, ↓r286_10, ↓r286_11, ↓r286_12, ↓r286_13, ↓r286_16, ↓r286_17, ↓s_lies, hw, and_self, if_true, Bool.false_eq_true, hn, hn2, ht, hF, am_wt, am_wf, Option.isSome_some, am_rf_s, am_rf_n, ps_lit, nI_add, nI_1, pk_mul, ps_cl, ps_neg, ps_c0, ps_c1, ps_n01, ps_n11, ps_10, ps_b01, ps_e0, pu_Ine, pu_Ieq, pu_ne, pu_eq, am_k_n, am_k_i, am_k_r, am_k_u, am_k_l, am_sz_0, am_sz_i, am_sz_r, am_sz_u, am_sz_l, Option.toList_some, Option.toList_none, List.cons_append, List.nil_append, true_and, and_true, or_false, false_or, or_self, or_true, true_or, not_false_eq_true, not_true_eq_false, Classical.not_not, ne_eq, ps_e1, ps_em, ps_z, Nat.not_le, false_implies, true_implies, forall_const, ps_01, ps_1n, ps_0n, ps_m10, ps_m1n, lg_cmp_gt, lg_cmp_ge, lg_cmp_le, lg_cmp_lt, lg_cmp_eq, pu_rne, pu_req, pu_uro, RFc_n, Nat.reduceAdd, Nat.reduceMul, Nat.reduceLT, Nat.reduceLeDiff, Nat.reduceEqDiff, Nat.reduceSub]
      refine e1.mpr ?_
      simp only [↓r286_88, ↓r286_89, ↓r286_90, ↓r286_93, Bool.false_eq_true, hn, hn2, ht, hF, am_wt, am_wf, Option.isSome_some, am_rf_s, am_rf_n, ps_lit, nI_add, nI_1, pk_mul, ps_cl, ps_neg, ps_c0, ps_c1, ps_n01, ps_n11, ps_10, ps_b01, ps_e0, pu_Ine, pu_Ieq, pu_ne, pu_eq, am_k_n, am_k_i, am_k_r, am_k_u, am_k_l, am_sz_0, am_sz_i, am_sz_r, am_sz_u, am_sz_l, Option.toList_some, Option.toList_none, List.cons_append, List.nil_append, true_and, and_true, or_false, false_or, or_self, or_true, true_or, not_false_eq_true, not_true_eq_false, Classical.not_not, ne_eq, ps_e1, ps_em, ps_z, Nat.not_le, false_implies, true_implies, forall_const, ps_01, ps_1n, ps_0n, ps_m10, ps_m1n, lg_cmp_gt, lg_cmp_ge, lg_cmp_le, lg_cmp_lt, lg_cmp_eq, pu_rne, pu_req, pu_uro, RFc_n, Nat.reduceAdd, Nat.reduceMul, Nat.reduceLT, Nat.reduceLeDiff, Nat.reduceEqDiff, Nat.reduceSub]
      refine (e2 _).mpr ?_
      simp only [↓r286_93, Bool.false_eq_true, hn, hn2, ht, hF, am_wt, am_wf, Option.isSome_some, am_rf_s, am_rf_n, ps_lit, nI_add, nI_1, pk_mul, ps_cl, ps_neg, ps_c0, ps_c1, ps_n01, ps_n11, ps_10, ps_b01, ps_e0, pu_Ine, pu_Ieq, pu_ne, pu_eq, am_k_n, am_k_i, am_k_r, am_k_u, am_k_l, am_sz_0, am_sz_i, am_sz_r, am_sz_u, am_sz_l, Option.toList_some, Option.toList_none, List.cons_append, List.nil_append, true_and, and_true, or_false, false_or, or_self, or_true, true_or, not_false_eq_true, not_true_eq_false, Classical.not_not, ne_eq, ps_e1, ps_em, ps_z, Nat.not_le, false_implies, true_implies, forall_const, ps_01, ps_1n, ps_0n, ps_m10, ps_m1n, lg_cmp_gt, lg_cmp_ge, lg_cmp_le, lg_cmp_lt, lg_cmp_eq, pu_rne, pu_req, pu_uro, RFc_n, Nat.reduceAdd, Nat.reduceMul, Nat.reduceLT, Nat.reduceLeDiff, Nat.reduceEqDiff, Nat.reduceSub]
      exact hQ _ ⟨rfl, rfl, rfl, s1, fun _ _ _ => rfl⟩
  · refine PR_ask (v := -1) hi hV ?_ ?_
    · intro Q hQ
      simp only [↓r147_0, ↓r147_1, ↓r147_2, ↓r147_3, ↓r147_6, ↓r147_9, ↓r147_10, ↓c_within, hw, if_false, Bool.false_eq_true, hn, hn2, ht, hF, am_wt, am_wf, Option.isSome_some, am_rf_s, am_rf_n, ps_lit, nI_add, nI_1, pk_mul, ps_cl, ps_neg, ps_c0, ps_c1, ps_n01, ps_n11, ps_10, ps_b01, ps_e0, pu_Ine, pu_Ieq, pu_ne, pu_eq, am_k_n, am_k_i, am_k_r, am_k_u, am_k_l, am_sz_0, am_sz_i, am_sz_r, am_sz_u, am_sz_l, Option.toList_some, Option.toList_none, List.cons_append, List.nil_append, true_and, and_true, or_false, false_or, or_self, or_true, true_or, not_false_eq_true, not_true_eq_false, Classical.not_not, ne_eq, ps_e1, ps_em, ps_z, Nat.not_le, false_implies, true_implies, forall_const, ps_01, ps_1n, ps_0n, ps_m10, ps_m1n, lg_cmp_gt, lg_cmp_ge, lg_cmp_le, lg_cmp_lt, lg_cmp_eq, pu_rne, pu_req, pu_uro, RFc_n, Nat.reduceAdd, Nat.reduceMul, Nat.reduceLT, Nat.reduceLeDiff, Nat.reduceEqDiff, Nat.reduceSub]
      exact hQ _ SCH_r
    · rintro ⟨n', sl', t', I', J', F'⟩ ⟨e1, e2, e3, e4, e5⟩; dsimp only at e1 e2 e3 e4 e5; subst e1; subst e2; subst e3; have hC' := CX_sc hC e4 e5; obtain ⟨hn, hn2, ht, hF⟩ := id hC'.1; intro Q hQ
      simp only [↓r286_0, ↓r286_1, ↓r286_2, ↓r286_3, ↓r286_6, ↓r286_9, ↓r286_10, ↓s_lies, hw, if_false, Bool.false_eq_true, hn, hn2, ht, hF, am_wt, am_wf, Option.isSome_some, am_rf_s, am_rf_n, ps_lit, nI_add, nI_1, pk_mul, ps_cl, ps_neg, ps_c0, ps_c1, ps_n01, ps_n11, ps_10, ps_b01, ps_e0, pu_Ine, pu_Ieq, pu_ne, pu_eq, am_k_n, am_k_i, am_k_r, am_k_u, am_k_l, am_sz_0, am_sz_i, am_sz_r, am_sz_u, am_sz_l, Option.toList_some, Option.toList_none, List.cons_append, List.nil_append, true_and, and_true, or_false, false_or, or_self, or_true, true_or, not_false_eq_true, not_true_eq_false, Classical.not_not, ne_eq, ps_e1, ps_em, ps_z, Nat.not_le, false_implies, true_implies, forall_const, ps_01, ps_1n, ps_0n, ps_m10, ps_m1n, lg_cmp_gt, lg_cmp_ge, lg_cmp_le, lg_cmp_lt, lg_cmp_eq, pu_rne, pu_req, pu_uro, RFc_n, Nat.reduceAdd, Nat.reduceMul, Nat.reduceLT, Nat.reduceLeDiff, Nat.reduceEqDiff, Nat.reduceSub]
      exact hQ _ SCH_r
end TR
