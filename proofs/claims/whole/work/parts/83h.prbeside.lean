/-! calls, one on each side: beside -/
section BF
variable {X : am_X} {d : Nat} {Q : Option Value → am_H → Prop} {n sl : Nat} {t : Nat → Nat × Nat} {I : Nat → Nat → Int32} {J : Nat → Nat → Int64} {F : Nat → Nat → Option Nat} {h : am_H}
variable {K : Nat → Int32} {N T : Nat} {lw : Nat → List CL}
theorem SC_ns37 {v w : Nat → Int32} {I0 : Nat → Nat → Int32} (h : SC I0 I) : SC I0 (ns2 37 38 I v w) := SC_o (SC_o h (fun _ => rfl)) (fun _ => rfl)
theorem SC_ns64 {v w : Nat → Int32} {I0 : Nat → Nat → Int32} (h : SC I0 I) : SC I0 (ns2 64 65 I v w) := SC_o (SC_o h (fun _ => rfl)) (fun _ => rfl)
theorem cl_nk {l : List Nat} (hCK : CK n t F (I 1 4) (I 2) (I 3) (I 49) K N) (hG : GH (I 15 1) (I 16) l N) : ∃ v w, ∀ Q, am_W X (d + 3) 132 0 [some (.ref 28), none, none, none] [] (n, sl, t, tkI I K l l.length, J, am_uF F 28 8 (some 2)) Q ↔ Q (some (.int (chv (bsel (fun s => t2 (cW K s (fTh K)) (pL K) (pS K) l l.length) (fun s => t2 (cL K s (fTh K)) (pL K) (pS K) l l.length) 256)))) (n, sl, t, ns2 37 38 (tkI I K l l.length) v w, J, am_uF F 28 8 (some 2)) := by
  obtain ⟨hW, ⟨T, hK⟩, hs, hr, hu, h49⟩ := id hCK
  have hN := hK.1
  have hl := hG.2.1
  have hD := SDH_take (I := I) (F := F) (K := K) (l := l) hN hG.2.1 (fun k hk => (hG.2.2 k hk).2)
  have hb : ∀ p a, a ∈ flt p l l.length → a < N := fun p a ha => by
    obtain ⟨i, h1, h2, _⟩ := flt_mem ha
    rw [h2]
    exact (hG.2.2 i h1).2
  have e2 : tkI I K l l.length 2 = I 2 := sd_n (by decide)
  have hq : ∀ m a b, a ∈ flt (pL K) l l.length → b ∈ flt (pS K) l l.length → alq (I 2) m a b = alq K m a b := fun m a b ha hb' => alq_c (fun i hi => hr _ (by have := hb _ a ha; omega)) (fun i hi => hr _ (by have := hb _ b hb'; omega))
  refine ⟨_, _, fun Q => cl_near (WS_28 hW) hD (w := fun s => t2 (cW K s (fTh K)) (pL K) (pS K) l l.length) (l := fun s => t2 (cL K s (fTh K)) (pL K) (pS K) l l.length) (fun s hs => ?_) (fun s hs => ?_) (fun s => ⟨t2_lt hl (fun a b => by unfold cW; split <;> (try split) <;> omega), t2_lt hl (fun a b => by unfold cL; split <;> (try split) <;> omega)⟩)⟩
  · rw [e2, s2_c (g := cW (I 2) s (fTh K)) (g' := cW K s (fTh K)) (fun a b ha hb => by unfold cW; rw [hq s a b ha hb]), s2_t2]
  · rw [e2, s2_c (g := cL (I 2) s (fTh K)) (g' := cL K s (fTh K)) (fun a b ha hb => by unfold cL; rw [hq s a b ha hb]), s2_t2]
theorem pr_beside3 {x : Int32} {i : Nat} (hX : XS X) (hi : i < 600) (hV : Inv i (n, sl, t, I, J, F)) : PR X i 130 271 [some (.ref 0), some (.int x), some (.int (nI 3)), none, none] [some (.ref 47), some (.int x), some (.int (nI 3))] (n, sl, t, I, J, F) := by
  obtain ⟨N, T, lw, hC⟩ := CX_of hV; obtain ⟨hW, hK, _, ⟨hs, hc, hr, hu, hm⟩, hl⟩ := id hC; have hN := hK.1; obtain ⟨hn, hn2, ht, hF⟩ := id hW
  have hw4 : (0 ≤ nI 3 ∧ nI 3 ≤ nI 3) = True := ps_rngT (by omega) (by decide)
  by_cases hx : isG T x
  · have hpre : ∀ Q, (∀ f13 f14, am_W X 59 130 18 [some (.ref 0), some (.int x), some (.int (nI 3)), none, none] [.int 1] (n, sl, t, gI (am_ro (am_ro I 13 f13) 14 f14) 15 (grp (inG (I 49) lw x) N), J, F) Q) → am_W X 59 130 0 [some (.ref 0), some (.int x), some (.int (nI 3)), none, none] [] (n, sl, t, I, J, F) Q := by
      intro Q hh
      simp only [↓r130_0, ↓r130_1, ↓r130_2, ↓r130_3, ↓r130_6, ↓r130_9, ↓r130_10, ↓r130_11, ↓r130_14, ↓r130_15, ↓c_within, hw4, if_true, Bool.false_eq_true, hn, hn2, ht, hF, am_wt, am_wf, Option.isSome_some, am_rf_s, am_rf_n, ps_lit, nI_add, nI_1, pk_mul, ps_cl, ps_neg, ps_c0, ps_c1, ps_n01, ps_n11, ps_10, ps_b01, ps_e0, pu_Ine, pu_Ieq, pu_ne, pu_eq, am_k_n, am_k_i, am_k_r, am_k_u, am_k_l, am_sz_0, am_sz_i, am_sz_r, am_sz_u, am_sz_l, Option.toList_some, Option.toList_none, List.cons_append, List.nil_append, true_and, and_true, or_false, false_or, or_self, or_true, true_or, not_false_eq_true, not_true_eq_false, Classical.not_not, ne_eq, ps_e1, ps_em, ps_z, Nat.not_le, false_implies, true_implies, forall_const, ps_01, ps_1n, ps_0n, ps_m10, ps_m1n, lg_cmp_gt, lg_cmp_ge, lg_cmp_le, lg_cmp_lt, lg_cmp_eq, pu_rne, pu_req, pu_uro, RFc_n, Nat.reduceAdd, Nat.reduceMul, Nat.reduceLT, Nat.reduceLeDiff, Nat.reduceEqDiff, Nat.reduceSub]
      exact c_gather (Or.inl rfl) hC hx (fun f13 f14 => hh f13 f14)
    refine PR_ask (v := chv (bsel (fun s => t2 (cW (I 49) s (fTh (I 49))) (pL (I 49)) (pS (I 49)) (grp (inG (I 49) lw x) N) (grp (inG (I 49) lw x) N).length) (fun s => t2 (cL (I 49) s (fTh (I 49))) (pL (I 49)) (pS (I 49)) (grp (inG (I 49) lw x) N) (grp (inG (I 49) lw x) N).length) 256)) hi hV ?_ ?_
    · intro Q hQ
      refine hpre Q (fun f13 f14 => ?_)
      have s1 := SC_gather (I := I) (f13 := f13) (f14 := f14) (l := grp (inG (I 49) lw x) N) (Or.inl rfl)
      have hC1 := CX_sc hC s1 (fun _ _ _ => rfl)
      have hG1 := GH_c (I := I) (l := []) (f13 := f13) (f14 := f14) (g := 15) (p := inG (I 49) lw x) hN
      generalize gI (am_ro (am_ro I 13 f13) 14 f14) 15 (grp (inG (I 49) lw x) N) = I1 at s1 hC1 hG1
      have ek := fun Q => k_noCauses (X := X) (d := 58) (Q := Q) (sl := sl) (J := J) (K := I 49) hC1.1 hC1.2.2.2.1.2.2.2.2
      have ep := c_putc (K := I 49)
      have e1 := fun Q => c_stake (X := X) (d := 55) (Q := Q) (sl := sl) (J := J) (CK_of hC1) hG1
      obtain ⟨v, w, e2⟩ := cl_nk (X := X) (d := 55) (sl := sl) (J := J) (CK_of hC1) hG1
      have hF' := (WS_28 (r := 2) hW).2.2.2
      have fin : ∀ h', SCH (n, sl, t, I1, J, F) h' → _ := fun h' q => hQ h' (SCH_t (⟨rfl, rfl, rfl, s1, fun _ _ _ => rfl⟩ : SCH (n, sl, t, I, J, F) (n, sl, t, I1, J, F)) q)
      simp only [↓r130_18, ↓r130_21, ↓r130_24, ↓r130_25, ↓r130_28, ↓r130_29, ↓r130_32, ↓r130_33, ↓r130_34, ↓r130_35, ↓r130_37, ↓r130_38, ↓r130_40, ↓r130_41, ↓r130_44, ↓r130_46, ↓r130_47, ↓r130_48, ↓r130_51, ↓r130_52, ↓r130_55, ↓r130_56, ↓r130_59, ↓ek, ↓e1, q_le, q_lt, q_eq, q_e0, q_e1, q_0e, q_1e, ps_n0, q_0le, q_le0, q_0lt, q_m1e, q_em1, ep, Bool.false_eq_true, hn, hn2, ht, hF, am_wt, am_wf, Option.isSome_some, am_rf_s, am_rf_n, ps_lit, nI_add, nI_1, pk_mul, ps_cl, ps_neg, ps_c0, ps_c1, ps_n01, ps_n11, ps_10, ps_b01, ps_e0, pu_Ine, pu_Ieq, pu_ne, pu_eq, am_k_n, am_k_i, am_k_r, am_k_u, am_k_l, am_sz_0, am_sz_i, am_sz_r, am_sz_u, am_sz_l, Option.toList_some, Option.toList_none, List.cons_append, List.nil_append, true_and, and_true, or_false, false_or, or_self, or_true, true_or, not_false_eq_true, not_true_eq_false, Classical.not_not, ne_eq, ps_e1, ps_em, ps_z, Nat.not_le, false_implies, true_implies, forall_const, ps_01, ps_1n, ps_0n, ps_m10, ps_m1n, lg_cmp_gt, lg_cmp_ge, lg_cmp_le, lg_cmp_lt, lg_cmp_eq, pu_rne, pu_req, pu_uro, RFc_n, Nat.reduceAdd, Nat.reduceMul, Nat.reduceLT, Nat.reduceLeDiff, Nat.reduceEqDiff, Nat.reduceSub]
      simp only [↓r130_62, ↓r130_63, ↓r130_64, ↓r130_67, ↓r130_68, ↓r130_71, ↓r130_74, ↓r130_75, ↓r130_76, ↓r130_79, ↓r130_80, ↓r130_81, ↓r130_84, ↓r130_86, ↓r130_89, ↓r130_90, ↓r130_93, ↓e2, q_le, q_lt, q_eq, q_e0, q_e1, q_0e, q_1e, ps_n0, q_0le, q_le0, q_0lt, q_m1e, q_em1, hF', Bool.false_eq_true, hn, hn2, ht, hF, am_wt, am_wf, Option.isSome_some, am_rf_s, am_rf_n, ps_lit, nI_add, nI_1, pk_mul, ps_cl, ps_neg, ps_c0, ps_c1, ps_n01, ps_n11, ps_10, ps_b01, ps_e0, pu_Ine, pu_Ieq, pu_ne, pu_eq, am_k_n, am_k_i, am_k_r, am_k_u, am_k_l, am_sz_0, am_sz_i, am_sz_r, am_sz_u, am_sz_l, Option.toList_some, Option.toList_none, List.cons_append, List.nil_append, true_and, and_true, or_false, false_or, or_self, or_true, true_or, not_false_eq_true, not_true_eq_false, Classical.not_not, ne_eq, ps_e1, ps_em, ps_z, Nat.not_le, false_implies, true_implies, forall_const, ps_01, ps_1n, ps_0n, ps_m10, ps_m1n, lg_cmp_gt, lg_cmp_ge, lg_cmp_le, lg_cmp_lt, lg_cmp_eq, pu_rne, pu_req, pu_uro, RFc_n, Nat.reduceAdd, Nat.reduceMul, Nat.reduceLT, Nat.reduceLeDiff, Nat.reduceEqDiff, Nat.reduceSub]
      exact fin _ ⟨rfl, rfl, rfl, SC_ns37 (SC_sd (SC_r I1)), F28_n⟩
    · rintro ⟨n', sl', t', I', J', F'⟩ ⟨e1, e2, e3, e4, e5⟩; dsimp only at e1 e2 e3 e4 e5; subst e1; subst e2; subst e3; have hC' := CX_sc hC e4 e5; obtain ⟨hn, hn2, ht, hF⟩ := id hC'.1; intro Q hQ
      simp only [↓r271_0, ↓r271_1, ↓r271_2, ↓r271_5, ↓r271_8, ↓r271_9, ↓r271_10, ↓r271_11, ↓r271_14, ↓r271_17, ↓r271_20, ↓r271_21, ↓r271_22, ↓r271_23, ↓m_isGroup1 hC' hx, ↓s_lies, hw4, if_true, Bool.false_eq_true, hn, hn2, ht, hF, am_wt, am_wf, Option.isSome_some, am_rf_s, am_rf_n, ps_lit, nI_add, nI_1, pk_mul, ps_cl, ps_neg, ps_c0, ps_c1, ps_n01, ps_n11, ps_10, ps_b01, ps_e0, pu_Ine, pu_Ieq, pu_ne, pu_eq, am_k_n, am_k_i, am_k_r, am_k_u, am_k_l, am_sz_0, am_sz_i, am_sz_r, am_sz_u, am_sz_l, Option.toList_some, Option.toList_none, List.cons_append, List.nil_append, true_and, and_true, or_false, false_or, or_self, or_true, true_or, not_false_eq_true, not_true_eq_false, Classical.not_not, ne_eq, ps_e1, ps_em, ps_z, Nat.not_le, false_implies, true_implies, forall_const, ps_01, ps_1n, ps_0n, ps_m10, ps_m1n, lg_cmp_gt, lg_cmp_ge, lg_cmp_le, lg_cmp_lt, lg_cmp_eq, pu_rne, pu_req, pu_uro, RFc_n, Nat.reduceAdd, Nat.reduceMul, Nat.reduceLT, Nat.reduceLeDiff, Nat.reduceEqDiff, Nat.reduceSub]
      refine s_gathers hC' hx (fun f47 f58 g47 q1 q2 => ?_)
      have s2 := SC_gathers (f58 := f58) (r := ro_g (I' 59) (grp (inG (I 49) lw x) N)) q1
      have hC1 := CX_sc hC' s2 (fun _ _ _ => rfl)
      have hG1 := GH_m (I := I') (f58 := f58) (r := I' 59) hN q2
      generalize am_ro (am_ro (am_ro I' 47 f47) 58 f58) 59 (ro_g (I' 59) (grp (inG (I 49) lw x) N)) = I1 at s2 hC1 hG1
      have em := fun J Q => m_near (X := X) (d := 55) (Q := Q) (sl := sl') (J := J) (CK_of hC1) hG1
      simp only [↓r271_26, ↓r271_27, ↓r271_30, ↓r271_31, ↓r271_34, ↓r271_35, ↓r271_36, ↓r271_37, ↓r271_40, ↓r271_41, ↓r271_44, ↓em, q_le, q_lt, q_eq, q_e0, q_e1, q_0e, q_1e, ps_n0, q_0le, q_le0, q_0lt, q_m1e, q_em1, Bool.false_eq_true, hn, hn2, ht, hF, am_wt, am_wf, Option.isSome_some, am_rf_s, am_rf_n, ps_lit, nI_add, nI_1, pk_mul, ps_cl, ps_neg, ps_c0, ps_c1, ps_n01, ps_n11, ps_10, ps_b01, ps_e0, pu_Ine, pu_Ieq, pu_ne, pu_eq, am_k_n, am_k_i, am_k_r, am_k_u, am_k_l, am_sz_0, am_sz_i, am_sz_r, am_sz_u, am_sz_l, Option.toList_some, Option.toList_none, List.cons_append, List.nil_append, true_and, and_true, or_false, false_or, or_self, or_true, true_or, not_false_eq_true, not_true_eq_false, Classical.not_not, ne_eq, ps_e1, ps_em, ps_z, Nat.not_le, false_implies, true_implies, forall_const, ps_01, ps_1n, ps_0n, ps_m10, ps_m1n, lg_cmp_gt, lg_cmp_ge, lg_cmp_le, lg_cmp_lt, lg_cmp_eq, pu_rne, pu_req, pu_uro, RFc_n, Nat.reduceAdd, Nat.reduceMul, Nat.reduceLT, Nat.reduceLeDiff, Nat.reduceEqDiff, Nat.reduceSub]
      exact hQ _ ⟨rfl, rfl, rfl, SC_ns64 s2, fun _ _ _ => rfl⟩
  · refine PR_ask (v := -1000000) hi hV ?_ ?_
    · intro Q hQ
      simp only [↓r130_0, ↓r130_1, ↓r130_2, ↓r130_3, ↓r130_6, ↓r130_9, ↓r130_10, ↓r130_11, ↓r130_14, ↓r130_15, ↓r130_18, ↓r130_21, ↓r130_24, ↓c_within, ↓c_gather0 hC hx, hw4, if_true, Bool.false_eq_true, hn, hn2, ht, hF, am_wt, am_wf, Option.isSome_some, am_rf_s, am_rf_n, ps_lit, nI_add, nI_1, pk_mul, ps_cl, ps_neg, ps_c0, ps_c1, ps_n01, ps_n11, ps_10, ps_b01, ps_e0, pu_Ine, pu_Ieq, pu_ne, pu_eq, am_k_n, am_k_i, am_k_r, am_k_u, am_k_l, am_sz_0, am_sz_i, am_sz_r, am_sz_u, am_sz_l, Option.toList_some, Option.toList_none, List.cons_append, List.nil_append, true_and, and_true, or_false, false_or, or_self, or_true, true_or, not_false_eq_true, not_true_eq_false, Classical.not_not, ne_eq, ps_e1, ps_em, ps_z, Nat.not_le, false_implies, true_implies, forall_const, ps_01, ps_1n, ps_0n, ps_m10, ps_m1n, lg_cmp_gt, lg_cmp_ge, lg_cmp_le, lg_cmp_lt, lg_cmp_eq, pu_rne, pu_req, pu_uro, RFc_n, Nat.reduceAdd, Nat.reduceMul, Nat.reduceLT, Nat.reduceLeDiff, Nat.reduceEqDiff, Nat.reduceSub]
      exact hQ _ SCH_r
    · rintro ⟨n', sl', t', I', J', F'⟩ ⟨e1, e2, e3, e4, e5⟩; dsimp only at e1 e2 e3 e4 e5; subst e1; subst e2; subst e3; have hC' := CX_sc hC e4 e5; obtain ⟨hn, hn2, ht, hF⟩ := id hC'.1; intro Q hQ
      simp only [↓r271_0, ↓r271_1, ↓r271_2, ↓r271_5, ↓r271_8, ↓r271_9, ↓r271_10, ↓r271_11, ↓r271_14, ↓r271_17, ↓r271_20, ↓m_isGroup0 hC' hx, Bool.false_eq_true, hn, hn2, ht, hF, am_wt, am_wf, Option.isSome_some, am_rf_s, am_rf_n, ps_lit, nI_add, nI_1, pk_mul, ps_cl, ps_neg, ps_c0, ps_c1, ps_n01, ps_n11, ps_10, ps_b01, ps_e0, pu_Ine, pu_Ieq, pu_ne, pu_eq, am_k_n, am_k_i, am_k_r, am_k_u, am_k_l, am_sz_0, am_sz_i, am_sz_r, am_sz_u, am_sz_l, Option.toList_some, Option.toList_none, List.cons_append, List.nil_append, true_and, and_true, or_false, false_or, or_self, or_true, true_or, not_false_eq_true, not_true_eq_false, Classical.not_not, ne_eq, ps_e1, ps_em, ps_z, Nat.not_le, false_implies, true_implies, forall_const, ps_01, ps_1n, ps_0n, ps_m10, ps_m1n, lg_cmp_gt, lg_cmp_ge, lg_cmp_le, lg_cmp_lt, lg_cmp_eq, pu_rne, pu_req, pu_uro, RFc_n, Nat.reduceAdd, Nat.reduceMul, Nat.reduceLT, Nat.reduceLeDiff, Nat.reduceEqDiff, Nat.reduceSub]
      exact hQ _ SCH_r
theorem pr_beside {x y : Int32} {i : Nat} (hX : XS X) (hi : i < 600) (hV : Inv i (n, sl, t, I, J, F)) : PR X i 130 271 [some (.ref 0), some (.int x), some (.int y), none, none] [some (.ref 47), some (.int x), some (.int y)] (n, sl, t, I, J, F) := by
  by_cases h : 0 ≤ y ∧ y ≤ nI 3
  · obtain ⟨w, hw, rfl⟩ := ps_rng (by decide) h
    by_cases h3 : w = 3
    · subst h3
      exact pr_beside3 hX hi hV
    · exact pr_beside2 (by omega) hX hi hV
  · exact pr_beside0 h hX hi hV
end BF
