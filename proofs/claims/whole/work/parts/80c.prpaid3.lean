/-! calls, one on each side: paid -/
section PG2
variable {X : am_X} {d : Nat} {Q : Option Value → am_H → Prop} {n sl : Nat} {t : Nat → Nat × Nat} {I : Nat → Nat → Int32} {J : Nat → Nat → Int64} {F : Nat → Nat → Option Nat} {h : am_H}
variable {K : Nat → Int32} {N T : Nat} {lw : Nat → List CL}
theorem pdc_c {q0 S : Nat} {bar : Int32} {f g : Nat → Int32} (h : ∀ c, c < N ∧ fFo K c = true → f c = g c) : pdc K N (grp (fFo K) N) q0 f bar S = pdc K N (grp (fFo K) N) q0 g bar S := by
  unfold pdc
  refine cnt_c S (fun s _ => ?_)
  have e := stp_c (FF := grp (fFo K) N) (q0 := q0) (p := fun c => c < N ∧ fFo K c = true) (fun c hc => grp_mem hc) h (s + 1)
  rw [mxs_c (fun c h1 h2 => e.2 c ⟨h1, h2⟩)]
theorem c_dstart {x : Int32} (hW : WS n t F) : am_W X d 140 0 [some (.ref 44), some (.int x)] [] (n, sl, t, I, J, F) Q ↔ Q none (n, sl, t, am_uI I 44 0 x, J, F) := by
  obtain ⟨hn, hn2, ht, hF⟩ := id hW
  simp only [↓r140_0, ↓r140_1, ↓r140_2, ↓r140_5, Bool.false_eq_true, hn, hn2, ht, hF, am_wt, am_wf, Option.isSome_some, am_rf_s, am_rf_n, ps_lit, nI_add, nI_1, pk_mul, ps_cl, ps_neg, ps_c0, ps_c1, ps_n01, ps_n11, ps_10, ps_b01, ps_e0, pu_Ine, pu_Ieq, pu_ne, pu_eq, am_k_n, am_k_i, am_k_r, am_k_u, am_k_l, am_sz_0, am_sz_i, am_sz_r, am_sz_u, am_sz_l, Option.toList_some, Option.toList_none, List.cons_append, List.nil_append, true_and, and_true, or_false, false_or, or_self, or_true, true_or, not_false_eq_true, not_true_eq_false, Classical.not_not, ne_eq, ps_e1, ps_em, ps_z, Nat.not_le, false_implies, true_implies, forall_const, ps_01, ps_1n, ps_0n, ps_m10, ps_m1n, lg_cmp_gt, lg_cmp_ge, lg_cmp_le, lg_cmp_lt, lg_cmp_eq, pu_rne, pu_req, pu_uro, RFc_n, Nat.reduceAdd, Nat.reduceMul, Nat.reduceLT, Nat.reduceLeDiff, Nat.reduceEqDiff, Nat.reduceSub]
theorem pr_paid {x w : Int32} {i : Nat} (hX : XS X) (hi : i < 600) (hV : Inv i (n, sl, t, I, J, F)) : PR X i 139 280 [some (.ref 0), some (.int x), some (.int w), none, none, none] [some (.ref 47), some (.int x), some (.int w), none, none, none, none, none, none, none] (n, sl, t, I, J, F) := by
  obtain ⟨N, T, lw, hC⟩ := CX_of hV; obtain ⟨hW, hK, _, ⟨hs, hc, hr, hu, hm⟩, hl⟩ := id hC; have hN := hK.1; obtain ⟨hn, hn2, ht, hF⟩ := id hW
  by_cases h1 : 1 ≤ x ∧ x ≤ nI 100
  · by_cases h2 : 0 ≤ w ∧ w ≤ nI 1000000
    · obtain ⟨q0, hq0, rfl⟩ := ps_rng (by decide) h2
      obtain ⟨S, hS, rfl⟩ : ∃ S, S ≤ 100 ∧ x = nI S := by
        have h0 : ¬ x < 0 := fun q => by
          have a := Int32.le_iff_toInt_le.mp h1.1
          have b := Int32.lt_iff_toInt_lt.mp q
          have e1 : (1 : Int32).toInt = 1 := by decide
          have e2 : (0 : Int32).toInt = 0 := by decide
          omega
        obtain ⟨S, hS, e⟩ := ps_rng (by decide) ⟨Int32.not_lt.mp h0, h1.2⟩
        exact ⟨S, hS, e⟩
      have hbst := bst_le (fun w => lk2 (I 49) (fTh (I 49)) w N N) 23
      refine PR_ask (v := nI (pdc (I 49) N (grp (fFo (I 49)) N) q0 (fTh (I 49)) (mxs (I 49) N (fTh (I 49))) S)) hi hV ?_ ?_
      · intro Q hQ
        have e := fun Q => c_scoreAll (X := X) (d := 54) (Q := Q) (sl := sl) (J := J) (CK_of hC)
        have hW' := WS_28 (r := 2) hW
        have hF' := hW'.2.2.2
        have z3 : bst (fun w => lk2 (I 49) (fTh (I 49)) w N N) 23 < 2000000 ∧ bst (fun w => lk2 (I 49) (fTh (I 49)) w N N) 23 < 24 := by omega
        have e2 : rw39 (I 39) (fun w => lk2 (I 49) (fTh (I 49)) w N N) (bst (fun w => lk2 (I 49) (fTh (I 49)) w N N) 23) = mxs (I 49) N (fTh (I 49)) := if_pos z3.2
        have hD := SDH_take (I := gI I 15 (grp allG N)) (F := F) (K := I 49) (l := grp allG N) hN (by rw [grp_alen]; exact hN) (fun k hk => grp_at hk)
        rw [grp_alen] at hD
        have hfound : ∀ c, c < N ∧ fFo (I 49) c = true → tkI (gI I 15 (grp allG N)) (I 49) (grp allG N) N 35 c = fTh (I 49) c := fun c hc => twr_at hc.2 N c hc.1 (grp_alln N c hc.1).symm
        have h36 : ∀ p, (∀ c, p c = true → fFo (I 49) c = true) → ∀ i, i < (flt p (grp allG N) N).length → tkI (gI I 15 (grp allG N)) (I 49) (grp allG N) N 36 ((flt p (grp allG N) N).getD i 0) = nI (wyN (I 49) ((flt p (grp allG N) N).getD i 0)) ∧ wyN (I 49) ((flt p (grp allG N) N).getD i 0) < 24 := fun p hp i hi => by
          have hm := getD_mem hi
          obtain ⟨j, j1, j2, j3⟩ := flt_mem hm
          have hc : (flt p (grp allG N) N).getD i 0 < N := by
            rw [j2, grp_alln N j j1]
            exact j1
          obtain ⟨y1, y2⟩ := wyN_e hK hc
          exact ⟨(twr_at (v := wyI (I 49)) (hp _ j3) N j j1 j2).trans y1, y2⟩
        have hG33 : GH (tkI (gI I 15 (grp allG N)) (I 49) (grp allG N) N 33 1) (tkI (gI I 15 (grp allG N)) (I 49) (grp allG N) N 34) (grp (fFo (I 49)) N) 120 := by
          have gl := grp_le (fFo (I 49)) N
          unfold tkI
          rw [sd_33, sd_34, flt_grp N (Nat.le_refl _)]
          exact ⟨rfl, by omega, fun k hk => ⟨ro_gk hk, by have := grp_at hk; omega⟩⟩
        have s0 : SC I (tkI (gI I 15 (grp allG N)) (I 49) (grp allG N) N) := SC_sd (SC_gI (SC_r I) (fun _ => rfl) (fun _ => rfl))
        have e39 : tkI (gI I 15 (grp allG N)) (I 49) (grp allG N) N 39 = I 39 := (sd_n (by decide)).trans (gI_n (by decide) (by decide))
        generalize tkI (gI I 15 (grp allG N)) (I 49) (grp allG N) N = I0 at e hD hfound h36 hG33 s0 e39
        simp only [↓r139_0, ↓r139_1, ↓r139_2, ↓r139_4, ↓r139_7, ↓r139_10, ↓r139_11, ↓r139_12, ↓r139_15, ↓r139_18, ↓r139_21, ↓r139_22, ↓r139_23, ↓r139_24, ↓r139_27, ↓r139_30, ↓r139_31, ↓c_within, ↓e, h1, h2, and_self, if_true, Bool.false_eq_true, hn, hn2, ht, hF, am_wt, am_wf, Option.isSome_some, am_rf_s, am_rf_n, ps_lit, nI_add, nI_1, pk_mul, ps_cl, ps_neg, ps_c0, ps_c1, ps_n01, ps_n11, ps_10, ps_b01, ps_e0, pu_Ine, pu_Ieq, pu_ne, pu_eq, am_k_n, am_k_i, am_k_r, am_k_u, am_k_l, am_sz_0, am_sz_i, am_sz_r, am_sz_u, am_sz_l, Option.toList_some, Option.toList_none, List.cons_append, List.nil_append, true_and, and_true, or_false, false_or, or_self, or_true, true_or, not_false_eq_true, not_true_eq_false, Classical.not_not, ne_eq, ps_e1, ps_em, ps_z, Nat.not_le, false_implies, true_implies, forall_const, ps_01, ps_1n, ps_0n, ps_m10, ps_m1n, lg_cmp_gt, lg_cmp_ge, lg_cmp_le, lg_cmp_lt, lg_cmp_eq, pu_rne, pu_req, pu_uro, RFc_n, Nat.reduceAdd, Nat.reduceMul, Nat.reduceLT, Nat.reduceLeDiff, Nat.reduceEqDiff, Nat.reduceSub]
        have e3 := fun Q => c_dstart (X := X) (d := 58) (Q := Q) (sl := sl) (J := J) (I := am_ro I0 39 (rw39 (I 39) (fun w => lk2 (I 49) (fTh (I 49)) w N N))) (x := nI q0) hW'
        simp only [↓r139_34, ↓r139_34k, ↓r139_35, ↓r139_36, ↓r139_37, ↓r139_40, ↓r139_41, ↓r139_44, ↓r139_45, ↓r139_47, ↓r139_48, ↓e3, hF', z3, e2, pu_uI, Bool.false_eq_true, hn, hn2, ht, hF, am_wt, am_wf, Option.isSome_some, am_rf_s, am_rf_n, ps_lit, nI_add, nI_1, pk_mul, ps_cl, ps_neg, ps_c0, ps_c1, ps_n01, ps_n11, ps_10, ps_b01, ps_e0, pu_Ine, pu_Ieq, pu_ne, pu_eq, am_k_n, am_k_i, am_k_r, am_k_u, am_k_l, am_sz_0, am_sz_i, am_sz_r, am_sz_u, am_sz_l, Option.toList_some, Option.toList_none, List.cons_append, List.nil_append, true_and, and_true, or_false, false_or, or_self, or_true, true_or, not_false_eq_true, not_true_eq_false, Classical.not_not, ne_eq, ps_e1, ps_em, ps_z, Nat.not_le, false_implies, true_implies, forall_const, ps_01, ps_1n, ps_0n, ps_m10, ps_m1n, lg_cmp_gt, lg_cmp_ge, lg_cmp_le, lg_cmp_lt, lg_cmp_eq, pu_rne, pu_req, pu_uro, RFc_n, Nat.reduceAdd, Nat.reduceMul, Nat.reduceLT, Nat.reduceLeDiff, Nat.reduceEqDiff, Nat.reduceSub]
        have h5 := cl_paid (X := X) (d := 55) (Q := Q) (sl := sl) (J := J) (K := I 49) (N := N) (T := T) (F := am_uF F 28 8 (some 2)) (I0 := I0) (q0 := q0) (S := S) (seed := nI q0) (bar := mxs (I 49) N (fTh (I 49))) (f0 := I0 35) hK hW' (by omega) hS (fun f => ⟨hD.1, Or.inl rfl, by rw [pu_rne (by decide), pu_rne (by decide), pu_rne (by decide), pu_rne (by decide)]; exact hD.2.2.1, by rw [pu_rne (by decide), pu_rne (by decide), pu_rne (by decide), pu_rne (by decide)]; exact hD.2.2.2.1, fun i _ => by rw [pu_rne (by decide), pu_req], fun i _ => by rw [pu_rne (by decide), pu_req]⟩) hG33 h36 (fun f35 f39 f44 => by
          rw [pdc_c (f := I0 35) (g := fTh (I 49)) hfound]
          exact hQ _ ⟨rfl, rfl, rfl, SC_o (SC_o (SC_o s0 (fun _ => rfl)) (fun _ => rfl)) (fun _ => rfl), F28_n⟩) (rw39 (I 39) (fun w => lk2 (I 49) (fTh (I 49)) w N N)) (upd (I0 44) 0 (nI q0)) (by rw [pu_eq])
        rw [pu_roI] at h5
        exact h5
      · rintro ⟨n', sl', t', I', J', F'⟩ ⟨e1, e2, e3, e4, e5⟩; dsimp only at e1 e2 e3 e4 e5; subst e1; subst e2; subst e3; have hC' := CX_sc hC e4 e5; obtain ⟨hn, hn2, ht, hF⟩ := id hC'.1; intro Q hQ
        have hCK' := CK_of hC'
        have s1 : SC I' (am_ro I' 66 (tfr (I' 66) (I 49) N)) := SC_o (SC_r I') (fun _ => rfl)
        have hC1 := CX_sc hC' s1 (fun _ _ _ => rfl)
        have e1 := fun Q => m_lays (X := X) (d := 56) (Q := Q) (sl := sl') (J := J') hCK'
        have h66 : am_ro I' 66 (tfr (I' 66) (I 49) N) 66 = tfr (I' 66) (I 49) N := pu_req
        have htf : ∀ c, c < N → tfr (I' 66) (I 49) N c = fTh (I 49) c := fun c hc => if_pos hc
        simp only [↓r280_0, ↓r280_1, ↓r280_2, ↓r280_4, ↓r280_7, ↓r280_10, ↓r280_11, ↓r280_12, ↓r280_14, ↓r280_17, ↓r280_20, ↓r280_21, ↓r280_22, ↓r280_23, ↓r280_26, ↓r280_27, ↓r280_28, ↓r280_29, ↓s_lies, ↓e1, h1, h2, and_self, if_true, Bool.false_eq_true, hn, hn2, ht, hF, am_wt, am_wf, Option.isSome_some, am_rf_s, am_rf_n, ps_lit, nI_add, nI_1, pk_mul, ps_cl, ps_neg, ps_c0, ps_c1, ps_n01, ps_n11, ps_10, ps_b01, ps_e0, pu_Ine, pu_Ieq, pu_ne, pu_eq, am_k_n, am_k_i, am_k_r, am_k_u, am_k_l, am_sz_0, am_sz_i, am_sz_r, am_sz_u, am_sz_l, Option.toList_some, Option.toList_none, List.cons_append, List.nil_append, true_and, and_true, or_false, false_or, or_self, or_true, true_or, not_false_eq_true, not_true_eq_false, Classical.not_not, ne_eq, ps_e1, ps_em, ps_z, Nat.not_le, false_implies, true_implies, forall_const, ps_01, ps_1n, ps_0n, ps_m10, ps_m1n, lg_cmp_gt, lg_cmp_ge, lg_cmp_le, lg_cmp_lt, lg_cmp_eq, pu_rne, pu_req, pu_uro, RFc_n, Nat.reduceAdd, Nat.reduceMul, Nat.reduceLT, Nat.reduceLeDiff, Nat.reduceEqDiff, Nat.reduceSub]
        generalize tfr (I' 66) (I 49) N = f0 at h66 htf s1 hC1 e1
        rw [m_found (CK_of hC1)]
        have s2 : SC (am_ro I' 66 f0) (am_ro (am_ro I' 66 f0) 67 (ro_g (am_ro I' 66 f0 67) (grp (fFo (I 49)) N))) := SC_o (SC_r _) (fun _ => rfl)
        have hC2 := CX_sc hC1 s2 (fun _ _ _ => rfl)
        have e2 := fun Q => m_greatest (X := X) (d := 54) (Q := Q) (sl := sl') (J := J') (th := fTh (I 49)) (CK_of hC2) (fun c hc => by rw [pu_rne (by decide), h66]; exact htf c hc)
        have e3 := fun Q => m_lookedAt (X := X) (d := 55) (Q := Q) (sl := sl') (J := J') (th := fTh (I 49)) (w := bst (fun w => lk2 (I 49) (fTh (I 49)) w N N) 23) (CK_of hC2) (by omega) (fun c hc => by rw [pu_rne (by decide), h66]; exact htf c hc)
        have h67 : ∀ k, k < (grp (fFo (I 49)) N).length → am_ro (am_ro I' 66 f0) 67 (ro_g (am_ro I' 66 f0 67) (grp (fFo (I 49)) N)) 67 k = nI ((grp (fFo (I 49)) N).getD k 0) := fun k hk => by
          rw [pu_req]
          exact ro_gk hk
        have h66' : am_ro (am_ro I' 66 f0) 67 (ro_g (am_ro I' 66 f0 67) (grp (fFo (I 49)) N)) 66 = f0 := by rw [pu_rne (by decide), pu_req]
        have s3 := SC_t s1 s2
        generalize am_ro (am_ro I' 66 f0) 67 (ro_g (am_ro I' 66 f0 67) (grp (fFo (I 49)) N)) = I2 at e2 e3 h67 hC2 s3 h66'
        simp only [↓r280_69, ↓r280_70, ↓r280_71, ↓r280_74, ↓e2, ↓e3, Bool.false_eq_true, hn, hn2, ht, hF, am_wt, am_wf, Option.isSome_some, am_rf_s, am_rf_n, ps_lit, nI_add, nI_1, pk_mul, ps_cl, ps_neg, ps_c0, ps_c1, ps_n01, ps_n11, ps_10, ps_b01, ps_e0, pu_Ine, pu_Ieq, pu_ne, pu_eq, am_k_n, am_k_i, am_k_r, am_k_u, am_k_l, am_sz_0, am_sz_i, am_sz_r, am_sz_u, am_sz_l, Option.toList_some, Option.toList_none, List.cons_append, List.nil_append, true_and, and_true, or_false, false_or, or_self, or_true, true_or, not_false_eq_true, not_true_eq_false, Classical.not_not, ne_eq, ps_e1, ps_em, ps_z, Nat.not_le, false_implies, true_implies, forall_const, ps_01, ps_1n, ps_0n, ps_m10, ps_m1n, lg_cmp_gt, lg_cmp_ge, lg_cmp_le, lg_cmp_lt, lg_cmp_eq, pu_rne, pu_req, pu_uro, RFc_n, Nat.reduceAdd, Nat.reduceMul, Nat.reduceLT, Nat.reduceLeDiff, Nat.reduceEqDiff, Nat.reduceSub]
        have h5 := ml_paid (X := X) (d := 54) (Q := Q) (sl := sl') (J := J') (I := I2) (q0 := q0) (S := S) (seed := nI q0) (bar := mxs (I 49) N (fTh (I 49))) (f0 := f0) (CK_of hC2) (by omega) hS (Or.inr h67) h67 none none none
        have e66 : am_ro (am_ro I2 47 (upd (I2 47) 35 (nI q0))) 66 f0 = am_uI I2 47 35 (nI q0) := by
          rw [← h66']
          have := pu_roI (I := am_uI I2 47 35 (nI q0)) (a := 66)
          rw [pu_Ine (by decide)] at this
          exact this
        rw [e66] at h5
        simp only [↓r280_77, ↓r280_79, ↓r280_80, ↓r280_81, ↓r280_84, ↓r280_85, ↓r280_87, ↓r280_88, Bool.false_eq_true, hn, hn2, ht, hF, am_wt, am_wf, Option.isSome_some, am_rf_s, am_rf_n, ps_lit, nI_add, nI_1, pk_mul, ps_cl, ps_neg, ps_c0, ps_c1, ps_n01, ps_n11, ps_10, ps_b01, ps_e0, pu_Ine, pu_Ieq, pu_ne, pu_eq, am_k_n, am_k_i, am_k_r, am_k_u, am_k_l, am_sz_0, am_sz_i, am_sz_r, am_sz_u, am_sz_l, Option.toList_some, Option.toList_none, List.cons_append, List.nil_append, true_and, and_true, or_false, false_or, or_self, or_true, true_or, not_false_eq_true, not_true_eq_false, Classical.not_not, ne_eq, ps_e1, ps_em, ps_z, Nat.not_le, false_implies, true_implies, forall_const, ps_01, ps_1n, ps_0n, ps_m10, ps_m1n, lg_cmp_gt, lg_cmp_ge, lg_cmp_le, lg_cmp_lt, lg_cmp_eq, pu_rne, pu_req, pu_uro, RFc_n, Nat.reduceAdd, Nat.reduceMul, Nat.reduceLT, Nat.reduceLeDiff, Nat.reduceEqDiff, Nat.reduceSub]
        refine h5.mpr ?_
        rw [pdc_c (f := f0) (g := fTh (I 49)) (fun c hc => htf c hc.1)]
        refine hQ _ ⟨rfl, rfl, rfl, SC_t s3 (SC_o (SC_47 (fun k hk => pu_ne (by omega))) (fun _ => rfl)), fun _ _ _ => rfl⟩
    · refine PR_ask (v := -1) hi hV ?_ ?_
      · intro Q hQ
        simp only [↓r139_0, ↓r139_1, ↓r139_2, ↓r139_4, ↓r139_7, ↓r139_10, ↓r139_11, ↓r139_12, ↓r139_15, ↓r139_18, ↓r139_21, ↓r139_22, ↓c_within, h1, h2, and_self, if_true, if_false, Bool.false_eq_true, hn, hn2, ht, hF, am_wt, am_wf, Option.isSome_some, am_rf_s, am_rf_n, ps_lit, nI_add, nI_1, pk_mul, ps_cl, ps_neg, ps_c0, ps_c1, ps_n01, ps_n11, ps_10, ps_b01, ps_e0, pu_Ine, pu_Ieq, pu_ne, pu_eq, am_k_n, am_k_i, am_k_r, am_k_u, am_k_l, am_sz_0, am_sz_i, am_sz_r, am_sz_u, am_sz_l, Option.toList_some, Option.toList_none, List.cons_append, List.nil_append, true_and, and_true, or_false, false_or, or_self, or_true, true_or, not_false_eq_true, not_true_eq_false, Classical.not_not, ne_eq, ps_e1, ps_em, ps_z, Nat.not_le, false_implies, true_implies, forall_const, ps_01, ps_1n, ps_0n, ps_m10, ps_m1n, lg_cmp_gt, lg_cmp_ge, lg_cmp_le, lg_cmp_lt, lg_cmp_eq, pu_rne, pu_req, pu_uro, RFc_n, Nat.reduceAdd, Nat.reduceMul, Nat.reduceLT, Nat.reduceLeDiff, Nat.reduceEqDiff, Nat.reduceSub]
        exact hQ _ SCH_r
      · rintro ⟨n', sl', t', I', J', F'⟩ ⟨e1, e2, e3, e4, e5⟩; dsimp only at e1 e2 e3 e4 e5; subst e1; subst e2; subst e3; have hC' := CX_sc hC e4 e5; obtain ⟨hn, hn2, ht, hF⟩ := id hC'.1; intro Q hQ
        simp only [↓r280_0, ↓r280_1, ↓r280_2, ↓r280_4, ↓r280_7, ↓r280_10, ↓r280_11, ↓r280_12, ↓r280_14, ↓r280_17, ↓r280_20, ↓r280_21, ↓s_lies, h1, h2, and_self, if_true, if_false, Bool.false_eq_true, hn, hn2, ht, hF, am_wt, am_wf, Option.isSome_some, am_rf_s, am_rf_n, ps_lit, nI_add, nI_1, pk_mul, ps_cl, ps_neg, ps_c0, ps_c1, ps_n01, ps_n11, ps_10, ps_b01, ps_e0, pu_Ine, pu_Ieq, pu_ne, pu_eq, am_k_n, am_k_i, am_k_r, am_k_u, am_k_l, am_sz_0, am_sz_i, am_sz_r, am_sz_u, am_sz_l, Option.toList_some, Option.toList_none, List.cons_append, List.nil_append, true_and, and_true, or_false, false_or, or_self, or_true, true_or, not_false_eq_true, not_true_eq_false, Classical.not_not, ne_eq, ps_e1, ps_em, ps_z, Nat.not_le, false_implies, true_implies, forall_const, ps_01, ps_1n, ps_0n, ps_m10, ps_m1n, lg_cmp_gt, lg_cmp_ge, lg_cmp_le, lg_cmp_lt, lg_cmp_eq, pu_rne, pu_req, pu_uro, RFc_n, Nat.reduceAdd, Nat.reduceMul, Nat.reduceLT, Nat.reduceLeDiff, Nat.reduceEqDiff, Nat.reduceSub]
        exact hQ _ SCH_r
  · refine PR_ask (v := -1) hi hV ?_ ?_
    · intro Q hQ
      simp only [↓r139_0, ↓r139_1, ↓r139_2, ↓r139_4, ↓r139_7, ↓r139_10, ↓r139_11, ↓r139_12, ↓r139_15, ↓r139_18, ↓r139_21, ↓r139_22, ↓c_within, h1, if_false, Bool.false_eq_true, hn, hn2, ht, hF, am_wt, am_wf, Option.isSome_some, am_rf_s, am_rf_n, ps_lit, nI_add, nI_1, pk_mul, ps_cl, ps_neg, ps_c0, ps_c1, ps_n01, ps_n11, ps_10, ps_b01, ps_e0, pu_Ine, pu_Ieq, pu_ne, pu_eq, am_k_n, am_k_i, am_k_r, am_k_u, am_k_l, am_sz_0, am_sz_i, am_sz_r, am_sz_u, am_sz_l, Option.toList_some, Option.toList_none, List.cons_append, List.nil_append, true_and, and_true, or_false, false_or, or_self, or_true, true_or, not_false_eq_true, not_true_eq_false, Classical.not_not, ne_eq, ps_e1, ps_em, ps_z, Nat.not_le, false_implies, true_implies, forall_const, ps_01, ps_1n, ps_0n, ps_m10, ps_m1n, lg_cmp_gt, lg_cmp_ge, lg_cmp_le, lg_cmp_lt, lg_cmp_eq, pu_rne, pu_req, pu_uro, RFc_n, Nat.reduceAdd, Nat.reduceMul, Nat.reduceLT, Nat.reduceLeDiff, Nat.reduceEqDiff, Nat.reduceSub]
      exact hQ _ SCH_r
    · rintro ⟨n', sl', t', I', J', F'⟩ ⟨e1, e2, e3, e4, e5⟩; dsimp only at e1 e2 e3 e4 e5; subst e1; subst e2; subst e3; have hC' := CX_sc hC e4 e5; obtain ⟨hn, hn2, ht, hF⟩ := id hC'.1; intro Q hQ
      simp only [↓r280_0, ↓r280_1, ↓r280_2, ↓r280_4, ↓r280_7, ↓r280_10, ↓r280_11, ↓r280_12, ↓r280_14, ↓r280_17, ↓r280_20, ↓r280_21, ↓s_lies, h1, if_false, Bool.false_eq_true, hn, hn2, ht, hF, am_wt, am_wf, Option.isSome_some, am_rf_s, am_rf_n, ps_lit, nI_add, nI_1, pk_mul, ps_cl, ps_neg, ps_c0, ps_c1, ps_n01, ps_n11, ps_10, ps_b01, ps_e0, pu_Ine, pu_Ieq, pu_ne, pu_eq, am_k_n, am_k_i, am_k_r, am_k_u, am_k_l, am_sz_0, am_sz_i, am_sz_r, am_sz_u, am_sz_l, Option.toList_some, Option.toList_none, List.cons_append, List.nil_append, true_and, and_true, or_false, false_or, or_self, or_true, true_or, not_false_eq_true, not_true_eq_false, Classical.not_not, ne_eq, ps_e1, ps_em, ps_z, Nat.not_le, false_implies, true_implies, forall_const, ps_01, ps_1n, ps_0n, ps_m10, ps_m1n, lg_cmp_gt, lg_cmp_ge, lg_cmp_le, lg_cmp_lt, lg_cmp_eq, pu_rne, pu_req, pu_uro, RFc_n, Nat.reduceAdd, Nat.reduceMul, Nat.reduceLT, Nat.reduceLeDiff, Nat.reduceEqDiff, Nat.reduceSub]
      exact hQ _ SCH_r
end PG2
