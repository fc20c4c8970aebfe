/-! calls, one on each side: text -/
section TX9
variable {X : am_X} {d : Nat} {Q : Option Value → am_H → Prop} {n sl : Nat} {t : Nat → Nat × Nat} {I : Nat → Nat → Int32} {J : Nat → Nat → Int64} {F : Nat → Nat → Option Nat} {h : am_H}
theorem c_addLaw {T b : Nat} (hW : WS n t F) (hT : T < 10) (h5 : I 1 5 = nI T) (hb : b < n) (htb : t b = (5, 2)) : am_W X d 61 0 [some (.ref 1), some (.ref b)] [] (n, sl, t, I, J, F) Q ↔ Q (some (.int (nI T))) (n, sl, t, am_uI I 1 5 (nI (T + 1)), J, am_uF F 5 T (some b)) := by
  obtain ⟨hn, hn2, ht, hF⟩ := id hW
  have z : T < 2000000 ∧ ¬ 10 ≤ T ∧ T < 10 := by omega
  have e : nI (T + 1) - nI 1 = nI T := nI_sub (by omega)
  have e2 : nI (T + 1) - 1 = nI T := e
  simp only [↓r61_0, ↓r61_1, ↓r61_4, ↓r61_6, ↓r61_9, ↓r61_10, ↓r61_11, ↓r61_12, ↓r61_15, ↓r61_16, ↓r61_19, ↓r61_19n, ↓r61_20, ↓r61_20n, ↓r61_21, ↓r61_22, ↓r61_22r, ↓r61_23, ↓r61_26, ↓r61_27, ↓r61_28, ↓r61_31, ↓r61_32, ↓r61_35, ↓r61_36, ↓r61_37, h5, hb, htb, q_le, q_lt, q_eq, q_e0, q_e1, q_0e, q_1e, ps_n0, q_0le, q_le0, q_0lt, q_m1e, q_em1, z, e, e2, Bool.false_eq_true, hn, hn2, ht, hF, am_wt, am_wf, Option.isSome_some, am_rf_s, am_rf_n, ps_lit, nI_add, nI_1, pk_mul, ps_cl, ps_neg, ps_c0, ps_c1, ps_n01, ps_n11, ps_10, ps_b01, ps_e0, pu_Ine, pu_Ieq, pu_ne, pu_eq, am_k_n, am_k_i, am_k_r, am_k_u, am_k_l, am_sz_0, am_sz_i, am_sz_r, am_sz_u, am_sz_l, Option.toList_some, Option.toList_none, List.cons_append, List.nil_append, true_and, and_true, or_false, false_or, or_self, or_true, true_or, not_false_eq_true, not_true_eq_false, Classical.not_not, ne_eq, ps_e1, ps_em, ps_z, Nat.not_le, false_implies, true_implies, forall_const, ps_01, ps_1n, ps_0n, ps_m10, ps_m1n, lg_cmp_gt, lg_cmp_ge, lg_cmp_le, lg_cmp_lt, lg_cmp_eq, pu_rne, pu_req, pu_uro, RFc_n, Nat.reduceAdd, Nat.reduceMul, Nat.reduceLT, Nat.reduceLeDiff, Nat.reduceEqDiff, Nat.reduceSub]
theorem pr_text {i : Nat} (hX : XS X) (hi : i < 600) (hV : Inv i (n, sl, t, I, J, F)) : PR X i 39 195 [some (.ref 0), none] [some (.ref 47), none, none] (n, sl, t, I, J, F) := by
  unfold PR
  have hW : WS n t F := hV.1
  obtain ⟨hn, hn2, ht, hF⟩ := id hW
  have hKR : KR (I 1 4) (I 1 5) (I 2) (I 3) (I 4) (I 49) := hV.2.2.1
  obtain ⟨N, T, ⟨hN, hT, hKN, hKT, hRW, hTW⟩, hs, hc, hr, hu, hm⟩ := id hKR
  obtain ⟨_, ⟨m1, m2, m3⟩, k1, k2, k3, k4, k5, k6, ow, k7, k8⟩ := id hV
  dsimp only at m1 m2 k1 k2 k3 k4 k5 k6 k7 k8
  by_cases hT10 : T = 10
  · subst hT10
    have hKT' : I 49 1812 = nI 10 := hKT
    simp only [↓r39_0, ↓r39_1, ↓r39_4, ↓r39_7, ↓r39_9, ↓r39_12, ↓r39_13, ↓r39_16, ↓r39_17, ↓r39_20, ↓r39_21, ↓r39_23, ↓r39_26, ↓c_rf5 hW, hc, q_le, q_lt, q_eq, q_e0, q_e1, q_0e, q_1e, ps_n0, q_0le, q_le0, q_0lt, q_m1e, q_em1, Bool.false_eq_true, hn, hn2, ht, hF, am_wt, am_wf, Option.isSome_some, am_rf_s, am_rf_n, ps_lit, nI_add, nI_1, pk_mul, ps_cl, ps_neg, ps_c0, ps_c1, ps_n01, ps_n11, ps_10, ps_b01, ps_e0, pu_Ine, pu_Ieq, pu_ne, pu_eq, am_k_n, am_k_i, am_k_r, am_k_u, am_k_l, am_sz_0, am_sz_i, am_sz_r, am_sz_u, am_sz_l, Option.toList_some, Option.toList_none, List.cons_append, List.nil_append, true_and, and_true, or_false, false_or, or_self, or_true, true_or, not_false_eq_true, not_true_eq_false, Classical.not_not, ne_eq, ps_e1, ps_em, ps_z, Nat.not_le, false_implies, true_implies, forall_const, ps_01, ps_1n, ps_0n, ps_m10, ps_m1n, lg_cmp_gt, lg_cmp_ge, lg_cmp_le, lg_cmp_lt, lg_cmp_eq, pu_rne, pu_req, pu_uro, RFc_n, Nat.reduceAdd, Nat.reduceMul, Nat.reduceLT, Nat.reduceLeDiff, Nat.reduceEqDiff, Nat.reduceSub]
    refine ⟨_, rfl, ?_⟩
    simp only [↓r195_0, ↓r195_1, ↓r195_4, ↓r195_7, ↓r195_7k, ↓r195_8, ↓r195_10, ↓r195_13, ↓r195_14, ↓r195_15, ↓r195_18, ↓r195_19, ↓r195_21, ↓r195_24, ↓s_rf5 hW, RFc_n, hKT', q_le, q_lt, q_eq, q_e0, q_e1, q_0e, q_1e, ps_n0, q_0le, q_le0, q_0lt, q_m1e, q_em1, Bool.false_eq_true, hn, hn2, ht, hF, am_wt, am_wf, Option.isSome_some, am_rf_s, am_rf_n, ps_lit, nI_add, nI_1, pk_mul, ps_cl, ps_neg, ps_c0, ps_c1, ps_n01, ps_n11, ps_10, ps_b01, ps_e0, pu_Ine, pu_Ieq, pu_ne, pu_eq, am_k_n, am_k_i, am_k_r, am_k_u, am_k_l, am_sz_0, am_sz_i, am_sz_r, am_sz_u, am_sz_l, Option.toList_some, Option.toList_none, List.cons_append, List.nil_append, true_and, and_true, or_false, false_or, or_self, or_true, true_or, not_false_eq_true, not_true_eq_false, Classical.not_not, ne_eq, ps_e1, ps_em, ps_z, Nat.not_le, false_implies, true_implies, forall_const, ps_01, ps_1n, ps_0n, ps_m10, ps_m1n, lg_cmp_gt, lg_cmp_ge, lg_cmp_le, lg_cmp_lt, lg_cmp_eq, pu_rne, pu_req, pu_uro, RFc_n, Nat.reduceAdd, Nat.reduceMul, Nat.reduceLT, Nat.reduceLeDiff, Nat.reduceEqDiff, Nat.reduceSub]
    refine Inv_tr (j := 5) hV hi (fun s s1 s2 s3 s4 s5 s6 s7 s8 s9 s10 s11 => ?_) ?_ ?_ ?_ ?_ ?_ ?_ ?_
    · unfold RFm RFc
      rw [pu_Ine s8, pu_Ine s7, pu_Ine s7, pu_Ine s6, pu_Ine s1, pu_Ine s2]
    · rfl
    · rfl
    · rfl
    · exact k3
    · rfl
    · rfl
    · rfl
  · have hTl : T < 10 := by omega
    obtain ⟨m, hm, a7, a8, hby⟩ := id k4
    have hx : ∀ j, ∃ v : Nat, j < m → v < 256 ∧ I 53 j &&& nI 255 = nI v ∧ (v < 128 → I 53 j = nI v) ∧ (128 ≤ v → I 53 j < 0) := by
      intro j
      by_cases c : j < m
      · obtain ⟨v, hv⟩ := by_u (hby j c).2
        exact ⟨v, fun _ => hv⟩
      · exact ⟨0, fun q => absurd q c⟩
    obtain ⟨u, hu'⟩ := Classical.axiomOfChoice hx
    have hTB : TPB I u m := ⟨hm, a7, fun j hj => ⟨by rw [(hby j hj).1]; exact (hu' j hj).2.1, (hu' j hj).1⟩⟩
    have hTR : TPR I u m := ⟨hm, hu'⟩
    obtain ⟨NT, n1, n2, n3⟩ := ntB (u := u) (m := m)
    have hTK := c_tok (X := X) (sl := sl) (J := J) hW hTB n1 n2 n3
    have hk0 := hTK.2.1.2
    have hk : ∀ j, j ≤ NT → tkB u m j < 400 := fun j hj => (hTK.2.2.1 j hj).2.2.2.2.2.2.2
    have zT : T < 2000000 ∧ T < 10 := by omega
    simp only [↓r39_0, ↓r39_1, ↓r39_4, ↓r39_7, ↓r39_9, ↓r39_27, ↓r39_28, ↓r39_31, hc, q_le, q_lt, q_eq, q_e0, q_e1, q_0e, q_1e, ps_n0, q_0le, q_le0, q_0lt, q_m1e, q_em1, zT, Bool.false_eq_true, hn, hn2, ht, hF, am_wt, am_wf, Option.isSome_some, am_rf_s, am_rf_n, ps_lit, nI_add, nI_1, pk_mul, ps_cl, ps_neg, ps_c0, ps_c1, ps_n01, ps_n11, ps_10, ps_b01, ps_e0, pu_Ine, pu_Ieq, pu_ne, pu_eq, am_k_n, am_k_i, am_k_r, am_k_u, am_k_l, am_sz_0, am_sz_i, am_sz_r, am_sz_u, am_sz_l, Option.toList_some, Option.toList_none, List.cons_append, List.nil_append, true_and, and_true, or_false, false_or, or_self, or_true, true_or, not_false_eq_true, not_true_eq_false, Classical.not_not, ne_eq, ps_e1, ps_em, ps_z, Nat.not_le, false_implies, true_implies, forall_const, ps_01, ps_1n, ps_0n, ps_m10, ps_m1n, lg_cmp_gt, lg_cmp_ge, lg_cmp_le, lg_cmp_lt, lg_cmp_eq, pu_rne, pu_req, pu_uro, RFc_n, Nat.reduceAdd, Nat.reduceMul, Nat.reduceLT, Nat.reduceLeDiff, Nat.reduceEqDiff, Nat.reduceSub]
    refine c_read (d := 13) hW (by omega) hTB n1 n2 n3 (fun l sc sl' t' I' J' F' hl hL hsl hW' lo tn Fn hI' h910 => ?_) (fun x I' hx hI' h910 => ?_)
    · have e15 : am_uI I' 7 1 0 1 5 = nI T := by
        rw [pu_Ine (by decide), hI' 1 (hn 1 (by decide)) (by decide) (by decide) (by decide)]
        exact hc
      obtain ⟨hn_, hn2_, ht_, hF_⟩ := id hW'
      have nl3 : n < n + 3 := by omega
      have hW5 : WS (n + 3) t' (am_uF F' 5 T (some n)) := by
        obtain ⟨w1, w2, w3, w4⟩ := id hW'
        refine ⟨w1, w2, w3, fun a k hk => ?_⟩
        by_cases e : a = 5
        · subst e
          simp [am_wf] at hk
        · rw [pu_uF, pu_rne e]
          exact w4 a k hk
      have ea := fun Q => c_addLaw (X := X) (d := 58) (Q := Q) (sl := sl') (J := J') (I := am_uI I' 7 1 0) hW' hTl e15 nl3 tn.1
      clear hn hn2 ht hF
      have hn := hn_
      have hn2 := hn2_
      have ht := ht_
      have hF := hF_
      simp only [↓r39_34, ↓r39_34n, ↓r39_35, ↓r39_36, ↓r39_39, ↓r39_40, ↓r39_43, ↓r39_43n, ↓r39_44, ↓r39_44n, ↓r39_47, ↓r39_48, ↓r39_50, ↓r39_53, ↓r39_54, ↓r39_55, ↓r39_56, ↓r39_59, ↓r39_59n, ↓r39_60, ↓r39_63, ↓r39_66, ↓ea, ↓c_accept hW5, nl3, tn.1, Bool.false_eq_true, hn, hn2, ht, hF, am_wt, am_wf, Option.isSome_some, am_rf_s, am_rf_n, ps_lit, nI_add, nI_1, pk_mul, ps_cl, ps_neg, ps_c0, ps_c1, ps_n01, ps_n11, ps_10, ps_b01, ps_e0, pu_Ine, pu_Ieq, pu_ne, pu_eq, am_k_n, am_k_i, am_k_r, am_k_u, am_k_l, am_sz_0, am_sz_i, am_sz_r, am_sz_u, am_sz_l, Option.toList_some, Option.toList_none, List.cons_append, List.nil_append, true_and, and_true, or_false, false_or, or_self, or_true, true_or, not_false_eq_true, not_true_eq_false, Classical.not_not, ne_eq, ps_e1, ps_em, ps_z, Nat.not_le, false_implies, true_implies, forall_const, ps_01, ps_1n, ps_0n, ps_m10, ps_m1n, lg_cmp_gt, lg_cmp_ge, lg_cmp_le, lg_cmp_lt, lg_cmp_eq, pu_rne, pu_req, pu_uro, RFc_n, Nat.reduceAdd, Nat.reduceMul, Nat.reduceLT, Nat.reduceLeDiff, Nat.reduceEqDiff, Nat.reduceSub]
      refine ⟨_, rfl, ?_⟩
      have n73 := hW.1 72 (by decide)
      have hZ : ∀ s, s ≠ 0 → s ≠ 1 → s ≠ 7 → am_uI (am_uI (am_uI I' 7 1 0) 1 5 (nI (T + 1))) 0 14 0 s = I' s := fun s s0 s1 s7 => by rw [pu_Ine s0, pu_Ine s1, pu_Ine s7]
      have hY : ∀ s, s < n → s ≠ 0 → s ≠ 1 → s ≠ 7 → s ≠ 9 → s ≠ 10 → s ≠ 11 → am_uI (am_uI (am_uI I' 7 1 0) 1 5 (nI (T + 1))) 0 14 0 s = I s := fun s sn s0 s1 s7 s9 s10 s11 => by rw [hZ s s0 s1 s7, hI' s sn s9 s10 s11]
      have y53 := hY 53 (by omega) (by decide) (by decide) (by decide) (by decide) (by decide) (by decide)
      have y47 := hY 47 (by omega) (by decide) (by decide) (by decide) (by decide) (by decide) (by decide)
      have y49 := hY 49 (by omega) (by decide) (by decide) (by decide) (by decide) (by decide) (by decide)
      have y52 := hY 52 (by omega) (by decide) (by decide) (by decide) (by decide) (by decide) (by decide)
      have hTR' : TPR (am_uI (am_uI (am_uI I' 7 1 0) 1 5 (nI (T + 1))) 0 14 0) u m := by
        unfold TPR
        rw [y53]
        exact hTR
      refine m_txO (d := 21) hW5 hTR' (by rw [y47]; exact a8) (by rw [y52]; exact k5) n1 n2 n3 hk0 hk hTl (by rw [y49]; exact hKT) hl (fun I2 q1 q2 q3 q4 q5 q6 q7 q8 => ⟨rfl, ?_⟩)
      have i1 : I2 (n + 1) = I' (n + 1) := by rw [q1 (n + 1) (by omega) (by omega) (by omega) (by omega) (by omega), hZ (n + 1) (by omega) (by omega) (by omega)]
      have i2 : I2 (n + 2) = I' (n + 2) := by rw [q1 (n + 2) (by omega) (by omega) (by omega) (by omega) (by omega), hZ (n + 2) (by omega) (by omega) (by omega)]
      refine Inv_tx (T := T) (sc := sc) (lc := 4 * l.length) hV hi hTl hKT hW5 hsl (fun s h => (lo s h).1) (fun s h h5 => ?_) (fun k hk => ?_) ?_ tn ⟨?_, ?_⟩ (fun s hs s0 s1 s7 s9 s10 s11 s47 s49 s55 s56 s57 => ?_) ?_ ?_ ?_ q3 ?_ ?_ ?_ (fun x hx => ?_) q7 (fun j hj x x1 x2 => ?_) ?_
      · rw [pu_uF, pu_rne h5, (lo s h).2]
      · rw [pu_uF, pu_req, vu_ne hk, (lo 5 (by omega)).2]
      · rw [pu_uF, pu_req]; exact vu_eq
      · rw [pu_uF, pu_rne (by omega)]; exact Fn.1
      · rw [pu_uF, pu_rne (by omega)]; exact Fn.2
      · rw [q1 s s47 s49 s55 s56 s57, hY s hs s0 s1 s7 s9 s10 s11]
      · rw [q1 0 (by decide) (by decide) (by decide) (by decide) (by decide), q2, pu_Ieq, pu_eq]
      · rw [q1 9 (by decide) (by decide) (by decide) (by decide) (by decide), q4, hZ 9 (by decide) (by decide) (by decide)]; exact h910
      · rw [q1 7 (by decide) (by decide) (by decide) (by decide) (by decide), pu_Ine (by decide), pu_Ine (by decide), pu_Ieq, pu_eq]
      · rw [q5, y47]
      · rw [q1 1 (by decide) (by decide) (by decide) (by decide) (by decide), pu_Ine (by decide), pu_Ieq, pu_ne (by decide), pu_Ine (by decide), hI' 1 (by omega) (by decide) (by decide) (by decide)]
      · rw [q1 1 (by decide) (by decide) (by decide) (by decide) (by decide), pu_Ine (by decide), pu_Ieq, pu_eq]
      · rw [q6 x (by omega) (by unfold TX; omega), y49]
      · unfold TX at x2
        rw [q6 x (by omega) (by unfold TX; omega), y49]
      · rw [i1, i2]
        exact ⟨l, TB_law hL, LC_of hL, LM_of q8 hl⟩
    · simp only [↓r39_34, ↓r39_34n, ↓r39_35, ↓r39_36, ↓r39_39, ↓r39_40, ↓r39_43, ↓r39_43n, ↓r39_44, ↓r39_44n, ↓r39_47, ↓r39_48, ↓r39_50, ↓r39_53, ↓c_rf6 hW, Bool.false_eq_true, hn, hn2, ht, hF, am_wt, am_wf, Option.isSome_some, am_rf_s, am_rf_n, ps_lit, nI_add, nI_1, pk_mul, ps_cl, ps_neg, ps_c0, ps_c1, ps_n01, ps_n11, ps_10, ps_b01, ps_e0, pu_Ine, pu_Ieq, pu_ne, pu_eq, am_k_n, am_k_i, am_k_r, am_k_u, am_k_l, am_sz_0, am_sz_i, am_sz_r, am_sz_u, am_sz_l, Option.toList_some, Option.toList_none, List.cons_append, List.nil_append, true_and, and_true, or_false, false_or, or_self, or_true, true_or, not_false_eq_true, not_true_eq_false, Classical.not_not, ne_eq, ps_e1, ps_em, ps_z, Nat.not_le, false_implies, true_implies, forall_const, ps_01, ps_1n, ps_0n, ps_m10, ps_m1n, lg_cmp_gt, lg_cmp_ge, lg_cmp_le, lg_cmp_lt, lg_cmp_eq, pu_rne, pu_req, pu_uro, RFc_n, Nat.reduceAdd, Nat.reduceMul, Nat.reduceLT, Nat.reduceLeDiff, Nat.reduceEqDiff, Nat.reduceSub]
      refine ⟨_, rfl, ?_⟩
      have hY : ∀ s, s ≠ 0 → s ≠ 7 → s ≠ 9 → s ≠ 10 → s ≠ 11 → s ≠ 46 → RFc (am_uI I' 7 1 0) 6 s = I s := fun s s1 s2 s3 s4 s5 s6 => by rw [RFc_n s1 s6, pu_Ine s2, hI' s s3 s4 s5]
      have hTR' : TPR (RFc (am_uI I' 7 1 0) 6) u m := by
        unfold TPR
        rw [hY 53 (by decide) (by decide) (by decide) (by decide) (by decide) (by decide)]
        exact hTR
      have y47 := hY 47 (by decide) (by decide) (by decide) (by decide) (by decide) (by decide)
      have y48 := hY 48 (by decide) (by decide) (by decide) (by decide) (by decide) (by decide)
      refine m_txE (d := 21) hW hTR' (by rw [y47]; exact a8) (by rw [hY 52 (by decide) (by decide) (by decide) (by decide) (by decide) (by decide)]; exact k5) n1 n2 n3 hk0 hk hTl (by rw [hY 49 (by decide) (by decide) (by decide) (by decide) (by decide) (by decide)]; exact hKT) hx (fun I2 q1 q2 q3 q4 q5 q6 => ⟨rfl, ?_⟩)
      refine Inv_tr (j := 6) hV hi (fun s s1 s2 s3 s4 s5 s6 s7 s8 s9 s10 s11 => ?_) ?_ ?_ ?_ ?_ ?_ ?_ ?_
      · rw [q1 s s7 s8 s9 s10 s11, hY s s1 s2 s3 s4 s5 s6]
      · rw [q1 46 (by decide) (by decide) (by decide) (by decide) (by decide)]
        unfold RFc
        rw [pu_Ieq, pu_Ine (by decide), pu_Ine (by decide), hI' 46 (by decide) (by decide) (by decide)]
      · rw [q2, y48]
      · rw [q1 0 (by decide) (by decide) (by decide) (by decide) (by decide), q3]
        rfl
      · rw [q1 9 (by decide) (by decide) (by decide) (by decide) (by decide), q5, RFc_n (by decide) (by decide), pu_Ine (by decide)]
        exact h910
      · rw [q1 7 (by decide) (by decide) (by decide) (by decide) (by decide), RFc_n (by decide) (by decide), pu_Ieq, pu_eq]
      · exact q4
      · rw [q6, y47]
end TX9
