/-! calls, one on each side: back -/
section I4
variable {X : am_X} {d : Nat} {Q : Option Value → am_H → Prop} {n sl : Nat} {t : Nat → Nat × Nat} {I : Nat → Nat → Int32} {J : Nat → Nat → Int64} {F : Nat → Nat → Option Nat} {h : am_H}
theorem WS_ro5 {f : Nat → Option Nat} (hW : WS n t F) : WS n t (am_ro F 5 f) := by
  obtain ⟨w1, w2, w3, w4⟩ := hW
  refine ⟨w1, w2, w3, fun b j hj => ?_⟩
  by_cases e : b = 5
  · subst e
    exact absurd hj (by simp [am_wf])
  · rw [pu_rne e]
    exact w4 b j hj
theorem pr_back {v : Int32} {i : Nat} (hX : XS X) (hi : i < 600) (hV : Inv i (n, sl, t, I, J, F)) : PR X i 161 171 [some (.ref 0), some (.int v)] [some (.ref 47), some (.int v), none] (n, sl, t, I, J, F) := by
  unfold PR
  have hW : WS n t F := hV.1
  obtain ⟨hn, hn2, ht, hF⟩ := id hW
  have hKR : KR (I 1 4) (I 1 5) (I 2) (I 3) (I 4) (I 49) := hV.2.2.1
  obtain ⟨N, T, ⟨hN, hT, hKN, hKT, hRW, hTW⟩, hs, hc, hr, hu, hm⟩ := id hKR
  by_cases h1 : 0 ≤ v ∧ v ≤ 1
  · obtain ⟨k, hk, rfl⟩ := ps_rng (M := 1) (by decide) h1
    have hk2 : k < 2 := by omega
    have hk3 : k < 2000000 := by omega
    obtain ⟨_, ⟨m1, m2, m3⟩, k1, k2, k3, k4, k5, k6, ow, k7, k8⟩ := id hV
    dsimp only at m1 m2 k1 k2 k3 k4 k5 k6 k7 k8
    rcases k8 k hk2 with ⟨g0, hf6⟩ | ⟨g1, b, hf6, ⟨b1, b2⟩, o, tb, fb, hKb, hLb⟩
    · simp only [↓r161_0, ↓r161_1, ↓r161_2, ↓r161_3, ↓r161_6, ↓r161_9, ↓r161_10, ↓r161_11, ↓r161_14, ↓r161_15, ↓r161_16, ↓r161_19, ↓r161_20, ↓r161_21, ↓r161_21n, ↓r161_24, ↓r161_25, ↓r161_27, ↓r161_30, ↓r171_0, ↓r171_1, ↓r171_2, ↓r171_3, ↓r171_6, ↓r171_9, ↓r171_10, ↓r171_11, ↓r171_14, ↓r171_15, ↓r171_16, ↓r171_19, ↓r171_20, ↓r171_21, ↓r171_24, ↓r171_25, ↓r171_27, ↓r171_30, ↓c_within, ↓c_meansTried, ↓c_nearest, ↓c_accept, ↓c_rf1, ↓c_rf2, ↓c_rf3, ↓c_rf5, ↓c_rf6, ↓c_has, ↓c_atx, ↓c_putx, ↓c_put0, ↓c_put1, ↓s_at0, ↓s_at1, ↓c_isTriedx, ↓c_sidex, ↓c_thingx, ↓c_isFoundx, ↓s_lies, ↓s_rf1, ↓s_rf2, ↓s_rf3, ↓s_rf5, ↓s_rf6, ↓s_good, ↓s_many, ↓s_at, ↓s_isChild, ↓s_replacesx, ↓s_factOfx, ↓s_isTried, ↓s_took, ↓s_waited, ↓s_term0, ↓s_term1, ↓s_term2, ↓s_isLong, ↓s_isShort, ↓s_thingOfx, ↓s_isFoundx, ↓s_isText, ↓s_isGroup, hW, h1, hk2, hk3, hf6, g0, and_self, if_true, Bool.false_eq_true, hn, hn2, ht, hF, am_wt, am_wf, Option.isSome_some, am_rf_s, am_rf_n, ps_lit, nI_add, nI_1, pk_mul, ps_cl, ps_neg, ps_c0, ps_c1, ps_n01, ps_n11, ps_10, ps_b01, ps_e0, pu_Ine, pu_Ieq, pu_ne, pu_eq, am_k_n, am_k_i, am_k_r, am_k_u, am_k_l, am_sz_0, am_sz_i, am_sz_r, am_sz_u, am_sz_l, Option.toList_some, Option.toList_none, List.cons_append, List.nil_append, true_and, and_true, or_false, false_or, or_self, or_true, true_or, not_false_eq_true, not_true_eq_false, Classical.not_not, ne_eq, ps_e1, ps_em, ps_z, Nat.not_le, false_implies, true_implies, forall_const, ps_01, ps_1n, ps_0n, ps_m10, ps_m1n, lg_cmp_gt, lg_cmp_ge, lg_cmp_le, lg_cmp_lt, lg_cmp_eq, pu_rne, pu_req, pu_uro, RFc_n, Nat.reduceAdd, Nat.reduceMul, Nat.reduceLT, Nat.reduceLeDiff, Nat.reduceEqDiff, Nat.reduceSub]
      exact ⟨_, rfl, rfl, Inv_rf hV hi 2⟩
    · have h5 : CH n t F 1 2 3 4 5 := ⟨⟨hn _ (by decide), hn _ (by decide), hn _ (by decide), hn _ (by decide), hn _ (by decide)⟩, ⟨ht _ (by decide), ht _ (by decide), ht _ (by decide), ht _ (by decide), ht _ (by decide)⟩, hF _ _ rfl, hF _ _ rfl, hF _ _ rfl, hF _ _ rfl⟩
      have e := fun Q => c_copy (X := X) (d := 58) (Q := Q) (sl := sl) (J := J) (I := I) hn2 h5 (⟨⟨by omega, by omega, by omega, by omega, by omega⟩, tb, fb⟩ : CH n t F b (b + 1) (b + 2) (b + 3) (b + 4)) ⟨by omega, by omega, by omega⟩ ⟨by omega, by omega, by omega, by omega, by omega, by omega, by omega, by omega, by omega, by omega⟩ hLb.1
      have bn : b < n := by omega
      simp only [↓r161_0, ↓r161_1, ↓r161_2, ↓r161_3, ↓r161_6, ↓r161_9, ↓r161_10, ↓r161_11, ↓r161_14, ↓r161_15, ↓r161_16, ↓r161_19, ↓r161_20, ↓r161_21, ↓r161_21n, ↓r161_24, ↓r161_25, ↓r161_27, ↓r161_30, ↓r161_31, ↓r161_32, ↓r161_35, ↓r161_36, ↓r161_39, ↓r161_40, ↓r161_41, ↓c_within, ↓c_meansTried, ↓c_nearest, ↓c_accept, ↓c_rf1, ↓c_rf2, ↓c_rf3, ↓c_rf5, ↓c_rf6, ↓c_has, ↓c_atx, ↓c_putx, ↓c_put0, ↓c_put1, ↓s_at0, ↓s_at1, ↓c_isTriedx, ↓c_sidex, ↓c_thingx, ↓c_isFoundx, ↓s_lies, ↓s_rf1, ↓s_rf2, ↓s_rf3, ↓s_rf5, ↓s_rf6, ↓s_good, ↓s_many, ↓s_at, ↓s_isChild, ↓s_replacesx, ↓s_factOfx, ↓s_isTried, ↓s_took, ↓s_waited, ↓s_term0, ↓s_term1, ↓s_term2, ↓s_isLong, ↓s_isShort, ↓s_thingOfx, ↓s_isFoundx, ↓s_isText, ↓s_isGroup, hW, h1, hk2, hk3, hf6, ↓e, bn, tb.1, and_self, if_true, Bool.false_eq_true, hn, hn2, ht, hF, am_wt, am_wf, Option.isSome_some, am_rf_s, am_rf_n, ps_lit, nI_add, nI_1, pk_mul, ps_cl, ps_neg, ps_c0, ps_c1, ps_n01, ps_n11, ps_10, ps_b01, ps_e0, pu_Ine, pu_Ieq, pu_ne, pu_eq, am_k_n, am_k_i, am_k_r, am_k_u, am_k_l, am_sz_0, am_sz_i, am_sz_r, am_sz_u, am_sz_l, Option.toList_some, Option.toList_none, List.cons_append, List.nil_append, true_and, and_true, or_false, false_or, or_self, or_true, true_or, not_false_eq_true, not_true_eq_false, Classical.not_not, ne_eq, ps_e1, ps_em, ps_z, Nat.not_le, false_implies, true_implies, forall_const, ps_01, ps_1n, ps_0n, ps_m10, ps_m1n, lg_cmp_gt, lg_cmp_ge, lg_cmp_le, lg_cmp_lt, lg_cmp_eq, pu_rne, pu_req, pu_uro, RFc_n, Nat.reduceAdd, Nat.reduceMul, Nat.reduceLT, Nat.reduceLeDiff, Nat.reduceEqDiff, Nat.reduceSub]
      have hW' := WS_ro5 (f := cpl (F (b + 4)) (F 5) 10) hW
      obtain ⟨_, _, _, hF'⟩ := id hW'
      simp only [↓r161_44, ↓r161_45, ↓r161_46, ↓r161_49, ↓c_accept hW', hF', Bool.false_eq_true, hn, hn2, ht, hF, am_wt, am_wf, Option.isSome_some, am_rf_s, am_rf_n, ps_lit, nI_add, nI_1, pk_mul, ps_cl, ps_neg, ps_c0, ps_c1, ps_n01, ps_n11, ps_10, ps_b01, ps_e0, pu_Ine, pu_Ieq, pu_ne, pu_eq, am_k_n, am_k_i, am_k_r, am_k_u, am_k_l, am_sz_0, am_sz_i, am_sz_r, am_sz_u, am_sz_l, Option.toList_some, Option.toList_none, List.cons_append, List.nil_append, true_and, and_true, or_false, false_or, or_self, or_true, true_or, not_false_eq_true, not_true_eq_false, Classical.not_not, ne_eq, ps_e1, ps_em, ps_z, Nat.not_le, false_implies, true_implies, forall_const, ps_01, ps_1n, ps_0n, ps_m10, ps_m1n, lg_cmp_gt, lg_cmp_ge, lg_cmp_le, lg_cmp_lt, lg_cmp_eq, pu_rne, pu_req, pu_uro, RFc_n, Nat.reduceAdd, Nat.reduceMul, Nat.reduceLT, Nat.reduceLeDiff, Nat.reduceEqDiff, Nat.reduceSub]
      refine ⟨_, rfl, ?_⟩
      simp only [↓r171_0, ↓r171_1, ↓r171_2, ↓r171_3, ↓r171_6, ↓r171_9, ↓r171_10, ↓r171_11, ↓r171_14, ↓r171_15, ↓r171_16, ↓r171_19, ↓r171_20, ↓r171_21, ↓r171_24, ↓r171_25, ↓r171_27, ↓r171_30, ↓r171_31, ↓r171_32, ↓s_lies, h1, hk2, hk3, hF', g1, and_self, if_true, Bool.false_eq_true, hn, hn2, ht, hF, am_wt, am_wf, Option.isSome_some, am_rf_s, am_rf_n, ps_lit, nI_add, nI_1, pk_mul, ps_cl, ps_neg, ps_c0, ps_c1, ps_n01, ps_n11, ps_10, ps_b01, ps_e0, pu_Ine, pu_Ieq, pu_ne, pu_eq, am_k_n, am_k_i, am_k_r, am_k_u, am_k_l, am_sz_0, am_sz_i, am_sz_r, am_sz_u, am_sz_l, Option.toList_some, Option.toList_none, List.cons_append, List.nil_append, true_and, and_true, or_false, false_or, or_self, or_true, true_or, not_false_eq_true, not_true_eq_false, Classical.not_not, ne_eq, ps_e1, ps_em, ps_z, Nat.not_le, false_implies, true_implies, forall_const, ps_01, ps_1n, ps_0n, ps_m10, ps_m1n, lg_cmp_gt, lg_cmp_ge, lg_cmp_le, lg_cmp_lt, lg_cmp_eq, pu_rne, pu_req, pu_uro, RFc_n, Nat.reduceAdd, Nat.reduceMul, Nat.reduceLT, Nat.reduceLeDiff, Nat.reduceEqDiff, Nat.reduceSub]
      rw [l_back0 (k := k) hW' hk2]
      refine ⟨rfl, ?_⟩
      simp only [pu_Ine, pu_rne, ne_eq, not_false_eq_true, Nat.reduceAdd, Nat.reduceMul, Nat.reduceLT, Nat.reduceLeDiff, Nat.reduceEqDiff, Nat.reduceSub]
      generalize hI2 : am_uI (am_ro (am_uI (am_uI (am_uI (am_ro (am_ro (am_ro I 2 (va_cpy (I (b + 1)) (I 2) 0 0 1800)) 3 (va_cpy (I (b + 2)) (I 3) 0 0 3)) 4 (va_cpy (I (b + 3)) (I 4) 0 0 8)) 1 4 (I b 4)) 1 5 (I b 5)) 0 14 0) 49 (im2 (I 50) (I 49) k 9823)) 47 0 0 = I2
      have oh : ∀ a, 73 ≤ a → I2 a = I a := fun a ha => by rw [← hI2, pu_Ine (by omega), pu_rne (by omega), pu_Ine (by omega), pu_Ine (by omega), pu_Ine (by omega), pu_rne (by omega), pu_rne (by omega), pu_rne (by omega)]
      have oF : ∀ a, a ≠ 5 → am_ro F 5 (cpl (F (b + 4)) (F 5) 10) a = F a := fun a ha => pu_rne ha
      have oF5 : am_ro F 5 (cpl (F (b + 4)) (F 5) 10) 5 = cpl (F (b + 4)) (F 5) 10 := pu_req
      have o49 : I2 49 = im2 (I 50) (I 49) k 9823 := by rw [← hI2, pu_Ine (by decide), pu_req]
      generalize am_ro F 5 (cpl (F (b + 4)) (F 5) 10) = F2 at oF oF5 hW'
      have hKT10 : ((fun i => I 50 (9823 * k + i)) 1812).toNatClampNeg ≤ 10 := by
        obtain ⟨N', T', hKW', _⟩ := id hKb
        rw [hKW'.2.2.2.1, nI_clamp (by have := hKW'.2.1; omega)]
        exact hKW'.2.1
      refine ⟨hW', ⟨by dsimp only; omega, by dsimp only; omega, by omega⟩, ?_, ?_, ?_, ?_, ?_, ?_, ow, ?_, ?_⟩
      · dsimp only
        rw [o49, ← hI2]
        refine KR_c hKb (fun j hj => ?_) (fun j hj => ?_) (fun j hj => ?_) (fun j hj => ?_)
        · show va_cpy (I (b + 1)) (I 2) 0 0 1800 j = I (b + 1) j
          unfold va_cpy; rw [if_pos (by omega), Nat.zero_add, Nat.sub_zero]
        · show va_cpy (I (b + 2)) (I 3) 0 0 3 j = I (b + 2) j
          unfold va_cpy; rw [if_pos (by omega), Nat.zero_add, Nat.sub_zero]
        · show va_cpy (I (b + 3)) (I 4) 0 0 8 j = I (b + 3) j
          unfold va_cpy; rw [if_pos (by omega), Nat.zero_add, Nat.sub_zero]
        · unfold im2; rw [if_pos (by omega)]
      · rw [← hI2]; exact ⟨k2.1, rfl⟩
      · rw [← hI2]; exact k3
      · rw [← hI2]; exact k4
      · rw [← hI2]; exact k5
      · rw [← hI2]; exact k6
      · dsimp only
        rw [o49, oF5]
        have q := LWs_fr (n' := n) (t' := t) (I' := I2) (F' := F2) (Nat.le_refl _) (fun _ _ _ => rfl) (fun s h1 _ _ => oF s (by omega)) (fun s h1 _ _ => oh s h1) hLb
        refine LWs_c q hKT10 (fun j hj => ?_) (fun j hj hj2 => ?_)
        · unfold cpl; rw [if_pos hj]
        · unfold im2; rw [if_pos hj2]
      · dsimp only
        rw [oF 6 (by decide)]
        have e51 : I2 51 = I 51 := by rw [← hI2]; rfl
        have e50 : I2 50 = I 50 := by rw [← hI2]; rfl
        rw [e51, e50]
        exact IMs_fr (n' := n) (t' := t) (I' := I2) (F' := F2) (Nat.le_refl _) (fun _ _ _ => rfl) (fun s h1 _ => oF s (by omega)) (fun s h1 _ => oh s h1) k8
  · simp only [↓r161_0, ↓r161_1, ↓r161_2, ↓r161_3, ↓r161_6, ↓r161_9, ↓r161_10, ↓r161_11, ↓r161_14, ↓r171_0, ↓r171_1, ↓r171_2, ↓r171_3, ↓r171_6, ↓r171_9, ↓r171_10, ↓r171_11, ↓r171_14, ↓c_within, ↓c_meansTried, ↓c_nearest, ↓c_accept, ↓c_rf1, ↓c_rf2, ↓c_rf3, ↓c_rf5, ↓c_rf6, ↓c_has, ↓c_atx, ↓c_putx, ↓c_put0, ↓c_put1, ↓s_at0, ↓s_at1, ↓c_isTriedx, ↓c_sidex, ↓c_thingx, ↓c_isFoundx, ↓s_lies, ↓s_rf1, ↓s_rf2, ↓s_rf3, ↓s_rf5, ↓s_rf6, ↓s_good, ↓s_many, ↓s_at, ↓s_isChild, ↓s_replacesx, ↓s_factOfx, ↓s_isTried, ↓s_took, ↓s_waited, ↓s_term0, ↓s_term1, ↓s_term2, ↓s_isLong, ↓s_isShort, ↓s_thingOfx, ↓s_isFoundx, ↓s_isText, ↓s_isGroup, hW, h1, if_false, Bool.false_eq_true, hn, hn2, ht, hF, am_wt, am_wf, Option.isSome_some, am_rf_s, am_rf_n, ps_lit, nI_add, nI_1, pk_mul, ps_cl, ps_neg, ps_c0, ps_c1, ps_n01, ps_n11, ps_10, ps_b01, ps_e0, pu_Ine, pu_Ieq, pu_ne, pu_eq, am_k_n, am_k_i, am_k_r, am_k_u, am_k_l, am_sz_0, am_sz_i, am_sz_r, am_sz_u, am_sz_l, Option.toList_some, Option.toList_none, List.cons_append, List.nil_append, true_and, and_true, or_false, false_or, or_self, or_true, true_or, not_false_eq_true, not_true_eq_false, Classical.not_not, ne_eq, ps_e1, ps_em, ps_z, Nat.not_le, false_implies, true_implies, forall_const, ps_01, ps_1n, ps_0n, ps_m10, ps_m1n, lg_cmp_gt, lg_cmp_ge, lg_cmp_le, lg_cmp_lt, lg_cmp_eq, pu_rne, pu_req, pu_uro, RFc_n, Nat.reduceAdd, Nat.reduceMul, Nat.reduceLT, Nat.reduceLeDiff, Nat.reduceEqDiff, Nat.reduceSub]
    exact ⟨_, rfl, rfl, Inv_rf hV hi 1⟩
end I4
