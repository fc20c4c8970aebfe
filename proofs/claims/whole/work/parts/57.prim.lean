/-! calls, one on each side: image, back -/
section I3
variable {X : am_X} {d : Nat} {Q : Option Value → am_H → Prop} {n sl : Nat} {t : Nat → Nat × Nat} {I : Nat → Nat → Int32} {J : Nat → Nat → Int64} {F : Nat → Nat → Option Nat} {h : am_H}
theorem WS_ro {a : Nat} {f : Nat → Option Nat} (ha : 73 ≤ a) (hW : WS n t F) : WS n t (am_ro F a f) := by
  obtain ⟨w1, w2, w3, w4⟩ := hW
  refine ⟨w1, w2, w3, fun b j hj => ?_⟩
  by_cases e : b = a
  · have : (am_wf b j) = none := by
      unfold am_wf
      split <;> first | omega | rfl
    rw [this] at hj
    cases hj
  · rw [pu_rne e]
    exact w4 b j hj
theorem LWs_ow {ow ow' : Nat → Nat} {la : Nat → Option Nat} {K : Nat → Int32} (h : LWs n t I F ow la K) (ho : ∀ s, s < n → ow' s = ow s) : LWs n t I F ow' la K := by
  refine ⟨h.1, fun j hj => ?_⟩
  obtain ⟨a, e, s, c, ls, lc, ⟨h1, h2, h3, h4, h5, h6⟩, ⟨o1, o2, o3⟩, q⟩ := h.2 j hj
  exact ⟨a, e, s, c, ls, lc, ⟨h1, h2, h3, h4, h5, h6⟩, ⟨by rw [ho a h2]; exact o1, by rw [ho s h4]; exact o2, by rw [ho c h6]; exact o3⟩, q⟩
theorem IMo_ow {ow ow' : Nat → Nat} {k b : Nat} {K : Nat → Int32} (h : IMo n t I F ow k b K) (ho : ∀ s, s < n → ow' s = ow s) : IMo n t I F ow' k b K := by
  obtain ⟨⟨b1, b2⟩, o, q1, q2, q3, q4⟩ := h
  exact ⟨⟨b1, b2⟩, fun i hi => by rw [ho (b + i) (by omega)]; exact o i hi, q1, q2, q3, LWs_ow q4 ho⟩
theorem im_run {i k b : Nat} {ow : Nat → Nat} (hW : WS n t F) (hb0 : n ≤ 73 + 5 * (i + 1) ∧ sl ≤ 100000 + 2000 * (i + 1) ∧ i + 1 ≤ 600) (hK : KR (I 1 4) (I 1 5) (I 2) (I 3) (I 4) (I 49)) (hR : RS (I 46) (I 48) (I 0 14) (I 47 0)) (h9 : I 9 10 = I 47 9) (hT : TP (I 7 1) (I 8) (I 47 8) (I 53)) (hO : WO (I 52))
    (hD : WD (I 41 2) (I 41 3) (I 42) (I 43) (I 47 38) (I 69) (I 70) (I 71) (I 72)) (hL : LWs n t I F ow (F 5) (I 49)) (hk : k < 2) (hI : ∀ k', k' < 2 → k' ≠ k → (I 51 k' = 0 ∧ F 6 k' = none) ∨ (I 51 k' = 1 ∧ ∃ b, F 6 k' = some b ∧ IMo n t I F ow k' b (fun i => I 50 (9823 * k' + i))))
    (hb : 73 ≤ b ∧ b + 4 < n) (how : ∀ i, i < 5 → ow (b + i) = 2 + k) (htb : t b = (1, 6) ∧ t (b + 1) = (20, 1800) ∧ t (b + 2) = (20, 3) ∧ t (b + 3) = (20, 8) ∧ t (b + 4) = (24, 10)) (hFb : F b 0 = some (b + 1) ∧ F b 1 = some (b + 2) ∧ F b 2 = some (b + 3) ∧ F b 3 = some (b + 4)) (hF6 : F 6 k = some b) : am_W X 59 159 37 [some (.ref 0), some (.int (nI k))] [] (n, sl, t, I, J, F) (fun r h1 => ∃ v, r = some (.int v) ∧ am_W X 59 167 0 [some (.ref 47), some (.int (nI k)), none] [] h1 (fun r2 h2 => r2 = some (.int v) ∧ Inv (i + 1) h2)) := by
  have hfin := Inv_im (J := J) hW hb0 hK hR h9 hT hO hD hL hk hI hb how htb hFb hF6
  obtain ⟨hn, hn2, ht, hF⟩ := id hW
  have hk3 : k < 2000000 := by omega
  have h1 := ps_rngT (j := k) (M := 1) (by omega) (by decide)
  have h1' : (0 ≤ nI k ∧ nI k ≤ 1) = True := h1
  have h5 : CH n t F 1 2 3 4 5 := ⟨⟨hn _ (by decide), hn _ (by decide), hn _ (by decide), hn _ (by decide), hn _ (by decide)⟩, ⟨ht _ (by decide), ht _ (by decide), ht _ (by decide), ht _ (by decide), ht _ (by decide)⟩, hF _ _ rfl, hF _ _ rfl, hF _ _ rfl, hF _ _ rfl⟩
  obtain ⟨b1, b2⟩ := hb
  have e := fun Q => c_copy (X := X) (d := 58) (Q := Q) (sl := sl) (J := J) (I := I) hn2 (⟨⟨by omega, by omega, by omega, by omega, by omega⟩, htb, hFb⟩ : CH n t F b (b + 1) (b + 2) (b + 3) (b + 4)) h5 ⟨by omega, by omega, by omega⟩ ⟨by omega, by omega, by omega, by omega, by omega, by omega, by omega, by omega, by omega, by omega⟩ hL.1
  have bn : b < n := by omega
  simp only [↓r159_37, ↓r159_38, ↓r159_41, ↓r159_42, ↓r159_43, ↓r159_44, ↓r159_47, hk, hk3, hF6, ↓e, bn, htb.1, and_self, if_true, Bool.false_eq_true, hn, hn2, ht, hF, am_wt, am_wf, Option.isSome_some, am_rf_s, am_rf_n, ps_lit, nI_add, nI_1, pk_mul, ps_cl, ps_neg, ps_c0, ps_c1, ps_n01, ps_n11, ps_10, ps_b01, ps_e0, pu_Ine, pu_Ieq, pu_ne, pu_eq, am_k_n, am_k_i, am_k_r, am_k_u, am_k_l, am_sz_0, am_sz_i, am_sz_r, am_sz_u, am_sz_l, Option.toList_some, Option.toList_none, List.cons_append, List.nil_append, true_and, and_true, or_false, false_or, or_self, or_true, true_or, not_false_eq_true, not_true_eq_false, Classical.not_not, ne_eq, ps_e1, ps_em, ps_z, Nat.not_le, false_implies, true_implies, forall_const, ps_01, ps_1n, ps_0n, ps_m10, ps_m1n, lg_cmp_gt, lg_cmp_ge, lg_cmp_le, lg_cmp_lt, lg_cmp_eq, pu_rne, pu_req, pu_uro, RFc_n, Nat.reduceAdd, Nat.reduceMul, Nat.reduceLT, Nat.reduceLeDiff, Nat.reduceEqDiff, Nat.reduceSub]
  have hW' := WS_ro (f := cpl (F 5) (F (b + 4)) 10) (show 73 ≤ b + 4 by omega) hW
  obtain ⟨_, _, _, hF'⟩ := id hW'
  simp only [↓r159_50, ↓r159_51, ↓r159_52, ↓r159_55, ↓c_accept hW', hF', Bool.false_eq_true, hn, hn2, ht, hF, am_wt, am_wf, Option.isSome_some, am_rf_s, am_rf_n, ps_lit, nI_add, nI_1, pk_mul, ps_cl, ps_neg, ps_c0, ps_c1, ps_n01, ps_n11, ps_10, ps_b01, ps_e0, pu_Ine, pu_Ieq, pu_ne, pu_eq, am_k_n, am_k_i, am_k_r, am_k_u, am_k_l, am_sz_0, am_sz_i, am_sz_r, am_sz_u, am_sz_l, Option.toList_some, Option.toList_none, List.cons_append, List.nil_append, true_and, and_true, or_false, false_or, or_self, or_true, true_or, not_false_eq_true, not_true_eq_false, Classical.not_not, ne_eq, ps_e1, ps_em, ps_z, Nat.not_le, false_implies, true_implies, forall_const, ps_01, ps_1n, ps_0n, ps_m10, ps_m1n, lg_cmp_gt, lg_cmp_ge, lg_cmp_le, lg_cmp_lt, lg_cmp_eq, pu_rne, pu_req, pu_uro, RFc_n, Nat.reduceAdd, Nat.reduceMul, Nat.reduceLT, Nat.reduceLeDiff, Nat.reduceEqDiff, Nat.reduceSub]
  refine ⟨_, rfl, ?_⟩
  simp only [↓r167_0, ↓r167_1, ↓r167_2, ↓r167_3, ↓r167_6, ↓r167_9, ↓r167_10, ↓r167_11, ↓r167_14, ↓r167_15, ↓r167_16, ↓s_lies, h1', hF', if_true, Bool.false_eq_true, hn, hn2, ht, hF, am_wt, am_wf, Option.isSome_some, am_rf_s, am_rf_n, ps_lit, nI_add, nI_1, pk_mul, ps_cl, ps_neg, ps_c0, ps_c1, ps_n01, ps_n11, ps_10, ps_b01, ps_e0, pu_Ine, pu_Ieq, pu_ne, pu_eq, am_k_n, am_k_i, am_k_r, am_k_u, am_k_l, am_sz_0, am_sz_i, am_sz_r, am_sz_u, am_sz_l, Option.toList_some, Option.toList_none, List.cons_append, List.nil_append, true_and, and_true, or_false, false_or, or_self, or_true, true_or, not_false_eq_true, not_true_eq_false, Classical.not_not, ne_eq, ps_e1, ps_em, ps_z, Nat.not_le, false_implies, true_implies, forall_const, ps_01, ps_1n, ps_0n, ps_m10, ps_m1n, lg_cmp_gt, lg_cmp_ge, lg_cmp_le, lg_cmp_lt, lg_cmp_eq, pu_rne, pu_req, pu_uro, RFc_n, Nat.reduceAdd, Nat.reduceMul, Nat.reduceLT, Nat.reduceLeDiff, Nat.reduceEqDiff, Nat.reduceSub]
  rw [l_image0 (k := k) hW' hk]
  have lo : ∀ a, a ≠ 0 → a < 73 → (am_uI (am_uI (am_uI (am_ro (am_ro (am_ro I (b + 1) (va_cpy (I 2) (I (b + 1)) 0 0 1800)) (b + 2) (va_cpy (I 3) (I (b + 2)) 0 0 3)) (b + 3) (va_cpy (I 4) (I (b + 3)) 0 0 8)) b 4 (I 1 4)) b 5 (I 1 5)) 0 14 0) a = I a := fun a a1 a2 => by
    rw [pu_Ine a1, pu_Ine (by omega), pu_Ine (by omega), pu_rne (by omega), pu_rne (by omega), pu_rne (by omega)]
  rw [lo 49 (by decide) (by decide), lo 50 (by decide) (by decide)]
  exact ⟨rfl, hfin⟩
theorem pr_image {v : Int32} {i : Nat} (hX : XS X) (hi : i < 600) (hV : Inv i (n, sl, t, I, J, F)) : PR X i 159 167 [some (.ref 0), some (.int v)] [some (.ref 47), some (.int v), none] (n, sl, t, I, J, F) := by
  unfold PR
  have hW : WS n t F := hV.1
  obtain ⟨hn, hn2, ht, hF⟩ := id hW
  have hKR : KR (I 1 4) (I 1 5) (I 2) (I 3) (I 4) (I 49) := hV.2.2.1
  obtain ⟨N, T, ⟨hN, hT, hKN, hKT, hRW, hTW⟩, hs, hc, hr, hu, hm⟩ := id hKR
  by_cases h1 : 0 ≤ v ∧ v ≤ 1
  · obtain ⟨k, hk, rfl⟩ := ps_rng (M := 1) (by decide) h1
    have hk2 : k < 2 := by omega
    have hk3 : k < 2000000 := by omega
    obtain ⟨_, ⟨m1, m2, m3⟩, k1, k2, k3, k4, k5, k6, ow, k7, k8⟩ := id hV
    dsimp only at m1 m2 k1 k2 k3 k4 k5 k6 k7 k8
    rcases k8 k hk2 with ⟨g0, hf6⟩ | ⟨g1, b, hf6, ⟨b1, b2⟩, o, tb, fb, hKb, hLb⟩
    · have y2 : n < 600000 := by omega
      simp only [↓r159_0, ↓r159_1, ↓r159_2, ↓r159_3, ↓r159_6, ↓r159_9, ↓r159_10, ↓r159_11, ↓r159_14, ↓r159_15, ↓r159_16, ↓r159_19, ↓r159_20, ↓r159_21, ↓r159_21n, ↓r159_24, ↓r159_25, ↓r159_28, ↓r159_29, ↓r159_32, ↓r159_32r, ↓r159_33, ↓c_within, ↓c_meansTried, ↓c_nearest, ↓c_accept, ↓c_rf1, ↓c_rf2, ↓c_rf3, ↓c_rf5, ↓c_rf6, ↓c_has, ↓c_atx, ↓c_putx, ↓c_put0, ↓c_put1, ↓s_at0, ↓s_at1, ↓c_isTriedx, ↓c_sidex, ↓c_thingx, ↓c_isFoundx, ↓s_lies, ↓s_rf1, ↓s_rf2, ↓s_rf3, ↓s_rf5, ↓s_rf6, ↓s_good, ↓s_many, ↓s_at, ↓s_isChild, ↓s_replacesx, ↓s_factOfx, ↓s_isTried, ↓s_took, ↓s_waited, ↓s_term0, ↓s_term1, ↓s_term2, ↓s_isLong, ↓s_isShort, ↓s_thingOfx, ↓s_isFoundx, ↓s_isText, ↓s_isGroup, hW, h1, hk2, hk3, hf6, y2, am_nw_t, and_self, if_true, Bool.false_eq_true, hn, hn2, ht, hF, am_wt, am_wf, Option.isSome_some, am_rf_s, am_rf_n, ps_lit, nI_add, nI_1, pk_mul, ps_cl, ps_neg, ps_c0, ps_c1, ps_n01, ps_n11, ps_10, ps_b01, ps_e0, pu_Ine, pu_Ieq, pu_ne, pu_eq, am_k_n, am_k_i, am_k_r, am_k_u, am_k_l, am_sz_0, am_sz_i, am_sz_r, am_sz_u, am_sz_l, Option.toList_some, Option.toList_none, List.cons_append, List.nil_append, true_and, and_true, or_false, false_or, or_self, or_true, true_or, not_false_eq_true, not_true_eq_false, Classical.not_not, ne_eq, ps_e1, ps_em, ps_z, Nat.not_le, false_implies, true_implies, forall_const, ps_01, ps_1n, ps_0n, ps_m10, ps_m1n, lg_cmp_gt, lg_cmp_ge, lg_cmp_le, lg_cmp_lt, lg_cmp_eq, pu_rne, pu_req, pu_uro, RFc_n, Nat.reduceAdd, Nat.reduceMul, Nat.reduceLT, Nat.reduceLeDiff, Nat.reduceEqDiff, Nat.reduceSub]
      refine c_ini1 (a := n) (n := n + 1) (by omega) (by omega) (by rw [pu_req]) (fun t' I' J' F' p1 p2 p3 p4 p5 p6 p7 => ?_)
      have hlt : ∀ a, a < n → t' a = t a := fun a ha => by rw [p1 a (by omega), pu_rne (by omega)]
      have hlI : ∀ a, a < n → I' a = I a := fun a ha => by rw [p3 a (by omega) (by omega), pu_rne (by omega)]
      have hlF : ∀ a, a < n → F' a = F a := fun a ha => by rw [p4 a (by omega) (by omega), pu_rne (by omega)]
      have htn : t' n = (1, 6) := by rw [p1 n (by omega), pu_req]
      have hs73 : ∀ a, a < 73 → a < n := hn
      have hW1 : WS (n + 5) t' (am_uF F' 6 k (some n)) := by
        refine ⟨fun a ha => by have := hn a ha; omega, by omega, fun a ha => by rw [hlt a (hn a ha)]; exact ht a ha, fun a j hj => ?_⟩
        by_cases e : a = 6
        · subst e
          exact absurd hj (by simp [am_wf])
        · rw [pu_Fne e]
          have : a < 73 := by
            refine Nat.lt_of_not_le (fun q => ?_)
            have : (am_wf a j) = none := by
              unfold am_wf
              split <;> first | omega | rfl
            rw [this] at hj
            cases hj
          rw [hlF a (hn a this)]
          exact hF a j hj
      have t6 : t' 6 = (25, 2) := by rw [hlt 6 (hn _ (by decide))]; exact ht 6 (by decide)
      have f01 : F' 0 1 = some 6 := by rw [hlF 0 (hn _ (by decide))]; exact hF 0 1 rfl
      have t0 : t' 0 = (11, 15) := by rw [hlt 0 (hn _ (by decide))]; exact ht 0 (by decide)
      have n72 := hn 72 (by decide)
      have z1 : n < n + 5 ∧ 6 < n + 5 ∧ 0 < n + 5 := by omega
      simp only [↓r159_36, ↓r159_36n, t6, t0, f01, htn, hk2, hk3, z1, Nat.add_assoc, ps_lit, nI_add, nI_1, pk_mul, ps_cl, ps_neg, ps_c0, ps_c1, ps_n01, ps_n11, ps_10, ps_01, ps_1n, ps_0n, ps_b01, ps_e0, am_k_n, am_k_i, am_k_r, am_k_u, am_k_l, am_sz_0, am_sz_i, am_sz_r, am_sz_u, am_sz_l, Option.toList_some, Option.toList_none, List.cons_append, List.nil_append, true_and, and_true, or_false, false_or, or_self, or_true, true_or, and_self, if_true, if_false, not_false_eq_true, not_true_eq_false, Classical.not_not, ne_eq, ps_e1, ps_em, ps_z, Nat.not_le, false_implies, true_implies, forall_const, Nat.reduceAdd, Nat.reduceMul, Nat.reduceLT, Nat.reduceLeDiff, Nat.reduceEqDiff, Nat.reduceSub]
      have q0 : ∀ a, a < 73 → I' a = I a := fun a ha => hlI a (hn a ha)
      refine im_run (i := i) (b := n) (ow := fun s => if n ≤ s then 2 + k else ow s) hW1 ⟨by omega, by omega, by omega⟩ ?_ ?_ ?_ ?_ ?_ ?_ ?_ hk2 (fun k' hk' hne => ?_) ⟨by have := hn 72 (by decide); omega, by omega⟩ (fun i hi => if_pos (by omega)) ⟨htn, p2.1, p2.2.1, p2.2.2.1, p2.2.2.2⟩ ?_ ?_
      · rw [q0 1 (by decide), q0 2 (by decide), q0 3 (by decide), q0 4 (by decide), q0 49 (by decide)]; exact k1
      · rw [q0 46 (by decide), q0 48 (by decide), q0 0 (by decide), q0 47 (by decide)]; exact k2
      · rw [q0 9 (by decide), q0 47 (by decide)]; exact k3
      · rw [q0 7 (by decide), q0 8 (by decide), q0 47 (by decide), q0 53 (by decide)]; exact k4
      · rw [q0 52 (by decide)]; exact k5
      · rw [q0 41 (by decide), q0 42 (by decide), q0 43 (by decide), q0 47 (by decide), q0 69 (by decide), q0 70 (by decide), q0 71 (by decide), q0 72 (by decide)]; exact k6
      · rw [pu_Fne (by decide), hlF 5 (hn _ (by decide)), q0 49 (by decide)]
        exact LWs_fr (n' := n + 5) (t' := t') (I' := I') (F' := am_uF F' 6 k (some n)) (by omega) (fun s h1 h2 => hlt s h2) (fun s h1 h2 _ => by rw [pu_Fne (by omega), hlF s h2]) (fun s h1 h2 _ => hlI s h2) (LWs_ow k7 (fun s hs => if_neg (by omega)))
      · rw [q0 51 (by decide), pu_Feq, vu_ne hne, hlF 6 (hn _ (by decide)), q0 50 (by decide)]
        rcases k8 k' hk' with q | ⟨q1, b, q2, q3⟩
        · exact Or.inl q
        · exact Or.inr ⟨q1, b, q2, IMo_fr (n' := n + 5) (t' := t') (I' := I') (F' := am_uF F' 6 k (some n)) (by omega) (fun s h1 h2 => hlt s h2) (fun s h1 h2 _ => by rw [pu_Fne (by omega), hlF s h2]) (fun s h1 h2 _ => hlI s h2) (IMo_ow q3 (fun s hs => if_neg (by omega)))⟩
      · rw [pu_Fne (by omega)]
        exact ⟨p7.1, p7.2.1, p7.2.2.1, p7.2.2.2.1⟩
      · rw [pu_Feq, vu_eq]
    · simp only [↓r159_0, ↓r159_1, ↓r159_2, ↓r159_3, ↓r159_6, ↓r159_9, ↓r159_10, ↓r159_11, ↓r159_14, ↓r159_15, ↓r159_16, ↓r159_19, ↓r159_20, ↓r159_21, ↓r159_21n, ↓c_within, ↓c_meansTried, ↓c_nearest, ↓c_accept, ↓c_rf1, ↓c_rf2, ↓c_rf3, ↓c_rf5, ↓c_rf6, ↓c_has, ↓c_atx, ↓c_putx, ↓c_put0, ↓c_put1, ↓s_at0, ↓s_at1, ↓c_isTriedx, ↓c_sidex, ↓c_thingx, ↓c_isFoundx, ↓s_lies, ↓s_rf1, ↓s_rf2, ↓s_rf3, ↓s_rf5, ↓s_rf6, ↓s_good, ↓s_many, ↓s_at, ↓s_isChild, ↓s_replacesx, ↓s_factOfx, ↓s_isTried, ↓s_took, ↓s_waited, ↓s_term0, ↓s_term1, ↓s_term2, ↓s_isLong, ↓s_isShort, ↓s_thingOfx, ↓s_isFoundx, ↓s_isText, ↓s_isGroup, hW, h1, hk2, hk3, hf6, and_self, if_true, Bool.false_eq_true, hn, hn2, ht, hF, am_wt, am_wf, Option.isSome_some, am_rf_s, am_rf_n, ps_lit, nI_add, nI_1, pk_mul, ps_cl, ps_neg, ps_c0, ps_c1, ps_n01, ps_n11, ps_10, ps_b01, ps_e0, pu_Ine, pu_Ieq, pu_ne, pu_eq, am_k_n, am_k_i, am_k_r, am_k_u, am_k_l, am_sz_0, am_sz_i, am_sz_r, am_sz_u, am_sz_l, Option.toList_some, Option.toList_none, List.cons_append, List.nil_append, true_and, and_true, or_false, false_or, or_self, or_true, true_or, not_false_eq_true, not_true_eq_false, Classical.not_not, ne_eq, ps_e1, ps_em, ps_z, Nat.not_le, false_implies, true_implies, forall_const, ps_01, ps_1n, ps_0n, ps_m10, ps_m1n, lg_cmp_gt, lg_cmp_ge, lg_cmp_le, lg_cmp_lt, lg_cmp_eq, pu_rne, pu_req, pu_uro, RFc_n, Nat.reduceAdd, Nat.reduceMul, Nat.reduceLT, Nat.reduceLeDiff, Nat.reduceEqDiff, Nat.reduceSub]
      exact im_run (i := i) hW ⟨by omega, by omega, by omega⟩ k1 k2 k3 k4 k5 k6 k7 hk2 (fun k' hk' hne => k8 k' hk') ⟨b1, b2⟩ o tb fb hf6
  · simp only [↓r159_0, ↓r159_1, ↓r159_2, ↓r159_3, ↓r159_6, ↓r159_9, ↓r159_10, ↓r159_11, ↓r159_14, ↓r159_15, ↓r159_16, ↓r159_19, ↓r159_20, ↓r159_21, ↓r159_21n, ↓r159_24, ↓r159_25, ↓r159_28, ↓r159_29, ↓r159_32, ↓r159_32r, ↓r159_33, ↓r159_36, ↓r159_36n, ↓r159_37, ↓r159_38, ↓r159_41, ↓r159_42, ↓r159_43, ↓r159_44, ↓r159_47, ↓r159_50, ↓r159_51, ↓r159_52, ↓r159_55, ↓r167_0, ↓r167_1, ↓r167_2, ↓r167_3, ↓r167_6, ↓r167_9, ↓r167_10, ↓r167_11, ↓r167_14, ↓r167_15, ↓r167_16, ↓r167_17, ↓r167_18, ↓r167_21, ↓r167_24, ↓r167_25, ↓r167_28, ↓r167_31, ↓r167_32, ↓r167_33, ↓r167_34, ↓r167_35, ↓r167_36, ↓r167_39, ↓r167_40, ↓r167_40k, ↓r167_41, ↓r167_42, ↓r167_45, ↓r167_48, ↓r167_49, ↓r167_52, ↓r167_53, ↓r167_54, ↓r167_54z, ↓r167_55, ↓r167_56, ↓r167_57, ↓r167_60, ↓c_within, ↓c_meansTried, ↓c_nearest, ↓c_accept, ↓c_rf1, ↓c_rf2, ↓c_rf3, ↓c_rf5, ↓c_rf6, ↓c_has, ↓c_atx, ↓c_putx, ↓c_put0, ↓c_put1, ↓s_at0, ↓s_at1, ↓c_isTriedx, ↓c_sidex, ↓c_thingx, ↓c_isFoundx, ↓s_lies, ↓s_rf1, ↓s_rf2, ↓s_rf3, ↓s_rf5, ↓s_rf6, ↓s_good, ↓s_many, ↓s_at, ↓s_isChild, ↓s_replacesx, ↓s_factOfx, ↓s_isTried, ↓s_took, ↓s_waited, ↓s_term0, ↓s_term1, ↓s_term2, ↓s_isLong, ↓s_isShort, ↓s_thingOfx, ↓s_isFoundx, ↓s_isText, ↓s_isGroup, hW, h1, if_false, Bool.false_eq_true, hn, hn2, ht, hF, am_wt, am_wf, Option.isSome_some, am_rf_s, am_rf_n, ps_lit, nI_add, nI_1, pk_mul, ps_cl, ps_neg, ps_c0, ps_c1, ps_n01, ps_n11, ps_10, ps_b01, ps_e0, pu_Ine, pu_Ieq, pu_ne, pu_eq, am_k_n, am_k_i, am_k_r, am_k_u, am_k_l, am_sz_0, am_sz_i, am_sz_r, am_sz_u, am_sz_l, Option.toList_some, Option.toList_none, List.cons_append, List.nil_append, true_and, and_true, or_false, false_or, or_self, or_true, true_or, not_false_eq_true, not_true_eq_false, Classical.not_not, ne_eq, ps_e1, ps_em, ps_z, Nat.not_le, false_implies, true_implies, forall_const, ps_01, ps_1n, ps_0n, ps_m10, ps_m1n, lg_cmp_gt, lg_cmp_ge, lg_cmp_le, lg_cmp_lt, lg_cmp_eq, pu_rne, pu_req, pu_uro, RFc_n, Nat.reduceAdd, Nat.reduceMul, Nat.reduceLT, Nat.reduceLeDiff, Nat.reduceEqDiff, Nat.reduceSub]
    exact ⟨_, rfl, rfl, Inv_rf hV hi 1⟩
end I3
