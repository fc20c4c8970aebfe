/-! groups are gathered -/
section GA
variable {X : am_X} {d : Nat} {Q : Option Value → am_H → Prop} {n sl : Nat} {t : Nat → Nat × Nat} {I : Nat → Nat → Int32} {J : Nat → Nat → Int64} {F : Nat → Nat → Option Nat} {h : am_H}
variable {K : Nat → Int32} {N T : Nat} {lw : Nat → List CL}
theorem SC_gI {I' : Nat → Nat → Int32} {g : Nat} {l : List Nat} (h : SC I I') (h1 : ∀ k, scr g k = true) (h2 : ∀ k, scr (g + 1) k = true) : SC I (gI I' g l) := SC_o (SC_o h h1) h2
theorem gI_c {g : Nat} {l : List Nat} {a b c e : Nat → Int32} (hg : g = 15 ∨ g = 17) : am_ro (am_ro (gI (am_ro (am_ro I 13 a) 14 b) g l) 13 c) 14 e = gI (am_ro (am_ro I 13 c) 14 e) g l := by
  funext x
  by_cases h1 : x = g + 1
  · subst h1
    rw [pu_rne (by omega), pu_rne (by omega), gI_m, gI_m, pu_rne (by omega), pu_rne (by omega), pu_rne (by omega), pu_rne (by omega)]
  · by_cases h2 : x = g
    · subst h2
      rw [pu_rne (by omega), pu_rne (by omega)]
      unfold gI
      rw [pu_rne h1, pu_rne h1, pu_req, pu_req, pu_rne (by omega), pu_rne (by omega), pu_rne (by omega), pu_rne (by omega)]
    · rw [gI_n h2 h1]
      by_cases h3 : x = 14
      · subst h3
        rw [pu_req, pu_req]
      · rw [pu_rne h3, pu_rne h3]
        by_cases h4 : x = 13
        · subst h4
          rw [pu_req, pu_req]
        · rw [pu_rne h4, pu_rne h4, gI_n h2 h1, pu_rne h3, pu_rne h4]
theorem c_gather0 {g : Nat} {x : Int32} (hC : CX n t I F K N T lw) (hx : ¬ isG T x) : am_W X (d + 6) 64 0 [some (.ref 0), some (.ref g), some (.int x), none, none] [] (n, sl, t, I, J, F) Q ↔ Q (some (.int 0)) (n, sl, t, I, J, F) := by
  obtain ⟨hW, ⟨hN, hT, hKN, hKT, hRW, hTW⟩, h49, ⟨hs, hc, hr, hu, hm⟩, hl⟩ := id hC
  obtain ⟨hn, hn2, ht, hF⟩ := id hW
  obtain ⟨y1, y2⟩ := isG_n hT hx
  simp only [↓r64_0, ↓r64_1, ↓r64_2, ↓r64_5, ↓r64_5n, ↓r64_6, ↓r64_7, ↓r64_10, ↓r64_13, ↓r64_16, ↓r64_17, ↓r64_18, ↓r64_19, ↓r64_22, ↓r64_23, ↓r64_26, ↓r64_26n, ↓r64_27, ↓r64_27n, ↓r64_28, ↓r64_28n, ↓r64_31, ↓r64_32, ↓r64_33, ↓r64_33n, ↓r64_34, ↓r64_35, ↓r64_38, ↓r64_39, ↓r64_41, ↓r64_43, ↓r64_44, ↓r64_47, ↓r64_50, ↓r64_53, ↓r64_54, ↓r64_57, ↓r64_58, ↓r64_61, ↓r64_64, ↓r64_66, ↓r64_69, ↓r64_69n, ↓r64_70, ↓r64_71, ↓r64_72, ↓r64_75, ↓r64_78, ↓r64_81, ↓r64_84, ↓r64_84n, ↓r64_85, ↓r64_87, ↓r64_90, ↓r64_93, ↓r64_96, ↓r64_97, ↓c_lawAt0 hW hc y2, y1, if_false, Bool.false_eq_true, hn, hn2, ht, hF, am_wt, am_wf, Option.isSome_some, am_rf_s, am_rf_n, ps_lit, nI_add, nI_1, pk_mul, ps_cl, ps_neg, ps_c0, ps_c1, ps_n01, ps_n11, ps_10, ps_b01, ps_e0, pu_Ine, pu_Ieq, pu_ne, pu_eq, am_k_n, am_k_i, am_k_r, am_k_u, am_k_l, am_sz_0, am_sz_i, am_sz_r, am_sz_u, am_sz_l, Option.toList_some, Option.toList_none, List.cons_append, List.nil_append, true_and, and_true, or_false, false_or, or_self, or_true, true_or, not_false_eq_true, not_true_eq_false, Classical.not_not, ne_eq, ps_e1, ps_em, ps_z, Nat.not_le, false_implies, true_implies, forall_const, ps_01, ps_1n, ps_0n, ps_m10, ps_m1n, lg_cmp_gt, lg_cmp_ge, lg_cmp_le, lg_cmp_lt, lg_cmp_eq, pu_rne, pu_req, pu_uro, RFc_n, Nat.reduceAdd, Nat.reduceMul, Nat.reduceLT, Nat.reduceLeDiff, Nat.reduceEqDiff, Nat.reduceSub]
theorem c_gather {g : Nat} {x : Int32} (hg : g = 15 ∨ g = 17) (hC : CX n t I F K N T lw) (hx : isG T x) (hQ : ∀ f13 f14, Q (some (.int 1)) (n, sl, t, gI (am_ro (am_ro I 13 f13) 14 f14) g (grp (inG K lw x) N), J, F)) : am_W X (d + 6) 64 0 [some (.ref 0), some (.ref g), some (.int x), none, none] [] (n, sl, t, I, J, F) Q := by
  obtain ⟨hW, hK, h49, ⟨hs, hc, hr, hu, hm⟩, hl⟩ := id hC
  obtain ⟨hN, hT, hKN, hKT, hRW, hTW⟩ := id hK
  obtain ⟨hn, hn2, ht, hF⟩ := id hW
  have g1 : g < n := by rcases hg with e | e <;> rw [e] <;> exact hn _ (by decide)
  have g2 : g + 1 < n := by rcases hg with e | e <;> rw [e] <;> exact hn _ (by decide)
  have g3 : t g = (4, 2) := by rcases hg with e | e <;> rw [e] <;> exact ht _ (by decide)
  have g4 : t (g + 1) = (20, 120) := by rcases hg with e | e <;> rw [e] <;> exact ht _ (by decide)
  have g5 : F g 0 = some (g + 1) := by rcases hg with e | e <;> rw [e] <;> exact hF _ _ rfl
  have gs1 : ∀ k, scr g k = true := by rcases hg with e | e <;> rw [e] <;> exact fun _ => rfl
  have gs2 : ∀ k, scr (g + 1) k = true := by rcases hg with e | e <;> rw [e] <;> exact fun _ => rfl
  rcases hx with rfl | ⟨j, hj, rfl⟩
  · have e1 : inG K lw (-1) = allG := by funext c; simp [inG, allG]
    have e2 := fun Q => c_takeAll (X := X) (d := d + 4) (Q := Q) (sl := sl) (J := J) (I := I) hn2 g1 g2 g3 g4 g5 hN
    have e3 := hQ (I 13) (I 14)
    rw [e1, pu_roI] at e3
    rw [pu_roI] at e3
    simp only [↓r64_0, ↓r64_1, ↓r64_2, ↓r64_5, ↓r64_5n, ↓r64_6, ↓r64_7, ↓r64_10, ↓r64_13, ↓r64_16, ↓r64_17, hs, ↓e2, g1, g3, if_true, Bool.false_eq_true, hn, hn2, ht, hF, am_wt, am_wf, Option.isSome_some, am_rf_s, am_rf_n, ps_lit, nI_add, nI_1, pk_mul, ps_cl, ps_neg, ps_c0, ps_c1, ps_n01, ps_n11, ps_10, ps_b01, ps_e0, pu_Ine, pu_Ieq, pu_ne, pu_eq, am_k_n, am_k_i, am_k_r, am_k_u, am_k_l, am_sz_0, am_sz_i, am_sz_r, am_sz_u, am_sz_l, Option.toList_some, Option.toList_none, List.cons_append, List.nil_append, true_and, and_true, or_false, false_or, or_self, or_true, true_or, not_false_eq_true, not_true_eq_false, Classical.not_not, ne_eq, ps_e1, ps_em, ps_z, Nat.not_le, false_implies, true_implies, forall_const, ps_01, ps_1n, ps_0n, ps_m10, ps_m1n, lg_cmp_gt, lg_cmp_ge, lg_cmp_le, lg_cmp_lt, lg_cmp_eq, pu_rne, pu_req, pu_uro, RFc_n, Nat.reduceAdd, Nat.reduceMul, Nat.reduceLT, Nat.reduceLeDiff, Nat.reduceEqDiff, Nat.reduceSub]
    exact e3
  · obtain ⟨a, s, c, ls, lc, ea, ⟨a1, a2, _⟩, ⟨ta, _⟩, _⟩ := hl j hj
    have e1 : inG K lw (nI j) = fun c => (told (lw j) 4 (wd K c 0)).isSome := by
      funext c
      unfold inG
      rw [if_neg (nI_m1 (by omega)), nI_clamp (by omega)]
    rw [e1] at hQ
    have hx : ∀ f13 f14, am_W X (d + 6) 64 41 [some (.ref 0), some (.ref g), some (.int (nI j)), some (.ref a), some (.int 0)] [] (n, sl, t, gI (am_ro (am_ro I 13 f13) 14 f14) g (grp (fun c => (told (lw j) 4 (wd K c 0)).isSome) 0), J, F) Q := by
      refine lp0 (A := fun c => ∀ f13 f14, am_W X (d + 6) 64 41 [some (.ref 0), some (.ref g), some (.int (nI j)), some (.ref a), some (.int (nI c))] [] (n, sl, t, gI (am_ro (am_ro I 13 f13) 14 f14) g (grp (fun c => (told (lw j) 4 (wd K c 0)).isSome) c), J, F) Q) (N := N) ?_ ?_
      · intro c hcN ih f13 f14
        have n1 : ∀ b, b ≠ 13 → b ≠ 14 → b ≠ 15 → b ≠ 16 → b ≠ 17 → b ≠ 18 → gI (am_ro (am_ro I 13 f13) 14 f14) g (grp (fun c => (told (lw j) 4 (wd K c 0)).isSome) c) b = I b := fun b b1 b2 b3 b4 b5 b6 => by
          rw [gI_n (by rcases hg with e | e <;> rw [e] <;> assumption) (by rcases hg with e | e <;> rw [e] <;> assumption), pu_rne b2, pu_rne b1]
        have e2 : ¬ nI N ≤ nI c := nI_ge hcN (by omega)
        have e3 := fun Q => c_ask (X := X) (d := d + 4) (Q := Q) (sl := sl) (J := J) (I := gI (am_ro (am_ro I 13 f13) 14 f14) g (grp (fun c => (told (lw j) 4 (wd K c 0)).isSome) c)) (c := c) hW (by omega)
        rw [r64_41]
        simp only [↓r64_43, ↓r64_44, ↓r64_47, ↓r64_50, ↓r64_53, ↓r64_54, ↓r64_57, ↓r64_58, ↓r64_61, ↓r64_64, ↓r64_66, ↓r64_69, ↓r64_69n, ↓r64_70, ↓r64_71, ↓r64_72, ↓r64_75, ↓e3, n1 1, n1 0, n1 2, hs, e2, a1, a2, ta, Bool.false_eq_true, hn, hn2, ht, hF, am_wt, am_wf, Option.isSome_some, am_rf_s, am_rf_n, ps_lit, nI_add, nI_1, pk_mul, ps_cl, ps_neg, ps_c0, ps_c1, ps_n01, ps_n11, ps_10, ps_b01, ps_e0, pu_Ine, pu_Ieq, pu_ne, pu_eq, am_k_n, am_k_i, am_k_r, am_k_u, am_k_l, am_sz_0, am_sz_i, am_sz_r, am_sz_u, am_sz_l, Option.toList_some, Option.toList_none, List.cons_append, List.nil_append, true_and, and_true, or_false, false_or, or_self, or_true, true_or, not_false_eq_true, not_true_eq_false, Classical.not_not, ne_eq, ps_e1, ps_em, ps_z, Nat.not_le, false_implies, true_implies, forall_const, ps_01, ps_1n, ps_0n, ps_m10, ps_m1n, lg_cmp_gt, lg_cmp_ge, lg_cmp_le, lg_cmp_lt, lg_cmp_eq, pu_rne, pu_req, pu_uro, RFc_n, Nat.reduceAdd, Nat.reduceMul, Nat.reduceLT, Nat.reduceLeDiff, Nat.reduceEqDiff, Nat.reduceSub]
        refine c_tell hC hj ea (hd := 3) (w := wd K c 0) (by decide) (wd_WV hK hcN (Nat.zero_le _)) (SC_o (SC_gI (SC_o (SC_o (SC_r I) (fun _ => rfl)) (fun _ => rfl)) gs1 gs2) (fun _ => rfl)) (fun k hk => ?_) (fun f => ?_)
        · rw [pu_req, ask_r _ _ _ _ hk]
          unfold wd
          by_cases k1 : k < 9
          · rw [if_pos k1, if_pos k1, hr _ (by omega)]
          · rw [if_neg k1, if_neg k1]
            by_cases k2 : k = 9
            · rw [if_pos k2, if_pos k2]
            · rw [if_neg k2, if_neg k2, hr _ (by omega)]
        · rw [gI_c hg]
          have ih' := ih (upd (va_cpy (I 2) (gI (am_ro (am_ro I 13 f13) 14 f14) g (grp (fun c => (told (lw j) 4 (wd K c 0)).isSome) c) 13) (15 * c) 0 10) 10 0) f
          rw [grp] at ih'
          have e4 := fun Q => c_gaddI (X := X) (d := d + 5) (Q := Q) (sl := sl) (J := J) (I := am_ro (am_ro I 13 (upd (va_cpy (I 2) (gI (am_ro (am_ro I 13 f13) 14 f14) g (grp (fun c => (told (lw j) 4 (wd K c 0)).isSome) c) 13) (15 * c) 0 10) 10 0)) 14 f) (c := c) (l := grp (fun c => (told (lw j) 4 (wd K c 0)).isSome) c) hn2 g1 g2 g3 g4 g5 (by have := grp_le (fun c => (told (lw j) 4 (wd K c 0)).isSome) c; omega)
          cases ho : told (lw j) (3 + 1) (wd K c 0) with
          | none =>
            rw [ho] at ih'
            simp only [Option.isSome_none, if_false, List.append_nil, Bool.false_eq_true] at ih'
            simp only [↓r64_78, ↓r64_81, ↓r64_84, ↓r64_84n, ↓r64_85, ↓r64_87, ↓r64_90, ↓r64_93, tva, Bool.false_eq_true, hn, hn2, ht, hF, am_wt, am_wf, Option.isSome_some, am_rf_s, am_rf_n, ps_lit, nI_add, nI_1, pk_mul, ps_cl, ps_neg, ps_c0, ps_c1, ps_n01, ps_n11, ps_10, ps_b01, ps_e0, pu_Ine, pu_Ieq, pu_ne, pu_eq, am_k_n, am_k_i, am_k_r, am_k_u, am_k_l, am_sz_0, am_sz_i, am_sz_r, am_sz_u, am_sz_l, Option.toList_some, Option.toList_none, List.cons_append, List.nil_append, true_and, and_true, or_false, false_or, or_self, or_true, true_or, not_false_eq_true, not_true_eq_false, Classical.not_not, ne_eq, ps_e1, ps_em, ps_z, Nat.not_le, false_implies, true_implies, forall_const, ps_01, ps_1n, ps_0n, ps_m10, ps_m1n, lg_cmp_gt, lg_cmp_ge, lg_cmp_le, lg_cmp_lt, lg_cmp_eq, pu_rne, pu_req, pu_uro, RFc_n, Nat.reduceAdd, Nat.reduceMul, Nat.reduceLT, Nat.reduceLeDiff, Nat.reduceEqDiff, Nat.reduceSub]
            exact ih'
          | some v =>
            rw [ho] at ih'
            simp only [Option.isSome_some, if_true] at ih'
            have w1 : ¬ (1 : Int32) = -nI 2000000000 := by decide
            simp only [↓r64_78, ↓r64_81, ↓r64_84, ↓r64_84n, ↓r64_85, ↓r64_87, ↓r64_90, ↓r64_93, tva, ↓e4, w1, if_true, g1, g3, Bool.false_eq_true, hn, hn2, ht, hF, am_wt, am_wf, Option.isSome_some, am_rf_s, am_rf_n, ps_lit, nI_add, nI_1, pk_mul, ps_cl, ps_neg, ps_c0, ps_c1, ps_n01, ps_n11, ps_10, ps_b01, ps_e0, pu_Ine, pu_Ieq, pu_ne, pu_eq, am_k_n, am_k_i, am_k_r, am_k_u, am_k_l, am_sz_0, am_sz_i, am_sz_r, am_sz_u, am_sz_l, Option.toList_some, Option.toList_none, List.cons_append, List.nil_append, true_and, and_true, or_false, false_or, or_self, or_true, true_or, not_false_eq_true, not_true_eq_false, Classical.not_not, ne_eq, ps_e1, ps_em, ps_z, Nat.not_le, false_implies, true_implies, forall_const, ps_01, ps_1n, ps_0n, ps_m10, ps_m1n, lg_cmp_gt, lg_cmp_ge, lg_cmp_le, lg_cmp_lt, lg_cmp_eq, pu_rne, pu_req, pu_uro, RFc_n, Nat.reduceAdd, Nat.reduceMul, Nat.reduceLT, Nat.reduceLeDiff, Nat.reduceEqDiff, Nat.reduceSub]
            exact ih'
      · intro f13 f14
        have n1 : ∀ b, b ≠ 13 → b ≠ 14 → b ≠ 15 → b ≠ 16 → b ≠ 17 → b ≠ 18 → gI (am_ro (am_ro I 13 f13) 14 f14) g (grp (fun c => (told (lw j) 4 (wd K c 0)).isSome) N) b = I b := fun b b1 b2 b3 b4 b5 b6 => by
          rw [gI_n (by rcases hg with e | e <;> rw [e] <;> assumption) (by rcases hg with e | e <;> rw [e] <;> assumption), pu_rne b2, pu_rne b1]
        rw [r64_41]
        simp only [↓r64_43, ↓r64_44, ↓r64_47, ↓r64_50, ↓r64_53, ↓r64_54, ↓r64_57, ↓r64_58, ↓r64_61, ↓r64_64, ↓r64_66, ↓r64_69, ↓r64_69n, ↓r64_70, ↓r64_71, ↓r64_72, ↓r64_75, ↓r64_78, ↓r64_81, ↓r64_84, ↓r64_84n, ↓r64_85, ↓r64_87, ↓r64_90, ↓r64_93, ↓r64_96, ↓r64_97, n1 1, n1 0, hs, Int32.le_refl, Bool.false_eq_true, hn, hn2, ht, hF, am_wt, am_wf, Option.isSome_some, am_rf_s, am_rf_n, ps_lit, nI_add, nI_1, pk_mul, ps_cl, ps_neg, ps_c0, ps_c1, ps_n01, ps_n11, ps_10, ps_b01, ps_e0, pu_Ine, pu_Ieq, pu_ne, pu_eq, am_k_n, am_k_i, am_k_r, am_k_u, am_k_l, am_sz_0, am_sz_i, am_sz_r, am_sz_u, am_sz_l, Option.toList_some, Option.toList_none, List.cons_append, List.nil_append, true_and, and_true, or_false, false_or, or_self, or_true, true_or, not_false_eq_true, not_true_eq_false, Classical.not_not, ne_eq, ps_e1, ps_em, ps_z, Nat.not_le, false_implies, true_implies, forall_const, ps_01, ps_1n, ps_0n, ps_m10, ps_m1n, lg_cmp_gt, lg_cmp_ge, lg_cmp_le, lg_cmp_lt, lg_cmp_eq, pu_rne, pu_req, pu_uro, RFc_n, Nat.reduceAdd, Nat.reduceMul, Nat.reduceLT, Nat.reduceLeDiff, Nat.reduceEqDiff, Nat.reduceSub]
        exact hQ f13 f14
    have h2 := hx (I 13) (I 14)
    rw [pu_roI] at h2
    rw [pu_roI] at h2
    have h3 : gI I g (grp (fun c => (told (lw j) 4 (wd K c 0)).isSome) 0) = am_uI I g 1 0 := gI_0.symm
    rw [h3] at h2
    have w1 := nI_m1 (k := j) (by omega)
    simp only [↓r64_0, ↓r64_1, ↓r64_2, ↓r64_5, ↓r64_5n, ↓r64_6, ↓r64_7, ↓r64_10, ↓r64_13, ↓r64_16, ↓r64_17, ↓r64_18, ↓r64_19, ↓r64_22, ↓r64_23, ↓r64_26, ↓r64_26n, ↓r64_27, ↓r64_27n, ↓r64_28, ↓r64_28n, ↓r64_31, ↓r64_32, ↓r64_33, ↓r64_33n, ↓r64_34, ↓r64_35, ↓r64_38, ↓r64_39, ↓c_lawAt hW hT hc hj ea, g1, g3, w1, Bool.false_eq_true, hn, hn2, ht, hF, am_wt, am_wf, Option.isSome_some, am_rf_s, am_rf_n, ps_lit, nI_add, nI_1, pk_mul, ps_cl, ps_neg, ps_c0, ps_c1, ps_n01, ps_n11, ps_10, ps_b01, ps_e0, pu_Ine, pu_Ieq, pu_ne, pu_eq, am_k_n, am_k_i, am_k_r, am_k_u, am_k_l, am_sz_0, am_sz_i, am_sz_r, am_sz_u, am_sz_l, Option.toList_some, Option.toList_none, List.cons_append, List.nil_append, true_and, and_true, or_false, false_or, or_self, or_true, true_or, not_false_eq_true, not_true_eq_false, Classical.not_not, ne_eq, ps_e1, ps_em, ps_z, Nat.not_le, false_implies, true_implies, forall_const, ps_01, ps_1n, ps_0n, ps_m10, ps_m1n, lg_cmp_gt, lg_cmp_ge, lg_cmp_le, lg_cmp_lt, lg_cmp_eq, pu_rne, pu_req, pu_uro, RFc_n, Nat.reduceAdd, Nat.reduceMul, Nat.reduceLT, Nat.reduceLeDiff, Nat.reduceEqDiff, Nat.reduceSub]
    exact h2
theorem mAsk_w {c : Nat} {mi : Int32} {f : Nat → Int32} {k : Nat} (hk : k < 11) : mAsk I c mi f k = wd (I 49) c mi k := by
  unfold mAsk wd
  by_cases h1 : k < 9
  · rw [if_pos h1, if_pos h1]
  · rw [if_neg h1, if_neg h1]
    by_cases h2 : k = 9
    · rw [if_pos h2, if_pos h2]
    · rw [if_neg h2, if_neg h2, if_pos (by omega)]
theorem s_isIn {c : Nat} {x : Int32} {I' : Nat → Nat → Int32} (hC : CX n t I F K N T lw) (hx : isG T x) (hc : c < N) (h49 : I' 49 = K) (hQ : ∀ f47 f58 g47, (∀ k, k ≠ 17 → k ≠ 18 → k ≠ 19 → k ≠ 22 → f47 k = I' 47 k) → Q (some (.int (if inG K lw x c then 1 else 0))) (n, sl, t, am_ro (am_ro I' 47 f47) 58 f58, am_ro J 47 g47, F)) : am_W X (d + 45) 219 0 [some (.ref 47), some (.int x), some (.int (nI c))] [] (n, sl, t, I', J, F) Q := by
  obtain ⟨hW, hK, _, ⟨hs, hcc, hr, hu, hm⟩, hl⟩ := id hC
  obtain ⟨hN, hT, hKN, hKT, hRW, hTW⟩ := id hK
  obtain ⟨hn, hn2, ht, hF⟩ := id hW
  rcases hx with rfl | ⟨j, hj, rfl⟩
  · have e1 : inG K lw (-1) c = true := by simp [inG]
    have e3 := hQ (I' 47) (I' 58) (J 47) (fun _ _ _ _ _ => rfl)
    rw [e1, pu_roI, pu_roI, pu_roJ] at e3
    simp only [↓r219_0, ↓r219_1, ↓r219_2, ↓r219_5, ↓r219_6, if_true, Bool.false_eq_true, hn, hn2, ht, hF, am_wt, am_wf, Option.isSome_some, am_rf_s, am_rf_n, ps_lit, nI_add, nI_1, pk_mul, ps_cl, ps_neg, ps_c0, ps_c1, ps_n01, ps_n11, ps_10, ps_b01, ps_e0, pu_Ine, pu_Ieq, pu_ne, pu_eq, am_k_n, am_k_i, am_k_r, am_k_u, am_k_l, am_sz_0, am_sz_i, am_sz_r, am_sz_u, am_sz_l, Option.toList_some, Option.toList_none, List.cons_append, List.nil_append, true_and, and_true, or_false, false_or, or_self, or_true, true_or, not_false_eq_true, not_true_eq_false, Classical.not_not, ne_eq, ps_e1, ps_em, ps_z, Nat.not_le, false_implies, true_implies, forall_const, ps_01, ps_1n, ps_0n, ps_m10, ps_m1n, lg_cmp_gt, lg_cmp_ge, lg_cmp_le, lg_cmp_lt, lg_cmp_eq, pu_rne, pu_req, pu_uro, RFc_n, Nat.reduceAdd, Nat.reduceMul, Nat.reduceLT, Nat.reduceLeDiff, Nat.reduceEqDiff, Nat.reduceSub]
    exact e3
  · have e1 : inG K lw (nI j) c = (told (lw j) 4 (wd K c 0)).isSome := by
      unfold inG
      rw [if_neg (nI_m1 (by omega)), nI_clamp (by omega)]
    rw [e1] at hQ
    have w1 := nI_m1 (k := j) (by omega)
    have e2 := fun Q => s_asksChild (X := X) (d := d + 42) (Q := Q) (sl := sl) (J := J) (I := I') (k := c) (mi := 0) hW (by omega)
    simp only [↓r219_0, ↓r219_1, ↓r219_2, ↓r219_5, ↓r219_6, ↓r219_7, ↓r219_8, ↓r219_9, ↓r219_10, ↓r219_13, ↓r219_14, ↓r219_15, ↓r219_16, ↓e2, w1, Bool.false_eq_true, hn, hn2, ht, hF, am_wt, am_wf, Option.isSome_some, am_rf_s, am_rf_n, ps_lit, nI_add, nI_1, pk_mul, ps_cl, ps_neg, ps_c0, ps_c1, ps_n01, ps_n11, ps_10, ps_b01, ps_e0, pu_Ine, pu_Ieq, pu_ne, pu_eq, am_k_n, am_k_i, am_k_r, am_k_u, am_k_l, am_sz_0, am_sz_i, am_sz_r, am_sz_u, am_sz_l, Option.toList_some, Option.toList_none, List.cons_append, List.nil_append, true_and, and_true, or_false, false_or, or_self, or_true, true_or, not_false_eq_true, not_true_eq_false, Classical.not_not, ne_eq, ps_e1, ps_em, ps_z, Nat.not_le, false_implies, true_implies, forall_const, ps_01, ps_1n, ps_0n, ps_m10, ps_m1n, lg_cmp_gt, lg_cmp_ge, lg_cmp_le, lg_cmp_lt, lg_cmp_eq, pu_rne, pu_req, pu_uro, RFc_n, Nat.reduceAdd, Nat.reduceMul, Nat.reduceLT, Nat.reduceLeDiff, Nat.reduceEqDiff, Nat.reduceSub]
    refine s_asks hC hj (hd := 4) (w := wd K c 0) (by decide) (wd_WV hK hc (mi := 0) (Nat.zero_le _)) (by rw [pu_rne (by decide)]; exact h49) (fun k hk => ?_) (fun f g q1 q2 q3 => ?_)
    · rw [pu_req, mAsk_w hk, h49]
    · have q4 := hQ f (mAsk I' c 0 (I' 58)) g (fun k k1 k2 k3 k4 => by rw [q1 k k1 k2 k3 k4, pu_rne (by decide)])
      rw [← q2] at q4
      have q5 : f 22 = 0 ∨ f 22 = 1 := by
        rw [q2]
        cases (told (lw j) 4 (wd K c 0)).isSome <;> simp
      rw [pu_rol (by decide)]
      simp only [↓r219_19, ↓r219_20, ↓r219_23, q5, Bool.false_eq_true, hn, hn2, ht, hF, am_wt, am_wf, Option.isSome_some, am_rf_s, am_rf_n, ps_lit, nI_add, nI_1, pk_mul, ps_cl, ps_neg, ps_c0, ps_c1, ps_n01, ps_n11, ps_10, ps_b01, ps_e0, pu_Ine, pu_Ieq, pu_ne, pu_eq, am_k_n, am_k_i, am_k_r, am_k_u, am_k_l, am_sz_0, am_sz_i, am_sz_r, am_sz_u, am_sz_l, Option.toList_some, Option.toList_none, List.cons_append, List.nil_append, true_and, and_true, or_false, false_or, or_self, or_true, true_or, not_false_eq_true, not_true_eq_false, Classical.not_not, ne_eq, ps_e1, ps_em, ps_z, Nat.not_le, false_implies, true_implies, forall_const, ps_01, ps_1n, ps_0n, ps_m10, ps_m1n, lg_cmp_gt, lg_cmp_ge, lg_cmp_le, lg_cmp_lt, lg_cmp_eq, pu_rne, pu_req, pu_uro, RFc_n, Nat.reduceAdd, Nat.reduceMul, Nat.reduceLT, Nat.reduceLeDiff, Nat.reduceEqDiff, Nat.reduceSub]
      exact q4
theorem s_gathers {x : Int32} (hC : CX n t I F K N T lw) (hx : isG T x) (hQ : ∀ f47 f58 g47, (∀ k, k ≠ 17 → k ≠ 18 → k ≠ 19 → k ≠ 22 → k ≠ 24 → f47 k = I 47 k) → f47 24 = nI (grp (inG K lw x) N).length → Q none (n, sl, t, am_ro (am_ro (am_ro I 47 f47) 58 f58) 59 (ro_g (I 59) (grp (inG K lw x) N)), am_ro J 47 g47, F)) : am_W X (d + 46) 218 0 [some (.ref 47), some (.int x), none] [] (n, sl, t, I, J, F) Q := by
  obtain ⟨hW, hK, h49, ⟨hs, hcc, hr, hu, hm⟩, hl⟩ := id hC
  obtain ⟨hN, hT, hKN, hKT, hRW, hTW⟩ := id hK
  obtain ⟨hn, hn2, ht, hF⟩ := id hW
  generalize hp : inG K lw x = p at hQ
  have hx2 : ∀ f47 f58 g47, (∀ k, k ≠ 17 → k ≠ 18 → k ≠ 19 → k ≠ 22 → k ≠ 24 → f47 k = I 47 k) → f47 24 = nI (grp p 0).length → am_W X (d + 46) 218 7 [some (.ref 47), some (.int x), some (.int 0)] [] (n, sl, t, am_ro (am_ro (am_ro I 47 f47) 58 f58) 59 (ro_g (I 59) (grp p 0)), am_ro J 47 g47, F) Q := by
    refine lp0 (A := fun c => ∀ f47 f58 g47, (∀ k, k ≠ 17 → k ≠ 18 → k ≠ 19 → k ≠ 22 → k ≠ 24 → f47 k = I 47 k) → f47 24 = nI (grp p c).length → am_W X (d + 46) 218 7 [some (.ref 47), some (.int x), some (.int (nI c))] [] (n, sl, t, am_ro (am_ro (am_ro I 47 f47) 58 f58) 59 (ro_g (I 59) (grp p c)), am_ro J 47 g47, F) Q) (N := N) ?_ ?_
    · intro c hcN ih f47 f58 g47 q1 q2
      have e2 : ¬ nI N ≤ nI c := nI_ge hcN (by omega)
      have gl := grp_le p c
      have z1 : (grp p c).length < 2000000 := by omega
      have z2 : (grp p c).length < 120 := by omega
      rw [r218_7]
      simp only [↓r218_8, ↓r218_9, ↓r218_12, ↓r218_15, ↓r218_16, ↓r218_17, ↓r218_18, ↓s_many hW, h49, hKN, e2, Bool.false_eq_true, hn, hn2, ht, hF, am_wt, am_wf, Option.isSome_some, am_rf_s, am_rf_n, ps_lit, nI_add, nI_1, pk_mul, ps_cl, ps_neg, ps_c0, ps_c1, ps_n01, ps_n11, ps_10, ps_b01, ps_e0, pu_Ine, pu_Ieq, pu_ne, pu_eq, am_k_n, am_k_i, am_k_r, am_k_u, am_k_l, am_sz_0, am_sz_i, am_sz_r, am_sz_u, am_sz_l, Option.toList_some, Option.toList_none, List.cons_append, List.nil_append, true_and, and_true, or_false, false_or, or_self, or_true, true_or, not_false_eq_true, not_true_eq_false, Classical.not_not, ne_eq, ps_e1, ps_em, ps_z, Nat.not_le, false_implies, true_implies, forall_const, ps_01, ps_1n, ps_0n, ps_m10, ps_m1n, lg_cmp_gt, lg_cmp_ge, lg_cmp_le, lg_cmp_lt, lg_cmp_eq, pu_rne, pu_req, pu_uro, RFc_n, Nat.reduceAdd, Nat.reduceMul, Nat.reduceLT, Nat.reduceLeDiff, Nat.reduceEqDiff, Nat.reduceSub]
      refine s_isIn hC hx hcN (by rw [pu_rne (by decide), pu_rne (by decide), pu_rne (by decide)]; exact h49) (fun a b e q3 => ?_)
      rw [hp]
      simp only [pu_rol, pu_ror, Nat.reduceAdd, Nat.reduceMul, Nat.reduceLT, Nat.reduceLeDiff, Nat.reduceEqDiff, Nat.reduceSub]
      have q4 : ∀ k, k ≠ 17 → k ≠ 18 → k ≠ 19 → k ≠ 22 → k ≠ 24 → a k = I 47 k := fun k k1 k2 k3 k4 k5 => by
        rw [q3 k k1 k2 k3 k4, pu_rne (by decide), pu_rne (by decide), pu_req]
        exact q1 k k1 k2 k3 k4 k5
      have q5 : a 24 = nI (grp p c).length := by
        rw [q3 24 (by decide) (by decide) (by decide) (by decide), pu_rne (by decide), pu_rne (by decide), pu_req]
        exact q2
      by_cases hpc : p c = true
      · have ih' := ih (upd a 24 (nI ((grp p c).length + 1))) b e (fun k k1 k2 k3 k4 k5 => by rw [pu_ne k5]; exact q4 k k1 k2 k3 k4 k5) (by rw [pu_eq, grp, if_pos hpc, List.length_append, List.length_singleton])
        rw [grp, if_pos hpc, ← ro_gs] at ih'
        simp only [↓r218_21, ↓r218_24, ↓r218_27, ↓r218_28, ↓r218_31, ↓r218_32, ↓r218_35, ↓r218_36, ↓r218_37, ↓r218_38, ↓r218_38r, ↓r218_39, ↓r218_42, ↓r218_43, ↓r218_44, ↓r218_47, ↓r218_50, hpc, q5, z1, z2, if_true, pu_uI, pu_rol, pu_ror, Bool.false_eq_true, hn, hn2, ht, hF, am_wt, am_wf, Option.isSome_some, am_rf_s, am_rf_n, ps_lit, nI_add, nI_1, pk_mul, ps_cl, ps_neg, ps_c0, ps_c1, ps_n01, ps_n11, ps_10, ps_b01, ps_e0, pu_Ine, pu_Ieq, pu_ne, pu_eq, am_k_n, am_k_i, am_k_r, am_k_u, am_k_l, am_sz_0, am_sz_i, am_sz_r, am_sz_u, am_sz_l, Option.toList_some, Option.toList_none, List.cons_append, List.nil_append, true_and, and_true, or_false, false_or, or_self, or_true, true_or, not_false_eq_true, not_true_eq_false, Classical.not_not, ne_eq, ps_e1, ps_em, ps_z, Nat.not_le, false_implies, true_implies, forall_const, ps_01, ps_1n, ps_0n, ps_m10, ps_m1n, lg_cmp_gt, lg_cmp_ge, lg_cmp_le, lg_cmp_lt, lg_cmp_eq, pu_rne, pu_req, pu_uro, RFc_n, Nat.reduceAdd, Nat.reduceMul, Nat.reduceLT, Nat.reduceLeDiff, Nat.reduceEqDiff, Nat.reduceSub]
        exact ih'
      · have ih' := ih a b e q4 (by rw [grp, if_neg hpc, List.append_nil]; exact q5)
        rw [grp, if_neg hpc, List.append_nil] at ih'
        simp only [↓r218_21, ↓r218_24, ↓r218_27, ↓r218_28, ↓r218_31, ↓r218_32, ↓r218_35, ↓r218_36, ↓r218_37, ↓r218_38, ↓r218_38r, ↓r218_39, ↓r218_42, ↓r218_43, ↓r218_44, ↓r218_47, ↓r218_50, hpc, if_false, Bool.false_eq_true, hn, hn2, ht, hF, am_wt, am_wf, Option.isSome_some, am_rf_s, am_rf_n, ps_lit, nI_add, nI_1, pk_mul, ps_cl, ps_neg, ps_c0, ps_c1, ps_n01, ps_n11, ps_10, ps_b01, ps_e0, pu_Ine, pu_Ieq, pu_ne, pu_eq, am_k_n, am_k_i, am_k_r, am_k_u, am_k_l, am_sz_0, am_sz_i, am_sz_r, am_sz_u, am_sz_l, Option.toList_some, Option.toList_none, List.cons_append, List.nil_append, true_and, and_true, or_false, false_or, or_self, or_true, true_or, not_false_eq_true, not_true_eq_false, Classical.not_not, ne_eq, ps_e1, ps_em, ps_z, Nat.not_le, false_implies, true_implies, forall_const, ps_01, ps_1n, ps_0n, ps_m10, ps_m1n, lg_cmp_gt, lg_cmp_ge, lg_cmp_le, lg_cmp_lt, lg_cmp_eq, pu_rne, pu_req, pu_uro, RFc_n, Nat.reduceAdd, Nat.reduceMul, Nat.reduceLT, Nat.reduceLeDiff, Nat.reduceEqDiff, Nat.reduceSub]
        exact ih'
    · intro f47 f58 g47 q1 q2
      rw [r218_7]
      simp only [↓r218_8, ↓r218_9, ↓r218_12, ↓r218_15, ↓r218_16, ↓r218_17, ↓r218_18, ↓r218_21, ↓r218_24, ↓r218_27, ↓r218_28, ↓r218_31, ↓r218_32, ↓r218_35, ↓r218_36, ↓r218_37, ↓r218_38, ↓r218_38r, ↓r218_39, ↓r218_42, ↓r218_43, ↓r218_44, ↓r218_47, ↓r218_50, ↓r218_53, ↓s_many hW, h49, hKN, Int32.le_refl, Bool.false_eq_true, hn, hn2, ht, hF, am_wt, am_wf, Option.isSome_some, am_rf_s, am_rf_n, ps_lit, nI_add, nI_1, pk_mul, ps_cl, ps_neg, ps_c0, ps_c1, ps_n01, ps_n11, ps_10, ps_b01, ps_e0, pu_Ine, pu_Ieq, pu_ne, pu_eq, am_k_n, am_k_i, am_k_r, am_k_u, am_k_l, am_sz_0, am_sz_i, am_sz_r, am_sz_u, am_sz_l, Option.toList_some, Option.toList_none, List.cons_append, List.nil_append, true_and, and_true, or_false, false_or, or_self, or_true, true_or, not_false_eq_true, not_true_eq_false, Classical.not_not, ne_eq, ps_e1, ps_em, ps_z, Nat.not_le, false_implies, true_implies, forall_const, ps_01, ps_1n, ps_0n, ps_m10, ps_m1n, lg_cmp_gt, lg_cmp_ge, lg_cmp_le, lg_cmp_lt, lg_cmp_eq, pu_rne, pu_req, pu_uro, RFc_n, Nat.reduceAdd, Nat.reduceMul, Nat.reduceLT, Nat.reduceLeDiff, Nat.reduceEqDiff, Nat.reduceSub]
      exact hQ f47 f58 g47 q1 q2
  have h2 := hx2 (upd (I 47) 24 0) (I 58) (J 47) (fun k _ _ _ _ k5 => by rw [pu_ne k5]) rfl
  rw [grp, ro_g0, pu_roJ] at h2
  have n1 : am_ro (am_ro (am_ro I 47 (upd (I 47) 24 0)) 58 (I 58)) 59 (I 59) = am_uI I 47 24 0 := by
    have a1 := pu_roI (I := am_uI I 47 24 0) (a := 58)
    have a2 := pu_roI (I := am_uI I 47 24 0) (a := 59)
    rw [pu_Ine (by decide)] at a1 a2
    rw [pu_uI] at a1 a2 ⊢
    rw [a1, a2]
  rw [n1] at h2
  simp only [↓r218_0, ↓r218_1, ↓r218_2, ↓r218_5, ↓r218_6, Bool.false_eq_true, hn, hn2, ht, hF, am_wt, am_wf, Option.isSome_some, am_rf_s, am_rf_n, ps_lit, nI_add, nI_1, pk_mul, ps_cl, ps_neg, ps_c0, ps_c1, ps_n01, ps_n11, ps_10, ps_b01, ps_e0, pu_Ine, pu_Ieq, pu_ne, pu_eq, am_k_n, am_k_i, am_k_r, am_k_u, am_k_l, am_sz_0, am_sz_i, am_sz_r, am_sz_u, am_sz_l, Option.toList_some, Option.toList_none, List.cons_append, List.nil_append, true_and, and_true, or_false, false_or, or_self, or_true, true_or, not_false_eq_true, not_true_eq_false, Classical.not_not, ne_eq, ps_e1, ps_em, ps_z, Nat.not_le, false_implies, true_implies, forall_const, ps_01, ps_1n, ps_0n, ps_m10, ps_m1n, lg_cmp_gt, lg_cmp_ge, lg_cmp_le, lg_cmp_lt, lg_cmp_eq, pu_rne, pu_req, pu_uro, RFc_n, Nat.reduceAdd, Nat.reduceMul, Nat.reduceLT, Nat.reduceLeDiff, Nat.reduceEqDiff, Nat.reduceSub]
  exact h2
end GA
