/-! calls, one on each side: goneOn -/
section PG
variable {X : am_X} {d : Nat} {Q : Option Value → am_H → Prop} {n sl : Nat} {t : Nat → Nat × Nat} {I : Nat → Nat → Int32} {J : Nat → Nat → Int64} {F : Nat → Nat → Option Nat} {h : am_H}
variable {K : Nat → Int32} {N T : Nat} {lw : Nat → List CL}
def hz : Option Nat → Nat
  | none => 200
  | some t => t
def gT (K : Nat → Int32) (l : List Nat) (t : Nat) : Nat := hz (hv (tkL K l) (thL K l) (t + 1) 0 (201 - (t + 1)))
theorem gT_le {l : List Nat} {t : Nat} (h : t ≤ 200) : gT K l t ≤ 200 := by
  unfold gT
  cases e : hv (tkL K l) (thL K l) (t + 1) 0 (201 - (t + 1)) with
  | none => exact Nat.le_refl _
  | some w =>
    have := hv_le _ _ _ e
    show w ≤ 200
    omega
/-- the class's sum, as far as t -/
def gS (K : Nat → Int32) (l : List Nat) (j : Nat) : Nat := sm (fun t => ctL K l t * gT K l t) j
/-- the reference's sum, as far as k -/
def gR (K : Nat → Int32) (l : List Nat) (j : Nat) : Nat := sm (fun k => if K (15 * l.getD k 0 + 10) = 1 then gT K l (wN K (l.getD k 0)) else 0) j
theorem gS_gR {l : List Nat} (h : ∀ k, k < l.length → wN K (l.getD k 0) ≤ 200) : gS K l 201 = gR K l l.length := by
  have key : ∀ j, j ≤ l.length → sm (fun t => ctc K l t j * gT K l t) 201 = gR K l j := by
    intro j
    induction j with
    | zero =>
      intro _
      have : ∀ m, sm (fun t => ctc K l t 0 * gT K l t) m = 0 := by
        intro m
        induction m with
        | zero => rfl
        | succ m ih => rw [sm, ih]; show 0 + 0 * _ = 0; rw [Nat.zero_mul]
      exact this 201
    | succ j ih =>
      intro hj
      have ih := ih (by omega)
      have e : gR K l (j + 1) = gR K l j + (if K (15 * l.getD j 0 + 10) = 1 then gT K l (wN K (l.getD j 0)) else 0) := rfl
      rw [e, ← ih]
      have e2 : ∀ t, ctc K l t (j + 1) * gT K l t = ctc K l t j * gT K l t + (if isCt K (l.getD j 0) t = true then 1 else 0) * gT K l t := fun t => by
        rw [← Nat.add_mul]
        rfl
      rw [sm_c 201 (fun t _ => e2 t), sm_ad]
      refine congrArg (fun z => sm (fun t => ctc K l t j * gT K l t) 201 + z) ?_
      by_cases c : K (15 * l.getD j 0 + 10) = 1
      · rw [if_pos c]
        have hw := h j (by omega)
        have e3 := sm_one (fun _ => true) (u := wN K (l.getD j 0)) (v := gT K l (wN K (l.getD j 0))) 201
        rw [if_pos ⟨by omega, rfl⟩] at e3
        rw [← e3]
        refine sm_c _ (fun t _ => ?_)
        unfold isCt
        by_cases q : wN K (l.getD j 0) = t
        · rw [if_pos (decide_eq_true ⟨c, q⟩), if_pos rfl, if_pos q, Nat.one_mul, q]
        · rw [if_neg (fun z => q (of_decide_eq_true z).2), if_pos rfl, if_neg q, Nat.zero_mul]
      · rw [if_neg c]
        have : ∀ m, sm (fun t => (if isCt K (l.getD j 0) t = true then 1 else 0) * gT K l t) m = 0 := by
          intro m
          induction m with
          | zero => rfl
          | succ m ih =>
            rw [sm, ih]
            unfold isCt
            rw [if_neg (fun z => c (of_decide_eq_true z).1), Nat.zero_mul]
        exact this 201
  exact key l.length (Nat.le_refl _)
theorem gR_le {l : List Nat} (hl : l.length ≤ 120) (h : ∀ k, k < l.length → wN K (l.getD k 0) ≤ 200) : ∀ j, j ≤ l.length → gR K l j ≤ 200 * j := by
  intro j hj
  refine sm_le j (fun i hi => ?_)
  split
  · exact gT_le (h i (by omega))
  · omega
theorem sm_lem {f : Nat → Nat} : ∀ m j, sm f j ≤ sm f (j + m) := by
  intro m
  induction m with
  | zero => intro j; exact Nat.le_refl _
  | succ m ih =>
    intro j
    have := ih j
    rw [← Nat.add_assoc, sm]
    omega
theorem hz_i {o : Option Nat} (h : ∀ w, o = some w → w < 2000000) (Q : Int32 → Prop) : (hvI o = -1 → Q (nI 200)) ∧ (¬ hvI o = -1 → Q (hvI o)) ↔ Q (nI (hz o)) := by
  cases o with
  | none => exact ⟨fun q => q.1 rfl, fun q => ⟨fun _ => q, fun z => absurd rfl z⟩⟩
  | some w =>
    have : ¬ nI w = -1 := nI_m1 (h w rfl)
    exact ⟨fun q => q.2 this, fun q => ⟨fun z => absurd z this, fun _ => q⟩⟩
theorem pr_goneOn {x : Int32} {i : Nat} (hX : XS X) (hi : i < 600) (hV : Inv i (n, sl, t, I, J, F)) : PR X i 94 249 [some (.ref 0), some (.int x), none, none, none] [some (.ref 47), some (.int x), none, none, none, none] (n, sl, t, I, J, F) := by
  obtain ⟨N, T, lw, hC⟩ := CX_of hV; obtain ⟨hW, hK, _, ⟨hs, hc, hr, hu, hm⟩, hl⟩ := id hC; have hN := hK.1; obtain ⟨hn, hn2, ht, hF⟩ := id hW
  by_cases hx : isG T x
  · refine PR_ask (v := nI (gR (I 49) (grp (inG (I 49) lw x) N) (grp (inG (I 49) lw x) N).length)) hi hV ?_ ?_
    · intro Q hQ
      simp only [↓r94_0, ↓r94_1, ↓r94_2, ↓r94_5, ↓r94_6, Bool.false_eq_true, hn, hn2, ht, hF, am_wt, am_wf, Option.isSome_some, am_rf_s, am_rf_n, ps_lit, nI_add, nI_1, pk_mul, ps_cl, ps_neg, ps_c0, ps_c1, ps_n01, ps_n11, ps_10, ps_b01, ps_e0, pu_Ine, pu_Ieq, pu_ne, pu_eq, am_k_n, am_k_i, am_k_r, am_k_u, am_k_l, am_sz_0, am_sz_i, am_sz_r, am_sz_u, am_sz_l, Option.toList_some, Option.toList_none, List.cons_append, List.nil_append, true_and, and_true, or_false, false_or, or_self, or_true, true_or, not_false_eq_true, not_true_eq_false, Classical.not_not, ne_eq, ps_e1, ps_em, ps_z, Nat.not_le, false_implies, true_implies, forall_const, ps_01, ps_1n, ps_0n, ps_m10, ps_m1n, lg_cmp_gt, lg_cmp_ge, lg_cmp_le, lg_cmp_lt, lg_cmp_eq, pu_rne, pu_req, pu_uro, RFc_n, Nat.reduceAdd, Nat.reduceMul, Nat.reduceLT, Nat.reduceLeDiff, Nat.reduceEqDiff, Nat.reduceSub]
      refine c_gather (Or.inl rfl) hC hx (fun f13 f14 => ?_)
      have s1 := SC_gather (I := I) (f13 := f13) (f14 := f14) (l := grp (inG (I 49) lw x) N) (Or.inl rfl)
      have hC1 := CX_sc hC s1 (fun _ _ _ => rfl)
      have hG1 := GH_c (I := I) (l := []) (f13 := f13) (f14 := f14) (g := 15) (p := inG (I 49) lw x) hN
      generalize gI (am_ro (am_ro I 13 f13) 14 f14) 15 (grp (inG (I 49) lw x) N) = I1 at s1 hC1 hG1
      have hw2 : ∀ k, k < (grp (inG (I 49) lw x) N).length → wN (I 49) ((grp (inG (I 49) lw x) N).getD k 0) ≤ 200 := fun k hk => (kid_w (CK_of hC1) (hG1.2.2 k hk).2).2
      generalize grp (inG (I 49) lw x) N = l at hQ hG1 hw2
      have e1 := fun Q => c_ctake (X := X) (d := 56) (Q := Q) (sl := sl) (J := J) (CK_of hC1) hG1
      simp only [↓r94_9, ↓r94_12, ↓r94_13, ↓r94_14, ↓r94_15, ↓r94_18, ↓r94_19, ↓r94_22, ↓r94_23, ↓r94_26, ↓r94_29, ↓r94_30, ↓r94_31, ↓r94_32, ↓e1, Bool.false_eq_true, hn, hn2, ht, hF, am_wt, am_wf, Option.isSome_some, am_rf_s, am_rf_n, ps_lit, nI_add, nI_1, pk_mul, ps_cl, ps_neg, ps_c0, ps_c1, ps_n01, ps_n11, ps_10, ps_b01, ps_e0, pu_Ine, pu_Ieq, pu_ne, pu_eq, am_k_n, am_k_i, am_k_r, am_k_u, am_k_l, am_sz_0, am_sz_i, am_sz_r, am_sz_u, am_sz_l, Option.toList_some, Option.toList_none, List.cons_append, List.nil_append, true_and, and_true, or_false, false_or, or_self, or_true, true_or, not_false_eq_true, not_true_eq_false, Classical.not_not, ne_eq, ps_e1, ps_em, ps_z, Nat.not_le, false_implies, true_implies, forall_const, ps_01, ps_1n, ps_0n, ps_m10, ps_m1n, lg_cmp_gt, lg_cmp_ge, lg_cmp_le, lg_cmp_lt, lg_cmp_eq, pu_rne, pu_req, pu_uro, RFc_n, Nat.reduceAdd, Nat.reduceMul, Nat.reduceLT, Nat.reduceLeDiff, Nat.reduceEqDiff, Nat.reduceSub]
      rw [← gS_gR hw2] at hQ
      have hbd : ∀ j, j ≤ 201 → gS (I 49) l j ≤ 24000 := fun j hj => by
        have h1 := sm_lem (f := fun t => ctL (I 49) l t * gT (I 49) l t) (201 - j) j
        rw [show j + (201 - j) = 201 by omega] at h1
        have h2 := gR_le hG1.2.1 hw2 l.length (Nat.le_refl _)
        have h3 := gS_gR hw2
        have h4 := hG1.2.1
        unfold gS at h3 ⊢
        omega
      have hS0 := SC_cv (K := I 49) (l := l) s1
      have hC0 := CV_c (I := I1) (K := I 49) (l := l)
      generalize cvI I1 (I 49) l = I2 at hS0 hC0
      have hl : ∀ m j, j + m = 201 → ∀ I', RX I2 I' → ∀ l4 : Option Value, am_W X 59 94 33 [some (.ref 0), some (.int x), some (.int (nI (gS (I 49) l j))), some (.int (nI j)), l4] [] (n, sl, t, I', J, F) Q := by
        intro m
        induction m with
        | zero =>
          intro j hj I' hX' l4
          have z1 : j < 2000000 ∧ 200 < j := by omega
          obtain rfl : j = 201 := by omega
          rw [r94_33]
          simp only [↓r94_34, ↓r94_37, ↓r94_95, ↓r94_96, q_le, q_lt, q_eq, q_e0, q_e1, q_0e, q_1e, ps_n0, q_0le, q_le0, q_0lt, q_m1e, q_em1, z1, Bool.false_eq_true, hn, hn2, ht, hF, am_wt, am_wf, Option.isSome_some, am_rf_s, am_rf_n, ps_lit, nI_add, nI_1, pk_mul, ps_cl, ps_neg, ps_c0, ps_c1, ps_n01, ps_n11, ps_10, ps_b01, ps_e0, pu_Ine, pu_Ieq, pu_ne, pu_eq, am_k_n, am_k_i, am_k_r, am_k_u, am_k_l, am_sz_0, am_sz_i, am_sz_r, am_sz_u, am_sz_l, Option.toList_some, Option.toList_none, List.cons_append, List.nil_append, true_and, and_true, or_false, false_or, or_self, or_true, true_or, not_false_eq_true, not_true_eq_false, Classical.not_not, ne_eq, ps_e1, ps_em, ps_z, Nat.not_le, false_implies, true_implies, forall_const, ps_01, ps_1n, ps_0n, ps_m10, ps_m1n, lg_cmp_gt, lg_cmp_ge, lg_cmp_le, lg_cmp_lt, lg_cmp_eq, pu_rne, pu_req, pu_uro, RFc_n, Nat.reduceAdd, Nat.reduceMul, Nat.reduceLT, Nat.reduceLeDiff, Nat.reduceEqDiff, Nat.reduceSub]
          exact hQ _ ⟨rfl, rfl, rfl, RX_SC hS0 hX', fun _ _ _ => rfl⟩
        | succ m ih =>
          intro j hj I' hX' l4
          have hCv := CV_x hC0 hX'
          obtain ⟨x1, x2, x3⟩ := hCv j (by omega)
          have hcl : ctL (I 49) l j ≤ 120 := ct_le hG1.2.1 j
          have x2' : I' 26 j = nI (ctL (I 49) l j) := x2
          have z1 : j < 2000000 ∧ j < 201 ∧ ctL (I 49) l j < 2000000 := by omega
          have z2 : ¬ 200 < j := by omega
          have e2 : gS (I 49) l (j + 1) = gS (I 49) l j + ctL (I 49) l j * gT (I 49) l j := rfl
          have ih' := ih (j + 1) (by omega)
          rw [e2] at ih'
          rw [r94_33]
          by_cases c : ctL (I 49) l j ≤ 0
          · have c0 : ctL (I 49) l j = 0 := by omega
            rw [c0, Nat.zero_mul, Nat.add_zero] at ih'
            simp only [↓r94_34, ↓r94_37, ↓r94_40, ↓r94_41, ↓r94_44, ↓r94_47, ↓r94_48, ↓r94_48k, ↓r94_49, ↓r94_89, ↓r94_92, q_le, q_lt, q_eq, q_e0, q_e1, q_0e, q_1e, ps_n0, q_0le, q_le0, q_0lt, q_m1e, q_em1, z1, z2, x2', c, Bool.false_eq_true, hn, hn2, ht, hF, am_wt, am_wf, Option.isSome_some, am_rf_s, am_rf_n, ps_lit, nI_add, nI_1, pk_mul, ps_cl, ps_neg, ps_c0, ps_c1, ps_n01, ps_n11, ps_10, ps_b01, ps_e0, pu_Ine, pu_Ieq, pu_ne, pu_eq, am_k_n, am_k_i, am_k_r, am_k_u, am_k_l, am_sz_0, am_sz_i, am_sz_r, am_sz_u, am_sz_l, Option.toList_some, Option.toList_none, List.cons_append, List.nil_append, true_and, and_true, or_false, false_or, or_self, or_true, true_or, not_false_eq_true, not_true_eq_false, Classical.not_not, ne_eq, ps_e1, ps_em, ps_z, Nat.not_le, false_implies, true_implies, forall_const, ps_01, ps_1n, ps_0n, ps_m10, ps_m1n, lg_cmp_gt, lg_cmp_ge, lg_cmp_le, lg_cmp_lt, lg_cmp_eq, pu_rne, pu_req, pu_uro, RFc_n, Nat.reduceAdd, Nat.reduceMul, Nat.reduceLT, Nat.reduceLeDiff, Nat.reduceEqDiff, Nat.reduceSub]
            exact ih' I' hX' _
          · simp only [↓r94_34, ↓r94_37, ↓r94_40, ↓r94_41, ↓r94_44, ↓r94_47, ↓r94_48, ↓r94_48k, ↓r94_49, ↓r94_52, ↓r94_53, ↓r94_56, ↓r94_57, q_le, q_lt, q_eq, q_e0, q_e1, q_0e, q_1e, ps_n0, q_0le, q_le0, q_0lt, q_m1e, q_em1, z1, z2, x2', c, Bool.false_eq_true, hn, hn2, ht, hF, am_wt, am_wf, Option.isSome_some, am_rf_s, am_rf_n, ps_lit, nI_add, nI_1, pk_mul, ps_cl, ps_neg, ps_c0, ps_c1, ps_n01, ps_n11, ps_10, ps_b01, ps_e0, pu_Ine, pu_Ieq, pu_ne, pu_eq, am_k_n, am_k_i, am_k_r, am_k_u, am_k_l, am_sz_0, am_sz_i, am_sz_r, am_sz_u, am_sz_l, Option.toList_some, Option.toList_none, List.cons_append, List.nil_append, true_and, and_true, or_false, false_or, or_self, or_true, true_or, not_false_eq_true, not_true_eq_false, Classical.not_not, ne_eq, ps_e1, ps_em, ps_z, Nat.not_le, false_implies, true_implies, forall_const, ps_01, ps_1n, ps_0n, ps_m10, ps_m1n, lg_cmp_gt, lg_cmp_ge, lg_cmp_le, lg_cmp_lt, lg_cmp_eq, pu_rne, pu_req, pu_uro, RFc_n, Nat.reduceAdd, Nat.reduceMul, Nat.reduceLT, Nat.reduceLeDiff, Nat.reduceEqDiff, Nat.reduceSub]
            refine c_halfB hW hCv (TT_l hG1.2.1) (nI_1 j) (by omega) (fun I'' hX2 => ?_)
            have x2'' : I'' 26 j = nI (ctL (I 49) l j) := ((CV_x hCv hX2) j (by omega)).2.1
            have ih2 := ih' I'' (RX_t hX' hX2)
            unfold gT at ih2
            have hb : ∀ w, hv (tkL (I 49) l) (thL (I 49) l) (j + 1) 0 (201 - (j + 1)) = some w → w < 2000000 := fun w e => by
              have := hv_le _ _ _ e
              omega
            cases ho : hv (tkL (I 49) l) (thL (I 49) l) (j + 1) 0 (201 - (j + 1)) with
            | none =>
              rw [ho] at ih2
              have ho' : hv (fun t => tkc (I 49) l t l.length) (fun t => thc (I 49) l t l.length) (j + 1) 0 (201 - (j + 1)) = none := ho
              simp only [hz] at ih2
              simp only [↓r94_60, ↓r94_62, ↓r94_63, ↓r94_64, ↓r94_67, ↓r94_70, ↓r94_71, ↓r94_71k, ↓r94_72, ↓r94_74, ↓r94_75, ↓r94_78, ↓r94_81, ↓r94_84, ↓r94_86, ↓r94_87, ↓r94_88, ↓r94_89, ↓r94_92, q_le, q_lt, q_eq, q_e0, q_e1, q_0e, q_1e, ps_n0, q_0le, q_le0, q_0lt, q_m1e, q_em1, z1, x2'', ho', hvI, Bool.false_eq_true, hn, hn2, ht, hF, am_wt, am_wf, Option.isSome_some, am_rf_s, am_rf_n, ps_lit, nI_add, nI_1, pk_mul, ps_cl, ps_neg, ps_c0, ps_c1, ps_n01, ps_n11, ps_10, ps_b01, ps_e0, pu_Ine, pu_Ieq, pu_ne, pu_eq, am_k_n, am_k_i, am_k_r, am_k_u, am_k_l, am_sz_0, am_sz_i, am_sz_r, am_sz_u, am_sz_l, Option.toList_some, Option.toList_none, List.cons_append, List.nil_append, true_and, and_true, or_false, false_or, or_self, or_true, true_or, not_false_eq_true, not_true_eq_false, Classical.not_not, ne_eq, ps_e1, ps_em, ps_z, Nat.not_le, false_implies, true_implies, forall_const, ps_01, ps_1n, ps_0n, ps_m10, ps_m1n, lg_cmp_gt, lg_cmp_ge, lg_cmp_le, lg_cmp_lt, lg_cmp_eq, pu_rne, pu_req, pu_uro, RFc_n, Nat.reduceAdd, Nat.reduceMul, Nat.reduceLT, Nat.reduceLeDiff, Nat.reduceEqDiff, Nat.reduceSub]
              exact ih2 _
            | some w =>
              rw [ho] at ih2
              have hw3 := hb w ho
              have ho' : hv (fun t => tkc (I 49) l t l.length) (fun t => thc (I 49) l t l.length) (j + 1) 0 (201 - (j + 1)) = some w := ho
              simp only [hz] at ih2
              simp only [↓r94_60, ↓r94_62, ↓r94_63, ↓r94_64, ↓r94_67, ↓r94_70, ↓r94_71, ↓r94_71k, ↓r94_72, ↓r94_74, ↓r94_75, ↓r94_78, ↓r94_81, ↓r94_84, ↓r94_86, ↓r94_87, ↓r94_88, ↓r94_89, ↓r94_92, q_le, q_lt, q_eq, q_e0, q_e1, q_0e, q_1e, ps_n0, q_0le, q_le0, q_0lt, q_m1e, q_em1, z1, hw3, x2'', ho', hvI, Bool.false_eq_true, hn, hn2, ht, hF, am_wt, am_wf, Option.isSome_some, am_rf_s, am_rf_n, ps_lit, nI_add, nI_1, pk_mul, ps_cl, ps_neg, ps_c0, ps_c1, ps_n01, ps_n11, ps_10, ps_b01, ps_e0, pu_Ine, pu_Ieq, pu_ne, pu_eq, am_k_n, am_k_i, am_k_r, am_k_u, am_k_l, am_sz_0, am_sz_i, am_sz_r, am_sz_u, am_sz_l, Option.toList_some, Option.toList_none, List.cons_append, List.nil_append, true_and, and_true, or_false, false_or, or_self, or_true, true_or, not_false_eq_true, not_true_eq_false, Classical.not_not, ne_eq, ps_e1, ps_em, ps_z, Nat.not_le, false_implies, true_implies, forall_const, ps_01, ps_1n, ps_0n, ps_m10, ps_m1n, lg_cmp_gt, lg_cmp_ge, lg_cmp_le, lg_cmp_lt, lg_cmp_eq, pu_rne, pu_req, pu_uro, RFc_n, Nat.reduceAdd, Nat.reduceMul, Nat.reduceLT, Nat.reduceLeDiff, Nat.reduceEqDiff, Nat.reduceSub]
              exact ih2 _
      exact hl 201 0 (by omega) I2 RX_r _
    · rintro ⟨n', sl', t', I', J', F'⟩ ⟨e1, e2, e3, e4, e5⟩; dsimp only at e1 e2 e3 e4 e5; subst e1; subst e2; subst e3; have hC' := CX_sc hC e4 e5; obtain ⟨hn, hn2, ht, hF⟩ := id hC'.1; intro Q hQ
      simp only [↓r249_0, ↓r249_1, ↓r249_2, ↓r249_5, ↓r249_8, ↓r249_9, ↓r249_10, ↓r249_11, ↓r249_12, ↓m_isGroup1 hC' hx, Bool.false_eq_true, hn, hn2, ht, hF, am_wt, am_wf, Option.isSome_some, am_rf_s, am_rf_n, ps_lit, nI_add, nI_1, pk_mul, ps_cl, ps_neg, ps_c0, ps_c1, ps_n01, ps_n11, ps_10, ps_b01, ps_e0, pu_Ine, pu_Ieq, pu_ne, pu_eq, am_k_n, am_k_i, am_k_r, am_k_u, am_k_l, am_sz_0, am_sz_i, am_sz_r, am_sz_u, am_sz_l, Option.toList_some, Option.toList_none, List.cons_append, List.nil_append, true_and, and_true, or_false, false_or, or_self, or_true, true_or, not_false_eq_true, not_true_eq_false, Classical.not_not, ne_eq, ps_e1, ps_em, ps_z, Nat.not_le, false_implies, true_implies, forall_const, ps_01, ps_1n, ps_0n, ps_m10, ps_m1n, lg_cmp_gt, lg_cmp_ge, lg_cmp_le, lg_cmp_lt, lg_cmp_eq, pu_rne, pu_req, pu_uro, RFc_n, Nat.reduceAdd, Nat.reduceMul, Nat.reduceLT, Nat.reduceLeDiff, Nat.reduceEqDiff, Nat.reduceSub]
      refine s_gathers hC' hx (fun f47 f58 g47 q1 q2 => ?_)
      have s2 := SC_gathers (f58 := f58) (r := ro_g (I' 59) (grp (inG (I 49) lw x) N)) q1
      have hC1 := CX_sc hC' s2 (fun _ _ _ => rfl)
      have hG1 := GH_m (I := I') (f58 := f58) (r := I' 59) hN q2
      generalize am_ro (am_ro (am_ro I' 47 f47) 58 f58) 59 (ro_g (I' 59) (grp (inG (I 49) lw x) N)) = I1 at s2 hC1 hG1
      have hw2 : ∀ k, k < (grp (inG (I 49) lw x) N).length → wN (I 49) ((grp (inG (I 49) lw x) N).getD k 0) ≤ 200 := fun k hk => (kid_w (CK_of hC1) (hG1.2.2 k hk).2).2
      generalize grp (inG (I 49) lw x) N = l at hQ hG1 hw2
      have hCK := CK_of hC1
      generalize I 49 = K at hQ hG1 hw2 hCK hC1
      obtain ⟨h1, h2, h3⟩ := id hG1
      have hT := TT_l (K := K) hG1.2.1
      simp only [↓r249_15, ↓r249_16, ↓r249_17, ↓r249_18, Bool.false_eq_true, hn, hn2, ht, hF, am_wt, am_wf, Option.isSome_some, am_rf_s, am_rf_n, ps_lit, nI_add, nI_1, pk_mul, ps_cl, ps_neg, ps_c0, ps_c1, ps_n01, ps_n11, ps_10, ps_b01, ps_e0, pu_Ine, pu_Ieq, pu_ne, pu_eq, am_k_n, am_k_i, am_k_r, am_k_u, am_k_l, am_sz_0, am_sz_i, am_sz_r, am_sz_u, am_sz_l, Option.toList_some, Option.toList_none, List.cons_append, List.nil_append, true_and, and_true, or_false, false_or, or_self, or_true, true_or, not_false_eq_true, not_true_eq_false, Classical.not_not, ne_eq, ps_e1, ps_em, ps_z, Nat.not_le, false_implies, true_implies, forall_const, ps_01, ps_1n, ps_0n, ps_m10, ps_m1n, lg_cmp_gt, lg_cmp_ge, lg_cmp_le, lg_cmp_lt, lg_cmp_eq, pu_rne, pu_req, pu_uro, RFc_n, Nat.reduceAdd, Nat.reduceMul, Nat.reduceLT, Nat.reduceLeDiff, Nat.reduceEqDiff, Nat.reduceSub]
      have hl : ∀ m j, j + m = l.length → ∀ (J' : Nat → Nat → Int64) (l4 l5 : Option Value), am_W X 59 249 19 [some (.ref 47), some (.int x), some (.int (nI (gR K l j))), some (.int (nI j)), l4, l5] [] (n', sl', t', I1, J', F') Q := by
        intro m
        induction m with
        | zero =>
          intro j hj J' l4 l5
          obtain rfl : j = l.length := by omega
          rw [r249_19]
          simp only [↓r249_20, ↓r249_21, ↓r249_24, ↓r249_107, ↓r249_108, h1, Int32.le_refl, Bool.false_eq_true, hn, hn2, ht, hF, am_wt, am_wf, Option.isSome_some, am_rf_s, am_rf_n, ps_lit, nI_add, nI_1, pk_mul, ps_cl, ps_neg, ps_c0, ps_c1, ps_n01, ps_n11, ps_10, ps_b01, ps_e0, pu_Ine, pu_Ieq, pu_ne, pu_eq, am_k_n, am_k_i, am_k_r, am_k_u, am_k_l, am_sz_0, am_sz_i, am_sz_r, am_sz_u, am_sz_l, Option.toList_some, Option.toList_none, List.cons_append, List.nil_append, true_and, and_true, or_false, false_or, or_self, or_true, true_or, not_false_eq_true, not_true_eq_false, Classical.not_not, ne_eq, ps_e1, ps_em, ps_z, Nat.not_le, false_implies, true_implies, forall_const, ps_01, ps_1n, ps_0n, ps_m10, ps_m1n, lg_cmp_gt, lg_cmp_ge, lg_cmp_le, lg_cmp_lt, lg_cmp_eq, pu_rne, pu_req, pu_uro, RFc_n, Nat.reduceAdd, Nat.reduceMul, Nat.reduceLT, Nat.reduceLeDiff, Nat.reduceEqDiff, Nat.reduceSub]
          exact hQ _ ⟨rfl, rfl, rfl, s2, fun _ _ _ => rfl⟩
        | succ m ih =>
          intro j hj J' l4 l5
          have hjl : j < l.length := by omega
          obtain ⟨g1, g2⟩ := h3 j hjl
          obtain ⟨w1, w2⟩ := kid_w hCK g2
          have z1 : j < 2000000 ∧ l.length < 2000000 ∧ j < 120 := by omega
          have z2 : ¬ l.length ≤ j := by omega
          have ih' := ih (j + 1) (by omega)
          have e2 : gR K l (j + 1) = gR K l j + (if K (15 * l.getD j 0 + 10) = 1 then gT K l (wN K (l.getD j 0)) else 0) := rfl
          rw [e2] at ih'
          rw [r249_19]
          by_cases c : K (15 * l.getD j 0 + 10) = 1
          · rw [if_pos c] at ih'
            simp only [↓r249_20, ↓r249_21, ↓r249_24, ↓r249_27, ↓r249_28, ↓r249_31, ↓r249_32, ↓r249_32k, ↓r249_33, ↓r249_35, ↓r249_36, ↓r249_38, ↓r249_40, ↓r249_43, ↓r249_44, ↓r249_47, ↓r249_50, ↓r249_51, ↓r249_52, ↓r249_53, ↓r249_55, ↓r249_58, ↓k_at (K := K) (N := N), ↓k_isTried (K := K) (N := N), ↓k_side (K := K) (N := N), ↓k_thing (K := K) (N := N), ↓k_isFound (K := K) (N := N), ↓m_factOf (K := K) (N := N), ↓m_isTried (K := K) (N := N), ↓m_took (K := K) (N := N), ↓m_waited (K := K) (N := N), ↓m_isLong (K := K) (N := N), ↓m_isShort (K := K) (N := N), ↓m_thingOf (K := K) (N := N), ↓m_isFound (K := K) (N := N), ↓m_many (K := K) (N := N), ↓c_within, ↓s_lies, hCK, b01, b11, q_le, q_lt, q_eq, q_e0, q_e1, q_0e, q_1e, ps_n0, q_0le, q_le0, q_0lt, q_m1e, q_em1, h1, g1, g2, z1, z2, w1, c, Bool.false_eq_true, hn, hn2, ht, hF, am_wt, am_wf, Option.isSome_some, am_rf_s, am_rf_n, ps_lit, nI_add, nI_1, pk_mul, ps_cl, ps_neg, ps_c0, ps_c1, ps_n01, ps_n11, ps_10, ps_b01, ps_e0, pu_Ine, pu_Ieq, pu_ne, pu_eq, am_k_n, am_k_i, am_k_r, am_k_u, am_k_l, am_sz_0, am_sz_i, am_sz_r, am_sz_u, am_sz_l, Option.toList_some, Option.toList_none, List.cons_append, List.nil_append, true_and, and_true, or_false, false_or, or_self, or_true, true_or, not_false_eq_true, not_true_eq_false, Classical.not_not, ne_eq, ps_e1, ps_em, ps_z, Nat.not_le, false_implies, true_implies, forall_const, ps_01, ps_1n, ps_0n, ps_m10, ps_m1n, lg_cmp_gt, lg_cmp_ge, lg_cmp_le, lg_cmp_lt, lg_cmp_eq, pu_rne, pu_req, pu_uro, RFc_n, Nat.reduceAdd, Nat.reduceMul, Nat.reduceLT, Nat.reduceLeDiff, Nat.reduceEqDiff, Nat.reduceSub]
            refine m_stay hCK hG1 m1_1 (by omega) w2 (fun J1 hR => ?_)
            have e3 := fun Q => m_isGone (X := X) (d := 58) (Q := Q) (sl := sl') (I := I1) hC1.1 hR
            have e4 : ¬ sU (fun t => tkc K l t l.length) (fun t => thc K l t l.length) 0 (wN K (l.getD j 0) + 1 - 0) = 0 := sU_nz _ (fun i hi => tk_lt hjl c (by omega))
            simp only [↓r249_61, ↓r249_62, ↓r249_65, ↓r249_68, ↓r249_69, ↓r249_72, ↓r249_73, ↓r249_74, ↓r249_76, ↓r249_79, ↓e3, e4, ↓k_at (K := K) (N := N), ↓k_isTried (K := K) (N := N), ↓k_side (K := K) (N := N), ↓k_thing (K := K) (N := N), ↓k_isFound (K := K) (N := N), ↓m_factOf (K := K) (N := N), ↓m_isTried (K := K) (N := N), ↓m_took (K := K) (N := N), ↓m_waited (K := K) (N := N), ↓m_isLong (K := K) (N := N), ↓m_isShort (K := K) (N := N), ↓m_thingOf (K := K) (N := N), ↓m_isFound (K := K) (N := N), ↓m_many (K := K) (N := N), ↓c_within, ↓s_lies, hCK, b01, b11, q_le, q_lt, q_eq, q_e0, q_e1, q_0e, q_1e, ps_n0, q_0le, q_le0, q_0lt, q_m1e, q_em1, g2, w1, if_false, Bool.false_eq_true, hn, hn2, ht, hF, am_wt, am_wf, Option.isSome_some, am_rf_s, am_rf_n, ps_lit, nI_add, nI_1, pk_mul, ps_cl, ps_neg, ps_c0, ps_c1, ps_n01, ps_n11, ps_10, ps_b01, ps_e0, pu_Ine, pu_Ieq, pu_ne, pu_eq, am_k_n, am_k_i, am_k_r, am_k_u, am_k_l, am_sz_0, am_sz_i, am_sz_r, am_sz_u, am_sz_l, Option.toList_some, Option.toList_none, List.cons_append, List.nil_append, true_and, and_true, or_false, false_or, or_self, or_true, true_or, not_false_eq_true, not_true_eq_false, Classical.not_not, ne_eq, ps_e1, ps_em, ps_z, Nat.not_le, false_implies, true_implies, forall_const, ps_01, ps_1n, ps_0n, ps_m10, ps_m1n, lg_cmp_gt, lg_cmp_ge, lg_cmp_le, lg_cmp_lt, lg_cmp_eq, pu_rne, pu_req, pu_uro, RFc_n, Nat.reduceAdd, Nat.reduceMul, Nat.reduceLT, Nat.reduceLeDiff, Nat.reduceEqDiff, Nat.reduceSub]
            refine m_halfB hCK hG1 (nI_1 _) (by omega) (fun J2 => ?_)
            unfold gT at ih'
            have hb : ∀ w, hv (tkL K l) (thL K l) (wN K (l.getD j 0) + 1) 0 (201 - (wN K (l.getD j 0) + 1)) = some w → w < 2000000 := fun w e => by
              have := hv_le _ _ _ e
              omega
            cases ho : hv (tkL K l) (thL K l) (wN K (l.getD j 0) + 1) 0 (201 - (wN K (l.getD j 0) + 1)) with
            | none =>
              rw [ho] at ih'
              have ho' : hv (fun t => tkc K l t l.length) (fun t => thc K l t l.length) (wN K (l.getD j 0) + 1) 0 (201 - (wN K (l.getD j 0) + 1)) = none := ho
              simp only [hz] at ih'
              simp only [↓r249_82, ↓r249_84, ↓r249_85, ↓r249_87, ↓r249_88, ↓r249_91, ↓r249_94, ↓r249_97, ↓r249_99, ↓r249_100, ↓r249_101, ↓r249_104, q_le, q_lt, q_eq, q_e0, q_e1, q_0e, q_1e, ps_n0, q_0le, q_le0, q_0lt, q_m1e, q_em1, ho', hvI, Bool.false_eq_true, hn, hn2, ht, hF, am_wt, am_wf, Option.isSome_some, am_rf_s, am_rf_n, ps_lit, nI_add, nI_1, pk_mul, ps_cl, ps_neg, ps_c0, ps_c1, ps_n01, ps_n11, ps_10, ps_b01, ps_e0, pu_Ine, pu_Ieq, pu_ne, pu_eq, am_k_n, am_k_i, am_k_r, am_k_u, am_k_l, am_sz_0, am_sz_i, am_sz_r, am_sz_u, am_sz_l, Option.toList_some, Option.toList_none, List.cons_append, List.nil_append, true_and, and_true, or_false, false_or, or_self, or_true, true_or, not_false_eq_true, not_true_eq_false, Classical.not_not, ne_eq, ps_e1, ps_em, ps_z, Nat.not_le, false_implies, true_implies, forall_const, ps_01, ps_1n, ps_0n, ps_m10, ps_m1n, lg_cmp_gt, lg_cmp_ge, lg_cmp_le, lg_cmp_lt, lg_cmp_eq, pu_rne, pu_req, pu_uro, RFc_n, Nat.reduceAdd, Nat.reduceMul, Nat.reduceLT, Nat.reduceLeDiff, Nat.reduceEqDiff, Nat.reduceSub]
              exact ih' _ _ _
            | some w =>
              rw [ho] at ih'
              have hw3 := hb w ho
              have ho' : hv (fun t => tkc K l t l.length) (fun t => thc K l t l.length) (wN K (l.getD j 0) + 1) 0 (201 - (wN K (l.getD j 0) + 1)) = some w := ho
              simp only [hz] at ih'
              simp only [↓r249_82, ↓r249_84, ↓r249_85, ↓r249_87, ↓r249_88, ↓r249_91, ↓r249_94, ↓r249_97, ↓r249_99, ↓r249_100, ↓r249_101, ↓r249_104, q_le, q_lt, q_eq, q_e0, q_e1, q_0e, q_1e, ps_n0, q_0le, q_le0, q_0lt, q_m1e, q_em1, hw3, ho', hvI, Bool.false_eq_true, hn, hn2, ht, hF, am_wt, am_wf, Option.isSome_some, am_rf_s, am_rf_n, ps_lit, nI_add, nI_1, pk_mul, ps_cl, ps_neg, ps_c0, ps_c1, ps_n01, ps_n11, ps_10, ps_b01, ps_e0, pu_Ine, pu_Ieq, pu_ne, pu_eq, am_k_n, am_k_i, am_k_r, am_k_u, am_k_l, am_sz_0, am_sz_i, am_sz_r, am_sz_u, am_sz_l, Option.toList_some, Option.toList_none, List.cons_append, List.nil_append, true_and, and_true, or_false, false_or, or_self, or_true, true_or, not_false_eq_true, not_true_eq_false, Classical.not_not, ne_eq, ps_e1, ps_em, ps_z, Nat.not_le, false_implies, true_implies, forall_const, ps_01, ps_1n, ps_0n, ps_m10, ps_m1n, lg_cmp_gt, lg_cmp_ge, lg_cmp_le, lg_cmp_lt, lg_cmp_eq, pu_rne, pu_req, pu_uro, RFc_n, Nat.reduceAdd, Nat.reduceMul, Nat.reduceLT, Nat.reduceLeDiff, Nat.reduceEqDiff, Nat.reduceSub]
              exact ih' _ _ _
          · rw [if_neg c, Nat.add_zero] at ih'
            simp only [↓r249_20, ↓r249_21, ↓r249_24, ↓r249_27, ↓r249_28, ↓r249_31, ↓r249_32, ↓r249_32k, ↓r249_33, ↓r249_35, ↓r249_36, ↓r249_38, ↓r249_40, ↓r249_43, ↓r249_44, ↓r249_47, ↓r249_101, ↓r249_104, ↓k_at (K := K) (N := N), ↓k_isTried (K := K) (N := N), ↓k_side (K := K) (N := N), ↓k_thing (K := K) (N := N), ↓k_isFound (K := K) (N := N), ↓m_factOf (K := K) (N := N), ↓m_isTried (K := K) (N := N), ↓m_took (K := K) (N := N), ↓m_waited (K := K) (N := N), ↓m_isLong (K := K) (N := N), ↓m_isShort (K := K) (N := N), ↓m_thingOf (K := K) (N := N), ↓m_isFound (K := K) (N := N), ↓m_many (K := K) (N := N), ↓c_within, ↓s_lies, hCK, b01, b11, q_le, q_lt, q_eq, q_e0, q_e1, q_0e, q_1e, ps_n0, q_0le, q_le0, q_0lt, q_m1e, q_em1, h1, g1, g2, z1, z2, c, Bool.false_eq_true, hn, hn2, ht, hF, am_wt, am_wf, Option.isSome_some, am_rf_s, am_rf_n, ps_lit, nI_add, nI_1, pk_mul, ps_cl, ps_neg, ps_c0, ps_c1, ps_n01, ps_n11, ps_10, ps_b01, ps_e0, pu_Ine, pu_Ieq, pu_ne, pu_eq, am_k_n, am_k_i, am_k_r, am_k_u, am_k_l, am_sz_0, am_sz_i, am_sz_r, am_sz_u, am_sz_l, Option.toList_some, Option.toList_none, List.cons_append, List.nil_append, true_and, and_true, or_false, false_or, or_self, or_true, true_or, not_false_eq_true, not_true_eq_false, Classical.not_not, ne_eq, ps_e1, ps_em, ps_z, Nat.not_le, false_implies, true_implies, forall_const, ps_01, ps_1n, ps_0n, ps_m10, ps_m1n, lg_cmp_gt, lg_cmp_ge, lg_cmp_le, lg_cmp_lt, lg_cmp_eq, pu_rne, pu_req, pu_uro, RFc_n, Nat.reduceAdd, Nat.reduceMul, Nat.reduceLT, Nat.reduceLeDiff, Nat.reduceEqDiff, Nat.reduceSub]
            exact ih' _ _ _
      exact hl l.length 0 (by omega) _ _ _
  · refine PR_ask (v := -1) hi hV ?_ ?_
    · intro Q hQ
      simp only [↓r94_0, ↓r94_1, ↓r94_2, ↓r94_5, ↓r94_6, ↓r94_9, ↓r94_12, ↓r94_13, ↓c_gather0 hC hx, Bool.false_eq_true, hn, hn2, ht, hF, am_wt, am_wf, Option.isSome_some, am_rf_s, am_rf_n, ps_lit, nI_add, nI_1, pk_mul, ps_cl, ps_neg, ps_c0, ps_c1, ps_n01, ps_n11, ps_10, ps_b01, ps_e0, pu_Ine, pu_Ieq, pu_ne, pu_eq, am_k_n, am_k_i, am_k_r, am_k_u, am_k_l, am_sz_0, am_sz_i, am_sz_r, am_sz_u, am_sz_l, Option.toList_some, Option.toList_none, List.cons_append, List.nil_append, true_and, and_true, or_false, false_or, or_self, or_true, true_or, not_false_eq_true, not_true_eq_false, Classical.not_not, ne_eq, ps_e1, ps_em, ps_z, Nat.not_le, false_implies, true_implies, forall_const, ps_01, ps_1n, ps_0n, ps_m10, ps_m1n, lg_cmp_gt, lg_cmp_ge, lg_cmp_le, lg_cmp_lt, lg_cmp_eq, pu_rne, pu_req, pu_uro, RFc_n, Nat.reduceAdd, Nat.reduceMul, Nat.reduceLT, Nat.reduceLeDiff, Nat.reduceEqDiff, Nat.reduceSub]
      exact hQ _ SCH_r
    · rintro ⟨n', sl', t', I', J', F'⟩ ⟨e1, e2, e3, e4, e5⟩; dsimp only at e1 e2 e3 e4 e5; subst e1; subst e2; subst e3; have hC' := CX_sc hC e4 e5; obtain ⟨hn, hn2, ht, hF⟩ := id hC'.1; intro Q hQ
      simp only [↓r249_0, ↓r249_1, ↓r249_2, ↓r249_5, ↓r249_8, ↓r249_9, ↓m_isGroup0 hC' hx, Bool.false_eq_true, hn, hn2, ht, hF, am_wt, am_wf, Option.isSome_some, am_rf_s, am_rf_n, ps_lit, nI_add, nI_1, pk_mul, ps_cl, ps_neg, ps_c0, ps_c1, ps_n01, ps_n11, ps_10, ps_b01, ps_e0, pu_Ine, pu_Ieq, pu_ne, pu_eq, am_k_n, am_k_i, am_k_r, am_k_u, am_k_l, am_sz_0, am_sz_i, am_sz_r, am_sz_u, am_sz_l, Option.toList_some, Option.toList_none, List.cons_append, List.nil_append, true_and, and_true, or_false, false_or, or_self, or_true, true_or, not_false_eq_true, not_true_eq_false, Classical.not_not, ne_eq, ps_e1, ps_em, ps_z, Nat.not_le, false_implies, true_implies, forall_const, ps_01, ps_1n, ps_0n, ps_m10, ps_m1n, lg_cmp_gt, lg_cmp_ge, lg_cmp_le, lg_cmp_lt, lg_cmp_eq, pu_rne, pu_req, pu_uro, RFc_n, Nat.reduceAdd, Nat.reduceMul, Nat.reduceLT, Nat.reduceLeDiff, Nat.reduceEqDiff, Nat.reduceSub]
      exact hQ _ SCH_r
end PG
