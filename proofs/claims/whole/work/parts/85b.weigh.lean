/-! laws weighed: the class's fraction by factors -/
section WF
variable {X : am_X} {d : Nat} {Q : Option Value → am_H → Prop} {n sl : Nat} {t : Nat → Nat × Nat} {I : Nat → Nat → Int32} {J : Nat → Nat → Int64} {F : Nat → Nat → Option Nat} {h : am_H}
variable {h t' : Nat → Nat}
def XL (X : am_X) : Prop := (X 4).1 = 100 ∧ ∀ j, j < 100 → (X 4).2 j = nI (lgN j)
/-- the factors above and below -/
def FB (I : Nat → Nat → Int32) (h b : Nat → Nat) : Prop := (∀ f, f < 100 → I 22 f = nI (h f)) ∧ (∀ f, f < 100 → I 23 f = nI (b f)) ∧ (∀ f, h f ≤ 2400 ∧ b f ≤ 2400) ∧ h 0 = 0 ∧ b 0 = 0
theorem FB_x {I' : Nat → Nat → Int32} {b : Nat → Nat} (hF : FB I h b) (hx : RX I I') : FB I' h b := by
  obtain ⟨h1, h2, h3⟩ := hF
  refine ⟨fun f hf => ?_, fun f hf => ?_, h3⟩
  · rw [hx 22 (by decide) (by decide) (by decide)]; exact h1 f hf
  · rw [hx 23 (by decide) (by decide) (by decide)]; exact h2 f hf
theorem sub_j {a b : Nat} (ha : a ≤ 2400) (hb : b ≤ 2400) : (nI a - nI b).toInt64 = jI ((a : Int) - (b : Int)) := by
  apply Int64.toInt_inj.mp
  rw [Int32.toInt_toInt64, jI_t (by omega) (by omega), Int32.toInt_sub, nI_toInt (by omega), nI_toInt (by omega)]
  exact Int.bmod_eq_of_le_mul_two (y := 4294967296) (by omega) (by omega)
theorem c_weigh {b : Nat → Nat} (hW : WS n t F) (hL : XL X) (hB : FB I h b) (hQ : ∀ J', J' 19 6 = jI (wA h b 100) → J' 19 7 = jI (wD h b 100 : Nat) → Q none (n, sl, t, I, J', F)) : am_W X d 102 0 [some (.ref 19), none, none] [] (n, sl, t, I, J, F) Q := by
  obtain ⟨hn, hn2, ht, hF⟩ := id hW
  obtain ⟨h1, h2, h3, h4, h5⟩ := hB
  have hl : ∀ m k, k + m = 100 → 1 ≤ k → ∀ (J' : Nat → Nat → Int64), J' 19 6 = jI (wA h b k) → J' 19 7 = jI (wD h b k : Nat) → ∀ l2 : Option Value, am_W X d 102 12 [some (.ref 19), some (.int (nI k)), l2] [] (n, sl, t, I, J', F) Q := by
    intro m
    induction m with
    | zero =>
      intro k hk hk1 J' e6 e7 l2
      obtain rfl : k = 100 := by omega
      rw [r102_12]
      simp only [↓r102_13, ↓r102_15, ↓r102_70, q_le, q_lt, q_eq, q_e0, q_e1, q_0e, q_1e, ps_n0, q_0le, q_le0, q_0lt, q_m1e, q_em1, Bool.false_eq_true, hn, hn2, ht, hF, am_wt, am_wf, Option.isSome_some, am_rf_s, am_rf_n, ps_lit, nI_add, nI_1, pk_mul, ps_cl, ps_neg, ps_c0, ps_c1, ps_n01, ps_n11, ps_10, ps_b01, ps_e0, pu_Ine, pu_Ieq, pu_ne, pu_eq, am_k_n, am_k_i, am_k_r, am_k_u, am_k_l, am_sz_0, am_sz_i, am_sz_r, am_sz_u, am_sz_l, Option.toList_some, Option.toList_none, List.cons_append, List.nil_append, true_and, and_true, or_false, false_or, or_self, or_true, true_or, not_false_eq_true, not_true_eq_false, Classical.not_not, ne_eq, ps_e1, ps_em, ps_z, Nat.not_le, false_implies, true_implies, forall_const, ps_01, ps_1n, ps_0n, ps_m10, ps_m1n, lg_cmp_gt, lg_cmp_ge, lg_cmp_le, lg_cmp_lt, lg_cmp_eq, pu_rne, pu_req, pu_uro, RFc_n, Nat.reduceAdd, Nat.reduceMul, Nat.reduceLT, Nat.reduceLeDiff, Nat.reduceEqDiff, Nat.reduceSub]
      exact hQ J' e6 e7
    | succ m ih =>
      intro k hk hk1 J' e6 e7 l2
      obtain ⟨b1, b2⟩ := h3 k
      have z1 : k < 2000000 ∧ k < 100 := by omega
      have z2 : ¬ 100 ≤ k := by omega
      have x1 := h1 k (by omega)
      have x2 := h2 k (by omega)
      have x3 := hL.1
      have x4 := hL.2 k (by omega)
      have hlb := lg_b k (by omega)
      have y1 := sub_j b1 b2
      have y2 : (nI (lgN k)).toInt64 = jI (lgN k : Nat) := by rw [nI_l (by omega), lN_j]
      have y3 := abs_d (a := h k) (b := b k) (by omega) (by omega)
      have hfn : farN (h k) (b k) ≤ 2400 := by unfold farN; split <;> omega
      have y4 : (nI (farN (h k) (b k))).toInt64 = jI (farN (h k) (b k) : Nat) := by rw [nI_l (by omega), lN_j]
      have z3 : (4 : Nat) < 5 := by decide
      rw [r102_12]
      simp only [↓r102_13, ↓r102_15, ↓r102_18, ↓r102_19, ↓r102_22, ↓r102_23, ↓r102_23k, ↓r102_24, ↓r102_25, ↓r102_28, ↓r102_29, ↓r102_29k, ↓r102_30, ↓r102_31, ↓r102_32, ↓r102_33, ↓r102_33r, ↓r102_34, ↓r102_37, ↓r102_38, ↓r102_39, ↓r102_42, ↓r102_43, ↓r102_43k, ↓r102_44, ↓r102_45, ↓r102_46, ↓r102_47, ↓r102_50, ↓r102_51, ↓r102_51r, ↓r102_52, ↓r102_55, ↓r102_56, ↓r102_59, ↓r102_60, ↓r102_61, ↓r102_64, ↓r102_67, q_le, q_lt, q_eq, q_e0, q_e1, q_0e, q_1e, ps_n0, q_0le, q_le0, q_0lt, q_m1e, q_em1, z1, z2, z3, x1, x2, x3, x4, y1, y2, y3, y4, e6, e7, jI_mul, jI_add, pu_Jeq, vp_updL, if_true, if_false, am_k_i, Bool.false_eq_true, hn, hn2, ht, hF, am_wt, am_wf, Option.isSome_some, am_rf_s, am_rf_n, ps_lit, nI_add, nI_1, pk_mul, ps_cl, ps_neg, ps_c0, ps_c1, ps_n01, ps_n11, ps_10, ps_b01, ps_e0, pu_Ine, pu_Ieq, pu_ne, pu_eq, am_k_n, am_k_i, am_k_r, am_k_u, am_k_l, am_sz_0, am_sz_i, am_sz_r, am_sz_u, am_sz_l, Option.toList_some, Option.toList_none, List.cons_append, List.nil_append, true_and, and_true, or_false, false_or, or_self, or_true, true_or, not_false_eq_true, not_true_eq_false, Classical.not_not, ne_eq, ps_e1, ps_em, ps_z, Nat.not_le, false_implies, true_implies, forall_const, ps_01, ps_1n, ps_0n, ps_m10, ps_m1n, lg_cmp_gt, lg_cmp_ge, lg_cmp_le, lg_cmp_lt, lg_cmp_eq, pu_rne, pu_req, pu_uro, RFc_n, Nat.reduceAdd, Nat.reduceMul, Nat.reduceLT, Nat.reduceLeDiff, Nat.reduceEqDiff, Nat.reduceSub]
      refine ih (k + 1) (by omega) (by omega) _ ?_ ?_ _
      · simp only [pu_Jeq, vp_updL, if_true, if_false, Bool.false_eq_true, hn, hn2, ht, hF, am_wt, am_wf, Option.isSome_some, am_rf_s, am_rf_n, ps_lit, nI_add, nI_1, pk_mul, ps_cl, ps_neg, ps_c0, ps_c1, ps_n01, ps_n11, ps_10, ps_b01, ps_e0, pu_Ine, pu_Ieq, pu_ne, pu_eq, am_k_n, am_k_i, am_k_r, am_k_u, am_k_l, am_sz_0, am_sz_i, am_sz_r, am_sz_u, am_sz_l, Option.toList_some, Option.toList_none, List.cons_append, List.nil_append, true_and, and_true, or_false, false_or, or_self, or_true, true_or, not_false_eq_true, not_true_eq_false, Classical.not_not, ne_eq, ps_e1, ps_em, ps_z, Nat.not_le, false_implies, true_implies, forall_const, ps_01, ps_1n, ps_0n, ps_m10, ps_m1n, lg_cmp_gt, lg_cmp_ge, lg_cmp_le, lg_cmp_lt, lg_cmp_eq, pu_rne, pu_req, pu_uro, RFc_n, Nat.reduceAdd, Nat.reduceMul, Nat.reduceLT, Nat.reduceLeDiff, Nat.reduceEqDiff, Nat.reduceSub]
        rfl
      · simp only [pu_Jeq, vp_updL, if_true, if_false, jI_add, Bool.false_eq_true, hn, hn2, ht, hF, am_wt, am_wf, Option.isSome_some, am_rf_s, am_rf_n, ps_lit, nI_add, nI_1, pk_mul, ps_cl, ps_neg, ps_c0, ps_c1, ps_n01, ps_n11, ps_10, ps_b01, ps_e0, pu_Ine, pu_Ieq, pu_ne, pu_eq, am_k_n, am_k_i, am_k_r, am_k_u, am_k_l, am_sz_0, am_sz_i, am_sz_r, am_sz_u, am_sz_l, Option.toList_some, Option.toList_none, List.cons_append, List.nil_append, true_and, and_true, or_false, false_or, or_self, or_true, true_or, not_false_eq_true, not_true_eq_false, Classical.not_not, ne_eq, ps_e1, ps_em, ps_z, Nat.not_le, false_implies, true_implies, forall_const, ps_01, ps_1n, ps_0n, ps_m10, ps_m1n, lg_cmp_gt, lg_cmp_ge, lg_cmp_le, lg_cmp_lt, lg_cmp_eq, pu_rne, pu_req, pu_uro, RFc_n, Nat.reduceAdd, Nat.reduceMul, Nat.reduceLT, Nat.reduceLeDiff, Nat.reduceEqDiff, Nat.reduceSub]
        rw [wD, Int.natCast_add]
  simp only [↓r102_0, ↓r102_1, ↓r102_2, ↓r102_5, ↓r102_6, ↓r102_7, ↓r102_10, ↓r102_11, Bool.false_eq_true, hn, hn2, ht, hF, am_wt, am_wf, Option.isSome_some, am_rf_s, am_rf_n, ps_lit, nI_add, nI_1, pk_mul, ps_cl, ps_neg, ps_c0, ps_c1, ps_n01, ps_n11, ps_10, ps_b01, ps_e0, pu_Ine, pu_Ieq, pu_ne, pu_eq, am_k_n, am_k_i, am_k_r, am_k_u, am_k_l, am_sz_0, am_sz_i, am_sz_r, am_sz_u, am_sz_l, Option.toList_some, Option.toList_none, List.cons_append, List.nil_append, true_and, and_true, or_false, false_or, or_self, or_true, true_or, not_false_eq_true, not_true_eq_false, Classical.not_not, ne_eq, ps_e1, ps_em, ps_z, Nat.not_le, false_implies, true_implies, forall_const, ps_01, ps_1n, ps_0n, ps_m10, ps_m1n, lg_cmp_gt, lg_cmp_ge, lg_cmp_le, lg_cmp_lt, lg_cmp_eq, pu_rne, pu_req, pu_uro, RFc_n, Nat.reduceAdd, Nat.reduceMul, Nat.reduceLT, Nat.reduceLeDiff, Nat.reduceEqDiff, Nat.reduceSub]
  refine hl 99 1 (by omega) (by omega) _ ?_ ?_ _
  · simp only [pu_Jeq, vp_updL, if_true, if_false, Bool.false_eq_true, hn, hn2, ht, hF, am_wt, am_wf, Option.isSome_some, am_rf_s, am_rf_n, ps_lit, nI_add, nI_1, pk_mul, ps_cl, ps_neg, ps_c0, ps_c1, ps_n01, ps_n11, ps_10, ps_b01, ps_e0, pu_Ine, pu_Ieq, pu_ne, pu_eq, am_k_n, am_k_i, am_k_r, am_k_u, am_k_l, am_sz_0, am_sz_i, am_sz_r, am_sz_u, am_sz_l, Option.toList_some, Option.toList_none, List.cons_append, List.nil_append, true_and, and_true, or_false, false_or, or_self, or_true, true_or, not_false_eq_true, not_true_eq_false, Classical.not_not, ne_eq, ps_e1, ps_em, ps_z, Nat.not_le, false_implies, true_implies, forall_const, ps_01, ps_1n, ps_0n, ps_m10, ps_m1n, lg_cmp_gt, lg_cmp_ge, lg_cmp_le, lg_cmp_lt, lg_cmp_eq, pu_rne, pu_req, pu_uro, RFc_n, Nat.reduceAdd, Nat.reduceMul, Nat.reduceLT, Nat.reduceLeDiff, Nat.reduceEqDiff, Nat.reduceSub]
    have : wA h b 1 = 0 := by
      show (0 : Int) + ((h 0 : Int) - (b 0 : Int)) * (lgN 0 : Int) = 0
      rw [h4, h5]
      rfl
    rw [this]
    rfl
  · simp only [pu_Jeq, vp_updL, if_true, if_false, Bool.false_eq_true, hn, hn2, ht, hF, am_wt, am_wf, Option.isSome_some, am_rf_s, am_rf_n, ps_lit, nI_add, nI_1, pk_mul, ps_cl, ps_neg, ps_c0, ps_c1, ps_n01, ps_n11, ps_10, ps_b01, ps_e0, pu_Ine, pu_Ieq, pu_ne, pu_eq, am_k_n, am_k_i, am_k_r, am_k_u, am_k_l, am_sz_0, am_sz_i, am_sz_r, am_sz_u, am_sz_l, Option.toList_some, Option.toList_none, List.cons_append, List.nil_append, true_and, and_true, or_false, false_or, or_self, or_true, true_or, not_false_eq_true, not_true_eq_false, Classical.not_not, ne_eq, ps_e1, ps_em, ps_z, Nat.not_le, false_implies, true_implies, forall_const, ps_01, ps_1n, ps_0n, ps_m10, ps_m1n, lg_cmp_gt, lg_cmp_ge, lg_cmp_le, lg_cmp_lt, lg_cmp_eq, pu_rne, pu_req, pu_uro, RFc_n, Nat.reduceAdd, Nat.reduceMul, Nat.reduceLT, Nat.reduceLeDiff, Nat.reduceEqDiff, Nat.reduceSub]
    have : wD h b 1 = 0 := by
      show 0 + farN (h 0) (b 0) = 0
      rw [h4, h5]
      rfl
    rw [this]
    rfl
/-- grown by the factors that are left over -/
theorem c_gby {a u v : Nat} {hh tt : Nat → Nat} (hn2 : n ≤ 1000000) (ha : a < n) (ta : t a = (20, 600)) (hu : u < n) (tu : t u = (20, 100)) (hv' : v < n) (tv : t v = (20, 100)) (nau : u ≠ a) (nav : v ≠ a) (x1 : ∀ f, f < 100 → I u f = nI (hh f)) (x2 : ∀ f, f < 100 → I v f = nI (tt f)) (hb : ∀ f, hh f ≤ 2400 ∧ tt f ≤ 2400) (h0 : hh 0 = 0) (t0 : tt 0 = 0) (hbd : fp hh 100 < bB ^ 600) (h1 : I a 0 = 1) (hQ : ∀ g len, NB g len (fpd hh tt 100) → Q (some (.int (nI len))) (n, sl, t, am_ro I a g, J, F)) : am_W X (d + 1) 104 0 [some (.ref a), some (.ref u), some (.ref v), none, none, none, none] [] (n, sl, t, I, J, F) Q := by
  have hu2 : u < 1000000 := by omega
  have hv2 : v < 1000000 := by omega
  have fpdb : ∀ k e, k < 100 → e ≤ hh k - tt k → fpd hh tt k * k ^ e ≤ fp hh 100 := by
    intro k e hk he
    have h2 := fpd_le (h := hh) (t := tt) h0 t0
    refine Nat.le_trans ?_ h2
    have mono : ∀ j, fpd hh tt (k + 1) ≤ fpd hh tt (k + 1 + j) := by
      intro j
      induction j with
      | zero => exact Nat.le_refl _
      | succ j ih =>
        refine Nat.le_trans ih ?_
        show fp _ (k + 1 + j) ≤ fp _ (k + 1 + j) * (k + 1 + j) ^ _
        exact Nat.le_mul_of_pos_right _ (Nat.pow_pos (by omega))
    have h3 := mono (100 - (k + 1))
    rw [show k + 1 + (100 - (k + 1)) = 100 by omega] at h3
    refine Nat.le_trans ?_ h3
    show fpd hh tt k * k ^ e ≤ fp (fun f => hh f - tt f) k * k ^ (hh k - tt k)
    refine Nat.mul_le_mul (Nat.le_refl _) ?_
    by_cases hk0 : k = 0
    · subst hk0
      have : e = 0 := by omega
      rw [this, h0, t0]
      exact Nat.le_refl _
    · exact Nat.pow_le_pow_right (by omega) he
  have one : ∀ (g : Nat → Int32) (len V gg : Nat), NB g len V → gg < bB → V * gg < bB ^ 600 → ∀ Q, (am_W X d 86 0 [some (.ref a), some (.int (nI len)), some (.int (nI gg)), none, none, none, none, none] [] (n, sl, t, am_ro I a g, J, F) Q ↔ Q (some (.int (nI (gl V gg len)))) (n, sl, t, am_ro I a (rwN (gl V gg len) g (fun k => nI (dig bB (V * gg) k))), J, F)) := by
    intro g len V gg hN hg hV Q
    have := c_grow (X := X) (d := d) (Q := Q) (sl := sl) (J := J) (F := F) (I := am_ro I a g) (a := a) (V := V) (len := len) (f := gg) hn2 ha ta hN.1 (by rw [pu_req]; exact hN.2.2) hN.2.1 hg hV
    rw [pu_req, pu_ror] at this
    exact this
  -- one factor
  have hin : ∀ m k e (g : Nat → Int32) (len V gg : Nat), 2 ≤ k → k < 100 → e + m = hh k - tt k → NB g len V → gg < bB → 0 < gg → V * gg = fpd hh tt k * k ^ e → (∀ (g : Nat → Int32) (len V gg : Nat), NB g len V → gg < bB → 0 < gg → V * gg = fpd hh tt (k + 1) → ∀ l6 : Option Value, am_W X (d + 1) 104 8 [some (.ref a), some (.ref u), some (.ref v), some (.int (nI len)), some (.int (nI gg)), some (.int (nI (k + 1))), l6] [] (n, sl, t, am_ro I a g, J, F) Q) → am_W X (d + 1) 104 21 [some (.ref a), some (.ref u), some (.ref v), some (.int (nI len)), some (.int (nI gg)), some (.int (nI k)), some (.int (nI (tt k + e)))] [] (n, sl, t, am_ro I a g, J, F) Q := by
    intro m
    induction m with
    | zero =>
      intro k e g len V gg hk2 hk he hN hg hg0 hV hnext
      obtain ⟨b1, b2⟩ := hb k
      have y1 := x1 k hk
      have z1 : k < 2000000 ∧ hh k < 2000000 ∧ tt k + e < 2000000 := by omega
      have z2 : hh k ≤ tt k + e := by omega
      have e1 : am_ro I a g u = I u := pu_rne nau
      rw [r104_21]
      simp only [↓r104_23, ↓r104_23n, ↓r104_24, ↓r104_26, ↓r104_26k, ↓r104_27, ↓r104_61, ↓r104_64, q_le, q_lt, q_eq, q_e0, q_e1, q_0e, q_1e, ps_n0, q_0le, q_le0, q_0lt, q_m1e, q_em1, hu, hu2, tu, hk, z1, z2, e1, y1, am_k_i, Bool.false_eq_true, ps_lit, nI_add, nI_1, pk_mul, ps_cl, ps_neg, ps_c0, ps_c1, ps_n01, ps_n11, ps_10, ps_01, ps_1n, ps_0n, ps_b01, ps_e0, am_k_n, am_k_i, am_k_r, am_k_u, am_k_l, am_sz_0, am_sz_i, am_sz_r, am_sz_u, am_sz_l, Option.toList_some, Option.toList_none, List.cons_append, List.nil_append, true_and, and_true, or_false, false_or, or_self, or_true, true_or, and_self, if_true, if_false, not_false_eq_true, not_true_eq_false, Classical.not_not, ne_eq, ps_e1, ps_em, ps_z, Nat.not_le, false_implies, true_implies, forall_const, Nat.reduceAdd, Nat.reduceMul, Nat.reduceLT, Nat.reduceLeDiff, Nat.reduceEqDiff, Nat.reduceSub]
      refine hnext g len V gg hN hg hg0 ?_ _
      rw [hV]
      show _ = fp (fun f => hh f - tt f) k * k ^ (hh k - tt k)
      rw [show hh k - tt k = e by omega]
      rfl
    | succ m ih =>
      intro k e g len V gg hk2 hk he hN hg hg0 hV hnext
      obtain ⟨b1, b2⟩ := hb k
      have y1 := x1 k hk
      have z1 : k < 2000000 ∧ hh k < 2000000 ∧ tt k + e < 2000000 := by omega
      have z2 : ¬ hh k ≤ tt k + e := by omega
      have e1 : ∀ g, am_ro I a g u = I u := fun g => pu_rne nau
      have hg' : gg < 1073741824 := hg
      have hbb := fpdb k (e + 1) hk (by omega)
      have hVb : V * gg < bB ^ 600 := by
        have := fpdb k e hk (by omega)
        rw [hV]
        omega
      have ih' := ih k (e + 1)
      rw [← Nat.add_assoc] at ih'
      rw [r104_21]
      by_cases c : gg < 10737418
      · have c1 : nI gg < nI 10737418 := nI_lt c (by decide)
        have hgk : gg * k < bB := by
          have : gg * k ≤ 10737418 * 100 := Nat.mul_le_mul (by omega) (by omega)
          rw [bB_e]
          omega
        simp only [↓r104_23, ↓r104_23n, ↓r104_24, ↓r104_26, ↓r104_26k, ↓r104_27, ↓r104_30, ↓r104_32, ↓r104_34, ↓r104_48, ↓r104_50, ↓r104_52, ↓r104_53, ↓r104_55, ↓r104_58, q_le, q_lt, q_eq, q_e0, q_e1, q_0e, q_1e, ps_n0, q_0le, q_le0, q_0lt, q_m1e, q_em1, hu, hu2, tu, hk, z1, z2, e1, y1, c1, am_k_i, Bool.false_eq_true, ps_lit, nI_add, nI_1, pk_mul, ps_cl, ps_neg, ps_c0, ps_c1, ps_n01, ps_n11, ps_10, ps_01, ps_1n, ps_0n, ps_b01, ps_e0, am_k_n, am_k_i, am_k_r, am_k_u, am_k_l, am_sz_0, am_sz_i, am_sz_r, am_sz_u, am_sz_l, Option.toList_some, Option.toList_none, List.cons_append, List.nil_append, true_and, and_true, or_false, false_or, or_self, or_true, true_or, and_self, if_true, if_false, not_false_eq_true, not_true_eq_false, Classical.not_not, ne_eq, ps_e1, ps_em, ps_z, Nat.not_le, false_implies, true_implies, forall_const, Nat.reduceAdd, Nat.reduceMul, Nat.reduceLT, Nat.reduceLeDiff, Nat.reduceEqDiff, Nat.reduceSub]
        refine ih' g len V (gg * k) hk2 hk (by omega) hN hgk (Nat.mul_pos hg0 (by omega)) ?_ hnext
        rw [← Nat.mul_assoc, hV, Nat.pow_succ, Nat.mul_assoc]
      · have c1 : ¬ nI gg < nI 10737418 := nI_nlt (by omega) (by omega)
        have g1 := one g len V gg hN hg hVb
        simp only [↓r104_23, ↓r104_23n, ↓r104_24, ↓r104_26, ↓r104_26k, ↓r104_27, ↓r104_30, ↓r104_32, ↓r104_34, ↓r104_37, ↓r104_37n, ↓r104_38, ↓r104_39, ↓r104_41, ↓r104_44, ↓r104_45, ↓r104_46, ↓r104_48, ↓r104_50, ↓r104_52, ↓r104_53, ↓r104_55, ↓r104_58, ↓g1, q_le, q_lt, q_eq, q_e0, q_e1, q_0e, q_1e, ps_n0, q_0le, q_le0, q_0lt, q_m1e, q_em1, hu, hu2, tu, hk, z1, z2, e1, y1, c1, am_k_i, Int32.one_mul, Bool.false_eq_true, ps_lit, nI_add, nI_1, pk_mul, ps_cl, ps_neg, ps_c0, ps_c1, ps_n01, ps_n11, ps_10, ps_01, ps_1n, ps_0n, ps_b01, ps_e0, am_k_n, am_k_i, am_k_r, am_k_u, am_k_l, am_sz_0, am_sz_i, am_sz_r, am_sz_u, am_sz_l, Option.toList_some, Option.toList_none, List.cons_append, List.nil_append, true_and, and_true, or_false, false_or, or_self, or_true, true_or, and_self, if_true, if_false, not_false_eq_true, not_true_eq_false, Classical.not_not, ne_eq, ps_e1, ps_em, ps_z, Nat.not_le, false_implies, true_implies, forall_const, Nat.reduceAdd, Nat.reduceMul, Nat.reduceLT, Nat.reduceLeDiff, Nat.reduceEqDiff, Nat.reduceSub]
        refine ih' _ _ (V * gg) k hk2 hk (by omega) ⟨gl_le hVb hN.1, gl_b hN.2.1 hg, fun _ hq => rwN_at hq⟩ (by rw [bB_e]; omega) (by omega) ?_ hnext
        rw [hV, Nat.pow_succ, Nat.mul_assoc]
  have hout : ∀ m k, k + m = 100 → 2 ≤ k → ∀ (g : Nat → Int32) (len V gg : Nat), NB g len V → gg < bB → 0 < gg → V * gg = fpd hh tt k → ∀ l6 : Option Value, am_W X (d + 1) 104 8 [some (.ref a), some (.ref u), some (.ref v), some (.int (nI len)), some (.int (nI gg)), some (.int (nI k)), l6] [] (n, sl, t, am_ro I a g, J, F) Q := by
    intro m
    induction m with
    | zero =>
      intro k hk hk2 g len V gg hN hg hg0 hV l6
      obtain rfl : k = 100 := by omega
      have hVb : V * gg < bB ^ 600 := by
        have := fpd_le (h := hh) (t := tt) h0 t0
        rw [hV]
        omega
      have g1 := one g len V gg hN hg hVb
      rw [r104_8]
      simp only [↓r104_10, ↓r104_12, ↓r104_67, ↓r104_67n, ↓r104_68, ↓r104_69, ↓r104_71, ↓r104_74, ↓g1, q_le, q_lt, q_eq, q_e0, q_e1, q_0e, q_1e, ps_n0, q_0le, q_le0, q_0lt, q_m1e, q_em1, Bool.false_eq_true, ps_lit, nI_add, nI_1, pk_mul, ps_cl, ps_neg, ps_c0, ps_c1, ps_n01, ps_n11, ps_10, ps_01, ps_1n, ps_0n, ps_b01, ps_e0, am_k_n, am_k_i, am_k_r, am_k_u, am_k_l, am_sz_0, am_sz_i, am_sz_r, am_sz_u, am_sz_l, Option.toList_some, Option.toList_none, List.cons_append, List.nil_append, true_and, and_true, or_false, false_or, or_self, or_true, true_or, and_self, if_true, if_false, not_false_eq_true, not_true_eq_false, Classical.not_not, ne_eq, ps_e1, ps_em, ps_z, Nat.not_le, false_implies, true_implies, forall_const, Nat.reduceAdd, Nat.reduceMul, Nat.reduceLT, Nat.reduceLeDiff, Nat.reduceEqDiff, Nat.reduceSub]
      exact hQ _ _ ⟨gl_le hVb hN.1, by rw [← hV]; exact gl_b hN.2.1 hg, fun _ hq => by rw [← hV]; exact rwN_at hq⟩
    | succ m ih =>
      intro k hk hk2 g len V gg hN hg hg0 hV l6
      obtain ⟨b1, b2⟩ := hb k
      have y2 := x2 k (by omega)
      have z1 : k < 2000000 ∧ k < 100 := by omega
      have z2 : ¬ 100 ≤ k := by omega
      have e1 : am_ro I a g v = I v := pu_rne nav
      rw [r104_8]
      simp only [↓r104_10, ↓r104_12, ↓r104_15, ↓r104_15n, ↓r104_16, ↓r104_18, ↓r104_18k, ↓r104_19, q_le, q_lt, q_eq, q_e0, q_e1, q_0e, q_1e, ps_n0, q_0le, q_le0, q_0lt, q_m1e, q_em1, hv', hv2, tv, z1, z2, e1, y2, am_k_i, Bool.false_eq_true, ps_lit, nI_add, nI_1, pk_mul, ps_cl, ps_neg, ps_c0, ps_c1, ps_n01, ps_n11, ps_10, ps_01, ps_1n, ps_0n, ps_b01, ps_e0, am_k_n, am_k_i, am_k_r, am_k_u, am_k_l, am_sz_0, am_sz_i, am_sz_r, am_sz_u, am_sz_l, Option.toList_some, Option.toList_none, List.cons_append, List.nil_append, true_and, and_true, or_false, false_or, or_self, or_true, true_or, and_self, if_true, if_false, not_false_eq_true, not_true_eq_false, Classical.not_not, ne_eq, ps_e1, ps_em, ps_z, Nat.not_le, false_implies, true_implies, forall_const, Nat.reduceAdd, Nat.reduceMul, Nat.reduceLT, Nat.reduceLeDiff, Nat.reduceEqDiff, Nat.reduceSub]
      exact hin (hh k - tt k) k 0 g len V gg hk2 (by omega) (by omega) hN hg hg0 (by rw [hV, Nat.pow_zero, Nat.mul_one]) (fun g len V gg a1 a2 a3 a4 l6 => ih (k + 1) (by omega) (by omega) g len V gg a1 a2 a3 a4 l6)
  have hs := hout 98 2 (by omega) (by omega) (I a) 1 1 1 (NB_1 h1) (by decide) (by decide) (by
    show _ = fp (fun f => hh f - tt f) 0 * 0 ^ (hh 0 - tt 0) * 1 ^ (hh 1 - tt 1)
    rw [h0, t0, Nat.one_pow]
    rfl) none
  rw [pu_roI] at hs
  simp only [↓r104_0, ↓r104_1, ↓r104_2, ↓r104_3, ↓r104_5, ↓r104_6, am_k_i, am_k_n, Bool.false_eq_true, ps_lit, nI_add, nI_1, pk_mul, ps_cl, ps_neg, ps_c0, ps_c1, ps_n01, ps_n11, ps_10, ps_01, ps_1n, ps_0n, ps_b01, ps_e0, am_k_n, am_k_i, am_k_r, am_k_u, am_k_l, am_sz_0, am_sz_i, am_sz_r, am_sz_u, am_sz_l, Option.toList_some, Option.toList_none, List.cons_append, List.nil_append, true_and, and_true, or_false, false_or, or_self, or_true, true_or, and_self, if_true, if_false, not_false_eq_true, not_true_eq_false, Classical.not_not, ne_eq, ps_e1, ps_em, ps_z, Nat.not_le, false_implies, true_implies, forall_const, Nat.reduceAdd, Nat.reduceMul, Nat.reduceLT, Nat.reduceLeDiff, Nat.reduceEqDiff, Nat.reduceSub]
  exact hs
end WF
