/-! calls, one on each side: parts -/
section PT
variable {X : am_X} {d : Nat} {Q : Option Value → am_H → Prop} {n sl : Nat} {t : Nat → Nat × Nat} {I : Nat → Nat → Int32} {J : Nat → Nat → Int64} {F : Nat → Nat → Option Nat} {h : am_H}
variable {K : Nat → Int32} {N T : Nat} {lw : Nat → List CL}
def abd (a b : Nat) : Nat := if a ≤ b then b - a else a - b
theorem abd_le {a b m : Nat} (ha : a ≤ m) (hb : b ≤ m) : abd a b ≤ m := by
  unfold abd
  split <;> omega
theorem ng_s {a b : Nat} : -(nI a - nI b) = nI b - nI a := Int32.neg_sub
theorem su_0le' {a b : Nat} (ha : a ≤ 200) (hb : b ≤ 200) : (0 ≤ nI a - nI b) ↔ b ≤ a := by
  rw [su_0le ha hb, q_le (by omega) (by omega)]
theorem abs_s {a b : Nat} (ha : a ≤ 200) (hb : b ≤ 200) : (if 0 ≤ nI a - nI b then nI a - nI b else 0 - (nI a - nI b)) = nI (abd a b) := by
  unfold abd
  by_cases h : b ≤ a
  · rw [if_pos ((su_0le' ha hb).mpr h), pk_sub h]
    by_cases h2 : a ≤ b
    · rw [if_pos h2, show a - b = b - a by omega]
    · rw [if_neg h2]
  · rw [if_neg (fun q => h ((su_0le' ha hb).mp q)), if_pos (by omega), Int32.zero_sub, ng_s, pk_sub (by omega)]
/-- how far two texts part a child in a trial -/
def pdv (K : Nat → Int32) (l1 l2 : List CL) (wy de c : Nat) : Nat := abd (wtV l1 (wdt K c (nI wy) (nI de)) (10 * tEnd K)) (wtV l2 (wdt K c (nI wy) (nI de)) (10 * tEnd K))
theorem pdv_le {l1 l2 : List CL} {wy de c : Nat} (hK : KW K N T) : pdv K l1 l2 wy de c ≤ 200 := by
  have := (tEnd_le hK).2.1
  exact abd_le (Nat.le_trans wtV_le (by omega)) (Nat.le_trans wtV_le (by omega))
theorem wk13 {f g : Nat → Int32} {c wy de k : Nat} {N : Nat} (h2 : ∀ j, j < 15 * N → f j = K j) (hc : c < N) (hk : k < 11) (h9 : k ≠ 9) : upd (upd (upd (va_cpy f g (15 * c) 0 10) 10 0) 5 (nI wy)) 8 (nI de) (pw k) = wdt K c (nI wy) (nI de) k := by
  unfold wdt
  by_cases k5 : k = 5
  · subst k5
    show upd (upd (upd (va_cpy f g (15 * c) 0 10) 10 0) 5 (nI wy)) 8 (nI de) 5 = _
    rw [pu_ne (by decide), pu_eq, if_pos rfl]
  · by_cases k8 : k = 8
    · subst k8
      show upd (upd (upd (va_cpy f g (15 * c) 0 10) 10 0) 5 (nI wy)) 8 (nI de) 8 = _
      rw [pu_eq, if_neg k5, if_pos rfl]
    · have p5 : pw k ≠ 5 := by unfold pw; split <;> omega
      have p8 : pw k ≠ 8 := by unfold pw; split <;> omega
      rw [pu_ne p8, pu_ne p5, if_neg k5, if_neg k8, ask_r _ _ _ _ hk]
      unfold wd
      by_cases k1 : k < 9
      · rw [if_pos k1, if_pos k1, h2 _ (by omega)]
      · rw [if_neg k1, if_neg k1, if_neg h9, if_neg h9, h2 _ (by omega)]
theorem c_partOne {I' : Nat → Nat → Int32} {j1 j2 a1 a2 c wy de : Nat} (hC : CX n t I F K N T lw) (h1 : j1 < T) (h2 : j2 < T) (e1 : F 5 j1 = some a1) (e2 : F 5 j2 = some a2) (hc : c < N) (hwy : wy ≤ 23) (hde : de ≤ 2) (hS : SC I I') (hQ : ∀ f13 f14, Q (some (.int (nI (pdv K (lw j1) (lw j2) wy de c)))) (n, sl, t, am_ro (am_ro I' 13 f13) 14 f14, J, F)) : am_W X (d + 6) 112 0 [some (.ref 0), some (.ref a1), some (.ref a2), some (.int (nI c)), some (.int (nI wy)), some (.int (nI de)), none] [] (n, sl, t, I', J, F) Q := by
  obtain ⟨hW, hK, _, ⟨hs, hcc, hr, hu, hm⟩, hl⟩ := id (CX_sc hC hS (fun _ _ _ => rfl))
  have hC' := CX_sc hC hS (fun _ _ _ => rfl)
  obtain ⟨x1, x2, x3⟩ := tEnd_le hK
  have hu2 : I' 3 2 = nI (tEnd K) := (hu 2 (by decide)).trans x3
  have hN := hK.1
  obtain ⟨hn, hn2, ht, hF⟩ := id hW
  obtain ⟨_, q1, _, b1, t1, _⟩ := CX_law hC h1
  rw [e1] at q1
  cases q1
  obtain ⟨_, q2, _, b2, t2, _⟩ := CX_law hC h2
  rw [e2] at q2
  cases q2
  have ea := fun Q => c_ask (X := X) (d := d + 4) (Q := Q) (sl := sl) (J := J) (I := I') (c := c) hW (by omega)
  have hw := wdt_WV (c := c) hK hc hwy hde
  have w9 : wdt K c (nI wy) (nI de) 9 = 0 := rfl
  simp only [↓r112_0, ↓r112_1, ↓r112_4, ↓r112_5, ↓r112_8, ↓r112_11, ↓r112_12, ↓r112_15, ↓r112_16, ↓r112_19, ↓r112_22, ↓r112_23, ↓r112_25, ↓r112_26, ↓r112_27, ↓r112_30, ↓r112_33, ↓r112_35, ↓r112_37, ↓r112_38, ↓r112_39, ↓r112_42, ↓r112_45, ↓r112_46, ↓r112_46k, ↓r112_47, ↓r112_49, ↓r112_50, ↓r112_53, ↓r112_53n, ↓r112_54, ↓r112_56, ↓ea, hu2, pu_uI, pu_ror, Bool.false_eq_true, hn, hn2, ht, hF, am_wt, am_wf, Option.isSome_some, am_rf_s, am_rf_n, ps_lit, nI_add, nI_1, pk_mul, ps_cl, ps_neg, ps_c0, ps_c1, ps_n01, ps_n11, ps_10, ps_b01, ps_e0, pu_Ine, pu_Ieq, pu_ne, pu_eq, am_k_n, am_k_i, am_k_r, am_k_u, am_k_l, am_sz_0, am_sz_i, am_sz_r, am_sz_u, am_sz_l, Option.toList_some, Option.toList_none, List.cons_append, List.nil_append, true_and, and_true, or_false, false_or, or_self, or_true, true_or, not_false_eq_true, not_true_eq_false, Classical.not_not, ne_eq, ps_e1, ps_em, ps_z, Nat.not_le, false_implies, true_implies, forall_const, ps_01, ps_1n, ps_0n, ps_m10, ps_m1n, lg_cmp_gt, lg_cmp_ge, lg_cmp_le, lg_cmp_lt, lg_cmp_eq, pu_rne, pu_req, pu_uro, RFc_n, Nat.reduceAdd, Nat.reduceMul, Nat.reduceLT, Nat.reduceLeDiff, Nat.reduceEqDiff, Nat.reduceSub]
  refine c_waitsBy hC' h1 e1 x2 hw w9 (SC_o (SC_r I') (fun _ => rfl)) (fun k hk hk9 => ?_) (fun f => ?_)
  · rw [pu_req]
    exact wk13 hr hc hk hk9
  · simp only [↓r112_59, ↓r112_60, ↓r112_63, ↓r112_63n, ↓r112_64, ↓r112_66, pu_ror, Bool.false_eq_true, hn, hn2, ht, hF, am_wt, am_wf, Option.isSome_some, am_rf_s, am_rf_n, ps_lit, nI_add, nI_1, pk_mul, ps_cl, ps_neg, ps_c0, ps_c1, ps_n01, ps_n11, ps_10, ps_b01, ps_e0, pu_Ine, pu_Ieq, pu_ne, pu_eq, am_k_n, am_k_i, am_k_r, am_k_u, am_k_l, am_sz_0, am_sz_i, am_sz_r, am_sz_u, am_sz_l, Option.toList_some, Option.toList_none, List.cons_append, List.nil_append, true_and, and_true, or_false, false_or, or_self, or_true, true_or, not_false_eq_true, not_true_eq_false, Classical.not_not, ne_eq, ps_e1, ps_em, ps_z, Nat.not_le, false_implies, true_implies, forall_const, ps_01, ps_1n, ps_0n, ps_m10, ps_m1n, lg_cmp_gt, lg_cmp_ge, lg_cmp_le, lg_cmp_lt, lg_cmp_eq, pu_rne, pu_req, pu_uro, RFc_n, Nat.reduceAdd, Nat.reduceMul, Nat.reduceLT, Nat.reduceLeDiff, Nat.reduceEqDiff, Nat.reduceSub]
    refine c_waitsBy hC' h2 e2 x2 hw w9 (SC_o (SC_o (SC_r I') (fun _ => rfl)) (fun _ => rfl)) (fun k hk hk9 => ?_) (fun f2 => ?_)
    · rw [pu_rne (by decide), pu_req]
      have p10 : pw k ≠ 10 := by unfold pw; split <;> omega
      rw [pu_ne p10]
      exact wk13 hr hc hk hk9
    · have y1 : wtV (lw j1) (wdt K c (nI wy) (nI de)) (10 * tEnd K) ≤ 200 := Nat.le_trans wtV_le (by omega)
      have y2 : wtV (lw j2) (wdt K c (nI wy) (nI de)) (10 * tEnd K) ≤ 200 := Nat.le_trans wtV_le (by omega)
      have y3 := abs_s y1 y2
      have q := hQ (upd (upd (upd (upd (upd (va_cpy (I' 2) (I' 13) (15 * c) 0 10) 10 0) 5 (nI wy)) 8 (nI de)) 10 0) 10 0) f2
      simp only [↓r112_69, ↓r112_70, ↓r112_73, pu_rol, pu_ror, Bool.false_eq_true, hn, hn2, ht, hF, am_wt, am_wf, Option.isSome_some, am_rf_s, am_rf_n, ps_lit, nI_add, nI_1, pk_mul, ps_cl, ps_neg, ps_c0, ps_c1, ps_n01, ps_n11, ps_10, ps_b01, ps_e0, pu_Ine, pu_Ieq, pu_ne, pu_eq, am_k_n, am_k_i, am_k_r, am_k_u, am_k_l, am_sz_0, am_sz_i, am_sz_r, am_sz_u, am_sz_l, Option.toList_some, Option.toList_none, List.cons_append, List.nil_append, true_and, and_true, or_false, false_or, or_self, or_true, true_or, not_false_eq_true, not_true_eq_false, Classical.not_not, ne_eq, ps_e1, ps_em, ps_z, Nat.not_le, false_implies, true_implies, forall_const, ps_01, ps_1n, ps_0n, ps_m10, ps_m1n, lg_cmp_gt, lg_cmp_ge, lg_cmp_le, lg_cmp_lt, lg_cmp_eq, pu_rne, pu_req, pu_uro, RFc_n, Nat.reduceAdd, Nat.reduceMul, Nat.reduceLT, Nat.reduceLeDiff, Nat.reduceEqDiff, Nat.reduceSub]
      unfold pdv at q
      rw [← y3] at q
      exact q
theorem c_partAll {I' : Nat → Nat → Int32} {j1 j2 a1 a2 wy de : Nat} {l : List Nat} (hC : CX n t I F K N T lw) (h1 : j1 < T) (h2 : j2 < T) (e1 : F 5 j1 = some a1) (e2 : F 5 j2 = some a2) (hwy : wy ≤ 23) (hde : de ≤ 2) (hS : SC I I') (hG : GH (I' 15 1) (I' 16) l N) (hQ : ∀ f13 f14, Q (some (.int (nI (sm (fun i => pdv K (lw j1) (lw j2) wy de (l.getD i 0)) l.length)))) (n, sl, t, am_ro (am_ro I' 13 f13) 14 f14, J, F)) : am_W X (d + 7) 111 0 [some (.ref 0), some (.ref a1), some (.ref a2), some (.int (nI wy)), some (.int (nI de)), none, none] [] (n, sl, t, I', J, F) Q := by
  obtain ⟨hW, hK, _, _, _⟩ := id hC
  obtain ⟨g1, g2, g3⟩ := hG
  obtain ⟨hn, hn2, ht, hF⟩ := id hW
  have hx : ∀ f13 f14, am_W X (d + 7) 111 6 [some (.ref 0), some (.ref a1), some (.ref a2), some (.int (nI wy)), some (.int (nI de)), some (.int 0), some (.int 0)] [] (n, sl, t, am_ro (am_ro I' 13 f13) 14 f14, J, F) Q := by
    refine lp0 (A := fun k => ∀ f13 f14, am_W X (d + 7) 111 6 [some (.ref 0), some (.ref a1), some (.ref a2), some (.int (nI wy)), some (.int (nI de)), some (.int (nI (sm (fun i => pdv K (lw j1) (lw j2) wy de (l.getD i 0)) k))), some (.int (nI k))] [] (n, sl, t, am_ro (am_ro I' 13 f13) 14 f14, J, F) Q) (N := l.length) ?_ ?_
    · intro k hk ih f13 f14
      obtain ⟨k1, k2⟩ := g3 k hk
      have z1 : k < 2000000 ∧ l.length < 2000000 ∧ k < 120 := by omega
      have z2 : ¬ l.length ≤ k := by omega
      rw [r111_6]
      simp only [↓r111_8, ↓r111_9, ↓r111_12, ↓r111_15, ↓r111_18, ↓r111_20, ↓r111_21, ↓r111_21n, ↓r111_22, ↓r111_22n, ↓r111_23, ↓r111_24, ↓r111_27, ↓r111_30, ↓r111_32, ↓r111_32k, ↓r111_33, ↓r111_34, ↓r111_36, q_le, q_lt, q_eq, q_e0, q_e1, q_0e, q_1e, ps_n0, q_0le, q_le0, q_0lt, q_m1e, q_em1, g1, k1, z1, z2, Bool.false_eq_true, hn, hn2, ht, hF, am_wt, am_wf, Option.isSome_some, am_rf_s, am_rf_n, ps_lit, nI_add, nI_1, pk_mul, ps_cl, ps_neg, ps_c0, ps_c1, ps_n01, ps_n11, ps_10, ps_b01, ps_e0, pu_Ine, pu_Ieq, pu_ne, pu_eq, am_k_n, am_k_i, am_k_r, am_k_u, am_k_l, am_sz_0, am_sz_i, am_sz_r, am_sz_u, am_sz_l, Option.toList_some, Option.toList_none, List.cons_append, List.nil_append, true_and, and_true, or_false, false_or, or_self, or_true, true_or, not_false_eq_true, not_true_eq_false, Classical.not_not, ne_eq, ps_e1, ps_em, ps_z, Nat.not_le, false_implies, true_implies, forall_const, ps_01, ps_1n, ps_0n, ps_m10, ps_m1n, lg_cmp_gt, lg_cmp_ge, lg_cmp_le, lg_cmp_lt, lg_cmp_eq, pu_rne, pu_req, pu_uro, RFc_n, Nat.reduceAdd, Nat.reduceMul, Nat.reduceLT, Nat.reduceLeDiff, Nat.reduceEqDiff, Nat.reduceSub]
      refine c_partOne hC h1 h2 e1 e2 k2 hwy hde (SC_o (SC_o hS (fun _ => rfl)) (fun _ => rfl)) (fun a b => ?_)
      simp only [↓r111_39, ↓r111_40, ↓r111_42, ↓r111_45, pu_rol, pu_ror, Bool.false_eq_true, hn, hn2, ht, hF, am_wt, am_wf, Option.isSome_some, am_rf_s, am_rf_n, ps_lit, nI_add, nI_1, pk_mul, ps_cl, ps_neg, ps_c0, ps_c1, ps_n01, ps_n11, ps_10, ps_b01, ps_e0, pu_Ine, pu_Ieq, pu_ne, pu_eq, am_k_n, am_k_i, am_k_r, am_k_u, am_k_l, am_sz_0, am_sz_i, am_sz_r, am_sz_u, am_sz_l, Option.toList_some, Option.toList_none, List.cons_append, List.nil_append, true_and, and_true, or_false, false_or, or_self, or_true, true_or, not_false_eq_true, not_true_eq_false, Classical.not_not, ne_eq, ps_e1, ps_em, ps_z, Nat.not_le, false_implies, true_implies, forall_const, ps_01, ps_1n, ps_0n, ps_m10, ps_m1n, lg_cmp_gt, lg_cmp_ge, lg_cmp_le, lg_cmp_lt, lg_cmp_eq, pu_rne, pu_req, pu_uro, RFc_n, Nat.reduceAdd, Nat.reduceMul, Nat.reduceLT, Nat.reduceLeDiff, Nat.reduceEqDiff, Nat.reduceSub]
      exact ih a b
    · intro f13 f14
      rw [r111_6]
      simp only [↓r111_8, ↓r111_9, ↓r111_12, ↓r111_15, ↓r111_48, ↓r111_50, g1, Int32.le_refl, Bool.false_eq_true, hn, hn2, ht, hF, am_wt, am_wf, Option.isSome_some, am_rf_s, am_rf_n, ps_lit, nI_add, nI_1, pk_mul, ps_cl, ps_neg, ps_c0, ps_c1, ps_n01, ps_n11, ps_10, ps_b01, ps_e0, pu_Ine, pu_Ieq, pu_ne, pu_eq, am_k_n, am_k_i, am_k_r, am_k_u, am_k_l, am_sz_0, am_sz_i, am_sz_r, am_sz_u, am_sz_l, Option.toList_some, Option.toList_none, List.cons_append, List.nil_append, true_and, and_true, or_false, false_or, or_self, or_true, true_or, not_false_eq_true, not_true_eq_false, Classical.not_not, ne_eq, ps_e1, ps_em, ps_z, Nat.not_le, false_implies, true_implies, forall_const, ps_01, ps_1n, ps_0n, ps_m10, ps_m1n, lg_cmp_gt, lg_cmp_ge, lg_cmp_le, lg_cmp_lt, lg_cmp_eq, pu_rne, pu_req, pu_uro, RFc_n, Nat.reduceAdd, Nat.reduceMul, Nat.reduceLT, Nat.reduceLeDiff, Nat.reduceEqDiff, Nat.reduceSub]
      exact hQ f13 f14
  have h3 := hx (I' 13) (I' 14)
  rw [pu_roI, pu_roI] at h3
  simp only [↓r111_0, ↓r111_1, ↓r111_3, ↓r111_4, Bool.false_eq_true, hn, hn2, ht, hF, am_wt, am_wf, Option.isSome_some, am_rf_s, am_rf_n, ps_lit, nI_add, nI_1, pk_mul, ps_cl, ps_neg, ps_c0, ps_c1, ps_n01, ps_n11, ps_10, ps_b01, ps_e0, pu_Ine, pu_Ieq, pu_ne, pu_eq, am_k_n, am_k_i, am_k_r, am_k_u, am_k_l, am_sz_0, am_sz_i, am_sz_r, am_sz_u, am_sz_l, Option.toList_some, Option.toList_none, List.cons_append, List.nil_append, true_and, and_true, or_false, false_or, or_self, or_true, true_or, not_false_eq_true, not_true_eq_false, Classical.not_not, ne_eq, ps_e1, ps_em, ps_z, Nat.not_le, false_implies, true_implies, forall_const, ps_01, ps_1n, ps_0n, ps_m10, ps_m1n, lg_cmp_gt, lg_cmp_ge, lg_cmp_le, lg_cmp_lt, lg_cmp_eq, pu_rne, pu_req, pu_uro, RFc_n, Nat.reduceAdd, Nat.reduceMul, Nat.reduceLT, Nat.reduceLeDiff, Nat.reduceEqDiff, Nat.reduceSub]
  exact h3
end PT
