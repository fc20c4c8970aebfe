/-! laws weighed: the reference's product -/
section PM
variable {X : am_X} {d : Nat} {Q : Option Value → am_H → Prop} {n sl : Nat} {t : Nat → Nat × Nat} {I : Nat → Nat → Int32} {J : Nat → Nat → Int64} {F : Nat → Nat → Option Nat} {h : am_H}
variable {K : Nat → Int32} {N T : Nat} {lw : Nat → List CL}
/-- but for the asking, as it was -/
def MS (I0 I1 : Nat → Nat → Int32) : Prop := (∀ a, a ≠ 47 → a ≠ 58 → I1 a = I0 a) ∧ ∀ k, k ≠ 17 → k ≠ 18 → k ≠ 19 → k ≠ 22 → I1 47 k = I0 47 k
theorem MS_r : MS I I := ⟨fun _ _ _ => rfl, fun _ _ _ _ _ => rfl⟩
theorem MS_SC {I0 I1 I2 : Nat → Nat → Int32} (h0 : SC I0 I1) (h : MS I1 I2) : SC I0 I2 := fun a k hk => by
  by_cases h1 : a = 47
  · subst h1
    have hk' : k = 0 ∨ k = 8 ∨ k = 9 ∨ k = 38 := by
      simp [scr] at hk
      omega
    rw [h.2 k (by omega) (by omega) (by omega) (by omega)]
    exact h0 47 k hk
  · have h2 : a ≠ 58 := by rintro rfl; cases hk
    rw [h.1 a h1 h2]
    exact h0 a k hk
theorem MS_t {I0 I1 I2 : Nat → Nat → Int32} (h : MS I0 I1) (h2 : MS I1 I2) : MS I0 I2 := ⟨fun a x y => (h2.1 a x y).trans (h.1 a x y), fun k x y z w => (h2.2 k x y z w).trans (h.2 k x y z w)⟩
theorem MS_c {f47 f58 : Nat → Int32} (q1 : ∀ k, k ≠ 17 → k ≠ 18 → k ≠ 19 → k ≠ 22 → f47 k = I 47 k) : MS I (am_ro (am_ro I 47 f47) 58 f58) := by
  refine ⟨fun a x y => ?_, fun k x y z w => ?_⟩
  · rw [pu_rne y, pu_rne x]
  · rw [pu_rne (by decide), pu_req]
    exact q1 k x y z w
theorem m_prod {I0 : Nat → Nat → Int32} {J0 : Nat → Nat → Int64} {j a : Nat} {l : List Nat} (hC : CX n t I F K N T lw) (hj : j < T) (har : a = 60 ∨ a = 61) (hS : SC I I0) (hG : GH (I0 47 24) (I0 59) l N) (hQ : ∀ I1 J1, MS I0 I1 → NC (J1 a) (fp (gc K (lw j) l l.length) 100) → (∀ b, b = 60 ∨ b = 61 → b ≠ a → J1 b = J0 b) → Q none (n, sl, t, I1, J1, F)) : am_W X (d + 46) 254 0 [some (.ref 47), some (.ref a), some (.int (nI j)), none, none, none, none] [] (n, sl, t, I0, J0, F) Q := by
  obtain ⟨hW, hK, h49, ⟨hs, hc, hr0, hu, hm⟩, hll⟩ := id hC
  have hN := hK.1
  obtain ⟨hn, hn2, ht, hF⟩ := id hW
  obtain ⟨h1, h2, h3⟩ := id hG
  have r1 : a < n := by rcases har with e | e <;> rw [e] <;> exact hn _ (by decide)
  have r3 : t a = (23, 620) := by rcases har with e | e <;> rw [e] <;> exact ht _ (by decide)
  have r4 : a ≠ 47 := by omega
  have hCKs : ∀ I1, MS I0 I1 → CX n t I1 F K N T lw ∧ CK n t F (I1 1 4) (I1 2) (I1 3) (I1 49) K N := fun I1 hM => by
    have := CX_sc hC (MS_SC hS hM) (fun _ _ _ => rfl)
    exact ⟨this, CK_of this⟩
  have hCK0 := (hCKs I0 MS_r).2
  have hwb : ∀ i, i < l.length → wN K (l.getD i 0) ≤ 200 := fun i hi => (kid_w hCK0 (h3 i hi).2).2
  have grow1 : ∀ (I1 : Nat → Nat → Int32) (J1 : Nat → Nat → Int64) (V f : Nat), NC (J1 a) V → f ≤ 1000000 → ∀ Q, (am_W X (d + 45) 241 0 [some (.ref a), some (.int (nI f)), none, none, none, none, none] [] (n, sl, t, I1, J1, F) Q ↔ Q none (n, sl, t, I1, am_ro J1 a (rwL 620 (J1 a) (fun k => lN (dig cC (V * f) k))), F)) := fun I1 J1 V f hN hf Q => m_grows (X := X) (d := d + 45) (Q := Q) (sl := sl) (I := I1) (J := J1) (F := F) hn2 r1 r3 hN hf
  -- the minutes of a child
  have hmin : ∀ (k c : Nat) (C : Nat → Nat) (B : Nat), c < N → mn K c ≤ 20 → fp C 100 ≤ 99 ^ B → B + 20 ≤ 2400 → (∀ I1 J1, MS I0 I1 → NC (J1 a) (fp (fun f => C f + cf (chc K (lw j) c) (mn K c) f) 100) → (∀ b, b = 60 ∨ b = 61 → b ≠ a → J1 b = J0 b) → am_W X (d + 46) 254 78 [some (.ref 47), some (.ref a), some (.int (nI j)), some (.int (nI k)), some (.int (nI c)), some (.int (nI (mn K c))), some (.int (nI (mn K c)))] [] (n, sl, t, I1, J1, F) Q) → ∀ q m, m + q = mn K c → ∀ I1 J1, MS I0 I1 → NC (J1 a) (fp (fun f => C f + cf (chc K (lw j) c) m f) 100) → (∀ b, b = 60 ∨ b = 61 → b ≠ a → J1 b = J0 b) → am_W X (d + 46) 254 49 [some (.ref 47), some (.ref a), some (.int (nI j)), some (.int (nI k)), some (.int (nI c)), some (.int (nI (mn K c))), some (.int (nI m))] [] (n, sl, t, I1, J1, F) Q := by
    intro k c C B hcN hmn hCB hB hnext q
    have hch : ∀ m, 1 ≤ chc K (lw j) c m ∧ chc K (lw j) c m ≤ 99 := fun m => chc_b
    induction q with
    | zero =>
      intro m hm I1 J1 hM hNC hoth
      obtain rfl : m = mn K c := by omega
      rw [r254_49]
      simp only [↓r254_51, ↓r254_53, Int32.le_refl, Bool.false_eq_true, hn, hn2, ht, hF, am_wt, am_wf, Option.isSome_some, am_rf_s, am_rf_n, ps_lit, nI_add, nI_1, pk_mul, ps_cl, ps_neg, ps_c0, ps_c1, ps_n01, ps_n11, ps_10, ps_b01, ps_e0, pu_Ine, pu_Ieq, pu_ne, pu_eq, am_k_n, am_k_i, am_k_r, am_k_u, am_k_l, am_sz_0, am_sz_i, am_sz_r, am_sz_u, am_sz_l, Option.toList_some, Option.toList_none, List.cons_append, List.nil_append, true_and, and_true, or_false, false_or, or_self, or_true, true_or, not_false_eq_true, not_true_eq_false, Classical.not_not, ne_eq, ps_e1, ps_em, ps_z, Nat.not_le, false_implies, true_implies, forall_const, ps_01, ps_1n, ps_0n, ps_m10, ps_m1n, lg_cmp_gt, lg_cmp_ge, lg_cmp_le, lg_cmp_lt, lg_cmp_eq, pu_rne, pu_req, pu_uro, RFc_n, Nat.reduceAdd, Nat.reduceMul, Nat.reduceLT, Nat.reduceLeDiff, Nat.reduceEqDiff, Nat.reduceSub]
      exact hnext I1 J1 hM hNC hoth
    | succ q ih =>
      intro m hm I1 J1 hM hNC hoth
      have z1 : mn K c < 2000000 ∧ m < 2000000 := by omega
      have z2 : ¬ mn K c ≤ m := by omega
      rw [r254_49]
      simp only [↓r254_51, ↓r254_53, ↓r254_56, ↓r254_56n, ↓r254_57, ↓r254_59, ↓r254_60, ↓r254_61, ↓r254_63, ↓r254_65, q_le, q_lt, q_eq, q_e0, q_e1, q_0e, q_1e, ps_n0, q_0le, q_le0, q_0lt, q_m1e, q_em1, z1, z2, Bool.false_eq_true, hn, hn2, ht, hF, am_wt, am_wf, Option.isSome_some, am_rf_s, am_rf_n, ps_lit, nI_add, nI_1, pk_mul, ps_cl, ps_neg, ps_c0, ps_c1, ps_n01, ps_n11, ps_10, ps_b01, ps_e0, pu_Ine, pu_Ieq, pu_ne, pu_eq, am_k_n, am_k_i, am_k_r, am_k_u, am_k_l, am_sz_0, am_sz_i, am_sz_r, am_sz_u, am_sz_l, Option.toList_some, Option.toList_none, List.cons_append, List.nil_append, true_and, and_true, or_false, false_or, or_self, or_true, true_or, not_false_eq_true, not_true_eq_false, Classical.not_not, ne_eq, ps_e1, ps_em, ps_z, Nat.not_le, false_implies, true_implies, forall_const, ps_01, ps_1n, ps_0n, ps_m10, ps_m1n, lg_cmp_gt, lg_cmp_ge, lg_cmp_le, lg_cmp_lt, lg_cmp_eq, pu_rne, pu_req, pu_uro, RFc_n, Nat.reduceAdd, Nat.reduceMul, Nat.reduceLT, Nat.reduceLeDiff, Nat.reduceEqDiff, Nat.reduceSub]
      refine m_chanceOf (hCKs I1 hM).1 hj hcN (by omega) (hCKs I1 hM).1.2.2.1 (fun f47 f58 g47 q1 => ?_)
      have hM2 := MS_t hM (MS_c (f58 := f58) q1)
      have hc9 := hch m
      have hc9' : 1 ≤ chV (lw j) (wd K c (nI m)) ∧ chV (lw j) (wd K c (nI m)) ≤ 99 := hc9
      have y1 : nI 100 - nI (chV (lw j) (wd K c (nI m))) = nI (100 - chc K (lw j) c m) := nI_sub (by omega)
      have e1 := grow1 (am_ro (am_ro I1 47 f47) 58 f58) (am_ro J1 47 g47) _ (100 - chc K (lw j) c m) (by rw [pu_rne r4]; exact hNC) (by omega)
      simp only [↓r254_68, ↓r254_69, ↓r254_72, ↓r254_75, ↓e1, y1, Bool.false_eq_true, hn, hn2, ht, hF, am_wt, am_wf, Option.isSome_some, am_rf_s, am_rf_n, ps_lit, nI_add, nI_1, pk_mul, ps_cl, ps_neg, ps_c0, ps_c1, ps_n01, ps_n11, ps_10, ps_b01, ps_e0, pu_Ine, pu_Ieq, pu_ne, pu_eq, am_k_n, am_k_i, am_k_r, am_k_u, am_k_l, am_sz_0, am_sz_i, am_sz_r, am_sz_u, am_sz_l, Option.toList_some, Option.toList_none, List.cons_append, List.nil_append, true_and, and_true, or_false, false_or, or_self, or_true, true_or, not_false_eq_true, not_true_eq_false, Classical.not_not, ne_eq, ps_e1, ps_em, ps_z, Nat.not_le, false_implies, true_implies, forall_const, ps_01, ps_1n, ps_0n, ps_m10, ps_m1n, lg_cmp_gt, lg_cmp_ge, lg_cmp_le, lg_cmp_lt, lg_cmp_eq, pu_rne, pu_req, pu_uro, RFc_n, Nat.reduceAdd, Nat.reduceMul, Nat.reduceLT, Nat.reduceLeDiff, Nat.reduceEqDiff, Nat.reduceSub]
      have hb := cf_pb hch hCB (m + 1)
      refine ih (m + 1) (by omega) _ _ hM2 ?_ (fun b hb1 hb2 => ?_)
      · rw [pu_req, ← cf_p hch]
        exact NC_w (Nat.lt_of_le_of_lt (Nat.le_trans hb (n99 (by omega))) (Nat.lt_of_le_of_lt (Nat.le_mul_of_pos_right nC (by decide)) nC_c))
      · rw [pu_rne hb2, pu_rne (by omega)]
        exact hoth b hb1 hb2
  have hout : ∀ q k, k + q = l.length → ∀ I1 J1, MS I0 I1 → NC (J1 a) (fp (gc K (lw j) l k) 100) → (∀ b, b = 60 ∨ b = 61 → b ≠ a → J1 b = J0 b) → ∀ l4 l5 l6 : Option Value, am_W X (d + 46) 254 7 [some (.ref 47), some (.ref a), some (.int (nI j)), some (.int (nI k)), l4, l5, l6] [] (n, sl, t, I1, J1, F) Q := by
    intro q
    induction q with
    | zero =>
      intro k hk I1 J1 hM hNC hoth l4 l5 l6
      obtain rfl : k = l.length := by omega
      have e24 : I1 47 24 = I0 47 24 := hM.2 24 (by decide) (by decide) (by decide) (by decide)
      rw [r254_7]
      simp only [↓r254_8, ↓r254_9, ↓r254_12, ↓r254_118, e24, h1, Int32.le_refl, Bool.false_eq_true, hn, hn2, ht, hF, am_wt, am_wf, Option.isSome_some, am_rf_s, am_rf_n, ps_lit, nI_add, nI_1, pk_mul, ps_cl, ps_neg, ps_c0, ps_c1, ps_n01, ps_n11, ps_10, ps_b01, ps_e0, pu_Ine, pu_Ieq, pu_ne, pu_eq, am_k_n, am_k_i, am_k_r, am_k_u, am_k_l, am_sz_0, am_sz_i, am_sz_r, am_sz_u, am_sz_l, Option.toList_some, Option.toList_none, List.cons_append, List.nil_append, true_and, and_true, or_false, false_or, or_self, or_true, true_or, not_false_eq_true, not_true_eq_false, Classical.not_not, ne_eq, ps_e1, ps_em, ps_z, Nat.not_le, false_implies, true_implies, forall_const, ps_01, ps_1n, ps_0n, ps_m10, ps_m1n, lg_cmp_gt, lg_cmp_ge, lg_cmp_le, lg_cmp_lt, lg_cmp_eq, pu_rne, pu_req, pu_uro, RFc_n, Nat.reduceAdd, Nat.reduceMul, Nat.reduceLT, Nat.reduceLeDiff, Nat.reduceEqDiff, Nat.reduceSub]
      exact hQ I1 J1 hM hNC hoth
    | succ q ih =>
      intro k hk I1 J1 hM hNC hoth l4 l5 l6
      have hkl : k < l.length := by omega
      obtain ⟨g1, g2⟩ := h3 k hkl
      have hCK := (hCKs I1 hM).2
      obtain ⟨w1, w2⟩ := kid_w hCK g2
      have e24 : I1 47 24 = I0 47 24 := hM.2 24 (by decide) (by decide) (by decide) (by decide)
      have e59 : I1 59 = I0 59 := hM.1 59 (by decide) (by decide)
      have z1 : k < 2000000 ∧ l.length < 2000000 ∧ k < 120 := by omega
      have z2 : ¬ l.length ≤ k := by omega
      have y1 : nI (wN K (l.getD k 0)) / nI 10 = nI (mn K (l.getD k 0)) := pk_div (by omega) (by decide) (by decide)
      have y2 : ¬ nI 10 = 0 := by decide
      have hmn : mn K (l.getD k 0) ≤ 20 := by unfold mn; omega
      have hpb := gc_pb (K := K) (lc := lw j) (l := l) k (fun i hi => hwb i (by omega))
      have hpb2 := gc_pb (K := K) (lc := lw j) (l := l) (k + 1) (fun i hi => hwb i (by omega))
      have ih' := ih (k + 1) (by omega)
      rw [gc_p] at ih' hpb2
      rw [r254_7]
      by_cases c1 : fTr K (l.getD k 0) = true
      · rw [if_pos c1] at ih' hpb2
        simp only [↓r254_8, ↓r254_9, ↓r254_12, ↓r254_15, ↓r254_16, ↓r254_19, ↓r254_20, ↓r254_20k, ↓r254_21, ↓r254_23, ↓r254_24, ↓r254_26, ↓r254_29, ↓r254_32, ↓r254_35, ↓r254_36, ↓r254_38, ↓r254_41, ↓r254_43, ↓r254_44, ↓r254_46, ↓r254_47, ↓k_at (K := K) (N := N), ↓k_isTried (K := K) (N := N), ↓k_side (K := K) (N := N), ↓k_thing (K := K) (N := N), ↓k_isFound (K := K) (N := N), ↓m_factOf (K := K) (N := N), ↓m_isTried (K := K) (N := N), ↓m_took (K := K) (N := N), ↓m_waited (K := K) (N := N), ↓m_isLong (K := K) (N := N), ↓m_isShort (K := K) (N := N), ↓m_thingOf (K := K) (N := N), ↓m_isFound (K := K) (N := N), ↓m_many (K := K) (N := N), ↓c_within, ↓s_lies, hCK, b01, b11, hCK, q_le, q_lt, q_eq, q_e0, q_e1, q_0e, q_1e, ps_n0, q_0le, q_le0, q_0lt, q_m1e, q_em1, e24, e59, h1, g1, g2, z1, z2, w1, y1, y2, c1, am_k_i, am_k_n, if_true, Bool.false_eq_true, hn, hn2, ht, hF, am_wt, am_wf, Option.isSome_some, am_rf_s, am_rf_n, ps_lit, nI_add, nI_1, pk_mul, ps_cl, ps_neg, ps_c0, ps_c1, ps_n01, ps_n11, ps_10, ps_b01, ps_e0, pu_Ine, pu_Ieq, pu_ne, pu_eq, am_k_n, am_k_i, am_k_r, am_k_u, am_k_l, am_sz_0, am_sz_i, am_sz_r, am_sz_u, am_sz_l, Option.toList_some, Option.toList_none, List.cons_append, List.nil_append, true_and, and_true, or_false, false_or, or_self, or_true, true_or, not_false_eq_true, not_true_eq_false, Classical.not_not, ne_eq, ps_e1, ps_em, ps_z, Nat.not_le, false_implies, true_implies, forall_const, ps_01, ps_1n, ps_0n, ps_m10, ps_m1n, lg_cmp_gt, lg_cmp_ge, lg_cmp_le, lg_cmp_lt, lg_cmp_eq, pu_rne, pu_req, pu_uro, RFc_n, Nat.reduceAdd, Nat.reduceMul, Nat.reduceLT, Nat.reduceLeDiff, Nat.reduceEqDiff, Nat.reduceSub]
        refine hmin k (l.getD k 0) (gc K (lw j) l k) (20 * k) g2 hmn hpb (by omega) (fun I2 J2 hM2 hN2 ho2 => ?_) (mn K (l.getD k 0)) 0 (by omega) I1 J1 hM hNC hoth
        have hCK2 := (hCKs I2 hM2).2
        by_cases c2 : K (15 * l.getD k 0 + 10) = 0
        · by_cases c3 : mn K (l.getD k 0) < 20
          · rw [if_pos ⟨c2, c3⟩] at ih' hpb2
            have z3 : wN K (l.getD k 0) < 2000000 := by omega
            have z4 : ¬ 200 ≤ wN K (l.getD k 0) := by unfold mn at c3; omega
            simp only [↓r254_78, ↓r254_79, ↓r254_81, ↓r254_84, ↓r254_87, ↓r254_88, ↓r254_90, ↓r254_93, ↓r254_96, ↓r254_99, ↓r254_99n, ↓r254_100, ↓r254_101, ↓r254_102, ↓r254_104, ↓r254_106, ↓k_at (K := K) (N := N), ↓k_isTried (K := K) (N := N), ↓k_side (K := K) (N := N), ↓k_thing (K := K) (N := N), ↓k_isFound (K := K) (N := N), ↓m_factOf (K := K) (N := N), ↓m_isTried (K := K) (N := N), ↓m_took (K := K) (N := N), ↓m_waited (K := K) (N := N), ↓m_isLong (K := K) (N := N), ↓m_isShort (K := K) (N := N), ↓m_thingOf (K := K) (N := N), ↓m_isFound (K := K) (N := N), ↓m_many (K := K) (N := N), ↓c_within, ↓s_lies, hCK, b01, b11, hCK2, q_le, q_lt, q_eq, q_e0, q_e1, q_0e, q_1e, ps_n0, q_0le, q_le0, q_0lt, q_m1e, q_em1, g2, z3, z4, w1, c2, if_true, Bool.false_eq_true, hn, hn2, ht, hF, am_wt, am_wf, Option.isSome_some, am_rf_s, am_rf_n, ps_lit, nI_add, nI_1, pk_mul, ps_cl, ps_neg, ps_c0, ps_c1, ps_n01, ps_n11, ps_10, ps_b01, ps_e0, pu_Ine, pu_Ieq, pu_ne, pu_eq, am_k_n, am_k_i, am_k_r, am_k_u, am_k_l, am_sz_0, am_sz_i, am_sz_r, am_sz_u, am_sz_l, Option.toList_some, Option.toList_none, List.cons_append, List.nil_append, true_and, and_true, or_false, false_or, or_self, or_true, true_or, not_false_eq_true, not_true_eq_false, Classical.not_not, ne_eq, ps_e1, ps_em, ps_z, Nat.not_le, false_implies, true_implies, forall_const, ps_01, ps_1n, ps_0n, ps_m10, ps_m1n, lg_cmp_gt, lg_cmp_ge, lg_cmp_le, lg_cmp_lt, lg_cmp_eq, pu_rne, pu_req, pu_uro, RFc_n, Nat.reduceAdd, Nat.reduceMul, Nat.reduceLT, Nat.reduceLeDiff, Nat.reduceEqDiff, Nat.reduceSub]
            refine m_chanceOf (hCKs I2 hM2).1 hj g2 (by omega) (hCKs I2 hM2).1.2.2.1 (fun f47 f58 g47 q1 => ?_)
            have hM3 := MS_t hM2 (MS_c (f58 := f58) q1)
            have hc9 := chc_b (K := K) (lc := lw j) (c := l.getD k 0) (m := mn K (l.getD k 0))
            have e1 := grow1 (am_ro (am_ro I2 47 f47) 58 f58) (am_ro J2 47 g47) _ (chV (lw j) (wd K (l.getD k 0) (nI (mn K (l.getD k 0))))) (by rw [pu_rne r4]; exact hN2) (by have : chV (lw j) (wd K (l.getD k 0) (nI (mn K (l.getD k 0)))) ≤ 99 := hc9.2; omega)
            simp only [↓r254_109, ↓r254_112, ↓r254_115, ↓e1, Bool.false_eq_true, hn, hn2, ht, hF, am_wt, am_wf, Option.isSome_some, am_rf_s, am_rf_n, ps_lit, nI_add, nI_1, pk_mul, ps_cl, ps_neg, ps_c0, ps_c1, ps_n01, ps_n11, ps_10, ps_b01, ps_e0, pu_Ine, pu_Ieq, pu_ne, pu_eq, am_k_n, am_k_i, am_k_r, am_k_u, am_k_l, am_sz_0, am_sz_i, am_sz_r, am_sz_u, am_sz_l, Option.toList_some, Option.toList_none, List.cons_append, List.nil_append, true_and, and_true, or_false, false_or, or_self, or_true, true_or, not_false_eq_true, not_true_eq_false, Classical.not_not, ne_eq, ps_e1, ps_em, ps_z, Nat.not_le, false_implies, true_implies, forall_const, ps_01, ps_1n, ps_0n, ps_m10, ps_m1n, lg_cmp_gt, lg_cmp_ge, lg_cmp_le, lg_cmp_lt, lg_cmp_eq, pu_rne, pu_req, pu_uro, RFc_n, Nat.reduceAdd, Nat.reduceMul, Nat.reduceLT, Nat.reduceLeDiff, Nat.reduceEqDiff, Nat.reduceSub]
            refine ih' _ _ hM3 ?_ (fun b hb1 hb2 => ?_) _ _ _
            · rw [pu_req]
              exact NC_w (Nat.lt_of_le_of_lt (Nat.le_trans hpb2 (n99 (by omega))) (Nat.lt_of_le_of_lt (Nat.le_mul_of_pos_right nC (by decide)) nC_c))
            · rw [pu_rne hb2, pu_rne (by omega)]
              exact ho2 b hb1 hb2
          · rw [if_neg (fun q => c3 q.2)] at ih'
            have z3 : wN K (l.getD k 0) < 2000000 := by omega
            have z4 : 200 ≤ wN K (l.getD k 0) := by unfold mn at c3; omega
            simp only [↓r254_78, ↓r254_79, ↓r254_81, ↓r254_84, ↓r254_87, ↓r254_88, ↓r254_90, ↓r254_93, ↓r254_96, ↓r254_112, ↓r254_115, ↓k_at (K := K) (N := N), ↓k_isTried (K := K) (N := N), ↓k_side (K := K) (N := N), ↓k_thing (K := K) (N := N), ↓k_isFound (K := K) (N := N), ↓m_factOf (K := K) (N := N), ↓m_isTried (K := K) (N := N), ↓m_took (K := K) (N := N), ↓m_waited (K := K) (N := N), ↓m_isLong (K := K) (N := N), ↓m_isShort (K := K) (N := N), ↓m_thingOf (K := K) (N := N), ↓m_isFound (K := K) (N := N), ↓m_many (K := K) (N := N), ↓c_within, ↓s_lies, hCK, b01, b11, hCK2, q_le, q_lt, q_eq, q_e0, q_e1, q_0e, q_1e, ps_n0, q_0le, q_le0, q_0lt, q_m1e, q_em1, g2, z3, z4, w1, c2, if_true, Bool.false_eq_true, hn, hn2, ht, hF, am_wt, am_wf, Option.isSome_some, am_rf_s, am_rf_n, ps_lit, nI_add, nI_1, pk_mul, ps_cl, ps_neg, ps_c0, ps_c1, ps_n01, ps_n11, ps_10, ps_b01, ps_e0, pu_Ine, pu_Ieq, pu_ne, pu_eq, am_k_n, am_k_i, am_k_r, am_k_u, am_k_l, am_sz_0, am_sz_i, am_sz_r, am_sz_u, am_sz_l, Option.toList_some, Option.toList_none, List.cons_append, List.nil_append, true_and, and_true, or_false, false_or, or_self, or_true, true_or, not_false_eq_true, not_true_eq_false, Classical.not_not, ne_eq, ps_e1, ps_em, ps_z, Nat.not_le, false_implies, true_implies, forall_const, ps_01, ps_1n, ps_0n, ps_m10, ps_m1n, lg_cmp_gt, lg_cmp_ge, lg_cmp_le, lg_cmp_lt, lg_cmp_eq, pu_rne, pu_req, pu_uro, RFc_n, Nat.reduceAdd, Nat.reduceMul, Nat.reduceLT, Nat.reduceLeDiff, Nat.reduceEqDiff, Nat.reduceSub]
            exact ih' I2 J2 hM2 hN2 ho2 _ _ _
        · rw [if_neg (fun q => c2 q.1)] at ih'
          simp only [↓r254_78, ↓r254_79, ↓r254_81, ↓r254_84, ↓r254_112, ↓r254_115, ↓k_at (K := K) (N := N), ↓k_isTried (K := K) (N := N), ↓k_side (K := K) (N := N), ↓k_thing (K := K) (N := N), ↓k_isFound (K := K) (N := N), ↓m_factOf (K := K) (N := N), ↓m_isTried (K := K) (N := N), ↓m_took (K := K) (N := N), ↓m_waited (K := K) (N := N), ↓m_isLong (K := K) (N := N), ↓m_isShort (K := K) (N := N), ↓m_thingOf (K := K) (N := N), ↓m_isFound (K := K) (N := N), ↓m_many (K := K) (N := N), ↓c_within, ↓s_lies, hCK, b01, b11, hCK2, q_le, q_lt, q_eq, q_e0, q_e1, q_0e, q_1e, ps_n0, q_0le, q_le0, q_0lt, q_m1e, q_em1, g2, c2, if_false, Bool.false_eq_true, hn, hn2, ht, hF, am_wt, am_wf, Option.isSome_some, am_rf_s, am_rf_n, ps_lit, nI_add, nI_1, pk_mul, ps_cl, ps_neg, ps_c0, ps_c1, ps_n01, ps_n11, ps_10, ps_b01, ps_e0, pu_Ine, pu_Ieq, pu_ne, pu_eq, am_k_n, am_k_i, am_k_r, am_k_u, am_k_l, am_sz_0, am_sz_i, am_sz_r, am_sz_u, am_sz_l, Option.toList_some, Option.toList_none, List.cons_append, List.nil_append, true_and, and_true, or_false, false_or, or_self, or_true, true_or, not_false_eq_true, not_true_eq_false, Classical.not_not, ne_eq, ps_e1, ps_em, ps_z, Nat.not_le, false_implies, true_implies, forall_const, ps_01, ps_1n, ps_0n, ps_m10, ps_m1n, lg_cmp_gt, lg_cmp_ge, lg_cmp_le, lg_cmp_lt, lg_cmp_eq, pu_rne, pu_req, pu_uro, RFc_n, Nat.reduceAdd, Nat.reduceMul, Nat.reduceLT, Nat.reduceLeDiff, Nat.reduceEqDiff, Nat.reduceSub]
          exact ih' I2 J2 hM2 hN2 ho2 _ _ _
      · rw [if_neg c1] at ih'
        simp only [↓r254_8, ↓r254_9, ↓r254_12, ↓r254_15, ↓r254_16, ↓r254_19, ↓r254_20, ↓r254_20k, ↓r254_21, ↓r254_23, ↓r254_24, ↓r254_26, ↓r254_29, ↓r254_32, ↓r254_112, ↓r254_115, ↓k_at (K := K) (N := N), ↓k_isTried (K := K) (N := N), ↓k_side (K := K) (N := N), ↓k_thing (K := K) (N := N), ↓k_isFound (K := K) (N := N), ↓m_factOf (K := K) (N := N), ↓m_isTried (K := K) (N := N), ↓m_took (K := K) (N := N), ↓m_waited (K := K) (N := N), ↓m_isLong (K := K) (N := N), ↓m_isShort (K := K) (N := N), ↓m_thingOf (K := K) (N := N), ↓m_isFound (K := K) (N := N), ↓m_many (K := K) (N := N), ↓c_within, ↓s_lies, hCK, b01, b11, hCK, q_le, q_lt, q_eq, q_e0, q_e1, q_0e, q_1e, ps_n0, q_0le, q_le0, q_0lt, q_m1e, q_em1, e24, e59, h1, g1, g2, z1, z2, c1, am_k_i, am_k_n, if_false, Bool.false_eq_true, hn, hn2, ht, hF, am_wt, am_wf, Option.isSome_some, am_rf_s, am_rf_n, ps_lit, nI_add, nI_1, pk_mul, ps_cl, ps_neg, ps_c0, ps_c1, ps_n01, ps_n11, ps_10, ps_b01, ps_e0, pu_Ine, pu_Ieq, pu_ne, pu_eq, am_k_n, am_k_i, am_k_r, am_k_u, am_k_l, am_sz_0, am_sz_i, am_sz_r, am_sz_u, am_sz_l, Option.toList_some, Option.toList_none, List.cons_append, List.nil_append, true_and, and_true, or_false, false_or, or_self, or_true, true_or, not_false_eq_true, not_true_eq_false, Classical.not_not, ne_eq, ps_e1, ps_em, ps_z, Nat.not_le, false_implies, true_implies, forall_const, ps_01, ps_1n, ps_0n, ps_m10, ps_m1n, lg_cmp_gt, lg_cmp_ge, lg_cmp_le, lg_cmp_lt, lg_cmp_eq, pu_rne, pu_req, pu_uro, RFc_n, Nat.reduceAdd, Nat.reduceMul, Nat.reduceLT, Nat.reduceLeDiff, Nat.reduceEqDiff, Nat.reduceSub]
        exact ih' I1 J1 hM hNC hoth _ _ _
  have e1 := fun Q => m_be (X := X) (d := d + 45) (Q := Q) (sl := sl) (I := I0) (J := J0) (F := F) (a := a) hn2 r1 r3
  simp only [↓r254_0, ↓r254_0n, ↓r254_1, ↓r254_2, ↓r254_5, ↓r254_6, ↓e1, Bool.false_eq_true, hn, hn2, ht, hF, am_wt, am_wf, Option.isSome_some, am_rf_s, am_rf_n, ps_lit, nI_add, nI_1, pk_mul, ps_cl, ps_neg, ps_c0, ps_c1, ps_n01, ps_n11, ps_10, ps_b01, ps_e0, pu_Ine, pu_Ieq, pu_ne, pu_eq, am_k_n, am_k_i, am_k_r, am_k_u, am_k_l, am_sz_0, am_sz_i, am_sz_r, am_sz_u, am_sz_l, Option.toList_some, Option.toList_none, List.cons_append, List.nil_append, true_and, and_true, or_false, false_or, or_self, or_true, true_or, not_false_eq_true, not_true_eq_false, Classical.not_not, ne_eq, ps_e1, ps_em, ps_z, Nat.not_le, false_implies, true_implies, forall_const, ps_01, ps_1n, ps_0n, ps_m10, ps_m1n, lg_cmp_gt, lg_cmp_ge, lg_cmp_le, lg_cmp_lt, lg_cmp_eq, pu_rne, pu_req, pu_uro, RFc_n, Nat.reduceAdd, Nat.reduceMul, Nat.reduceLT, Nat.reduceLeDiff, Nat.reduceEqDiff, Nat.reduceSub]
  refine hout l.length 0 (by omega) I0 _ MS_r ?_ (fun b hb1 hb2 => pu_rne hb2) _ _ _
  rw [pu_req, show gc K (lw j) l 0 = fun _ => 0 from rfl, fp_z]
  exact NC_w (Nat.lt_of_le_of_lt (by show 1 ≤ nC * 2000000; decide +kernel) nC_c)
end PM
