/-! calls, one on each side: a child, hides, feed -/
section PB1
variable {X : am_X} {d : Nat} {Q : Option Value → am_H → Prop} {n sl : Nat} {t : Nat → Nat × Nat} {I : Nat → Nat → Int32} {J : Nat → Nat → Int64} {F : Nat → Nat → Option Nat} {h : am_H}
theorem pr_child_x {h w l u y v : Int32} : (FC 0 h ∧ FC 1 w ∧ FC (nI 2) l ∧ FC (nI 3) u ∧ FC (nI 4) y ∧ FC (nI 5) v) ↔ (0 ≤ h ∧ h ≤ nI 5) ∧ (0 ≤ w ∧ w ≤ nI 9) ∧ (0 ≤ l ∧ l ≤ nI 9) ∧ (0 ≤ u ∧ u ≤ nI 9) ∧ (0 ≤ y ∧ y ≤ nI 7) ∧ (0 ≤ v ∧ v ≤ nI 23) := by
  have key : ∀ (j : Nat) (x : Int32), j < 8 → (FC (nI j) x ↔ (0 ≤ x ∧ x ≤ nI (fm j))) := by
    intro j x hj
    constructor
    · rintro ⟨k, hk, e, q⟩
      have := (nI_eq (by omega) (by omega)).mp e
      subst this
      exact q
    · exact fun q => ⟨j, hj, rfl, q⟩
  have k0 := key 0 h (by decide)
  have k1 := key 1 w (by decide)
  rw [show FC 0 h ↔ _ from k0, show FC 1 w ↔ _ from k1, key 2 l (by decide), key 3 u (by decide), key 4 y (by decide), key 5 v (by decide)]
  exact Iff.rfl
/-- a new child's row -/
def nrow (a b c e f g : Int32) : Nat → Int32 := fun j => match j with
  | 0 => a
  | 1 => b
  | 2 => c
  | 3 => e
  | 4 => f
  | 5 => g
  | 10 => nI 3
  | 11 => -1
  | 12 => -1
  | 13 => -1
  | 14 => -1
  | _ => 0
def put15 (r : Nat → Int32) (N : Nat) (g : Nat → Int32) : Nat → Int32 := fun i => if 15 * N ≤ i ∧ i < 15 * N + 15 then g (i - 15 * N) else r i
theorem blk_put (r : Nat → Int32) (N : Nat) (a b c e f g : Int32) : upd (upd (upd (upd (upd (upd (upd (blk r N 15) (15 * N + 10) (nI 3)) (15 * N) a) (15 * N + 1) b) (15 * N + 2) c) (15 * N + 3) e) (15 * N + 4) f) (15 * N + 5) g = put15 r N (nrow a b c e f g) := by
  funext i
  unfold put15
  by_cases h : 15 * N ≤ i ∧ i < 15 * N + 15
  · obtain ⟨j, rfl⟩ : ∃ j, i = 15 * N + j := ⟨i - 15 * N, by omega⟩
    have hj : j < 15 := by omega
    rw [if_pos h, Nat.add_sub_cancel_left]
    match j, hj with
    | 0, _ => simp [upd, nrow]
    | 1, _ => simp [upd, nrow]
    | 2, _ => simp [upd, nrow]
    | 3, _ => simp [upd, nrow]
    | 4, _ => simp [upd, nrow]
    | 5, _ => simp [upd, nrow]
    | 6, _ => simp [upd, nrow, blk]
    | 7, _ => simp [upd, nrow, blk]
    | 8, _ => simp [upd, nrow, blk]
    | 9, _ => simp [upd, nrow, blk]
    | 10, _ => simp [upd, nrow]
    | 11, _ => simp [upd, nrow, blk]
    | 12, _ => simp [upd, nrow, blk]
    | 13, _ => simp [upd, nrow, blk]
    | 14, _ => simp [upd, nrow, blk]
  · rw [if_neg h, pu_ne (by omega), pu_ne (by omega), pu_ne (by omega), pu_ne (by omega), pu_ne (by omega), pu_ne (by omega), pu_ne (by omega)]
    unfold blk
    rw [if_neg (by omega)]
theorem blk_put2 (r : Nat → Int32) (N : Nat) (a b c e f g : Int32) : upd (upd (upd (upd (upd (upd (upd (blk r N 15) (15 * N) a) (15 * N + 1) b) (15 * N + 2) c) (15 * N + 3) e) (15 * N + 4) f) (15 * N + 5) g) (15 * N + 10) (nI 3) = put15 r N (nrow a b c e f g) := by
  rw [← blk_put]
  funext i
  unfold upd
  by_cases h : i = 15 * N + 10
  · subst h
    simp
  · simp [h]
theorem l_child {N : Nat} {a b c e f g : Int32} (hW : WS n t F) (hN : N < 120) : ∀ m j, j + m = 15 → (am_W X (d + 2) 172 91 [some (.ref 47), some (.int a), some (.int b), some (.int c), some (.int e), some (.int f), some (.int g), some (.int (nI N)), some (.int (nI j))] [] (n, sl, t, am_ro I 49 (blk (I 49) N j), J, F) Q ↔ Q (some (.int (nI N))) (n, sl, t, am_uI (am_ro I 49 (upd (put15 (I 49) N (nrow a b c e f g)) 1811 (I 49 1811 + 1))) 47 0 0, J, F)) := by
  obtain ⟨hn, hn2, ht, hF⟩ := id hW
  intro m
  induction m with
  | zero =>
    intro j hj
    obtain rfl : j = 15 := by omega
    rw [r172_91]
    have z (q : Nat) (hq : q < 15) : 15 * N + q < 2000000 ∧ 15 * N + q < 9823 ∧ 15 * N < 9823 - q ∧ 15 * N < 9823 ∧ 15 * N < 2000000 := by omega
    have z0 := z 0 (by decide)
    have z1 := z 1 (by decide)
    have z2 := z 2 (by decide)
    have z3 := z 3 (by decide)
    have z4 := z 4 (by decide)
    have z5 := z 5 (by decide)
    have z10 := z 10 (by decide)
    simp only [Nat.reduceSub] at z1 z2 z3 z4 z5 z10
    simp only [↓r172_0, ↓r172_1, ↓r172_2, ↓r172_3, ↓r172_6, ↓r172_9, ↓r172_10, ↓r172_11, ↓r172_13, ↓r172_16, ↓r172_19, ↓r172_20, ↓r172_21, ↓r172_23, ↓r172_26, ↓r172_29, ↓r172_31, ↓r172_32, ↓r172_34, ↓r172_37, ↓r172_40, ↓r172_42, ↓r172_43, ↓r172_45, ↓r172_48, ↓r172_51, ↓r172_53, ↓r172_54, ↓r172_56, ↓r172_59, ↓r172_62, ↓r172_63, ↓r172_64, ↓r172_67, ↓r172_68, ↓r172_69, ↓r172_72, ↓r172_74, ↓r172_76, ↓r172_78, ↓r172_81, ↓r172_82, ↓r172_84, ↓r172_87, ↓r172_88, ↓r172_89, ↓r172_93, ↓r172_95, ↓r172_98, ↓r172_99, ↓r172_102, ↓r172_103, ↓r172_105, ↓r172_107, ↓r172_110, ↓r172_112, ↓r172_114, ↓r172_117, ↓r172_118, ↓r172_121, ↓r172_122, ↓r172_123, ↓r172_126, ↓r172_129, ↓r172_130, ↓r172_133, ↓r172_134, ↓r172_136, ↓r172_137, ↓r172_140, ↓r172_141, ↓r172_142, ↓r172_143, ↓r172_146, ↓r172_147, ↓r172_149, ↓r172_150, ↓r172_153, ↓r172_154, ↓r172_155, ↓r172_156, ↓r172_159, ↓r172_160, ↓r172_162, ↓r172_163, ↓r172_166, ↓r172_167, ↓r172_168, ↓r172_169, ↓r172_172, ↓r172_173, ↓r172_175, ↓r172_176, ↓r172_179, ↓r172_181, ↓r172_182, ↓r172_183, ↓r172_186, ↓r172_187, ↓r172_189, ↓r172_190, ↓r172_193, ↓r172_195, ↓r172_196, ↓r172_197, ↓r172_200, ↓r172_201, ↓r172_203, ↓r172_204, ↓r172_207, ↓r172_209, ↓r172_210, ↓r172_211, ↓r172_214, ↓r172_215, ↓r172_217, ↓r172_219, ↓r172_222, ↓r172_223, ↓r172_224, ↓r172_225, ↓r172_228, ↓r172_231, ↓r172_232, ↓r172_232k, ↓r172_233, ↓r172_234, ↓r172_235, ↓r172_236, ↓r172_237, ↓r172_239, ↓r172_242, ↓c_within, ↓c_meansTried, ↓c_nearest, ↓c_accept, ↓c_rf1, ↓c_rf2, ↓c_rf3, ↓c_rf5, ↓c_rf6, ↓c_has, ↓c_atx, ↓c_putx, ↓c_put0, ↓c_put1, ↓s_at0, ↓s_at1, ↓c_isTriedx, ↓c_sidex, ↓c_thingx, ↓c_isFoundx, ↓s_lies, ↓s_rf1, ↓s_rf2, ↓s_rf3, ↓s_rf5, ↓s_rf6, ↓s_good, ↓s_many, ↓s_at, ↓s_isChild, ↓s_replacesx, ↓s_factOfx, ↓s_isTried, ↓s_took, ↓s_waited, ↓s_term0, ↓s_term1, ↓s_term2, ↓s_isLong, ↓s_isShort, ↓s_thingOfx, ↓s_isFoundx, ↓s_isText, ↓s_isGroup, hW, Int32.le_refl, z0.2.2.2.1, z0.2.2.2.2, z1.1, z1.2.1, z1.2.2.1, z2.1, z2.2.1, z2.2.2.1, z3.1, z3.2.1, z3.2.2.1, z4.1, z4.2.1, z4.2.2.1, z5.1, z5.2.1, z5.2.2.1, z10.1, z10.2.1, z10.2.2.1, blk_put2, (show ((15 * N + 10 : Nat) = 1811) = False from eq_false (by omega)), hn, hn2, ht, hF, am_wt, am_wf, Option.isSome_some, am_rf_s, am_rf_n, ps_lit, nI_add, nI_1, pk_mul, ps_cl, ps_neg, ps_c0, ps_c1, ps_n01, ps_n11, ps_10, ps_b01, ps_e0, pu_Ine, pu_Ieq, pu_ne, pu_eq, am_k_n, am_k_i, am_k_r, am_k_u, am_k_l, am_sz_0, am_sz_i, am_sz_r, am_sz_u, am_sz_l, Option.toList_some, Option.toList_none, List.cons_append, List.nil_append, true_and, and_true, or_false, false_or, or_self, or_true, true_or, not_false_eq_true, not_true_eq_false, Classical.not_not, ne_eq, ps_e1, ps_em, ps_z, Nat.not_le, false_implies, true_implies, forall_const, ps_01, ps_1n, ps_0n, ps_m10, ps_m1n, lg_cmp_gt, lg_cmp_ge, lg_cmp_le, lg_cmp_lt, lg_cmp_eq, pu_rne, pu_req, pu_uro, RFc_n, Nat.reduceAdd, Nat.reduceMul, Nat.reduceLT, Nat.reduceLeDiff, Nat.reduceEqDiff, Nat.reduceSub]
    have e9 : put15 (I 49) N (nrow a b c e f g) 1811 = I 49 1811 := by
      unfold put15
      rw [if_neg (by omega)]
    rw [e9]
  | succ m ih =>
    intro j hj
    rw [r172_91]
    have e1 : ¬ nI 15 ≤ nI j := nI_ge (by omega) (by decide)
    have z1 : 15 * N + j < 2000000 := by omega
    have z2 : 15 * N + j < 9823 := by omega
    have e4 := blk_s (I 49) N j
    by_cases h11 : 11 ≤ j
    · have e2 : ¬ nI j < nI 11 := nI_nlt (by omega) (by omega)
      rw [if_pos h11] at e4
      simp only [↓r172_0, ↓r172_1, ↓r172_2, ↓r172_3, ↓r172_6, ↓r172_9, ↓r172_10, ↓r172_11, ↓r172_13, ↓r172_16, ↓r172_19, ↓r172_20, ↓r172_21, ↓r172_23, ↓r172_26, ↓r172_29, ↓r172_31, ↓r172_32, ↓r172_34, ↓r172_37, ↓r172_40, ↓r172_42, ↓r172_43, ↓r172_45, ↓r172_48, ↓r172_51, ↓r172_53, ↓r172_54, ↓r172_56, ↓r172_59, ↓r172_62, ↓r172_63, ↓r172_64, ↓r172_67, ↓r172_68, ↓r172_69, ↓r172_72, ↓r172_74, ↓r172_76, ↓r172_78, ↓r172_81, ↓r172_82, ↓r172_84, ↓r172_87, ↓r172_88, ↓r172_89, ↓r172_93, ↓r172_95, ↓r172_98, ↓r172_99, ↓r172_102, ↓r172_103, ↓r172_105, ↓r172_107, ↓r172_110, ↓r172_112, ↓r172_114, ↓r172_117, ↓r172_118, ↓r172_121, ↓r172_122, ↓r172_123, ↓r172_126, ↓r172_129, ↓r172_130, ↓r172_133, ↓r172_134, ↓r172_136, ↓r172_137, ↓r172_140, ↓r172_141, ↓r172_142, ↓r172_143, ↓r172_146, ↓r172_147, ↓r172_149, ↓r172_150, ↓r172_153, ↓r172_154, ↓r172_155, ↓r172_156, ↓r172_159, ↓r172_160, ↓r172_162, ↓r172_163, ↓r172_166, ↓r172_167, ↓r172_168, ↓r172_169, ↓r172_172, ↓r172_173, ↓r172_175, ↓r172_176, ↓r172_179, ↓r172_181, ↓r172_182, ↓r172_183, ↓r172_186, ↓r172_187, ↓r172_189, ↓r172_190, ↓r172_193, ↓r172_195, ↓r172_196, ↓r172_197, ↓r172_200, ↓r172_201, ↓r172_203, ↓r172_204, ↓r172_207, ↓r172_209, ↓r172_210, ↓r172_211, ↓r172_214, ↓r172_215, ↓r172_217, ↓r172_219, ↓r172_222, ↓r172_223, ↓r172_224, ↓r172_225, ↓r172_228, ↓r172_231, ↓r172_232, ↓r172_232k, ↓r172_233, ↓r172_234, ↓r172_235, ↓r172_236, ↓r172_237, ↓r172_239, ↓r172_242, ↓c_within, ↓c_meansTried, ↓c_nearest, ↓c_accept, ↓c_rf1, ↓c_rf2, ↓c_rf3, ↓c_rf5, ↓c_rf6, ↓c_has, ↓c_atx, ↓c_putx, ↓c_put0, ↓c_put1, ↓s_at0, ↓s_at1, ↓c_isTriedx, ↓c_sidex, ↓c_thingx, ↓c_isFoundx, ↓s_lies, ↓s_rf1, ↓s_rf2, ↓s_rf3, ↓s_rf5, ↓s_rf6, ↓s_good, ↓s_many, ↓s_at, ↓s_isChild, ↓s_replacesx, ↓s_factOfx, ↓s_isTried, ↓s_took, ↓s_waited, ↓s_term0, ↓s_term1, ↓s_term2, ↓s_isLong, ↓s_isShort, ↓s_thingOfx, ↓s_isFoundx, ↓s_isText, ↓s_isGroup, hW, e1, e2, z1, z2, e4, hn, hn2, ht, hF, am_wt, am_wf, Option.isSome_some, am_rf_s, am_rf_n, ps_lit, nI_add, nI_1, pk_mul, ps_cl, ps_neg, ps_c0, ps_c1, ps_n01, ps_n11, ps_10, ps_b01, ps_e0, pu_Ine, pu_Ieq, pu_ne, pu_eq, am_k_n, am_k_i, am_k_r, am_k_u, am_k_l, am_sz_0, am_sz_i, am_sz_r, am_sz_u, am_sz_l, Option.toList_some, Option.toList_none, List.cons_append, List.nil_append, true_and, and_true, or_false, false_or, or_self, or_true, true_or, not_false_eq_true, not_true_eq_false, Classical.not_not, ne_eq, ps_e1, ps_em, ps_z, Nat.not_le, false_implies, true_implies, forall_const, ps_01, ps_1n, ps_0n, ps_m10, ps_m1n, lg_cmp_gt, lg_cmp_ge, lg_cmp_le, lg_cmp_lt, lg_cmp_eq, pu_rne, pu_req, pu_uro, RFc_n, Nat.reduceAdd, Nat.reduceMul, Nat.reduceLT, Nat.reduceLeDiff, Nat.reduceEqDiff, Nat.reduceSub]
      exact ih (j + 1) (by omega)
    · have e2 : nI j < nI 11 := nI_lt (by omega) (by omega)
      rw [if_neg h11] at e4
      simp only [↓r172_0, ↓r172_1, ↓r172_2, ↓r172_3, ↓r172_6, ↓r172_9, ↓r172_10, ↓r172_11, ↓r172_13, ↓r172_16, ↓r172_19, ↓r172_20, ↓r172_21, ↓r172_23, ↓r172_26, ↓r172_29, ↓r172_31, ↓r172_32, ↓r172_34, ↓r172_37, ↓r172_40, ↓r172_42, ↓r172_43, ↓r172_45, ↓r172_48, ↓r172_51, ↓r172_53, ↓r172_54, ↓r172_56, ↓r172_59, ↓r172_62, ↓r172_63, ↓r172_64, ↓r172_67, ↓r172_68, ↓r172_69, ↓r172_72, ↓r172_74, ↓r172_76, ↓r172_78, ↓r172_81, ↓r172_82, ↓r172_84, ↓r172_87, ↓r172_88, ↓r172_89, ↓r172_93, ↓r172_95, ↓r172_98, ↓r172_99, ↓r172_102, ↓r172_103, ↓r172_105, ↓r172_107, ↓r172_110, ↓r172_112, ↓r172_114, ↓r172_117, ↓r172_118, ↓r172_121, ↓r172_122, ↓r172_123, ↓r172_126, ↓r172_129, ↓r172_130, ↓r172_133, ↓r172_134, ↓r172_136, ↓r172_137, ↓r172_140, ↓r172_141, ↓r172_142, ↓r172_143, ↓r172_146, ↓r172_147, ↓r172_149, ↓r172_150, ↓r172_153, ↓r172_154, ↓r172_155, ↓r172_156, ↓r172_159, ↓r172_160, ↓r172_162, ↓r172_163, ↓r172_166, ↓r172_167, ↓r172_168, ↓r172_169, ↓r172_172, ↓r172_173, ↓r172_175, ↓r172_176, ↓r172_179, ↓r172_181, ↓r172_182, ↓r172_183, ↓r172_186, ↓r172_187, ↓r172_189, ↓r172_190, ↓r172_193, ↓r172_195, ↓r172_196, ↓r172_197, ↓r172_200, ↓r172_201, ↓r172_203, ↓r172_204, ↓r172_207, ↓r172_209, ↓r172_210, ↓r172_211, ↓r172_214, ↓r172_215, ↓r172_217, ↓r172_219, ↓r172_222, ↓r172_223, ↓r172_224, ↓r172_225, ↓r172_228, ↓r172_231, ↓r172_232, ↓r172_232k, ↓r172_233, ↓r172_234, ↓r172_235, ↓r172_236, ↓r172_237, ↓r172_239, ↓r172_242, ↓c_within, ↓c_meansTried, ↓c_nearest, ↓c_accept, ↓c_rf1, ↓c_rf2, ↓c_rf3, ↓c_rf5, ↓c_rf6, ↓c_has, ↓c_atx, ↓c_putx, ↓c_put0, ↓c_put1, ↓s_at0, ↓s_at1, ↓c_isTriedx, ↓c_sidex, ↓c_thingx, ↓c_isFoundx, ↓s_lies, ↓s_rf1, ↓s_rf2, ↓s_rf3, ↓s_rf5, ↓s_rf6, ↓s_good, ↓s_many, ↓s_at, ↓s_isChild, ↓s_replacesx, ↓s_factOfx, ↓s_isTried, ↓s_took, ↓s_waited, ↓s_term0, ↓s_term1, ↓s_term2, ↓s_isLong, ↓s_isShort, ↓s_thingOfx, ↓s_isFoundx, ↓s_isText, ↓s_isGroup, hW, e1, e2, z1, z2, e4, hn, hn2, ht, hF, am_wt, am_wf, Option.isSome_some, am_rf_s, am_rf_n, ps_lit, nI_add, nI_1, pk_mul, ps_cl, ps_neg, ps_c0, ps_c1, ps_n01, ps_n11, ps_10, ps_b01, ps_e0, pu_Ine, pu_Ieq, pu_ne, pu_eq, am_k_n, am_k_i, am_k_r, am_k_u, am_k_l, am_sz_0, am_sz_i, am_sz_r, am_sz_u, am_sz_l, Option.toList_some, Option.toList_none, List.cons_append, List.nil_append, true_and, and_true, or_false, false_or, or_self, or_true, true_or, not_false_eq_true, not_true_eq_false, Classical.not_not, ne_eq, ps_e1, ps_em, ps_z, Nat.not_le, false_implies, true_implies, forall_const, ps_01, ps_1n, ps_0n, ps_m10, ps_m1n, lg_cmp_gt, lg_cmp_ge, lg_cmp_le, lg_cmp_lt, lg_cmp_eq, pu_rne, pu_req, pu_uro, RFc_n, Nat.reduceAdd, Nat.reduceMul, Nat.reduceLT, Nat.reduceLeDiff, Nat.reduceEqDiff, Nat.reduceSub]
      exact ih (j + 1) (by omega)
theorem l_child0 {N : Nat} {a b c e f g : Int32} (hW : WS n t F) (hN : N < 120) : am_W X (d + 2) 172 91 [some (.ref 47), some (.int a), some (.int b), some (.int c), some (.int e), some (.int f), some (.int g), some (.int (nI N)), some (.int 0)] [] (n, sl, t, I, J, F) Q ↔ Q (some (.int (nI N))) (n, sl, t, am_uI (am_ro I 49 (upd (put15 (I 49) N (nrow a b c e f g)) 1811 (I 49 1811 + 1))) 47 0 0, J, F) := by
  have e := l_child (X := X) (d := d) (Q := Q) (sl := sl) (J := J) (I := I) (a := a) (b := b) (c := c) (e := e) (f := f) (g := g) hW hN 15 0 rfl
  rw [blk_0, pu_roI] at e
  exact e
theorem FC_iff {j : Nat} {x : Int32} (hj : j < 8) : FC (nI j) x ↔ (0 ≤ x ∧ x ≤ nI (fm j)) := by
  constructor
  · rintro ⟨k, hk, e, q⟩
    have := (nI_eq (by omega) (by omega)).mp e
    subst this
    exact q
  · exact fun q => ⟨j, hj, rfl, q⟩
theorem RV_of {j : Nat} {x : Int32} (h : 0 ≤ x ∧ x ≤ nI (fm j)) : RV j x := by
  obtain ⟨w, hw, rfl⟩ := ps_rng (M := fm j) (Nat.lt_trans (fm_lt j) (by decide)) h
  exact Or.inr ⟨w, hw, rfl⟩
theorem KR_new {c : Int32} {r u m K : Nat → Int32} {N T : Nat} {x0 x1 x2 x3 x4 x5 : Int32} (h : KW K N T) (hN : N < 120) (hc : c = nI T) (hr : ∀ j, j < 15 * N → r j = K j) (hu : ∀ j, j < 3 → u j = K (1808 + j)) (hm : ∀ j, j < 8 → m j = K (1800 + j)) (a0 : RV 0 x0) (a1 : RV 1 x1) (a2 : RV 2 x2) (a3 : RV 3 x3) (a4 : RV 4 x4) (a5 : RV 5 x5) :
    KR (nI (N + 1)) c (put15 r N (nrow x0 x1 x2 x3 x4 x5)) u m (upd (put15 K N (nrow x0 x1 x2 x3 x4 x5)) 1811 (nI (N + 1))) := by
  obtain ⟨h1, h2, h3, h4, h5, h6, h7, h8, h9⟩ := h
  have big : ∀ k, 1800 ≤ k → put15 K N (nrow x0 x1 x2 x3 x4 x5) k = K k := fun k hk => by
    unfold put15
    rw [if_neg (by omega)]
  refine ⟨N + 1, T, ⟨by omega, h2, pu_eq, ?_, fun c' hc' f' hf' => ?_, ?_, ?_, ?_, fun f' hf' => ?_⟩, rfl, hc, fun j hj => ?_, fun j hj => ?_, fun j hj => ?_⟩
  · rw [pu_ne (by omega), big _ (by omega)]; exact h4
  · dsimp only
    rw [pu_ne (by omega)]
    unfold put15
    by_cases e : c' = N
    · subst e
      rw [if_pos (by omega), Nat.add_sub_cancel_left]
      match f', hf' with
      | 0, _ => exact a0
      | 1, _ => exact a1
      | 2, _ => exact a2
      | 3, _ => exact a3
      | 4, _ => exact a4
      | 5, _ => exact a5
      | 6, _ => exact Or.inr ⟨0, by decide, rfl⟩
      | 7, _ => exact Or.inr ⟨0, by decide, rfl⟩
      | 8, _ => exact Or.inr ⟨0, by decide, rfl⟩
      | 9, _ => exact Or.inr ⟨0, by decide, rfl⟩
      | 10, _ => exact Or.inr ⟨3, by decide, rfl⟩
      | 11, _ => exact Or.inl ⟨by decide, rfl⟩
      | 12, _ => exact Or.inl ⟨by decide, rfl⟩
      | 13, _ => exact Or.inl ⟨by decide, rfl⟩
      | 14, _ => exact Or.inl ⟨by decide, rfl⟩
    · rw [if_neg (by omega)]
      exact h5 c' (by omega) f' hf'
  · obtain ⟨x, y, z⟩ := h6; exact ⟨x, y, (pu_ne (by omega)).trans ((big _ (by omega)).trans z)⟩
  · obtain ⟨x, y, z⟩ := h7; exact ⟨x, y, (pu_ne (by omega)).trans ((big _ (by omega)).trans z)⟩
  · obtain ⟨x, y, y2, z⟩ := h8; exact ⟨x, y, y2, (pu_ne (by omega)).trans ((big _ (by omega)).trans z)⟩
  · obtain ⟨x, y, z⟩ := h9 f' hf'; exact ⟨x, y, (pu_ne (by omega)).trans ((big _ (by omega)).trans z)⟩
  · rw [pu_ne (by omega)]
    unfold put15
    by_cases e : 15 * N ≤ j ∧ j < 15 * N + 15
    · rw [if_pos e, if_pos e]
    · rw [if_neg e, if_neg e]; exact hr j (by omega)
  · rw [pu_ne (by omega), big _ (by omega)]; exact hu j hj
  · rw [pu_ne (by omega), big _ (by omega)]; exact hm j hj
theorem pr_child {a b c e f g : Int32} {i : Nat} (hX : XS X) (hi : i < 600) (hV : Inv i (n, sl, t, I, J, F)) : PR X i 11 172 [some (.ref 0), some (.int a), some (.int b), some (.int c), some (.int e), some (.int f), some (.int g), none, none] [some (.ref 47), some (.int a), some (.int b), some (.int c), some (.int e), some (.int f), some (.int g), none, none] (n, sl, t, I, J, F) := by
  unfold PR
  have hW : WS n t F := hV.1
  obtain ⟨hn, hn2, ht, hF⟩ := id hW
  have hKR : KR (I 1 4) (I 1 5) (I 2) (I 3) (I 4) (I 49) := hV.2.2.1
  obtain ⟨N, T, ⟨hN, hT, hKN, hKT, hRW, hTW⟩, hs, hc, hr, hu, hm⟩ := id hKR
  have i0 : FC 0 a ↔ (0 ≤ a ∧ a ≤ nI 5) := FC_iff (j := 0) (by decide)
  have i1 : FC 1 b ↔ (0 ≤ b ∧ b ≤ nI 9) := FC_iff (j := 1) (by decide)
  have i2 : FC (nI 2) c ↔ (0 ≤ c ∧ c ≤ nI 9) := FC_iff (j := 2) (by decide)
  have i3 : FC (nI 3) e ↔ (0 ≤ e ∧ e ≤ nI 9) := FC_iff (j := 3) (by decide)
  have i4 : FC (nI 4) f ↔ (0 ≤ f ∧ f ≤ nI 7) := FC_iff (j := 4) (by decide)
  have i5 : FC (nI 5) g ↔ (0 ≤ g ∧ g ≤ nI 23) := FC_iff (j := 5) (by decide)
  by_cases k0 : 0 ≤ a ∧ a ≤ nI 5
  case neg =>
    have z0 : ¬ FC 0 a := fun q => k0 (i0.mp q)
    simp only [↓r11_0, ↓r11_1, ↓r11_2, ↓r11_5, ↓r11_8, ↓r11_9, ↓r11_10, ↓r11_13, ↓r11_16, ↓r11_17, ↓r11_18, ↓r11_21, ↓r11_24, ↓r11_25, ↓r11_27, ↓r11_30, ↓r11_33, ↓r11_34, ↓r11_36, ↓r11_39, ↓r11_42, ↓r11_43, ↓r11_45, ↓r11_48, ↓r11_51, ↓r11_52, ↓r11_55, ↓r11_56, ↓r11_58, ↓r11_60, ↓r11_63, ↓r11_64, ↓r11_65, ↓r11_68, ↓r11_69, ↓r11_70, ↓r11_73, ↓r11_76, ↓r11_78, ↓r11_81, ↓r11_82, ↓r11_84, ↓r11_87, ↓r11_88, ↓r11_89, ↓r11_92, ↓r11_95, ↓r11_97, ↓r11_98, ↓r11_101, ↓r11_103, ↓r11_104, ↓r11_105, ↓r11_108, ↓r11_108r, ↓r11_109, ↓r11_110, ↓r11_113, ↓r11_115, ↓r11_116, ↓r11_117, ↓r11_120, ↓r11_120r, ↓r11_121, ↓r11_122, ↓r11_125, ↓r11_127, ↓r11_128, ↓r11_129, ↓r11_132, ↓r11_132r, ↓r11_133, ↓r11_134, ↓r11_137, ↓r11_139, ↓r11_140, ↓r11_142, ↓r11_145, ↓r11_145r, ↓r11_146, ↓r11_147, ↓r11_150, ↓r11_152, ↓r11_153, ↓r11_155, ↓r11_158, ↓r11_158r, ↓r11_159, ↓r11_160, ↓r11_163, ↓r11_165, ↓r11_166, ↓r11_168, ↓r11_171, ↓r11_171r, ↓r11_172, ↓r11_173, ↓r11_175, ↓r11_178, ↓r172_0, ↓r172_1, ↓r172_2, ↓r172_3, ↓r172_6, ↓r172_9, ↓r172_10, ↓r172_11, ↓r172_13, ↓r172_16, ↓r172_19, ↓r172_20, ↓r172_21, ↓r172_23, ↓r172_26, ↓r172_29, ↓r172_31, ↓r172_32, ↓r172_34, ↓r172_37, ↓r172_40, ↓r172_42, ↓r172_43, ↓r172_45, ↓r172_48, ↓r172_51, ↓r172_53, ↓r172_54, ↓r172_56, ↓r172_59, ↓r172_62, ↓r172_63, ↓r172_64, ↓r172_67, ↓r172_68, ↓r172_69, ↓r172_72, ↓r172_74, ↓r172_76, ↓r172_78, ↓r172_81, ↓r172_82, ↓r172_84, ↓r172_87, ↓r172_88, ↓r172_89, ↓r172_91, ↓r172_93, ↓r172_95, ↓r172_98, ↓r172_99, ↓r172_102, ↓r172_103, ↓r172_105, ↓r172_107, ↓r172_110, ↓r172_112, ↓r172_114, ↓r172_117, ↓r172_118, ↓r172_121, ↓r172_122, ↓r172_123, ↓r172_126, ↓r172_129, ↓r172_130, ↓r172_133, ↓r172_134, ↓r172_136, ↓r172_137, ↓r172_140, ↓r172_141, ↓r172_142, ↓r172_143, ↓r172_146, ↓r172_147, ↓r172_149, ↓r172_150, ↓r172_153, ↓r172_154, ↓r172_155, ↓r172_156, ↓r172_159, ↓r172_160, ↓r172_162, ↓r172_163, ↓r172_166, ↓r172_167, ↓r172_168, ↓r172_169, ↓r172_172, ↓r172_173, ↓r172_175, ↓r172_176, ↓r172_179, ↓r172_181, ↓r172_182, ↓r172_183, ↓r172_186, ↓r172_187, ↓r172_189, ↓r172_190, ↓r172_193, ↓r172_195, ↓r172_196, ↓r172_197, ↓r172_200, ↓r172_201, ↓r172_203, ↓r172_204, ↓r172_207, ↓r172_209, ↓r172_210, ↓r172_211, ↓r172_214, ↓r172_215, ↓r172_217, ↓r172_219, ↓r172_222, ↓r172_223, ↓r172_224, ↓r172_225, ↓r172_228, ↓r172_231, ↓r172_232, ↓r172_232k, ↓r172_233, ↓r172_234, ↓r172_235, ↓r172_236, ↓r172_237, ↓r172_239, ↓r172_242, ↓c_factCan0 hX hn2 z0, ↓c_within, ↓c_meansTried, ↓c_nearest, ↓c_accept, ↓c_rf1, ↓c_rf2, ↓c_rf3, ↓c_rf5, ↓c_rf6, ↓c_has, ↓c_atx, ↓c_putx, ↓c_put0, ↓c_put1, ↓s_at0, ↓s_at1, ↓c_isTriedx, ↓c_sidex, ↓c_thingx, ↓c_isFoundx, ↓s_lies, ↓s_rf1, ↓s_rf2, ↓s_rf3, ↓s_rf5, ↓s_rf6, ↓s_good, ↓s_many, ↓s_at, ↓s_isChild, ↓s_replacesx, ↓s_factOfx, ↓s_isTried, ↓s_took, ↓s_waited, ↓s_term0, ↓s_term1, ↓s_term2, ↓s_isLong, ↓s_isShort, ↓s_thingOfx, ↓s_isFoundx, ↓s_isText, ↓s_isGroup, hW, k0, hs, hKN, and_self, if_true, if_false, hn, hn2, ht, hF, am_wt, am_wf, Option.isSome_some, am_rf_s, am_rf_n, ps_lit, nI_add, nI_1, pk_mul, ps_cl, ps_neg, ps_c0, ps_c1, ps_n01, ps_n11, ps_10, ps_b01, ps_e0, pu_Ine, pu_Ieq, pu_ne, pu_eq, am_k_n, am_k_i, am_k_r, am_k_u, am_k_l, am_sz_0, am_sz_i, am_sz_r, am_sz_u, am_sz_l, Option.toList_some, Option.toList_none, List.cons_append, List.nil_append, true_and, and_true, or_false, false_or, or_self, or_true, true_or, not_false_eq_true, not_true_eq_false, Classical.not_not, ne_eq, ps_e1, ps_em, ps_z, Nat.not_le, false_implies, true_implies, forall_const, ps_01, ps_1n, ps_0n, ps_m10, ps_m1n, lg_cmp_gt, lg_cmp_ge, lg_cmp_le, lg_cmp_lt, lg_cmp_eq, pu_rne, pu_req, pu_uro, RFc_n, Nat.reduceAdd, Nat.reduceMul, Nat.reduceLT, Nat.reduceLeDiff, Nat.reduceEqDiff, Nat.reduceSub]
    exact ⟨_, rfl, rfl, Inv_rf hV hi 1⟩
  have f0 : FC 0 a := i0.mpr k0
  by_cases k1 : 0 ≤ b ∧ b ≤ nI 9
  case neg =>
    have z1 : ¬ FC 1 b := fun q => k1 (i1.mp q)
    simp only [↓r11_0, ↓r11_1, ↓r11_2, ↓r11_5, ↓r11_8, ↓r11_9, ↓r11_10, ↓r11_13, ↓r11_16, ↓r11_17, ↓r11_18, ↓r11_21, ↓r11_24, ↓r11_25, ↓r11_27, ↓r11_30, ↓r11_33, ↓r11_34, ↓r11_36, ↓r11_39, ↓r11_42, ↓r11_43, ↓r11_45, ↓r11_48, ↓r11_51, ↓r11_52, ↓r11_55, ↓r11_56, ↓r11_58, ↓r11_60, ↓r11_63, ↓r11_64, ↓r11_65, ↓r11_68, ↓r11_69, ↓r11_70, ↓r11_73, ↓r11_76, ↓r11_78, ↓r11_81, ↓r11_82, ↓r11_84, ↓r11_87, ↓r11_88, ↓r11_89, ↓r11_92, ↓r11_95, ↓r11_97, ↓r11_98, ↓r11_101, ↓r11_103, ↓r11_104, ↓r11_105, ↓r11_108, ↓r11_108r, ↓r11_109, ↓r11_110, ↓r11_113, ↓r11_115, ↓r11_116, ↓r11_117, ↓r11_120, ↓r11_120r, ↓r11_121, ↓r11_122, ↓r11_125, ↓r11_127, ↓r11_128, ↓r11_129, ↓r11_132, ↓r11_132r, ↓r11_133, ↓r11_134, ↓r11_137, ↓r11_139, ↓r11_140, ↓r11_142, ↓r11_145, ↓r11_145r, ↓r11_146, ↓r11_147, ↓r11_150, ↓r11_152, ↓r11_153, ↓r11_155, ↓r11_158, ↓r11_158r, ↓r11_159, ↓r11_160, ↓r11_163, ↓r11_165, ↓r11_166, ↓r11_168, ↓r11_171, ↓r11_171r, ↓r11_172, ↓r11_173, ↓r11_175, ↓r11_178, ↓r172_0, ↓r172_1, ↓r172_2, ↓r172_3, ↓r172_6, ↓r172_9, ↓r172_10, ↓r172_11, ↓r172_13, ↓r172_16, ↓r172_19, ↓r172_20, ↓r172_21, ↓r172_23, ↓r172_26, ↓r172_29, ↓r172_31, ↓r172_32, ↓r172_34, ↓r172_37, ↓r172_40, ↓r172_42, ↓r172_43, ↓r172_45, ↓r172_48, ↓r172_51, ↓r172_53, ↓r172_54, ↓r172_56, ↓r172_59, ↓r172_62, ↓r172_63, ↓r172_64, ↓r172_67, ↓r172_68, ↓r172_69, ↓r172_72, ↓r172_74, ↓r172_76, ↓r172_78, ↓r172_81, ↓r172_82, ↓r172_84, ↓r172_87, ↓r172_88, ↓r172_89, ↓r172_91, ↓r172_93, ↓r172_95, ↓r172_98, ↓r172_99, ↓r172_102, ↓r172_103, ↓r172_105, ↓r172_107, ↓r172_110, ↓r172_112, ↓r172_114, ↓r172_117, ↓r172_118, ↓r172_121, ↓r172_122, ↓r172_123, ↓r172_126, ↓r172_129, ↓r172_130, ↓r172_133, ↓r172_134, ↓r172_136, ↓r172_137, ↓r172_140, ↓r172_141, ↓r172_142, ↓r172_143, ↓r172_146, ↓r172_147, ↓r172_149, ↓r172_150, ↓r172_153, ↓r172_154, ↓r172_155, ↓r172_156, ↓r172_159, ↓r172_160, ↓r172_162, ↓r172_163, ↓r172_166, ↓r172_167, ↓r172_168, ↓r172_169, ↓r172_172, ↓r172_173, ↓r172_175, ↓r172_176, ↓r172_179, ↓r172_181, ↓r172_182, ↓r172_183, ↓r172_186, ↓r172_187, ↓r172_189, ↓r172_190, ↓r172_193, ↓r172_195, ↓r172_196, ↓r172_197, ↓r172_200, ↓r172_201, ↓r172_203, ↓r172_204, ↓r172_207, ↓r172_209, ↓r172_210, ↓r172_211, ↓r172_214, ↓r172_215, ↓r172_217, ↓r172_219, ↓r172_222, ↓r172_223, ↓r172_224, ↓r172_225, ↓r172_228, ↓r172_231, ↓r172_232, ↓r172_232k, ↓r172_233, ↓r172_234, ↓r172_235, ↓r172_236, ↓r172_237, ↓r172_239, ↓r172_242, ↓c_factCan1 hX hn2 f0, ↓c_factCan0 hX hn2 z1, ↓c_within, ↓c_meansTried, ↓c_nearest, ↓c_accept, ↓c_rf1, ↓c_rf2, ↓c_rf3, ↓c_rf5, ↓c_rf6, ↓c_has, ↓c_atx, ↓c_putx, ↓c_put0, ↓c_put1, ↓s_at0, ↓s_at1, ↓c_isTriedx, ↓c_sidex, ↓c_thingx, ↓c_isFoundx, ↓s_lies, ↓s_rf1, ↓s_rf2, ↓s_rf3, ↓s_rf5, ↓s_rf6, ↓s_good, ↓s_many, ↓s_at, ↓s_isChild, ↓s_replacesx, ↓s_factOfx, ↓s_isTried, ↓s_took, ↓s_waited, ↓s_term0, ↓s_term1, ↓s_term2, ↓s_isLong, ↓s_isShort, ↓s_thingOfx, ↓s_isFoundx, ↓s_isText, ↓s_isGroup, hW, k0, k1, hs, hKN, and_self, if_true, if_false, hn, hn2, ht, hF, am_wt, am_wf, Option.isSome_some, am_rf_s, am_rf_n, ps_lit, nI_add, nI_1, pk_mul, ps_cl, ps_neg, ps_c0, ps_c1, ps_n01, ps_n11, ps_10, ps_b01, ps_e0, pu_Ine, pu_Ieq, pu_ne, pu_eq, am_k_n, am_k_i, am_k_r, am_k_u, am_k_l, am_sz_0, am_sz_i, am_sz_r, am_sz_u, am_sz_l, Option.toList_some, Option.toList_none, List.cons_append, List.nil_append, true_and, and_true, or_false, false_or, or_self, or_true, true_or, not_false_eq_true, not_true_eq_false, Classical.not_not, ne_eq, ps_e1, ps_em, ps_z, Nat.not_le, false_implies, true_implies, forall_const, ps_01, ps_1n, ps_0n, ps_m10, ps_m1n, lg_cmp_gt, lg_cmp_ge, lg_cmp_le, lg_cmp_lt, lg_cmp_eq, pu_rne, pu_req, pu_uro, RFc_n, Nat.reduceAdd, Nat.reduceMul, Nat.reduceLT, Nat.reduceLeDiff, Nat.reduceEqDiff, Nat.reduceSub]
    exact ⟨_, rfl, rfl, Inv_rf hV hi 1⟩
  have f1 : FC 1 b := i1.mpr k1
  by_cases k2 : 0 ≤ c ∧ c ≤ nI 9
  case neg =>
    have z2 : ¬ FC (nI 2) c := fun q => k2 (i2.mp q)
    simp only [↓r11_0, ↓r11_1, ↓r11_2, ↓r11_5, ↓r11_8, ↓r11_9, ↓r11_10, ↓r11_13, ↓r11_16, ↓r11_17, ↓r11_18, ↓r11_21, ↓r11_24, ↓r11_25, ↓r11_27, ↓r11_30, ↓r11_33, ↓r11_34, ↓r11_36, ↓r11_39, ↓r11_42, ↓r11_43, ↓r11_45, ↓r11_48, ↓r11_51, ↓r11_52, ↓r11_55, ↓r11_56, ↓r11_58, ↓r11_60, ↓r11_63, ↓r11_64, ↓r11_65, ↓r11_68, ↓r11_69, ↓r11_70, ↓r11_73, ↓r11_76, ↓r11_78, ↓r11_81, ↓r11_82, ↓r11_84, ↓r11_87, ↓r11_88, ↓r11_89, ↓r11_92, ↓r11_95, ↓r11_97, ↓r11_98, ↓r11_101, ↓r11_103, ↓r11_104, ↓r11_105, ↓r11_108, ↓r11_108r, ↓r11_109, ↓r11_110, ↓r11_113, ↓r11_115, ↓r11_116, ↓r11_117, ↓r11_120, ↓r11_120r, ↓r11_121, ↓r11_122, ↓r11_125, ↓r11_127, ↓r11_128, ↓r11_129, ↓r11_132, ↓r11_132r, ↓r11_133, ↓r11_134, ↓r11_137, ↓r11_139, ↓r11_140, ↓r11_142, ↓r11_145, ↓r11_145r, ↓r11_146, ↓r11_147, ↓r11_150, ↓r11_152, ↓r11_153, ↓r11_155, ↓r11_158, ↓r11_158r, ↓r11_159, ↓r11_160, ↓r11_163, ↓r11_165, ↓r11_166, ↓r11_168, ↓r11_171, ↓r11_171r, ↓r11_172, ↓r11_173, ↓r11_175, ↓r11_178, ↓r172_0, ↓r172_1, ↓r172_2, ↓r172_3, ↓r172_6, ↓r172_9, ↓r172_10, ↓r172_11, ↓r172_13, ↓r172_16, ↓r172_19, ↓r172_20, ↓r172_21, ↓r172_23, ↓r172_26, ↓r172_29, ↓r172_31, ↓r172_32, ↓r172_34, ↓r172_37, ↓r172_40, ↓r172_42, ↓r172_43, ↓r172_45, ↓r172_48, ↓r172_51, ↓r172_53, ↓r172_54, ↓r172_56, ↓r172_59, ↓r172_62, ↓r172_63, ↓r172_64, ↓r172_67, ↓r172_68, ↓r172_69, ↓r172_72, ↓r172_74, ↓r172_76, ↓r172_78, ↓r172_81, ↓r172_82, ↓r172_84, ↓r172_87, ↓r172_88, ↓r172_89, ↓r172_91, ↓r172_93, ↓r172_95, ↓r172_98, ↓r172_99, ↓r172_102, ↓r172_103, ↓r172_105, ↓r172_107, ↓r172_110, ↓r172_112, ↓r172_114, ↓r172_117, ↓r172_118, ↓r172_121, ↓r172_122, ↓r172_123, ↓r172_126, ↓r172_129, ↓r172_130, ↓r172_133, ↓r172_134, ↓r172_136, ↓r172_137, ↓r172_140, ↓r172_141, ↓r172_142, ↓r172_143, ↓r172_146, ↓r172_147, ↓r172_149, ↓r172_150, ↓r172_153, ↓r172_154, ↓r172_155, ↓r172_156, ↓r172_159, ↓r172_160, ↓r172_162, ↓r172_163, ↓r172_166, ↓r172_167, ↓r172_168, ↓r172_169, ↓r172_172, ↓r172_173, ↓r172_175, ↓r172_176, ↓r172_179, ↓r172_181, ↓r172_182, ↓r172_183, ↓r172_186, ↓r172_187, ↓r172_189, ↓r172_190, ↓r172_193, ↓r172_195, ↓r172_196, ↓r172_197, ↓r172_200, ↓r172_201, ↓r172_203, ↓r172_204, ↓r172_207, ↓r172_209, ↓r172_210, ↓r172_211, ↓r172_214, ↓r172_215, ↓r172_217, ↓r172_219, ↓r172_222, ↓r172_223, ↓r172_224, ↓r172_225, ↓r172_228, ↓r172_231, ↓r172_232, ↓r172_232k, ↓r172_233, ↓r172_234, ↓r172_235, ↓r172_236, ↓r172_237, ↓r172_239, ↓r172_242, ↓c_factCan1 hX hn2 f0, ↓c_factCan1 hX hn2 f1, ↓c_factCan0 hX hn2 z2, ↓c_within, ↓c_meansTried, ↓c_nearest, ↓c_accept, ↓c_rf1, ↓c_rf2, ↓c_rf3, ↓c_rf5, ↓c_rf6, ↓c_has, ↓c_atx, ↓c_putx, ↓c_put0, ↓c_put1, ↓s_at0, ↓s_at1, ↓c_isTriedx, ↓c_sidex, ↓c_thingx, ↓c_isFoundx, ↓s_lies, ↓s_rf1, ↓s_rf2, ↓s_rf3, ↓s_rf5, ↓s_rf6, ↓s_good, ↓s_many, ↓s_at, ↓s_isChild, ↓s_replacesx, ↓s_factOfx, ↓s_isTried, ↓s_took, ↓s_waited, ↓s_term0, ↓s_term1, ↓s_term2, ↓s_isLong, ↓s_isShort, ↓s_thingOfx, ↓s_isFoundx, ↓s_isText, ↓s_isGroup, hW, k0, k1, k2, hs, hKN, and_self, if_true, if_false, hn, hn2, ht, hF, am_wt, am_wf, Option.isSome_some, am_rf_s, am_rf_n, ps_lit, nI_add, nI_1, pk_mul, ps_cl, ps_neg, ps_c0, ps_c1, ps_n01, ps_n11, ps_10, ps_b01, ps_e0, pu_Ine, pu_Ieq, pu_ne, pu_eq, am_k_n, am_k_i, am_k_r, am_k_u, am_k_l, am_sz_0, am_sz_i, am_sz_r, am_sz_u, am_sz_l, Option.toList_some, Option.toList_none, List.cons_append, List.nil_append, true_and, and_true, or_false, false_or, or_self, or_true, true_or, not_false_eq_true, not_true_eq_false, Classical.not_not, ne_eq, ps_e1, ps_em, ps_z, Nat.not_le, false_implies, true_implies, forall_const, ps_01, ps_1n, ps_0n, ps_m10, ps_m1n, lg_cmp_gt, lg_cmp_ge, lg_cmp_le, lg_cmp_lt, lg_cmp_eq, pu_rne, pu_req, pu_uro, RFc_n, Nat.reduceAdd, Nat.reduceMul, Nat.reduceLT, Nat.reduceLeDiff, Nat.reduceEqDiff, Nat.reduceSub]
    exact ⟨_, rfl, rfl, Inv_rf hV hi 1⟩
  have f2 : FC (nI 2) c := i2.mpr k2
  by_cases k3 : 0 ≤ e ∧ e ≤ nI 9
  case neg =>
    have z3 : ¬ FC (nI 3) e := fun q => k3 (i3.mp q)
    simp only [↓r11_0, ↓r11_1, ↓r11_2, ↓r11_5, ↓r11_8, ↓r11_9, ↓r11_10, ↓r11_13, ↓r11_16, ↓r11_17, ↓r11_18, ↓r11_21, ↓r11_24, ↓r11_25, ↓r11_27, ↓r11_30, ↓r11_33, ↓r11_34, ↓r11_36, ↓r11_39, ↓r11_42, ↓r11_43, ↓r11_45, ↓r11_48, ↓r11_51, ↓r11_52, ↓r11_55, ↓r11_56, ↓r11_58, ↓r11_60, ↓r11_63, ↓r11_64, ↓r11_65, ↓r11_68, ↓r11_69, ↓r11_70, ↓r11_73, ↓r11_76, ↓r11_78, ↓r11_81, ↓r11_82, ↓r11_84, ↓r11_87, ↓r11_88, ↓r11_89, ↓r11_92, ↓r11_95, ↓r11_97, ↓r11_98, ↓r11_101, ↓r11_103, ↓r11_104, ↓r11_105, ↓r11_108, ↓r11_108r, ↓r11_109, ↓r11_110, ↓r11_113, ↓r11_115, ↓r11_116, ↓r11_117, ↓r11_120, ↓r11_120r, ↓r11_121, ↓r11_122, ↓r11_125, ↓r11_127, ↓r11_128, ↓r11_129, ↓r11_132, ↓r11_132r, ↓r11_133, ↓r11_134, ↓r11_137, ↓r11_139, ↓r11_140, ↓r11_142, ↓r11_145, ↓r11_145r, ↓r11_146, ↓r11_147, ↓r11_150, ↓r11_152, ↓r11_153, ↓r11_155, ↓r11_158, ↓r11_158r, ↓r11_159, ↓r11_160, ↓r11_163, ↓r11_165, ↓r11_166, ↓r11_168, ↓r11_171, ↓r11_171r, ↓r11_172, ↓r11_173, ↓r11_175, ↓r11_178, ↓r172_0, ↓r172_1, ↓r172_2, ↓r172_3, ↓r172_6, ↓r172_9, ↓r172_10, ↓r172_11, ↓r172_13, ↓r172_16, ↓r172_19, ↓r172_20, ↓r172_21, ↓r172_23, ↓r172_26, ↓r172_29, ↓r172_31, ↓r172_32, ↓r172_34, ↓r172_37, ↓r172_40, ↓r172_42, ↓r172_43, ↓r172_45, ↓r172_48, ↓r172_51, ↓r172_53, ↓r172_54, ↓r172_56, ↓r172_59, ↓r172_62, ↓r172_63, ↓r172_64, ↓r172_67, ↓r172_68, ↓r172_69, ↓r172_72, ↓r172_74, ↓r172_76, ↓r172_78, ↓r172_81, ↓r172_82, ↓r172_84, ↓r172_87, ↓r172_88, ↓r172_89, ↓r172_91, ↓r172_93, ↓r172_95, ↓r172_98, ↓r172_99, ↓r172_102, ↓r172_103, ↓r172_105, ↓r172_107, ↓r172_110, ↓r172_112, ↓r172_114, ↓r172_117, ↓r172_118, ↓r172_121, ↓r172_122, ↓r172_123, ↓r172_126, ↓r172_129, ↓r172_130, ↓r172_133, ↓r172_134, ↓r172_136, ↓r172_137, ↓r172_140, ↓r172_141, ↓r172_142, ↓r172_143, ↓r172_146, ↓r172_147, ↓r172_149, ↓r172_150, ↓r172_153, ↓r172_154, ↓r172_155, ↓r172_156, ↓r172_159, ↓r172_160, ↓r172_162, ↓r172_163, ↓r172_166, ↓r172_167, ↓r172_168, ↓r172_169, ↓r172_172, ↓r172_173, ↓r172_175, ↓r172_176, ↓r172_179, ↓r172_181, ↓r172_182, ↓r172_183, ↓r172_186, ↓r172_187, ↓r172_189, ↓r172_190, ↓r172_193, ↓r172_195, ↓r172_196, ↓r172_197, ↓r172_200, ↓r172_201, ↓r172_203, ↓r172_204, ↓r172_207, ↓r172_209, ↓r172_210, ↓r172_211, ↓r172_214, ↓r172_215, ↓r172_217, ↓r172_219, ↓r172_222, ↓r172_223, ↓r172_224, ↓r172_225, ↓r172_228, ↓r172_231, ↓r172_232, ↓r172_232k, ↓r172_233, ↓r172_234, ↓r172_235, ↓r172_236, ↓r172_237, ↓r172_239, ↓r172_242, ↓c_factCan1 hX hn2 f0, ↓c_factCan1 hX hn2 f1, ↓c_factCan1 hX hn2 f2, ↓c_factCan0 hX hn2 z3, ↓c_within, ↓c_meansTried, ↓c_nearest, ↓c_accept, ↓c_rf1, ↓c_rf2, ↓c_rf3, ↓c_rf5, ↓c_rf6, ↓c_has, ↓c_atx, ↓c_putx, ↓c_put0, ↓c_put1, ↓s_at0, ↓s_at1, ↓c_isTriedx, ↓c_sidex, ↓c_thingx, ↓c_isFoundx, ↓s_lies, ↓s_rf1, ↓s_rf2, ↓s_rf3, ↓s_rf5, ↓s_rf6, ↓s_good, ↓s_many, ↓s_at, ↓s_isChild, ↓s_replacesx, ↓s_factOfx, ↓s_isTried, ↓s_took, ↓s_waited, ↓s_term0, ↓s_term1, ↓s_term2, ↓s_isLong, ↓s_isShort, ↓s_thingOfx, ↓s_isFoundx, ↓s_isText, ↓s_isGroup, hW, k0, k1, k2, k3, hs, hKN, and_self, if_true, if_false, hn, hn2, ht, hF, am_wt, am_wf, Option.isSome_some, am_rf_s, am_rf_n, ps_lit, nI_add, nI_1, pk_mul, ps_cl, ps_neg, ps_c0, ps_c1, ps_n01, ps_n11, ps_10, ps_b01, ps_e0, pu_Ine, pu_Ieq, pu_ne, pu_eq, am_k_n, am_k_i, am_k_r, am_k_u, am_k_l, am_sz_0, am_sz_i, am_sz_r, am_sz_u, am_sz_l, Option.toList_some, Option.toList_none, List.cons_append, List.nil_append, true_and, and_true, or_false, false_or, or_self, or_true, true_or, not_false_eq_true, not_true_eq_false, Classical.not_not, ne_eq, ps_e1, ps_em, ps_z, Nat.not_le, false_implies, true_implies, forall_const, ps_01, ps_1n, ps_0n, ps_m10, ps_m1n, lg_cmp_gt, lg_cmp_ge, lg_cmp_le, lg_cmp_lt, lg_cmp_eq, pu_rne, pu_req, pu_uro, RFc_n, Nat.reduceAdd, Nat.reduceMul, Nat.reduceLT, Nat.reduceLeDiff, Nat.reduceEqDiff, Nat.reduceSub]
    exact ⟨_, rfl, rfl, Inv_rf hV hi 1⟩
  have f3 : FC (nI 3) e := i3.mpr k3
  by_cases k4 : 0 ≤ f ∧ f ≤ nI 7
  case neg =>
    have z4 : ¬ FC (nI 4) f := fun q => k4 (i4.mp q)
    simp only [↓r11_0, ↓r11_1, ↓r11_2, ↓r11_5, ↓r11_8, ↓r11_9, ↓r11_10, ↓r11_13, ↓r11_16, ↓r11_17, ↓r11_18, ↓r11_21, ↓r11_24, ↓r11_25, ↓r11_27, ↓r11_30, ↓r11_33, ↓r11_34, ↓r11_36, ↓r11_39, ↓r11_42, ↓r11_43, ↓r11_45, ↓r11_48, ↓r11_51, ↓r11_52, ↓r11_55, ↓r11_56, ↓r11_58, ↓r11_60, ↓r11_63, ↓r11_64, ↓r11_65, ↓r11_68, ↓r11_69, ↓r11_70, ↓r11_73, ↓r11_76, ↓r11_78, ↓r11_81, ↓r11_82, ↓r11_84, ↓r11_87, ↓r11_88, ↓r11_89, ↓r11_92, ↓r11_95, ↓r11_97, ↓r11_98, ↓r11_101, ↓r11_103, ↓r11_104, ↓r11_105, ↓r11_108, ↓r11_108r, ↓r11_109, ↓r11_110, ↓r11_113, ↓r11_115, ↓r11_116, ↓r11_117, ↓r11_120, ↓r11_120r, ↓r11_121, ↓r11_122, ↓r11_125, ↓r11_127, ↓r11_128, ↓r11_129, ↓r11_132, ↓r11_132r, ↓r11_133, ↓r11_134, ↓r11_137, ↓r11_139, ↓r11_140, ↓r11_142, ↓r11_145, ↓r11_145r, ↓r11_146, ↓r11_147, ↓r11_150, ↓r11_152, ↓r11_153, ↓r11_155, ↓r11_158, ↓r11_158r, ↓r11_159, ↓r11_160, ↓r11_163, ↓r11_165, ↓r11_166, ↓r11_168, ↓r11_171, ↓r11_171r, ↓r11_172, ↓r11_173, ↓r11_175, ↓r11_178, ↓r172_0, ↓r172_1, ↓r172_2, ↓r172_3, ↓r172_6, ↓r172_9, ↓r172_10, ↓r172_11, ↓r172_13, ↓r172_16, ↓r172_19, ↓r172_20, ↓r172_21, ↓r172_23, ↓r172_26, ↓r172_29, ↓r172_31, ↓r172_32, ↓r172_34, ↓r172_37, ↓r172_40, ↓r172_42, ↓r172_43, ↓r172_45, ↓r172_48, ↓r172_51, ↓r172_53, ↓r172_54, ↓r172_56, ↓r172_59, ↓r172_62, ↓r172_63, ↓r172_64, ↓r172_67, ↓r172_68, ↓r172_69, ↓r172_72, ↓r172_74, ↓r172_76, ↓r172_78, ↓r172_81, ↓r172_82, ↓r172_84, ↓r172_87, ↓r172_88, ↓r172_89, ↓r172_91, ↓r172_93, ↓r172_95, ↓r172_98, ↓r172_99, ↓r172_102, ↓r172_103, ↓r172_105, ↓r172_107, ↓r172_110, ↓r172_112, ↓r172_114, ↓r172_117, ↓r172_118, ↓r172_121, ↓r172_122, ↓r172_123, ↓r172_126, ↓r172_129, ↓r172_130, ↓r172_133, ↓r172_134, ↓r172_136, ↓r172_137, ↓r172_140, ↓r172_141, ↓r172_142, ↓r172_143, ↓r172_146, ↓r172_147, ↓r172_149, ↓r172_150, ↓r172_153, ↓r172_154, ↓r172_155, ↓r172_156, ↓r172_159, ↓r172_160, ↓r172_162, ↓r172_163, ↓r172_166, ↓r172_167, ↓r172_168, ↓r172_169, ↓r172_172, ↓r172_173, ↓r172_175, ↓r172_176, ↓r172_179, ↓r172_181, ↓r172_182, ↓r172_183, ↓r172_186, ↓r172_187, ↓r172_189, ↓r172_190, ↓r172_193, ↓r172_195, ↓r172_196, ↓r172_197, ↓r172_200, ↓r172_201, ↓r172_203, ↓r172_204, ↓r172_207, ↓r172_209, ↓r172_210, ↓r172_211, ↓r172_214, ↓r172_215, ↓r172_217, ↓r172_219, ↓r172_222, ↓r172_223, ↓r172_224, ↓r172_225, ↓r172_228, ↓r172_231, ↓r172_232, ↓r172_232k, ↓r172_233, ↓r172_234, ↓r172_235, ↓r172_236, ↓r172_237, ↓r172_239, ↓r172_242, ↓c_factCan1 hX hn2 f0, ↓c_factCan1 hX hn2 f1, ↓c_factCan1 hX hn2 f2, ↓c_factCan1 hX hn2 f3, ↓c_factCan0 hX hn2 z4, ↓c_within, ↓c_meansTried, ↓c_nearest, ↓c_accept, ↓c_rf1, ↓c_rf2, ↓c_rf3, ↓c_rf5, ↓c_rf6, ↓c_has, ↓c_atx, ↓c_putx, ↓c_put0, ↓c_put1, ↓s_at0, ↓s_at1, ↓c_isTriedx, ↓c_sidex, ↓c_thingx, ↓c_isFoundx, ↓s_lies, ↓s_rf1, ↓s_rf2, ↓s_rf3, ↓s_rf5, ↓s_rf6, ↓s_good, ↓s_many, ↓s_at, ↓s_isChild, ↓s_replacesx, ↓s_factOfx, ↓s_isTried, ↓s_took, ↓s_waited, ↓s_term0, ↓s_term1, ↓s_term2, ↓s_isLong, ↓s_isShort, ↓s_thingOfx, ↓s_isFoundx, ↓s_isText, ↓s_isGroup, hW, k0, k1, k2, k3, k4, hs, hKN, and_self, if_true, if_false, hn, hn2, ht, hF, am_wt, am_wf, Option.isSome_some, am_rf_s, am_rf_n, ps_lit, nI_add, nI_1, pk_mul, ps_cl, ps_neg, ps_c0, ps_c1, ps_n01, ps_n11, ps_10, ps_b01, ps_e0, pu_Ine, pu_Ieq, pu_ne, pu_eq, am_k_n, am_k_i, am_k_r, am_k_u, am_k_l, am_sz_0, am_sz_i, am_sz_r, am_sz_u, am_sz_l, Option.toList_some, Option.toList_none, List.cons_append, List.nil_append, true_and, and_true, or_false, false_or, or_self, or_true, true_or, not_false_eq_true, not_true_eq_false, Classical.not_not, ne_eq, ps_e1, ps_em, ps_z, Nat.not_le, false_implies, true_implies, forall_const, ps_01, ps_1n, ps_0n, ps_m10, ps_m1n, lg_cmp_gt, lg_cmp_ge, lg_cmp_le, lg_cmp_lt, lg_cmp_eq, pu_rne, pu_req, pu_uro, RFc_n, Nat.reduceAdd, Nat.reduceMul, Nat.reduceLT, Nat.reduceLeDiff, Nat.reduceEqDiff, Nat.reduceSub]
    exact ⟨_, rfl, rfl, Inv_rf hV hi 1⟩
  have f4 : FC (nI 4) f := i4.mpr k4
  by_cases k5 : 0 ≤ g ∧ g ≤ nI 23
  case neg =>
    have z5 : ¬ FC (nI 5) g := fun q => k5 (i5.mp q)
    simp only [↓r11_0, ↓r11_1, ↓r11_2, ↓r11_5, ↓r11_8, ↓r11_9, ↓r11_10, ↓r11_13, ↓r11_16, ↓r11_17, ↓r11_18, ↓r11_21, ↓r11_24, ↓r11_25, ↓r11_27, ↓r11_30, ↓r11_33, ↓r11_34, ↓r11_36, ↓r11_39, ↓r11_42, ↓r11_43, ↓r11_45, ↓r11_48, ↓r11_51, ↓r11_52, ↓r11_55, ↓r11_56, ↓r11_58, ↓r11_60, ↓r11_63, ↓r11_64, ↓r11_65, ↓r11_68, ↓r11_69, ↓r11_70, ↓r11_73, ↓r11_76, ↓r11_78, ↓r11_81, ↓r11_82, ↓r11_84, ↓r11_87, ↓r11_88, ↓r11_89, ↓r11_92, ↓r11_95, ↓r11_97, ↓r11_98, ↓r11_101, ↓r11_103, ↓r11_104, ↓r11_105, ↓r11_108, ↓r11_108r, ↓r11_109, ↓r11_110, ↓r11_113, ↓r11_115, ↓r11_116, ↓r11_117, ↓r11_120, ↓r11_120r, ↓r11_121, ↓r11_122, ↓r11_125, ↓r11_127, ↓r11_128, ↓r11_129, ↓r11_132, ↓r11_132r, ↓r11_133, ↓r11_134, ↓r11_137, ↓r11_139, ↓r11_140, ↓r11_142, ↓r11_145, ↓r11_145r, ↓r11_146, ↓r11_147, ↓r11_150, ↓r11_152, ↓r11_153, ↓r11_155, ↓r11_158, ↓r11_158r, ↓r11_159, ↓r11_160, ↓r11_163, ↓r11_165, ↓r11_166, ↓r11_168, ↓r11_171, ↓r11_171r, ↓r11_172, ↓r11_173, ↓r11_175, ↓r11_178, ↓r172_0, ↓r172_1, ↓r172_2, ↓r172_3, ↓r172_6, ↓r172_9, ↓r172_10, ↓r172_11, ↓r172_13, ↓r172_16, ↓r172_19, ↓r172_20, ↓r172_21, ↓r172_23, ↓r172_26, ↓r172_29, ↓r172_31, ↓r172_32, ↓r172_34, ↓r172_37, ↓r172_40, ↓r172_42, ↓r172_43, ↓r172_45, ↓r172_48, ↓r172_51, ↓r172_53, ↓r172_54, ↓r172_56, ↓r172_59, ↓r172_62, ↓r172_63, ↓r172_64, ↓r172_67, ↓r172_68, ↓r172_69, ↓r172_72, ↓r172_74, ↓r172_76, ↓r172_78, ↓r172_81, ↓r172_82, ↓r172_84, ↓r172_87, ↓r172_88, ↓r172_89, ↓r172_91, ↓r172_93, ↓r172_95, ↓r172_98, ↓r172_99, ↓r172_102, ↓r172_103, ↓r172_105, ↓r172_107, ↓r172_110, ↓r172_112, ↓r172_114, ↓r172_117, ↓r172_118, ↓r172_121, ↓r172_122, ↓r172_123, ↓r172_126, ↓r172_129, ↓r172_130, ↓r172_133, ↓r172_134, ↓r172_136, ↓r172_137, ↓r172_140, ↓r172_141, ↓r172_142, ↓r172_143, ↓r172_146, ↓r172_147, ↓r172_149, ↓r172_150, ↓r172_153, ↓r172_154, ↓r172_155, ↓r172_156, ↓r172_159, ↓r172_160, ↓r172_162, ↓r172_163, ↓r172_166, ↓r172_167, ↓r172_168, ↓r172_169, ↓r172_172, ↓r172_173, ↓r172_175, ↓r172_176, ↓r172_179, ↓r172_181, ↓r172_182, ↓r172_183, ↓r172_186, ↓r172_187, ↓r172_189, ↓r172_190, ↓r172_193, ↓r172_195, ↓r172_196, ↓r172_197, ↓r172_200, ↓r172_201, ↓r172_203, ↓r172_204, ↓r172_207, ↓r172_209, ↓r172_210, ↓r172_211, ↓r172_214, ↓r172_215, ↓r172_217, ↓r172_219, ↓r172_222, ↓r172_223, ↓r172_224, ↓r172_225, ↓r172_228, ↓r172_231, ↓r172_232, ↓r172_232k, ↓r172_233, ↓r172_234, ↓r172_235, ↓r172_236, ↓r172_237, ↓r172_239, ↓r172_242, ↓c_factCan1 hX hn2 f0, ↓c_factCan1 hX hn2 f1, ↓c_factCan1 hX hn2 f2, ↓c_factCan1 hX hn2 f3, ↓c_factCan1 hX hn2 f4, ↓c_factCan0 hX hn2 z5, ↓c_within, ↓c_meansTried, ↓c_nearest, ↓c_accept, ↓c_rf1, ↓c_rf2, ↓c_rf3, ↓c_rf5, ↓c_rf6, ↓c_has, ↓c_atx, ↓c_putx, ↓c_put0, ↓c_put1, ↓s_at0, ↓s_at1, ↓c_isTriedx, ↓c_sidex, ↓c_thingx, ↓c_isFoundx, ↓s_lies, ↓s_rf1, ↓s_rf2, ↓s_rf3, ↓s_rf5, ↓s_rf6, ↓s_good, ↓s_many, ↓s_at, ↓s_isChild, ↓s_replacesx, ↓s_factOfx, ↓s_isTried, ↓s_took, ↓s_waited, ↓s_term0, ↓s_term1, ↓s_term2, ↓s_isLong, ↓s_isShort, ↓s_thingOfx, ↓s_isFoundx, ↓s_isText, ↓s_isGroup, hW, k0, k1, k2, k3, k4, k5, hs, hKN, and_self, if_true, if_false, hn, hn2, ht, hF, am_wt, am_wf, Option.isSome_some, am_rf_s, am_rf_n, ps_lit, nI_add, nI_1, pk_mul, ps_cl, ps_neg, ps_c0, ps_c1, ps_n01, ps_n11, ps_10, ps_b01, ps_e0, pu_Ine, pu_Ieq, pu_ne, pu_eq, am_k_n, am_k_i, am_k_r, am_k_u, am_k_l, am_sz_0, am_sz_i, am_sz_r, am_sz_u, am_sz_l, Option.toList_some, Option.toList_none, List.cons_append, List.nil_append, true_and, and_true, or_false, false_or, or_self, or_true, true_or, not_false_eq_true, not_true_eq_false, Classical.not_not, ne_eq, ps_e1, ps_em, ps_z, Nat.not_le, false_implies, true_implies, forall_const, ps_01, ps_1n, ps_0n, ps_m10, ps_m1n, lg_cmp_gt, lg_cmp_ge, lg_cmp_le, lg_cmp_lt, lg_cmp_eq, pu_rne, pu_req, pu_uro, RFc_n, Nat.reduceAdd, Nat.reduceMul, Nat.reduceLT, Nat.reduceLeDiff, Nat.reduceEqDiff, Nat.reduceSub]
    exact ⟨_, rfl, rfl, Inv_rf hV hi 1⟩
  have f5 : FC (nI 5) g := i5.mpr k5
  by_cases h120 : N = 120
  · subst h120
    simp only [↓r11_0, ↓r11_1, ↓r11_2, ↓r11_5, ↓r11_8, ↓r11_9, ↓r11_10, ↓r11_13, ↓r11_16, ↓r11_17, ↓r11_18, ↓r11_21, ↓r11_24, ↓r11_25, ↓r11_27, ↓r11_30, ↓r11_33, ↓r11_34, ↓r11_36, ↓r11_39, ↓r11_42, ↓r11_43, ↓r11_45, ↓r11_48, ↓r11_51, ↓r11_52, ↓r11_55, ↓r11_56, ↓r11_58, ↓r11_60, ↓r11_63, ↓r11_64, ↓r11_65, ↓r11_68, ↓r11_69, ↓r11_70, ↓r11_73, ↓r11_76, ↓r11_78, ↓r11_81, ↓r11_82, ↓r11_84, ↓r11_87, ↓r11_88, ↓r11_89, ↓r11_92, ↓r11_95, ↓r11_97, ↓r11_98, ↓r11_101, ↓r11_103, ↓r11_104, ↓r11_105, ↓r11_108, ↓r11_108r, ↓r11_109, ↓r11_110, ↓r11_113, ↓r11_115, ↓r11_116, ↓r11_117, ↓r11_120, ↓r11_120r, ↓r11_121, ↓r11_122, ↓r11_125, ↓r11_127, ↓r11_128, ↓r11_129, ↓r11_132, ↓r11_132r, ↓r11_133, ↓r11_134, ↓r11_137, ↓r11_139, ↓r11_140, ↓r11_142, ↓r11_145, ↓r11_145r, ↓r11_146, ↓r11_147, ↓r11_150, ↓r11_152, ↓r11_153, ↓r11_155, ↓r11_158, ↓r11_158r, ↓r11_159, ↓r11_160, ↓r11_163, ↓r11_165, ↓r11_166, ↓r11_168, ↓r11_171, ↓r11_171r, ↓r11_172, ↓r11_173, ↓r11_175, ↓r11_178, ↓r172_0, ↓r172_1, ↓r172_2, ↓r172_3, ↓r172_6, ↓r172_9, ↓r172_10, ↓r172_11, ↓r172_13, ↓r172_16, ↓r172_19, ↓r172_20, ↓r172_21, ↓r172_23, ↓r172_26, ↓r172_29, ↓r172_31, ↓r172_32, ↓r172_34, ↓r172_37, ↓r172_40, ↓r172_42, ↓r172_43, ↓r172_45, ↓r172_48, ↓r172_51, ↓r172_53, ↓r172_54, ↓r172_56, ↓r172_59, ↓r172_62, ↓r172_63, ↓r172_64, ↓r172_67, ↓r172_68, ↓r172_69, ↓r172_72, ↓r172_74, ↓r172_76, ↓r172_78, ↓r172_81, ↓r172_82, ↓r172_84, ↓r172_87, ↓r172_88, ↓r172_89, ↓r172_91, ↓r172_93, ↓r172_95, ↓r172_98, ↓r172_99, ↓r172_102, ↓r172_103, ↓r172_105, ↓r172_107, ↓r172_110, ↓r172_112, ↓r172_114, ↓r172_117, ↓r172_118, ↓r172_121, ↓r172_122, ↓r172_123, ↓r172_126, ↓r172_129, ↓r172_130, ↓r172_133, ↓r172_134, ↓r172_136, ↓r172_137, ↓r172_140, ↓r172_141, ↓r172_142, ↓r172_143, ↓r172_146, ↓r172_147, ↓r172_149, ↓r172_150, ↓r172_153, ↓r172_154, ↓r172_155, ↓r172_156, ↓r172_159, ↓r172_160, ↓r172_162, ↓r172_163, ↓r172_166, ↓r172_167, ↓r172_168, ↓r172_169, ↓r172_172, ↓r172_173, ↓r172_175, ↓r172_176, ↓r172_179, ↓r172_181, ↓r172_182, ↓r172_183, ↓r172_186, ↓r172_187, ↓r172_189, ↓r172_190, ↓r172_193, ↓r172_195, ↓r172_196, ↓r172_197, ↓r172_200, ↓r172_201, ↓r172_203, ↓r172_204, ↓r172_207, ↓r172_209, ↓r172_210, ↓r172_211, ↓r172_214, ↓r172_215, ↓r172_217, ↓r172_219, ↓r172_222, ↓r172_223, ↓r172_224, ↓r172_225, ↓r172_228, ↓r172_231, ↓r172_232, ↓r172_232k, ↓r172_233, ↓r172_234, ↓r172_235, ↓r172_236, ↓r172_237, ↓r172_239, ↓r172_242, ↓c_factCan1 hX hn2 f0, ↓c_factCan1 hX hn2 f1, ↓c_factCan1 hX hn2 f2, ↓c_factCan1 hX hn2 f3, ↓c_factCan1 hX hn2 f4, ↓c_factCan1 hX hn2 f5, ↓c_within, ↓c_meansTried, ↓c_nearest, ↓c_accept, ↓c_rf1, ↓c_rf2, ↓c_rf3, ↓c_rf5, ↓c_rf6, ↓c_has, ↓c_atx, ↓c_putx, ↓c_put0, ↓c_put1, ↓s_at0, ↓s_at1, ↓c_isTriedx, ↓c_sidex, ↓c_thingx, ↓c_isFoundx, ↓s_lies, ↓s_rf1, ↓s_rf2, ↓s_rf3, ↓s_rf5, ↓s_rf6, ↓s_good, ↓s_many, ↓s_at, ↓s_isChild, ↓s_replacesx, ↓s_factOfx, ↓s_isTried, ↓s_took, ↓s_waited, ↓s_term0, ↓s_term1, ↓s_term2, ↓s_isLong, ↓s_isShort, ↓s_thingOfx, ↓s_isFoundx, ↓s_isText, ↓s_isGroup, hW, k0, k1, k2, k3, k4, k5, hs, hKN, Int32.lt_irrefl, and_self, if_true, if_false, hn, hn2, ht, hF, am_wt, am_wf, Option.isSome_some, am_rf_s, am_rf_n, ps_lit, nI_add, nI_1, pk_mul, ps_cl, ps_neg, ps_c0, ps_c1, ps_n01, ps_n11, ps_10, ps_b01, ps_e0, pu_Ine, pu_Ieq, pu_ne, pu_eq, am_k_n, am_k_i, am_k_r, am_k_u, am_k_l, am_sz_0, am_sz_i, am_sz_r, am_sz_u, am_sz_l, Option.toList_some, Option.toList_none, List.cons_append, List.nil_append, true_and, and_true, or_false, false_or, or_self, or_true, true_or, not_false_eq_true, not_true_eq_false, Classical.not_not, ne_eq, ps_e1, ps_em, ps_z, Nat.not_le, false_implies, true_implies, forall_const, ps_01, ps_1n, ps_0n, ps_m10, ps_m1n, lg_cmp_gt, lg_cmp_ge, lg_cmp_le, lg_cmp_lt, lg_cmp_eq, pu_rne, pu_req, pu_uro, RFc_n, Nat.reduceAdd, Nat.reduceMul, Nat.reduceLT, Nat.reduceLeDiff, Nat.reduceEqDiff, Nat.reduceSub]
    exact ⟨_, rfl, rfl, Inv_rf hV hi 5⟩
  · have hlt : N < 120 := by omega
    have q1 : nI N < nI 120 := nI_lt hlt (by decide)
    have q2 : ¬ nI N = nI 120 := fun q => h120 ((nI_eq (by omega) (by decide)).mp q)
    have q3 : nI N < nI (N + 1) := nI_lt (by omega) (by omega)
    have q4 : nI (N + 1) ≤ nI 120 := nI_le (by omega) (by decide)
    simp only [↓r11_0, ↓r11_1, ↓r11_2, ↓r11_5, ↓r11_8, ↓r11_9, ↓r11_10, ↓r11_13, ↓r11_16, ↓r11_17, ↓r11_18, ↓r11_21, ↓r11_24, ↓r11_25, ↓r11_27, ↓r11_30, ↓r11_33, ↓r11_34, ↓r11_36, ↓r11_39, ↓r11_42, ↓r11_43, ↓r11_45, ↓r11_48, ↓r11_51, ↓r11_52, ↓r11_55, ↓r11_56, ↓r11_58, ↓r11_60, ↓r11_63, ↓r11_64, ↓r11_65, ↓r11_68, ↓r11_69, ↓r11_70, ↓r11_73, ↓r11_76, ↓r11_78, ↓r11_81, ↓r11_82, ↓r11_84, ↓r11_87, ↓r11_88, ↓r11_89, ↓r11_92, ↓r11_95, ↓r11_97, ↓r11_98, ↓r11_101, ↓r11_103, ↓r11_104, ↓r11_105, ↓r11_108, ↓r11_108r, ↓r11_109, ↓r11_110, ↓r11_113, ↓r11_115, ↓r11_116, ↓r11_117, ↓r11_120, ↓r11_120r, ↓r11_121, ↓r11_122, ↓r11_125, ↓r11_127, ↓r11_128, ↓r11_129, ↓r11_132, ↓r11_132r, ↓r11_133, ↓r11_134, ↓r11_137, ↓r11_139, ↓r11_140, ↓r11_142, ↓r11_145, ↓r11_145r, ↓r11_146, ↓r11_147, ↓r11_150, ↓r11_152, ↓r11_153, ↓r11_155, ↓r11_158, ↓r11_158r, ↓r11_159, ↓r11_160, ↓r11_163, ↓r11_165, ↓r11_166, ↓r11_168, ↓r11_171, ↓r11_171r, ↓r11_172, ↓r11_173, ↓r11_175, ↓r11_178, ↓r172_0, ↓r172_1, ↓r172_2, ↓r172_3, ↓r172_6, ↓r172_9, ↓r172_10, ↓r172_11, ↓r172_13, ↓r172_16, ↓r172_19, ↓r172_20, ↓r172_21, ↓r172_23, ↓r172_26, ↓r172_29, ↓r172_31, ↓r172_32, ↓r172_34, ↓r172_37, ↓r172_40, ↓r172_42, ↓r172_43, ↓r172_45, ↓r172_48, ↓r172_51, ↓r172_53, ↓r172_54, ↓r172_56, ↓r172_59, ↓r172_62, ↓r172_63, ↓r172_64, ↓r172_67, ↓r172_68, ↓r172_69, ↓r172_72, ↓r172_74, ↓r172_76, ↓r172_78, ↓r172_81, ↓r172_82, ↓r172_84, ↓r172_87, ↓r172_88, ↓r172_89, ↓r172_93, ↓r172_95, ↓r172_98, ↓r172_99, ↓r172_102, ↓r172_103, ↓r172_105, ↓r172_107, ↓r172_110, ↓r172_112, ↓r172_114, ↓r172_117, ↓r172_118, ↓r172_121, ↓r172_122, ↓r172_123, ↓r172_126, ↓r172_129, ↓r172_130, ↓r172_133, ↓r172_134, ↓r172_136, ↓r172_137, ↓r172_140, ↓r172_141, ↓r172_142, ↓r172_143, ↓r172_146, ↓r172_147, ↓r172_149, ↓r172_150, ↓r172_153, ↓r172_154, ↓r172_155, ↓r172_156, ↓r172_159, ↓r172_160, ↓r172_162, ↓r172_163, ↓r172_166, ↓r172_167, ↓r172_168, ↓r172_169, ↓r172_172, ↓r172_173, ↓r172_175, ↓r172_176, ↓r172_179, ↓r172_181, ↓r172_182, ↓r172_183, ↓r172_186, ↓r172_187, ↓r172_189, ↓r172_190, ↓r172_193, ↓r172_195, ↓r172_196, ↓r172_197, ↓r172_200, ↓r172_201, ↓r172_203, ↓r172_204, ↓r172_207, ↓r172_209, ↓r172_210, ↓r172_211, ↓r172_214, ↓r172_215, ↓r172_217, ↓r172_219, ↓r172_222, ↓r172_223, ↓r172_224, ↓r172_225, ↓r172_228, ↓r172_231, ↓r172_232, ↓r172_232k, ↓r172_233, ↓r172_234, ↓r172_235, ↓r172_236, ↓r172_237, ↓r172_239, ↓r172_242, ↓c_factCan1 hX hn2 f0, ↓c_factCan1 hX hn2 f1, ↓c_factCan1 hX hn2 f2, ↓c_factCan1 hX hn2 f3, ↓c_factCan1 hX hn2 f4, ↓c_factCan1 hX hn2 f5, ↓c_addChild hW hlt hs, ↓l_child0 hW hlt, ↓c_within, ↓c_meansTried, ↓c_nearest, ↓c_accept, ↓c_rf1, ↓c_rf2, ↓c_rf3, ↓c_rf5, ↓c_rf6, ↓c_has, ↓c_atx, ↓c_putx, ↓c_put0, ↓c_put1, ↓s_at0, ↓s_at1, ↓c_isTriedx, ↓c_sidex, ↓c_thingx, ↓c_isFoundx, ↓s_lies, ↓s_rf1, ↓s_rf2, ↓s_rf3, ↓s_rf5, ↓s_rf6, ↓s_good, ↓s_many, ↓s_at, ↓s_isChild, ↓s_replacesx, ↓s_factOfx, ↓s_isTried, ↓s_took, ↓s_waited, ↓s_term0, ↓s_term1, ↓s_term2, ↓s_isLong, ↓s_isShort, ↓s_thingOfx, ↓s_isFoundx, ↓s_isText, ↓s_isGroup, hW, k0, k1, k2, k3, k4, k5, hs, hKN, q1, q2, q3, q4, hlt, blk_put, and_self, if_true, if_false, hn, hn2, ht, hF, am_wt, am_wf, Option.isSome_some, am_rf_s, am_rf_n, ps_lit, nI_add, nI_1, pk_mul, ps_cl, ps_neg, ps_c0, ps_c1, ps_n01, ps_n11, ps_10, ps_b01, ps_e0, pu_Ine, pu_Ieq, pu_ne, pu_eq, am_k_n, am_k_i, am_k_r, am_k_u, am_k_l, am_sz_0, am_sz_i, am_sz_r, am_sz_u, am_sz_l, Option.toList_some, Option.toList_none, List.cons_append, List.nil_append, true_and, and_true, or_false, false_or, or_self, or_true, true_or, not_false_eq_true, not_true_eq_false, Classical.not_not, ne_eq, ps_e1, ps_em, ps_z, Nat.not_le, false_implies, true_implies, forall_const, ps_01, ps_1n, ps_0n, ps_m10, ps_m1n, lg_cmp_gt, lg_cmp_ge, lg_cmp_le, lg_cmp_lt, lg_cmp_eq, pu_rne, pu_req, pu_uro, RFc_n, Nat.reduceAdd, Nat.reduceMul, Nat.reduceLT, Nat.reduceLeDiff, Nat.reduceEqDiff, Nat.reduceSub]
    refine ⟨_, rfl, rfl, Inv_kc hV hi ?_ rfl ?_⟩
    · refine SC2_u rfl (fun a' k' hb' => ?_)
      by_cases e49 : a' = 49
      · subst e49
        have hk' : 1812 ≤ k' := by
          by_cases h' : k' < 1812
          · rw [SC2_49 h'] at hb'; cases hb'
          · omega
        rw [pu_req, pu_ne (by omega)]
        unfold put15
        rw [if_neg (by omega)]
      · rw [pu_rne e49]
        exact SC2_u rfl (SC2_o (fun _ => rfl) (SC2_u rfl (SC2_r I))) a' k' hb'
    · exact KR_new ⟨hN, hT, hKN, hKT, hRW, hTW⟩ hlt hc hr hu hm (RV_of (j := 0) k0) (RV_of (j := 1) k1) (RV_of (j := 2) k2) (RV_of (j := 3) k3) (RV_of (j := 4) k4) (RV_of (j := 5) k5)
/-- bits of the facts that are no causes -/
def hbt (m : Nat → Int32) : Nat → Int32
  | 0 => 0
  | j + 1 => if m j = 0 then hbt m j else hbt m j ||| (1 <<< (nI j &&& nI 31))
theorem l_noCauses (hW : WS n t F) : ∀ m j, j + m = 8 → (am_W X d 131 4 [some (.ref 0), some (.int (hbt (I 4) j)), some (.int (nI j))] [] (n, sl, t, I, J, F) Q ↔ Q (some (.int (hbt (I 4) 8))) (n, sl, t, I, J, F)) := by
  obtain ⟨hn, hn2, ht, hF⟩ := id hW
  intro m
  induction m with
  | zero =>
    intro j hj
    obtain rfl : j = 8 := by omega
    rw [r131_4]
    simp only [↓r131_0, ↓r131_1, ↓r131_2, ↓r131_3, ↓r131_5, ↓r131_7, ↓r131_10, ↓r131_11, ↓r131_14, ↓r131_17, ↓r131_18, ↓r131_18k, ↓r131_19, ↓r131_22, ↓r131_23, ↓r131_24, ↓r131_25, ↓r131_26, ↓r131_27, ↓r131_28, ↓r131_31, ↓r131_34, ↓r131_35, Int32.le_refl, hn, hn2, ht, hF, am_wt, am_wf, Option.isSome_some, am_rf_s, am_rf_n, ps_lit, nI_add, nI_1, pk_mul, ps_cl, ps_neg, ps_c0, ps_c1, ps_n01, ps_n11, ps_10, ps_b01, ps_e0, pu_Ine, pu_Ieq, pu_ne, pu_eq, am_k_n, am_k_i, am_k_r, am_k_u, am_k_l, am_sz_0, am_sz_i, am_sz_r, am_sz_u, am_sz_l, Option.toList_some, Option.toList_none, List.cons_append, List.nil_append, true_and, and_true, or_false, false_or, or_self, or_true, true_or, not_false_eq_true, not_true_eq_false, Classical.not_not, ne_eq, ps_e1, ps_em, ps_z, Nat.not_le, false_implies, true_implies, forall_const, ps_01, ps_1n, ps_0n, ps_m10, ps_m1n, lg_cmp_gt, lg_cmp_ge, lg_cmp_le, lg_cmp_lt, lg_cmp_eq, pu_rne, pu_req, pu_uro, RFc_n, Nat.reduceAdd, Nat.reduceMul, Nat.reduceLT, Nat.reduceLeDiff, Nat.reduceEqDiff, Nat.reduceSub]
  | succ m ih =>
    intro j hj
    rw [r131_4]
    have e1 : ¬ nI 8 ≤ nI j := nI_ge (by omega) (by decide)
    have z1 : j < 2000000 := by omega
    have z2 : j < 8 := by omega
    have e4 : hbt (I 4) (j + 1) = if I 4 j = 0 then hbt (I 4) j else hbt (I 4) j ||| (1 <<< (nI j &&& nI 31)) := rfl
    have := ih (j + 1) (by omega)
    by_cases h : I 4 j = 0
    · rw [e4, if_pos h] at this
      simp only [↓r131_0, ↓r131_1, ↓r131_2, ↓r131_3, ↓r131_5, ↓r131_7, ↓r131_10, ↓r131_11, ↓r131_14, ↓r131_17, ↓r131_18, ↓r131_18k, ↓r131_19, ↓r131_22, ↓r131_23, ↓r131_24, ↓r131_25, ↓r131_26, ↓r131_27, ↓r131_28, ↓r131_31, ↓r131_34, ↓r131_35, e1, z1, z2, h, hn, hn2, ht, hF, am_wt, am_wf, Option.isSome_some, am_rf_s, am_rf_n, ps_lit, nI_add, nI_1, pk_mul, ps_cl, ps_neg, ps_c0, ps_c1, ps_n01, ps_n11, ps_10, ps_b01, ps_e0, pu_Ine, pu_Ieq, pu_ne, pu_eq, am_k_n, am_k_i, am_k_r, am_k_u, am_k_l, am_sz_0, am_sz_i, am_sz_r, am_sz_u, am_sz_l, Option.toList_some, Option.toList_none, List.cons_append, List.nil_append, true_and, and_true, or_false, false_or, or_self, or_true, true_or, not_false_eq_true, not_true_eq_false, Classical.not_not, ne_eq, ps_e1, ps_em, ps_z, Nat.not_le, false_implies, true_implies, forall_const, ps_01, ps_1n, ps_0n, ps_m10, ps_m1n, lg_cmp_gt, lg_cmp_ge, lg_cmp_le, lg_cmp_lt, lg_cmp_eq, pu_rne, pu_req, pu_uro, RFc_n, Nat.reduceAdd, Nat.reduceMul, Nat.reduceLT, Nat.reduceLeDiff, Nat.reduceEqDiff, Nat.reduceSub]
      exact this
    · rw [e4, if_neg h] at this
      simp only [↓r131_0, ↓r131_1, ↓r131_2, ↓r131_3, ↓r131_5, ↓r131_7, ↓r131_10, ↓r131_11, ↓r131_14, ↓r131_17, ↓r131_18, ↓r131_18k, ↓r131_19, ↓r131_22, ↓r131_23, ↓r131_24, ↓r131_25, ↓r131_26, ↓r131_27, ↓r131_28, ↓r131_31, ↓r131_34, ↓r131_35, e1, z1, z2, h, hn, hn2, ht, hF, am_wt, am_wf, Option.isSome_some, am_rf_s, am_rf_n, ps_lit, nI_add, nI_1, pk_mul, ps_cl, ps_neg, ps_c0, ps_c1, ps_n01, ps_n11, ps_10, ps_b01, ps_e0, pu_Ine, pu_Ieq, pu_ne, pu_eq, am_k_n, am_k_i, am_k_r, am_k_u, am_k_l, am_sz_0, am_sz_i, am_sz_r, am_sz_u, am_sz_l, Option.toList_some, Option.toList_none, List.cons_append, List.nil_append, true_and, and_true, or_false, false_or, or_self, or_true, true_or, not_false_eq_true, not_true_eq_false, Classical.not_not, ne_eq, ps_e1, ps_em, ps_z, Nat.not_le, false_implies, true_implies, forall_const, ps_01, ps_1n, ps_0n, ps_m10, ps_m1n, lg_cmp_gt, lg_cmp_ge, lg_cmp_le, lg_cmp_lt, lg_cmp_eq, pu_rne, pu_req, pu_uro, RFc_n, Nat.reduceAdd, Nat.reduceMul, Nat.reduceLT, Nat.reduceLeDiff, Nat.reduceEqDiff, Nat.reduceSub]
      exact this
theorem c_noCauses (hW : WS n t F) : am_W X d 131 0 [some (.ref 0), none, none] [] (n, sl, t, I, J, F) Q ↔ Q (some (.int (hbt (I 4) 8))) (n, sl, t, I, J, F) := by
  rw [← l_noCauses (X := X) (d := d) (Q := Q) (n := n) (sl := sl) (t := t) (I := I) (J := J) (F := F) hW 8 0 rfl]
  simp only [↓r131_0, ↓r131_1, ↓r131_2, ↓r131_3, am_k_i]
  exact Iff.rfl
theorem l_hides {v : Int32} (hW : WS n t F) : ∀ m j, j + m = 8 → (am_W X d 274 17 [some (.ref 47), some (.int v), some (.int (hbt (fun i => I 49 (1800 + i)) j)), some (.int (nI j))] [] (n, sl, t, I, J, F) Q ↔ Q (some (.int (v &&& hbt (fun i => I 49 (1800 + i)) 8))) (n, sl, t, I, J, F)) := by
  obtain ⟨hn, hn2, ht, hF⟩ := id hW
  intro m
  induction m with
  | zero =>
    intro j hj
    obtain rfl : j = 8 := by omega
    rw [r274_17]
    simp only [↓r274_0, ↓r274_1, ↓r274_2, ↓r274_5, ↓r274_8, ↓r274_11, ↓r274_12, ↓r274_13, ↓r274_14, ↓r274_15, ↓r274_16, ↓r274_18, ↓r274_20, ↓r274_23, ↓r274_24, ↓r274_25, ↓r274_28, ↓r274_31, ↓r274_32, ↓r274_33, ↓r274_33k, ↓r274_34, ↓r274_37, ↓r274_38, ↓r274_39, ↓r274_40, ↓r274_43, ↓r274_44, ↓r274_45, ↓r274_46, ↓r274_49, ↓r274_52, ↓r274_53, ↓r274_54, ↓r274_55, Int32.le_refl, hn, hn2, ht, hF, am_wt, am_wf, Option.isSome_some, am_rf_s, am_rf_n, ps_lit, nI_add, nI_1, pk_mul, ps_cl, ps_neg, ps_c0, ps_c1, ps_n01, ps_n11, ps_10, ps_b01, ps_e0, pu_Ine, pu_Ieq, pu_ne, pu_eq, am_k_n, am_k_i, am_k_r, am_k_u, am_k_l, am_sz_0, am_sz_i, am_sz_r, am_sz_u, am_sz_l, Option.toList_some, Option.toList_none, List.cons_append, List.nil_append, true_and, and_true, or_false, false_or, or_self, or_true, true_or, not_false_eq_true, not_true_eq_false, Classical.not_not, ne_eq, ps_e1, ps_em, ps_z, Nat.not_le, false_implies, true_implies, forall_const, ps_01, ps_1n, ps_0n, ps_m10, ps_m1n, lg_cmp_gt, lg_cmp_ge, lg_cmp_le, lg_cmp_lt, lg_cmp_eq, pu_rne, pu_req, pu_uro, RFc_n, Nat.reduceAdd, Nat.reduceMul, Nat.reduceLT, Nat.reduceLeDiff, Nat.reduceEqDiff, Nat.reduceSub]
  | succ m ih =>
    intro j hj
    rw [r274_17]
    have e1 : ¬ nI 8 ≤ nI j := nI_ge (by omega) (by decide)
    have z1 : 1800 + j < 2000000 := by omega
    have z2 : 1800 + j < 9823 := by omega
    have e4 : hbt (fun i => I 49 (1800 + i)) (j + 1) = if I 49 (1800 + j) = 0 then hbt (fun i => I 49 (1800 + i)) j else hbt (fun i => I 49 (1800 + i)) j ||| (1 <<< (nI j &&& nI 31)) := rfl
    have := ih (j + 1) (by omega)
    by_cases h : I 49 (1800 + j) = 0
    · rw [e4, if_pos h] at this
      simp only [↓r274_0, ↓r274_1, ↓r274_2, ↓r274_5, ↓r274_8, ↓r274_11, ↓r274_12, ↓r274_13, ↓r274_14, ↓r274_15, ↓r274_16, ↓r274_18, ↓r274_20, ↓r274_23, ↓r274_24, ↓r274_25, ↓r274_28, ↓r274_31, ↓r274_32, ↓r274_33, ↓r274_33k, ↓r274_34, ↓r274_37, ↓r274_38, ↓r274_39, ↓r274_40, ↓r274_43, ↓r274_44, ↓r274_45, ↓r274_46, ↓r274_49, ↓r274_52, ↓r274_53, ↓r274_54, ↓r274_55, e1, z1, z2, h, Int32.or_zero, hn, hn2, ht, hF, am_wt, am_wf, Option.isSome_some, am_rf_s, am_rf_n, ps_lit, nI_add, nI_1, pk_mul, ps_cl, ps_neg, ps_c0, ps_c1, ps_n01, ps_n11, ps_10, ps_b01, ps_e0, pu_Ine, pu_Ieq, pu_ne, pu_eq, am_k_n, am_k_i, am_k_r, am_k_u, am_k_l, am_sz_0, am_sz_i, am_sz_r, am_sz_u, am_sz_l, Option.toList_some, Option.toList_none, List.cons_append, List.nil_append, true_and, and_true, or_false, false_or, or_self, or_true, true_or, not_false_eq_true, not_true_eq_false, Classical.not_not, ne_eq, ps_e1, ps_em, ps_z, Nat.not_le, false_implies, true_implies, forall_const, ps_01, ps_1n, ps_0n, ps_m10, ps_m1n, lg_cmp_gt, lg_cmp_ge, lg_cmp_le, lg_cmp_lt, lg_cmp_eq, pu_rne, pu_req, pu_uro, RFc_n, Nat.reduceAdd, Nat.reduceMul, Nat.reduceLT, Nat.reduceLeDiff, Nat.reduceEqDiff, Nat.reduceSub]
      exact this
    · rw [e4, if_neg h] at this
      simp only [↓r274_0, ↓r274_1, ↓r274_2, ↓r274_5, ↓r274_8, ↓r274_11, ↓r274_12, ↓r274_13, ↓r274_14, ↓r274_15, ↓r274_16, ↓r274_18, ↓r274_20, ↓r274_23, ↓r274_24, ↓r274_25, ↓r274_28, ↓r274_31, ↓r274_32, ↓r274_33, ↓r274_33k, ↓r274_34, ↓r274_37, ↓r274_38, ↓r274_39, ↓r274_40, ↓r274_43, ↓r274_44, ↓r274_45, ↓r274_46, ↓r274_49, ↓r274_52, ↓r274_53, ↓r274_54, ↓r274_55, e1, z1, z2, h, hn, hn2, ht, hF, am_wt, am_wf, Option.isSome_some, am_rf_s, am_rf_n, ps_lit, nI_add, nI_1, pk_mul, ps_cl, ps_neg, ps_c0, ps_c1, ps_n01, ps_n11, ps_10, ps_b01, ps_e0, pu_Ine, pu_Ieq, pu_ne, pu_eq, am_k_n, am_k_i, am_k_r, am_k_u, am_k_l, am_sz_0, am_sz_i, am_sz_r, am_sz_u, am_sz_l, Option.toList_some, Option.toList_none, List.cons_append, List.nil_append, true_and, and_true, or_false, false_or, or_self, or_true, true_or, not_false_eq_true, not_true_eq_false, Classical.not_not, ne_eq, ps_e1, ps_em, ps_z, Nat.not_le, false_implies, true_implies, forall_const, ps_01, ps_1n, ps_0n, ps_m10, ps_m1n, lg_cmp_gt, lg_cmp_ge, lg_cmp_le, lg_cmp_lt, lg_cmp_eq, pu_rne, pu_req, pu_uro, RFc_n, Nat.reduceAdd, Nat.reduceMul, Nat.reduceLT, Nat.reduceLeDiff, Nat.reduceEqDiff, Nat.reduceSub]
      exact this
theorem hbt_c {m m' : Nat → Int32} : ∀ j, (∀ i, i < j → m i = m' i) → hbt m j = hbt m' j := by
  intro j
  induction j with
  | zero => intro _; rfl
  | succ j ih =>
    intro h
    unfold hbt
    rw [h j (by omega), ih (fun i hi => h i (by omega))]
theorem pr_hides {v : Int32} {i : Nat} (hX : XS X) (hi : i < 600) (hV : Inv i (n, sl, t, I, J, F)) : PR X i 134 274 [some (.ref 0), some (.int v)] [some (.ref 47), some (.int v), none, none] (n, sl, t, I, J, F) := by
  unfold PR
  have hW : WS n t F := hV.1
  obtain ⟨hn, hn2, ht, hF⟩ := id hW
  have hKR : KR (I 1 4) (I 1 5) (I 2) (I 3) (I 4) (I 49) := hV.2.2.1
  obtain ⟨N, T, ⟨hN, hT, hKN, hKT, hRW, hTW⟩, hs, hc, hr, hu, hm⟩ := id hKR
  by_cases h1 : 0 ≤ v ∧ v ≤ nI 255
  · have e0 := fun Q => l_hides (X := X) (d := 59) (Q := Q) (n := n) (sl := sl) (t := t) (I := I) (J := J) (F := F) (v := v) hW 8 0 rfl
    simp only [↓r134_0, ↓r134_1, ↓r134_2, ↓r134_5, ↓r134_8, ↓r134_11, ↓r134_12, ↓r134_13, ↓r134_16, ↓r134_17, ↓r134_20, ↓r134_21, ↓r274_0, ↓r274_1, ↓r274_2, ↓r274_5, ↓r274_8, ↓r274_11, ↓r274_12, ↓r274_13, ↓r274_14, ↓r274_15, ↓r274_16, ↓c_within, ↓c_meansTried, ↓c_nearest, ↓c_accept, ↓c_rf1, ↓c_rf2, ↓c_rf3, ↓c_rf5, ↓c_rf6, ↓c_has, ↓c_atx, ↓c_putx, ↓c_put0, ↓c_put1, ↓s_at0, ↓s_at1, ↓c_isTriedx, ↓c_sidex, ↓c_thingx, ↓c_isFoundx, ↓s_lies, ↓s_rf1, ↓s_rf2, ↓s_rf3, ↓s_rf5, ↓s_rf6, ↓s_good, ↓s_many, ↓s_at, ↓s_isChild, ↓s_replacesx, ↓s_factOfx, ↓s_isTried, ↓s_took, ↓s_waited, ↓s_term0, ↓s_term1, ↓s_term2, ↓s_isLong, ↓s_isShort, ↓s_thingOfx, ↓s_isFoundx, ↓s_isText, ↓s_isGroup, hW, ↓c_noCauses hW, h1, and_self, if_true, hn, hn2, ht, hF, am_wt, am_wf, Option.isSome_some, am_rf_s, am_rf_n, ps_lit, nI_add, nI_1, pk_mul, ps_cl, ps_neg, ps_c0, ps_c1, ps_n01, ps_n11, ps_10, ps_b01, ps_e0, pu_Ine, pu_Ieq, pu_ne, pu_eq, am_k_n, am_k_i, am_k_r, am_k_u, am_k_l, am_sz_0, am_sz_i, am_sz_r, am_sz_u, am_sz_l, Option.toList_some, Option.toList_none, List.cons_append, List.nil_append, true_and, and_true, or_false, false_or, or_self, or_true, true_or, not_false_eq_true, not_true_eq_false, Classical.not_not, ne_eq, ps_e1, ps_em, ps_z, Nat.not_le, false_implies, true_implies, forall_const, ps_01, ps_1n, ps_0n, ps_m10, ps_m1n, lg_cmp_gt, lg_cmp_ge, lg_cmp_le, lg_cmp_lt, lg_cmp_eq, pu_rne, pu_req, pu_uro, RFc_n, Nat.reduceAdd, Nat.reduceMul, Nat.reduceLT, Nat.reduceLeDiff, Nat.reduceEqDiff, Nat.reduceSub]
    refine ⟨_, rfl, ?_⟩
    refine (e0 _).mpr ⟨?_, Inv_sc hV hi (fun _ _ _ => rfl) (SC_r I)⟩
    rw [hbt_c 8 (fun i hi => hm i hi)]
  · simp only [↓r134_0, ↓r134_1, ↓r134_2, ↓r134_5, ↓r134_8, ↓r134_11, ↓r134_12, ↓r134_13, ↓r134_16, ↓r134_17, ↓r134_20, ↓r134_21, ↓r274_0, ↓r274_1, ↓r274_2, ↓r274_5, ↓r274_8, ↓r274_11, ↓r274_12, ↓r274_13, ↓r274_14, ↓r274_15, ↓r274_16, ↓r274_17, ↓r274_18, ↓r274_20, ↓r274_23, ↓r274_24, ↓r274_25, ↓r274_28, ↓r274_31, ↓r274_32, ↓r274_33, ↓r274_33k, ↓r274_34, ↓r274_37, ↓r274_38, ↓r274_39, ↓r274_40, ↓r274_43, ↓r274_44, ↓r274_45, ↓r274_46, ↓r274_49, ↓r274_52, ↓r274_53, ↓r274_54, ↓r274_55, ↓c_within, ↓c_meansTried, ↓c_nearest, ↓c_accept, ↓c_rf1, ↓c_rf2, ↓c_rf3, ↓c_rf5, ↓c_rf6, ↓c_has, ↓c_atx, ↓c_putx, ↓c_put0, ↓c_put1, ↓s_at0, ↓s_at1, ↓c_isTriedx, ↓c_sidex, ↓c_thingx, ↓c_isFoundx, ↓s_lies, ↓s_rf1, ↓s_rf2, ↓s_rf3, ↓s_rf5, ↓s_rf6, ↓s_good, ↓s_many, ↓s_at, ↓s_isChild, ↓s_replacesx, ↓s_factOfx, ↓s_isTried, ↓s_took, ↓s_waited, ↓s_term0, ↓s_term1, ↓s_term2, ↓s_isLong, ↓s_isShort, ↓s_thingOfx, ↓s_isFoundx, ↓s_isText, ↓s_isGroup, hW, h1, and_self, if_true, if_false, hn, hn2, ht, hF, am_wt, am_wf, Option.isSome_some, am_rf_s, am_rf_n, ps_lit, nI_add, nI_1, pk_mul, ps_cl, ps_neg, ps_c0, ps_c1, ps_n01, ps_n11, ps_10, ps_b01, ps_e0, pu_Ine, pu_Ieq, pu_ne, pu_eq, am_k_n, am_k_i, am_k_r, am_k_u, am_k_l, am_sz_0, am_sz_i, am_sz_r, am_sz_u, am_sz_l, Option.toList_some, Option.toList_none, List.cons_append, List.nil_append, true_and, and_true, or_false, false_or, or_self, or_true, true_or, not_false_eq_true, not_true_eq_false, Classical.not_not, ne_eq, ps_e1, ps_em, ps_z, Nat.not_le, false_implies, true_implies, forall_const, ps_01, ps_1n, ps_0n, ps_m10, ps_m1n, lg_cmp_gt, lg_cmp_ge, lg_cmp_le, lg_cmp_lt, lg_cmp_eq, pu_rne, pu_req, pu_uro, RFc_n, Nat.reduceAdd, Nat.reduceMul, Nat.reduceLT, Nat.reduceLeDiff, Nat.reduceEqDiff, Nat.reduceSub]
    exact ⟨_, rfl, rfl, Inv_sc hV hi (fun _ _ _ => rfl) (SC_r I)⟩
end PB1
/-! calls, one on each side: the tape is fed -/
section FE
variable {X : am_X} {d : Nat} {Q : Option Value → am_H → Prop} {n sl : Nat} {t : Nat → Nat × Nat} {I : Nat → Nat → Int32} {J : Nat → Nat → Int64} {F : Nat → Nat → Option Nat} {h : am_H}
set_option maxRecDepth 100000 in
theorem by_n (u : Nat) (hu : u < 2 ^ 32) (y z : Int32) (k : Nat) (hk : k = 0 ∨ k = 8 ∨ k = 16 ∨ k = 24) (x : Int32) (hx : x.toBitVec.toNat = u) (h1 : y.toBitVec.toNat = u / 2 ^ k) (h2 : z.toInt = x.toInt >>> k) : y.toInt8 = z.toInt8 := by
  have e1 : x.toInt = (u : Int).bmod (2 ^ 32) := by
    rw [← hx]
    exact BitVec.toInt_eq_toNat_bmod x.toBitVec
  have e2 : y.toInt = ((u / 2 ^ k : Nat) : Int).bmod (2 ^ 32) := by
    rw [← h1]
    exact BitVec.toInt_eq_toNat_bmod y.toBitVec
  apply Int8.toInt_inj.mp
  rw [Int32.toInt_toInt8, Int32.toInt_toInt8, h2, e2, e1, Int.shiftRight_eq_div_pow]
  simp only [Int.bmod]
  rcases hk with rfl | rfl | rfl | rfl <;> simp only [Nat.reducePow, Nat.reduceAdd, Nat.reduceDiv, Nat.div_one, Int.ediv_one] <;> omega
theorem by_eq (x : Int32) (k : Nat) (hk : k = 0 ∨ k = 8 ∨ k = 16 ∨ k = 24) : ((x.toUInt32 >>> ((nI k).toUInt32 &&& Int32.toUInt32 (nI 31))).toInt32).toInt8 = (x >>> (nI k &&& nI 31)).toInt8 := by
  refine by_n x.toBitVec.toNat x.toBitVec.isLt _ _ k hk x rfl ?_ ?_
  · rcases hk with rfl | rfl | rfl | rfl
    · exact pk_ushr x (nI 0) 0 (by decide)
    · exact pk_ushr x (nI 8) 8 (by decide)
    · exact pk_ushr x (nI 16) 16 (by decide)
    · exact pk_ushr x (nI 24) 24 (by decide)
  · rcases hk with rfl | rfl | rfl | rfl
    · exact pk_shr x (nI 0 &&& nI 31) 0 (by decide)
    · exact pk_shr x (nI 8 &&& nI 31) 8 (by decide)
    · exact pk_shr x (nI 16 &&& nI 31) 16 (by decide)
    · exact pk_shr x (nI 24 &&& nI 31) 24 (by decide)
/-- the byte of an int at a shift -/
def byC (x : Int32) (s : Nat) : Int32 := (x >>> (nI s &&& nI 31)).toInt8.toInt32
def b4 (b : Nat → Int32) (m : Nat) (x : Int32) : Nat → Int32 := fun i => if m ≤ i ∧ i < m + 4 then byC x (24 - 8 * (i - m)) else b i
theorem pu_ror {α : Type} {T : Nat → α} {a : Nat} {f g : α} : am_ro (am_ro T a f) a g = am_ro T a g := by
  funext b
  unfold am_ro
  by_cases h : b = a
  · simp [h]
  · simp [h]
theorem pu_ro87 {α : Type} {T : Nat → α} {f g : α} : am_ro (am_ro T 7 g) 8 f = am_ro (am_ro T 8 f) 7 g := by
  funext b
  unfold am_ro
  by_cases h : b = 8
  · simp [h]
  · by_cases h2 : b = 7
    · simp [h2]
    · simp [h, h2]
set_option maxRecDepth 10000 in
theorem c_add {m : Nat} {x : Int32} (hW : WS n t F) (hm : m + 4 ≤ 400) (hl : I 7 1 = nI m) : am_W X d 33 0 [some (.ref 7), some (.int x), none] [] (n, sl, t, I, J, F) Q ↔ Q none (n, sl, t, am_ro (am_ro I 8 (b4 (I 8) m x)) 7 (upd (I 7) 1 (nI (m + 4))), J, F) := by
  obtain ⟨hn, hn2, ht, hF⟩ := id hW
  have a1 : nI 24 + -nI 8 = nI 16 := by decide
  have a2 : nI 16 + -nI 8 = nI 8 := by decide
  have a3 : nI 8 + -nI 8 = nI 0 := by decide
  have a4 : (nI 0 + -nI 8 < 0) = True := eq_true (by decide)
  have q0 : ¬ nI 400 ≤ nI m := nI_ge (by omega) (by decide)
  have q1 : ¬ nI 400 ≤ nI (m + 1) := nI_ge (by omega) (by decide)
  have q2 : ¬ nI 400 ≤ nI (m + 2) := nI_ge (by omega) (by decide)
  have q3 : ¬ nI 400 ≤ nI (m + 3) := nI_ge (by omega) (by decide)
  have z0 : m < 2000000 ∧ m + 1 < 2000000 ∧ m + 2 < 2000000 ∧ m + 3 < 2000000 ∧ m < 1999999 ∧ m < 1999998 ∧ m < 1999997 := by omega
  have z1 : m < 400 ∧ m + 1 < 400 ∧ m + 2 < 400 ∧ m + 3 < 400 ∧ m < 399 ∧ m < 398 ∧ m < 397 := by omega
  simp only [↓r33_0, ↓r33_2, ↓r33_3, ↓r33_4, ↓r33_7, ↓r33_8, ↓r33_11, ↓r33_14, ↓r33_17, ↓r33_18, ↓r33_21, ↓r33_22, ↓r33_25, ↓r33_26, ↓r33_27, ↓r33_28, ↓r33_29, ↓r33_29z, ↓r33_30, ↓r33_31, ↓r33_31r, ↓r33_32, ↓r33_35, ↓r33_36, ↓r33_37, ↓r33_40, ↓r33_43, ↓r33_46, hl, a1, a2, a3, a4, q0, q1, q2, q3, z0, z1, Int8.toInt8_toInt32, hn, hn2, ht, hF, am_wt, am_wf, Option.isSome_some, am_rf_s, am_rf_n, ps_lit, nI_add, nI_1, pk_mul, ps_cl, ps_neg, ps_c0, ps_c1, ps_n01, ps_n11, ps_10, ps_b01, ps_e0, pu_Ine, pu_Ieq, pu_ne, pu_eq, am_k_n, am_k_i, am_k_r, am_k_u, am_k_l, am_sz_0, am_sz_i, am_sz_r, am_sz_u, am_sz_l, Option.toList_some, Option.toList_none, List.cons_append, List.nil_append, true_and, and_true, or_false, false_or, or_self, or_true, true_or, not_false_eq_true, not_true_eq_false, Classical.not_not, ne_eq, ps_e1, ps_em, ps_z, Nat.not_le, false_implies, true_implies, forall_const, ps_01, ps_1n, ps_0n, ps_m10, ps_m1n, lg_cmp_gt, lg_cmp_ge, lg_cmp_le, lg_cmp_lt, lg_cmp_eq, pu_rne, pu_req, pu_uro, RFc_n, Nat.reduceAdd, Nat.reduceMul, Nat.reduceLT, Nat.reduceLeDiff, Nat.reduceEqDiff, Nat.reduceSub]
  refine iff_of_eq (congrArg (fun Z => Q none (n, sl, t, Z, J, F)) ?_)
  funext a
  by_cases h7 : a = 7
  · subst h7
    simp only [pu_Ieq, pu_Ine, pu_req, ne_eq, not_false_eq_true, Nat.reduceAdd, Nat.reduceMul, Nat.reduceLT, Nat.reduceLeDiff, Nat.reduceEqDiff, Nat.reduceSub]
    funext j
    unfold upd
    by_cases hj : j = 1 <;> simp [hj]
  · by_cases h8 : a = 8
    · subst h8
      simp only [pu_Ieq, pu_Ine, pu_req, pu_rne, ne_eq, not_false_eq_true, Nat.reduceAdd, Nat.reduceMul, Nat.reduceLT, Nat.reduceLeDiff, Nat.reduceEqDiff, Nat.reduceSub]
      funext j
      unfold b4 byC
      by_cases hj : m ≤ j ∧ j < m + 4
      · rw [if_pos hj]
        have : j = m ∨ j = m + 1 ∨ j = m + 2 ∨ j = m + 3 := by omega
        rcases this with rfl | rfl | rfl | rfl
        · simp only [upd]
          simp [by_eq x 24 (by decide)]
        · simp only [upd]
          simp [by_eq x 16 (by decide)]
        · simp only [upd]
          simp [by_eq x 8 (by decide)]
        · simp only [upd]
          simp [by_eq x 0 (by decide)]
      · rw [if_neg hj, pu_ne (by omega), pu_ne (by omega), pu_ne (by omega), pu_ne (by omega)]
    · simp only [pu_Ine h7, pu_Ine h8, pu_rne h7, pu_rne h8]
theorem c_addx {x : Int32} (hW : WS n t F) (h1 : I 7 1 = nI (I 7 1).toNatClampNeg) (hm : (I 7 1).toNatClampNeg + 4 ≤ 400) : am_W X d 33 0 [some (.ref 7), some (.int x), none] [] (n, sl, t, I, J, F) Q ↔ Q none (n, sl, t, am_ro (am_ro I 8 (b4 (I 8) (I 7 1).toNatClampNeg x)) 7 (upd (I 7) 1 (nI ((I 7 1).toNatClampNeg + 4))), J, F) := c_add hW hm h1
/-- what 20 bytes are fed -/
def fd5 (a b c e f : Int32) : Nat → Int32 := fun j => match j with
  | 0 => a
  | 1 => b
  | 2 => c
  | 3 => e
  | _ => f
def fdB (r : Nat → Int32) (m j : Nat) (g : Nat → Int32) : Nat → Int32 := fun i => if m ≤ i ∧ i < m + j then byC (g ((i - m) / 4)) (24 - 8 * ((i - m) % 4)) else r i
theorem l_feed {m : Nat} {a b c e f : Int32} (hW : WS n t F) (hm : m + 20 ≤ 400) (hl : I 47 8 = nI m) : ∀ k j, j + k = 20 → (am_W X d 193 55 [some (.ref 47), some (.int a), some (.int b), some (.int c), some (.int e), some (.int f), some (.int (nI j))] [] (n, sl, t, am_ro I 53 (fdB (I 53) m j (I 54)), J, F) Q ↔ Q (some (.int (nI (m + 20)))) (n, sl, t, am_uI (am_ro I 53 (fdB (I 53) m 20 (I 54))) 47 8 (nI (m + 20)), J, F)) := by
  obtain ⟨hn, hn2, ht, hF⟩ := id hW
  intro k
  induction k with
  | zero =>
    intro j hj
    obtain rfl : j = 20 := by omega
    rw [r193_55]
    simp only [↓r193_0, ↓r193_1, ↓r193_4, ↓r193_6, ↓r193_7, ↓r193_10, ↓r193_13, ↓r193_14, ↓r193_15, ↓r193_16, ↓r193_19, ↓r193_20, ↓r193_21, ↓r193_22, ↓r193_23, ↓r193_26, ↓r193_27, ↓r193_28, ↓r193_29, ↓r193_30, ↓r193_33, ↓r193_34, ↓r193_35, ↓r193_36, ↓r193_37, ↓r193_40, ↓r193_41, ↓r193_43, ↓r193_44, ↓r193_45, ↓r193_48, ↓r193_49, ↓r193_51, ↓r193_52, ↓r193_53, ↓r193_57, ↓r193_59, ↓r193_62, ↓r193_63, ↓r193_66, ↓r193_67, ↓r193_70, ↓r193_72, ↓r193_73, ↓r193_74, ↓r193_77, ↓r193_79, ↓r193_80, ↓r193_81, ↓r193_81k, ↓r193_82, ↓r193_84, ↓r193_86, ↓r193_88, ↓r193_89, ↓r193_90, ↓r193_91, ↓r193_92, ↓r193_93, ↓r193_94, ↓r193_94z, ↓r193_95, ↓r193_98, ↓r193_101, ↓r193_102, ↓r193_102r, ↓r193_103, ↓r193_106, ↓r193_108, ↓r193_109, ↓r193_112, ↓r193_113, ↓r193_116, hl, Int32.le_refl, hn, hn2, ht, hF, am_wt, am_wf, Option.isSome_some, am_rf_s, am_rf_n, ps_lit, nI_add, nI_1, pk_mul, ps_cl, ps_neg, ps_c0, ps_c1, ps_n01, ps_n11, ps_10, ps_b01, ps_e0, pu_Ine, pu_Ieq, pu_ne, pu_eq, am_k_n, am_k_i, am_k_r, am_k_u, am_k_l, am_sz_0, am_sz_i, am_sz_r, am_sz_u, am_sz_l, Option.toList_some, Option.toList_none, List.cons_append, List.nil_append, true_and, and_true, or_false, false_or, or_self, or_true, true_or, not_false_eq_true, not_true_eq_false, Classical.not_not, ne_eq, ps_e1, ps_em, ps_z, Nat.not_le, false_implies, true_implies, forall_const, ps_01, ps_1n, ps_0n, ps_m10, ps_m1n, lg_cmp_gt, lg_cmp_ge, lg_cmp_le, lg_cmp_lt, lg_cmp_eq, pu_rne, pu_req, pu_uro, RFc_n, Nat.reduceAdd, Nat.reduceMul, Nat.reduceLT, Nat.reduceLeDiff, Nat.reduceEqDiff, Nat.reduceSub]
  | succ k ih =>
    intro j hj
    rw [r193_55]
    have e1 : ¬ nI 20 ≤ nI j := nI_ge (by omega) (by decide)
    have e2 : ¬ nI 4 = 0 := by decide
    have e3 : nI j / nI 4 = nI (j / 4) := pk_div (by omega) (by decide) (by decide)
    have e4 : nI j - nI (j / 4) * nI 4 = nI (j % 4) := by
      rw [← e3]
      exact pk_rem (by omega) (by decide) (by decide)
    have e5 : nI 24 - nI (8 * (j % 4)) = nI (24 - 8 * (j % 4)) := pk_sub (by omega)
    have z1 : m + j < 2000000 := by omega
    have z2 : m + j < 400 := by omega
    have z3 : j / 4 < 2000000 := by omega
    have z4 : j / 4 < 5 := by omega
    have e6 : upd (fdB (I 53) m j (I 54)) (m + j) (byC (I 54 (j / 4)) (24 - 8 * (j % 4))) = fdB (I 53) m (j + 1) (I 54) := by
      funext i
      unfold upd fdB
      by_cases h1 : i = m + j
      · subst h1
        rw [if_pos rfl, if_pos (by omega), Nat.add_sub_cancel_left]
      · rw [if_neg h1]
        by_cases h2 : m ≤ i ∧ i < m + j
        · rw [if_pos h2, if_pos (by omega)]
        · rw [if_neg h2, if_neg (by omega)]
    have e4' : nI j - nI (j / 4 * 4) = nI (j % 4) := by
      rw [← pk_mul]
      exact e4
    have e7 := ih (j + 1) (by omega)
    rw [← e6] at e7
    unfold byC at e7
    simp only [↓r193_0, ↓r193_1, ↓r193_4, ↓r193_6, ↓r193_7, ↓r193_10, ↓r193_13, ↓r193_14, ↓r193_15, ↓r193_16, ↓r193_19, ↓r193_20, ↓r193_21, ↓r193_22, ↓r193_23, ↓r193_26, ↓r193_27, ↓r193_28, ↓r193_29, ↓r193_30, ↓r193_33, ↓r193_34, ↓r193_35, ↓r193_36, ↓r193_37, ↓r193_40, ↓r193_41, ↓r193_43, ↓r193_44, ↓r193_45, ↓r193_48, ↓r193_49, ↓r193_51, ↓r193_52, ↓r193_53, ↓r193_57, ↓r193_59, ↓r193_62, ↓r193_63, ↓r193_66, ↓r193_67, ↓r193_70, ↓r193_72, ↓r193_73, ↓r193_74, ↓r193_77, ↓r193_79, ↓r193_80, ↓r193_81, ↓r193_81k, ↓r193_82, ↓r193_84, ↓r193_86, ↓r193_88, ↓r193_89, ↓r193_90, ↓r193_91, ↓r193_92, ↓r193_93, ↓r193_94, ↓r193_94z, ↓r193_95, ↓r193_98, ↓r193_101, ↓r193_102, ↓r193_102r, ↓r193_103, ↓r193_106, ↓r193_108, ↓r193_109, ↓r193_112, ↓r193_113, ↓r193_116, hl, e1, e2, e3, e4, e4', e5, z1, z2, z3, z4, Int8.toInt8_toInt32, hn, hn2, ht, hF, am_wt, am_wf, Option.isSome_some, am_rf_s, am_rf_n, ps_lit, nI_add, nI_1, pk_mul, ps_cl, ps_neg, ps_c0, ps_c1, ps_n01, ps_n11, ps_10, ps_b01, ps_e0, pu_Ine, pu_Ieq, pu_ne, pu_eq, am_k_n, am_k_i, am_k_r, am_k_u, am_k_l, am_sz_0, am_sz_i, am_sz_r, am_sz_u, am_sz_l, Option.toList_some, Option.toList_none, List.cons_append, List.nil_append, true_and, and_true, or_false, false_or, or_self, or_true, true_or, not_false_eq_true, not_true_eq_false, Classical.not_not, ne_eq, ps_e1, ps_em, ps_z, Nat.not_le, false_implies, true_implies, forall_const, ps_01, ps_1n, ps_0n, ps_m10, ps_m1n, lg_cmp_gt, lg_cmp_ge, lg_cmp_le, lg_cmp_lt, lg_cmp_eq, pu_rne, pu_req, pu_uro, RFc_n, Nat.reduceAdd, Nat.reduceMul, Nat.reduceLT, Nat.reduceLeDiff, Nat.reduceEqDiff, Nat.reduceSub]
    exact e7
theorem fd_eq {r r' : Nat → Int32} {m : Nat} {a b c e f : Int32} {g : Nat → Int32} (hg : ∀ j, j < 5 → g j = fd5 a b c e f j) (hr : ∀ j, j < m → r j = r' j) : ∀ j, j < m + 20 → b4 (b4 (b4 (b4 (b4 r m a) (m + 4) b) (m + 8) c) (m + 12) e) (m + 16) f j = fdB r' m 20 g j := by
  intro j hj
  by_cases h0 : j < m
  · unfold b4 fdB
    rw [if_neg (by omega), if_neg (by omega), if_neg (by omega), if_neg (by omega), if_neg (by omega), if_neg (by omega)]
    exact hr j h0
  · obtain ⟨q, rfl⟩ : ∃ q, j = m + q := ⟨j - m, by omega⟩
    have hq : q < 20 := by omega
    unfold fdB
    rw [if_pos (by omega), Nat.add_sub_cancel_left, hg _ (by omega)]
    unfold b4
    by_cases h1 : q < 4
    · rw [if_neg (by omega), if_neg (by omega), if_neg (by omega), if_neg (by omega), if_pos (by omega), show q / 4 = 0 by omega, show q % 4 = m + q - m by omega]
      rfl
    · by_cases h2 : q < 8
      · rw [if_neg (by omega), if_neg (by omega), if_neg (by omega), if_pos (by omega), show q / 4 = 1 by omega, show q % 4 = m + q - (m + 4) by omega]
        rfl
      · by_cases h3 : q < 12
        · rw [if_neg (by omega), if_neg (by omega), if_pos (by omega), show q / 4 = 2 by omega, show q % 4 = m + q - (m + 8) by omega]
          rfl
        · by_cases h4 : q < 16
          · rw [if_neg (by omega), if_pos (by omega), show q / 4 = 3 by omega, show q % 4 = m + q - (m + 12) by omega]
            rfl
          · rw [if_pos (by omega), show q / 4 = 4 by omega, show q % 4 = m + q - (m + 16) by omega]
            rfl
theorem byC_8 (x : Int32) (s : Nat) : (byC x s).toInt8.toInt32 = byC x s := by
  unfold byC
  rw [Int8.toInt8_toInt32]
theorem fdB_8 {r : Nat → Int32} {m : Nat} {g : Nat → Int32} (h : ∀ j, j < m → (r j).toInt8.toInt32 = r j) : ∀ j, j < m + 20 → (fdB r m 20 g j).toInt8.toInt32 = fdB r m 20 g j := by
  intro j hj
  unfold fdB
  by_cases h0 : m ≤ j ∧ j < m + 20
  · rw [if_pos h0]; exact byC_8 _ _
  · rw [if_neg h0]; exact h j (by omega)
theorem pr_feed {a b c e f : Int32} {i : Nat} (hX : XS X) (hi : i < 600) (hV : Inv i (n, sl, t, I, J, F)) : PR X i 31 193 [some (.ref 0), some (.int a), some (.int b), some (.int c), some (.int e), some (.int f)] [some (.ref 47), some (.int a), some (.int b), some (.int c), some (.int e), some (.int f), none] (n, sl, t, I, J, F) := by
  unfold PR
  have hW : WS n t F := hV.1
  obtain ⟨hn, hn2, ht, hF⟩ := id hW
  have hKR : KR (I 1 4) (I 1 5) (I 2) (I 3) (I 4) (I 49) := hV.2.2.1
  obtain ⟨N, T, ⟨hN, hT, hKN, hKT, hRW, hTW⟩, hs, hc, hr, hu, hm⟩ := id hKR
  have hTP : TP (I 7 1) (I 8) (I 47 8) (I 53) := hV.2.2.2.2.2.1
  obtain ⟨m, hm4, e1, e2, e3⟩ := id hTP
  by_cases h20 : m + 20 ≤ 400
  · have q1 : ¬ nI 400 < nI (m + 20) := nI_nlt h20 (by decide)
    have q2 : nI (m + 20) ≤ nI 400 := nI_le h20 (by decide)
    have z : m < 2000000 ∧ m + 4 < 2000000 ∧ m + 8 < 2000000 ∧ m + 12 < 2000000 ∧ m + 16 < 2000000 ∧ m < 1999996 ∧ m < 1999992 ∧ m < 1999988 ∧ m < 1999984 := by omega
    have z2 : m + 4 ≤ 400 ∧ m + 8 ≤ 400 ∧ m + 12 ≤ 400 ∧ m + 16 ≤ 400 ∧ m + 20 ≤ 400 ∧ m ≤ 396 ∧ m ≤ 392 ∧ m ≤ 388 ∧ m ≤ 384 ∧ m ≤ 380 := by omega
    simp only [↓r31_0, ↓r31_1, ↓r31_4, ↓r31_6, ↓r31_9, ↓r31_12, ↓r31_13, ↓r31_14, ↓r31_15, ↓r31_18, ↓r31_19, ↓r31_22, ↓r31_23, ↓r31_26, ↓r31_27, ↓r31_30, ↓r31_31, ↓r31_34, ↓r31_35, ↓r31_38, ↓r31_39, ↓r31_42, ↓r31_44, ↓r31_47, ↓r31_48, ↓r31_51, ↓r31_53, ↓r31_56, ↓r31_57, ↓r31_60, ↓r31_63, ↓r32_0, ↓r32_1, ↓r32_4, ↓r32_5, ↓r32_6, ↓r32_9, ↓r32_12, ↓r32_13, ↓r32_16, ↓r32_17, ↓r193_0, ↓r193_1, ↓r193_4, ↓r193_6, ↓r193_7, ↓r193_10, ↓r193_13, ↓r193_14, ↓r193_15, ↓r193_16, ↓r193_19, ↓r193_20, ↓r193_21, ↓r193_22, ↓r193_23, ↓r193_26, ↓r193_27, ↓r193_28, ↓r193_29, ↓r193_30, ↓r193_33, ↓r193_34, ↓r193_35, ↓r193_36, ↓r193_37, ↓r193_40, ↓r193_41, ↓r193_43, ↓r193_44, ↓r193_45, ↓r193_48, ↓r193_49, ↓r193_51, ↓r193_52, ↓r193_53, ↓c_addx, hW, e1, e2, q1, q2, z, z2, Nat.add_assoc, pu_ror, pu_ro87, hn, hn2, ht, hF, am_wt, am_wf, Option.isSome_some, am_rf_s, am_rf_n, ps_lit, nI_add, nI_1, pk_mul, ps_cl, ps_neg, ps_c0, ps_c1, ps_n01, ps_n11, ps_10, ps_b01, ps_e0, pu_Ine, pu_Ieq, pu_ne, pu_eq, am_k_n, am_k_i, am_k_r, am_k_u, am_k_l, am_sz_0, am_sz_i, am_sz_r, am_sz_u, am_sz_l, Option.toList_some, Option.toList_none, List.cons_append, List.nil_append, true_and, and_true, or_false, false_or, or_self, or_true, true_or, not_false_eq_true, not_true_eq_false, Classical.not_not, ne_eq, ps_e1, ps_em, ps_z, Nat.not_le, false_implies, true_implies, forall_const, ps_01, ps_1n, ps_0n, ps_m10, ps_m1n, lg_cmp_gt, lg_cmp_ge, lg_cmp_le, lg_cmp_lt, lg_cmp_eq, pu_rne, pu_req, pu_uro, RFc_n, Nat.reduceAdd, Nat.reduceMul, Nat.reduceLT, Nat.reduceLeDiff, Nat.reduceEqDiff, Nat.reduceSub]
    sorry
  · have q1 : nI 400 < nI (m + 20) := nI_lt (by omega) (by omega)
    have q2 : ¬ nI (m + 20) ≤ nI 400 := nI_ge (by omega) (by omega)
    simp only [↓r31_0, ↓r31_1, ↓r31_4, ↓r31_6, ↓r31_9, ↓r31_12, ↓r31_13, ↓r31_14, ↓r31_15, ↓r31_18, ↓r31_19, ↓r31_22, ↓r31_23, ↓r31_26, ↓r31_27, ↓r31_30, ↓r31_31, ↓r31_34, ↓r31_35, ↓r31_38, ↓r31_39, ↓r31_42, ↓r31_44, ↓r31_47, ↓r31_48, ↓r31_51, ↓r31_53, ↓r31_56, ↓r31_57, ↓r31_60, ↓r31_63, ↓r32_0, ↓r32_1, ↓r32_4, ↓r32_5, ↓r32_6, ↓r32_9, ↓r32_12, ↓r32_13, ↓r32_16, ↓r32_17, ↓r193_0, ↓r193_1, ↓r193_4, ↓r193_6, ↓r193_7, ↓r193_10, ↓r193_13, ↓r193_14, ↓r193_15, ↓r193_16, ↓r193_19, ↓r193_20, ↓r193_21, ↓r193_22, ↓r193_23, ↓r193_26, ↓r193_27, ↓r193_28, ↓r193_29, ↓r193_30, ↓r193_33, ↓r193_34, ↓r193_35, ↓r193_36, ↓r193_37, ↓r193_40, ↓r193_41, ↓r193_43, ↓r193_44, ↓r193_45, ↓r193_48, ↓r193_49, ↓r193_51, ↓r193_52, ↓r193_53, ↓r193_55, ↓r193_57, ↓r193_59, ↓r193_62, ↓r193_63, ↓r193_66, ↓r193_67, ↓r193_70, ↓r193_72, ↓r193_73, ↓r193_74, ↓r193_77, ↓r193_79, ↓r193_80, ↓r193_81, ↓r193_81k, ↓r193_82, ↓r193_84, ↓r193_86, ↓r193_88, ↓r193_89, ↓r193_90, ↓r193_91, ↓r193_92, ↓r193_93, ↓r193_94, ↓r193_94z, ↓r193_95, ↓r193_98, ↓r193_101, ↓r193_102, ↓r193_102r, ↓r193_103, ↓r193_106, ↓r193_108, ↓r193_109, ↓r193_112, ↓r193_113, ↓r193_116, hW, e1, e2, q1, q2, hn, hn2, ht, hF, am_wt, am_wf, Option.isSome_some, am_rf_s, am_rf_n, ps_lit, nI_add, nI_1, pk_mul, ps_cl, ps_neg, ps_c0, ps_c1, ps_n01, ps_n11, ps_10, ps_b01, ps_e0, pu_Ine, pu_Ieq, pu_ne, pu_eq, am_k_n, am_k_i, am_k_r, am_k_u, am_k_l, am_sz_0, am_sz_i, am_sz_r, am_sz_u, am_sz_l, Option.toList_some, Option.toList_none, List.cons_append, List.nil_append, true_and, and_true, or_false, false_or, or_self, or_true, true_or, not_false_eq_true, not_true_eq_false, Classical.not_not, ne_eq, ps_e1, ps_em, ps_z, Nat.not_le, false_implies, true_implies, forall_const, ps_01, ps_1n, ps_0n, ps_m10, ps_m1n, lg_cmp_gt, lg_cmp_ge, lg_cmp_le, lg_cmp_lt, lg_cmp_eq, pu_rne, pu_req, pu_uro, RFc_n, Nat.reduceAdd, Nat.reduceMul, Nat.reduceLT, Nat.reduceLeDiff, Nat.reduceEqDiff, Nat.reduceSub]
    exact ⟨_, rfl, rfl, Inv_sc hV hi (fun _ _ _ => rfl) (SC_r I)⟩
end FE
/-! calls, one on each side: count -/
section CO
variable {X : am_X} {d : Nat} {Q : Option Value → am_H → Prop} {n sl : Nat} {t : Nat → Nat × Nat} {I : Nat → Nat → Int32} {J : Nat → Nat → Int64} {F : Nat → Nat → Option Nat} {h : am_H}
theorem ps_n5 : nI 6 - nI 5 = 1 ∧ nI 7 - nI 5 = nI 2 ∧ nI 8 - nI 5 = nI 3 := by decide
/-- how many of the first j have p -/
def cnt (p : Nat → Bool) : Nat → Nat
  | 0 => 0
  | j + 1 => cnt p j + (if p j then 1 else 0)
theorem cnt_le (p : Nat → Bool) : ∀ j, cnt p j ≤ j := by
  intro j
  induction j with
  | zero => exact Nat.le_refl 0
  | succ j ih =>
    unfold cnt
    split <;> omega
theorem cnt_c {p q : Nat → Bool} : ∀ j, (∀ i, i < j → p i = q i) → cnt p j = cnt q j := by
  intro j
  induction j with
  | zero => intro _; rfl
  | succ j ih =>
    intro h
    unfold cnt
    rw [ih (fun i hi => h i (by omega)), h j (by omega)]
theorem l_countHow {N : Nat} {v : Int32} (hW : WS n t F) (hN : N ≤ 120) (hs : I 1 4 = nI N) : ∀ m j, j + m = N → (am_W X (d + 1) 163 4 [some (.ref 1), some (.int v), some (.int (nI (cnt (fun i => decide (I 2 (15 * i + 10) = v)) j))), some (.int (nI j))] [] (n, sl, t, I, J, F) Q ↔ Q (some (.int (nI (cnt (fun i => decide (I 2 (15 * i + 10) = v)) N)))) (n, sl, t, I, J, F)) := by
  obtain ⟨hn, hn2, ht, hF⟩ := id hW
  have hb : nI N ≤ nI 120 := nI_le hN (by decide)
  intro m
  induction m with
  | zero =>
    intro j hj
    obtain rfl : j = N := by omega
    rw [r163_4]
    simp only [↓r163_0, ↓r163_1, ↓r163_2, ↓r163_3, ↓r163_5, ↓r163_6, ↓r163_9, ↓r163_12, ↓r163_13, ↓r163_14, ↓r163_16, ↓r163_19, ↓r163_20, ↓r163_23, ↓r163_26, ↓r163_29, ↓r163_32, ↓r163_33, hs, Int32.le_refl, hn, hn2, ht, hF, am_wt, am_wf, Option.isSome_some, am_rf_s, am_rf_n, ps_lit, nI_add, nI_1, pk_mul, ps_cl, ps_neg, ps_c0, ps_c1, ps_n01, ps_n11, ps_10, ps_b01, ps_e0, pu_Ine, pu_Ieq, pu_ne, pu_eq, am_k_n, am_k_i, am_k_r, am_k_u, am_k_l, am_sz_0, am_sz_i, am_sz_r, am_sz_u, am_sz_l, Option.toList_some, Option.toList_none, List.cons_append, List.nil_append, true_and, and_true, or_false, false_or, or_self, or_true, true_or, not_false_eq_true, not_true_eq_false, Classical.not_not, ne_eq, ps_e1, ps_em, ps_z, Nat.not_le, false_implies, true_implies, forall_const, ps_01, ps_1n, ps_0n, ps_m10, ps_m1n, lg_cmp_gt, lg_cmp_ge, lg_cmp_le, lg_cmp_lt, lg_cmp_eq, pu_rne, pu_req, pu_uro, RFc_n, Nat.reduceAdd, Nat.reduceMul, Nat.reduceLT, Nat.reduceLeDiff, Nat.reduceEqDiff, Nat.reduceSub]
  | succ m ih =>
    intro j hj
    rw [r163_4]
    have e1 : ¬ nI N ≤ nI j := nI_ge (by omega) (by omega)
    have ha : nI j < nI N := nI_lt (by omega) (by omega)
    have hj2 : j < 120 := by omega
    have := ih (j + 1) (by omega)
    by_cases h : I 2 (15 * j + 10) = v
    · have e4 : cnt (fun i => decide (I 2 (15 * i + 10) = v)) (j + 1) = cnt (fun i => decide (I 2 (15 * i + 10) = v)) j + 1 := by
        rw [cnt]
        simp [h]
      rw [e4] at this
      simp only [↓r163_0, ↓r163_1, ↓r163_2, ↓r163_3, ↓r163_5, ↓r163_6, ↓r163_9, ↓r163_12, ↓r163_13, ↓r163_14, ↓r163_16, ↓r163_19, ↓r163_20, ↓r163_23, ↓r163_26, ↓r163_29, ↓r163_32, ↓r163_33, ↓c_within, ↓c_meansTried, ↓c_nearest, ↓c_accept, ↓c_rf1, ↓c_rf2, ↓c_rf3, ↓c_rf5, ↓c_rf6, ↓c_has, ↓c_atx, ↓c_putx, ↓c_put0, ↓c_put1, ↓s_at0, ↓s_at1, ↓c_isTriedx, ↓c_sidex, ↓c_thingx, ↓c_isFoundx, ↓s_lies, ↓s_rf1, ↓s_rf2, ↓s_rf3, ↓s_rf5, ↓s_rf6, ↓s_good, ↓s_many, ↓s_at, ↓s_isChild, ↓s_replacesx, ↓s_factOfx, ↓s_isTried, ↓s_took, ↓s_waited, ↓s_term0, ↓s_term1, ↓s_term2, ↓s_isLong, ↓s_isShort, ↓s_thingOfx, ↓s_isFoundx, ↓s_isText, ↓s_isGroup, hW, hs, e1, ha, hb, hj2, h, hn, hn2, ht, hF, am_wt, am_wf, Option.isSome_some, am_rf_s, am_rf_n, ps_lit, nI_add, nI_1, pk_mul, ps_cl, ps_neg, ps_c0, ps_c1, ps_n01, ps_n11, ps_10, ps_b01, ps_e0, pu_Ine, pu_Ieq, pu_ne, pu_eq, am_k_n, am_k_i, am_k_r, am_k_u, am_k_l, am_sz_0, am_sz_i, am_sz_r, am_sz_u, am_sz_l, Option.toList_some, Option.toList_none, List.cons_append, List.nil_append, true_and, and_true, or_false, false_or, or_self, or_true, true_or, not_false_eq_true, not_true_eq_false, Classical.not_not, ne_eq, ps_e1, ps_em, ps_z, Nat.not_le, false_implies, true_implies, forall_const, ps_01, ps_1n, ps_0n, ps_m10, ps_m1n, lg_cmp_gt, lg_cmp_ge, lg_cmp_le, lg_cmp_lt, lg_cmp_eq, pu_rne, pu_req, pu_uro, RFc_n, Nat.reduceAdd, Nat.reduceMul, Nat.reduceLT, Nat.reduceLeDiff, Nat.reduceEqDiff, Nat.reduceSub]
      exact this
    · have e4 : cnt (fun i => decide (I 2 (15 * i + 10) = v)) (j + 1) = cnt (fun i => decide (I 2 (15 * i + 10) = v)) j := by
        rw [cnt]
        simp [h]
      rw [e4] at this
      simp only [↓r163_0, ↓r163_1, ↓r163_2, ↓r163_3, ↓r163_5, ↓r163_6, ↓r163_9, ↓r163_12, ↓r163_13, ↓r163_14, ↓r163_16, ↓r163_19, ↓r163_20, ↓r163_23, ↓r163_26, ↓r163_29, ↓r163_32, ↓r163_33, ↓c_within, ↓c_meansTried, ↓c_nearest, ↓c_accept, ↓c_rf1, ↓c_rf2, ↓c_rf3, ↓c_rf5, ↓c_rf6, ↓c_has, ↓c_atx, ↓c_putx, ↓c_put0, ↓c_put1, ↓s_at0, ↓s_at1, ↓c_isTriedx, ↓c_sidex, ↓c_thingx, ↓c_isFoundx, ↓s_lies, ↓s_rf1, ↓s_rf2, ↓s_rf3, ↓s_rf5, ↓s_rf6, ↓s_good, ↓s_many, ↓s_at, ↓s_isChild, ↓s_replacesx, ↓s_factOfx, ↓s_isTried, ↓s_took, ↓s_waited, ↓s_term0, ↓s_term1, ↓s_term2, ↓s_isLong, ↓s_isShort, ↓s_thingOfx, ↓s_isFoundx, ↓s_isText, ↓s_isGroup, hW, hs, e1, ha, hb, hj2, h, hn, hn2, ht, hF, am_wt, am_wf, Option.isSome_some, am_rf_s, am_rf_n, ps_lit, nI_add, nI_1, pk_mul, ps_cl, ps_neg, ps_c0, ps_c1, ps_n01, ps_n11, ps_10, ps_b01, ps_e0, pu_Ine, pu_Ieq, pu_ne, pu_eq, am_k_n, am_k_i, am_k_r, am_k_u, am_k_l, am_sz_0, am_sz_i, am_sz_r, am_sz_u, am_sz_l, Option.toList_some, Option.toList_none, List.cons_append, List.nil_append, true_and, and_true, or_false, false_or, or_self, or_true, true_or, not_false_eq_true, not_true_eq_false, Classical.not_not, ne_eq, ps_e1, ps_em, ps_z, Nat.not_le, false_implies, true_implies, forall_const, ps_01, ps_1n, ps_0n, ps_m10, ps_m1n, lg_cmp_gt, lg_cmp_ge, lg_cmp_le, lg_cmp_lt, lg_cmp_eq, pu_rne, pu_req, pu_uro, RFc_n, Nat.reduceAdd, Nat.reduceMul, Nat.reduceLT, Nat.reduceLeDiff, Nat.reduceEqDiff, Nat.reduceSub]
      exact this
theorem c_countHow {N : Nat} {v : Int32} (hW : WS n t F) (hN : N ≤ 120) (hs : I 1 4 = nI N) : am_W X (d + 1) 163 0 [some (.ref 1), some (.int v), none, none] [] (n, sl, t, I, J, F) Q ↔ Q (some (.int (nI (cnt (fun i => decide (I 2 (15 * i + 10) = v)) N)))) (n, sl, t, I, J, F) := by
  rw [← l_countHow (X := X) (d := d) (Q := Q) (sl := sl) (J := J) hW hN hs N 0 (by omega)]
  simp only [↓r163_0, ↓r163_1, ↓r163_2, ↓r163_3, am_k_i]
  exact Iff.rfl
theorem l_countFound {N th : Nat} (hW : WS n t F) (hN : N ≤ 120) (hs : I 1 4 = nI N) (hth : th < 4) (hT : I 3 1 = nI th) : ∀ m j, j + m = N → (am_W X (d + 3) 164 4 [some (.ref 1), some (.int (nI (cnt (fun i => !decide (I 2 (15 * i + (11 + th)) = -1)) j))), some (.int (nI j))] [] (n, sl, t, I, J, F) Q ↔ Q (some (.int (nI (cnt (fun i => !decide (I 2 (15 * i + (11 + th)) = -1)) N)))) (n, sl, t, I, J, F)) := by
  obtain ⟨hn, hn2, ht, hF⟩ := id hW
  have hb : nI N ≤ nI 120 := nI_le hN (by decide)
  have hth2 : th < 2000000 := by omega
  intro m
  induction m with
  | zero =>
    intro j hj
    obtain rfl : j = N := by omega
    rw [r164_4]
    simp only [↓r164_0, ↓r164_1, ↓r164_2, ↓r164_3, ↓r164_5, ↓r164_6, ↓r164_9, ↓r164_12, ↓r164_13, ↓r164_14, ↓r164_17, ↓r164_20, ↓r164_23, ↓r164_26, ↓r164_29, ↓r164_30, hs, Int32.le_refl, hn, hn2, ht, hF, am_wt, am_wf, Option.isSome_some, am_rf_s, am_rf_n, ps_lit, nI_add, nI_1, pk_mul, ps_cl, ps_neg, ps_c0, ps_c1, ps_n01, ps_n11, ps_10, ps_b01, ps_e0, pu_Ine, pu_Ieq, pu_ne, pu_eq, am_k_n, am_k_i, am_k_r, am_k_u, am_k_l, am_sz_0, am_sz_i, am_sz_r, am_sz_u, am_sz_l, Option.toList_some, Option.toList_none, List.cons_append, List.nil_append, true_and, and_true, or_false, false_or, or_self, or_true, true_or, not_false_eq_true, not_true_eq_false, Classical.not_not, ne_eq, ps_e1, ps_em, ps_z, Nat.not_le, false_implies, true_implies, forall_const, ps_01, ps_1n, ps_0n, ps_m10, ps_m1n, lg_cmp_gt, lg_cmp_ge, lg_cmp_le, lg_cmp_lt, lg_cmp_eq, pu_rne, pu_req, pu_uro, RFc_n, Nat.reduceAdd, Nat.reduceMul, Nat.reduceLT, Nat.reduceLeDiff, Nat.reduceEqDiff, Nat.reduceSub]
  | succ m ih =>
    intro j hj
    rw [r164_4]
    have e1 : ¬ nI N ≤ nI j := nI_ge (by omega) (by omega)
    have ha : nI j < nI N := nI_lt (by omega) (by omega)
    have hj2 : j < 120 := by omega
    have := ih (j + 1) (by omega)
    by_cases h : I 2 (15 * j + (11 + th)) = -1
    · have e4 : cnt (fun i => !decide (I 2 (15 * i + (11 + th)) = -1)) (j + 1) = cnt (fun i => !decide (I 2 (15 * i + (11 + th)) = -1)) j := by
        rw [cnt]
        simp [h]
      rw [e4] at this
      simp only [↓r164_0, ↓r164_1, ↓r164_2, ↓r164_3, ↓r164_5, ↓r164_6, ↓r164_9, ↓r164_12, ↓r164_13, ↓r164_14, ↓r164_17, ↓r164_20, ↓r164_23, ↓r164_26, ↓r164_29, ↓r164_30, ↓c_within, ↓c_meansTried, ↓c_nearest, ↓c_accept, ↓c_rf1, ↓c_rf2, ↓c_rf3, ↓c_rf5, ↓c_rf6, ↓c_has, ↓c_atx, ↓c_putx, ↓c_put0, ↓c_put1, ↓s_at0, ↓s_at1, ↓c_isTriedx, ↓c_sidex, ↓c_thingx, ↓c_isFoundx, ↓s_lies, ↓s_rf1, ↓s_rf2, ↓s_rf3, ↓s_rf5, ↓s_rf6, ↓s_good, ↓s_many, ↓s_at, ↓s_isChild, ↓s_replacesx, ↓s_factOfx, ↓s_isTried, ↓s_took, ↓s_waited, ↓s_term0, ↓s_term1, ↓s_term2, ↓s_isLong, ↓s_isShort, ↓s_thingOfx, ↓s_isFoundx, ↓s_isText, ↓s_isGroup, hW, hs, hT, hth, hth2, e1, ha, hb, hj2, h, if_true, if_false, hn, hn2, ht, hF, am_wt, am_wf, Option.isSome_some, am_rf_s, am_rf_n, ps_lit, nI_add, nI_1, pk_mul, ps_cl, ps_neg, ps_c0, ps_c1, ps_n01, ps_n11, ps_10, ps_b01, ps_e0, pu_Ine, pu_Ieq, pu_ne, pu_eq, am_k_n, am_k_i, am_k_r, am_k_u, am_k_l, am_sz_0, am_sz_i, am_sz_r, am_sz_u, am_sz_l, Option.toList_some, Option.toList_none, List.cons_append, List.nil_append, true_and, and_true, or_false, false_or, or_self, or_true, true_or, not_false_eq_true, not_true_eq_false, Classical.not_not, ne_eq, ps_e1, ps_em, ps_z, Nat.not_le, false_implies, true_implies, forall_const, ps_01, ps_1n, ps_0n, ps_m10, ps_m1n, lg_cmp_gt, lg_cmp_ge, lg_cmp_le, lg_cmp_lt, lg_cmp_eq, pu_rne, pu_req, pu_uro, RFc_n, Nat.reduceAdd, Nat.reduceMul, Nat.reduceLT, Nat.reduceLeDiff, Nat.reduceEqDiff, Nat.reduceSub]
      exact this
    · have e4 : cnt (fun i => !decide (I 2 (15 * i + (11 + th)) = -1)) (j + 1) = cnt (fun i => !decide (I 2 (15 * i + (11 + th)) = -1)) j + 1 := by
        rw [cnt]
        simp [h]
      rw [e4] at this
      simp only [↓r164_0, ↓r164_1, ↓r164_2, ↓r164_3, ↓r164_5, ↓r164_6, ↓r164_9, ↓r164_12, ↓r164_13, ↓r164_14, ↓r164_17, ↓r164_20, ↓r164_23, ↓r164_26, ↓r164_29, ↓r164_30, ↓c_within, ↓c_meansTried, ↓c_nearest, ↓c_accept, ↓c_rf1, ↓c_rf2, ↓c_rf3, ↓c_rf5, ↓c_rf6, ↓c_has, ↓c_atx, ↓c_putx, ↓c_put0, ↓c_put1, ↓s_at0, ↓s_at1, ↓c_isTriedx, ↓c_sidex, ↓c_thingx, ↓c_isFoundx, ↓s_lies, ↓s_rf1, ↓s_rf2, ↓s_rf3, ↓s_rf5, ↓s_rf6, ↓s_good, ↓s_many, ↓s_at, ↓s_isChild, ↓s_replacesx, ↓s_factOfx, ↓s_isTried, ↓s_took, ↓s_waited, ↓s_term0, ↓s_term1, ↓s_term2, ↓s_isLong, ↓s_isShort, ↓s_thingOfx, ↓s_isFoundx, ↓s_isText, ↓s_isGroup, hW, hs, hT, hth, hth2, e1, ha, hb, hj2, h, if_true, if_false, hn, hn2, ht, hF, am_wt, am_wf, Option.isSome_some, am_rf_s, am_rf_n, ps_lit, nI_add, nI_1, pk_mul, ps_cl, ps_neg, ps_c0, ps_c1, ps_n01, ps_n11, ps_10, ps_b01, ps_e0, pu_Ine, pu_Ieq, pu_ne, pu_eq, am_k_n, am_k_i, am_k_r, am_k_u, am_k_l, am_sz_0, am_sz_i, am_sz_r, am_sz_u, am_sz_l, Option.toList_some, Option.toList_none, List.cons_append, List.nil_append, true_and, and_true, or_false, false_or, or_self, or_true, true_or, not_false_eq_true, not_true_eq_false, Classical.not_not, ne_eq, ps_e1, ps_em, ps_z, Nat.not_le, false_implies, true_implies, forall_const, ps_01, ps_1n, ps_0n, ps_m10, ps_m1n, lg_cmp_gt, lg_cmp_ge, lg_cmp_le, lg_cmp_lt, lg_cmp_eq, pu_rne, pu_req, pu_uro, RFc_n, Nat.reduceAdd, Nat.reduceMul, Nat.reduceLT, Nat.reduceLeDiff, Nat.reduceEqDiff, Nat.reduceSub]
      exact this
theorem c_countFound {N th : Nat} (hW : WS n t F) (hN : N ≤ 120) (hs : I 1 4 = nI N) (hth : th < 4) (hT : I 3 1 = nI th) : am_W X (d + 3) 164 0 [some (.ref 1), none, none] [] (n, sl, t, I, J, F) Q ↔ Q (some (.int (nI (cnt (fun i => !decide (I 2 (15 * i + (11 + th)) = -1)) N)))) (n, sl, t, I, J, F) := by
  rw [← l_countFound (X := X) (d := d) (Q := Q) (sl := sl) (J := J) hW hN hs hth hT N 0 (by omega)]
  simp only [↓r164_0, ↓r164_1, ↓r164_2, ↓r164_3, am_k_i]
  exact Iff.rfl
theorem cnt_s1 {p : Nat → Bool} {j : Nat} (h : p j = true) : cnt p (j + 1) = cnt p j + 1 := by rw [cnt, if_pos h]
theorem cnt_s0 {p : Nat → Bool} {j : Nat} (h : p j = false) : cnt p (j + 1) = cnt p j := by rw [cnt, h]; rfl
def pTr (K : Nat → Int32) : Nat → Bool := fun i => decide (K (15 * i + 10) < nI 2)
def pGo (K : Nat → Int32) : Nat → Bool := fun i => decide (K (15 * i + 10) = nI 2)
def pFo (K : Nat → Int32) (th : Nat) : Nat → Bool := fun i => !decide (K (15 * i + (11 + th)) = -1)
theorem l_count {N th : Nat} {v : Int32} (hW : WS n t F) (hN : N ≤ 120) (hs : I 49 1811 = nI N) (hth : th < 4) (hT : I 49 1809 = nI th) : ∀ m j, j + m = N → (am_W X (d + 3) 292 10 [some (.ref 47), some (.int v), some (.int (nI (cnt (pTr (I 49)) j))), some (.int (nI (cnt (pGo (I 49)) j))), some (.int (nI (cnt (pFo (I 49) th) j))), some (.int (nI j))] [] (n, sl, t, I, J, F) Q ↔ am_W X (d + 3) 292 81 [some (.ref 47), some (.int v), some (.int (nI (cnt (pTr (I 49)) N))), some (.int (nI (cnt (pGo (I 49)) N))), some (.int (nI (cnt (pFo (I 49) th) N))), some (.int (nI N))] [] (n, sl, t, I, J, F) Q) := by
  obtain ⟨hn, hn2, ht, hF⟩ := id hW
  have hth2 : th < 2000000 := by omega
  intro m
  induction m with
  | zero =>
    intro j hj
    obtain rfl : j = N := by omega
    rw [r292_10]
    simp only [↓r292_12, ↓r292_13, ↓r292_16, ↓c_within, ↓c_meansTried, ↓c_nearest, ↓c_accept, ↓c_rf1, ↓c_rf2, ↓c_rf3, ↓c_rf5, ↓c_rf6, ↓c_has, ↓c_atx, ↓c_putx, ↓c_put0, ↓c_put1, ↓s_at0, ↓s_at1, ↓c_isTriedx, ↓c_sidex, ↓c_thingx, ↓c_isFoundx, ↓s_lies, ↓s_rf1, ↓s_rf2, ↓s_rf3, ↓s_rf5, ↓s_rf6, ↓s_good, ↓s_many, ↓s_at, ↓s_isChild, ↓s_replacesx, ↓s_factOfx, ↓s_isTried, ↓s_took, ↓s_waited, ↓s_term0, ↓s_term1, ↓s_term2, ↓s_isLong, ↓s_isShort, ↓s_thingOfx, ↓s_isFoundx, ↓s_isText, ↓s_isGroup, hW, hs, Int32.le_refl, hn, hn2, ht, hF, am_wt, am_wf, Option.isSome_some, am_rf_s, am_rf_n, ps_lit, nI_add, nI_1, pk_mul, ps_cl, ps_neg, ps_c0, ps_c1, ps_n01, ps_n11, ps_10, ps_b01, ps_e0, pu_Ine, pu_Ieq, pu_ne, pu_eq, am_k_n, am_k_i, am_k_r, am_k_u, am_k_l, am_sz_0, am_sz_i, am_sz_r, am_sz_u, am_sz_l, Option.toList_some, Option.toList_none, List.cons_append, List.nil_append, true_and, and_true, or_false, false_or, or_self, or_true, true_or, not_false_eq_true, not_true_eq_false, Classical.not_not, ne_eq, ps_e1, ps_em, ps_z, Nat.not_le, false_implies, true_implies, forall_const, ps_01, ps_1n, ps_0n, ps_m10, ps_m1n, lg_cmp_gt, lg_cmp_ge, lg_cmp_le, lg_cmp_lt, lg_cmp_eq, pu_rne, pu_req, pu_uro, RFc_n, Nat.reduceAdd, Nat.reduceMul, Nat.reduceLT, Nat.reduceLeDiff, Nat.reduceEqDiff, Nat.reduceSub]
  | succ m ih =>
    intro j hj
    rw [r292_10]
    have e1 : ¬ nI N ≤ nI j := nI_ge (by omega) (by omega)
    have hj2 : j < 120 := by omega
    have := ih (j + 1) (by omega)
    by_cases ha : I 49 (15 * j + 10) < nI 2
    · have hb : ¬ I 49 (15 * j + 10) = nI 2 := fun q => Int32.lt_irrefl (q ▸ ha)
      by_cases hc : I 49 (15 * j + (11 + th)) = -1
      · rw [cnt_s1 (p := pTr (I 49)) (j := j) (by unfold pTr; simp [ha]), cnt_s0 (p := pGo (I 49)) (j := j) (by unfold pGo; simp [hb]), cnt_s0 (p := pFo (I 49) th) (j := j) (by unfold pFo; simp [hc])] at this
        simp only [↓r292_12, ↓r292_13, ↓r292_16, ↓r292_19, ↓r292_20, ↓r292_21, ↓r292_23, ↓r292_26, ↓r292_29, ↓r292_30, ↓r292_33, ↓r292_34, ↓r292_35, ↓r292_36, ↓r292_37, ↓r292_38, ↓r292_40, ↓r292_42, ↓r292_45, ↓r292_46, ↓r292_49, ↓r292_50, ↓r292_53, ↓r292_54, ↓r292_55, ↓r292_56, ↓r292_58, ↓r292_59, ↓r292_61, ↓r292_64, ↓r292_67, ↓r292_68, ↓r292_71, ↓r292_72, ↓r292_73, ↓r292_75, ↓r292_78, ↓c_within, ↓c_meansTried, ↓c_nearest, ↓c_accept, ↓c_rf1, ↓c_rf2, ↓c_rf3, ↓c_rf5, ↓c_rf6, ↓c_has, ↓c_atx, ↓c_putx, ↓c_put0, ↓c_put1, ↓s_at0, ↓s_at1, ↓c_isTriedx, ↓c_sidex, ↓c_thingx, ↓c_isFoundx, ↓s_lies, ↓s_rf1, ↓s_rf2, ↓s_rf3, ↓s_rf5, ↓s_rf6, ↓s_good, ↓s_many, ↓s_at, ↓s_isChild, ↓s_replacesx, ↓s_factOfx, ↓s_isTried, ↓s_took, ↓s_waited, ↓s_term0, ↓s_term1, ↓s_term2, ↓s_isLong, ↓s_isShort, ↓s_thingOfx, ↓s_isFoundx, ↓s_isText, ↓s_isGroup, hW, hs, hT, hth, hth2, e1, hj2, ha, hb, hc, Int32.lt_irrefl, if_true, if_false, Int32.add_zero, hn, hn2, ht, hF, am_wt, am_wf, Option.isSome_some, am_rf_s, am_rf_n, ps_lit, nI_add, nI_1, pk_mul, ps_cl, ps_neg, ps_c0, ps_c1, ps_n01, ps_n11, ps_10, ps_b01, ps_e0, pu_Ine, pu_Ieq, pu_ne, pu_eq, am_k_n, am_k_i, am_k_r, am_k_u, am_k_l, am_sz_0, am_sz_i, am_sz_r, am_sz_u, am_sz_l, Option.toList_some, Option.toList_none, List.cons_append, List.nil_append, true_and, and_true, or_false, false_or, or_self, or_true, true_or, not_false_eq_true, not_true_eq_false, Classical.not_not, ne_eq, ps_e1, ps_em, ps_z, Nat.not_le, false_implies, true_implies, forall_const, ps_01, ps_1n, ps_0n, ps_m10, ps_m1n, lg_cmp_gt, lg_cmp_ge, lg_cmp_le, lg_cmp_lt, lg_cmp_eq, pu_rne, pu_req, pu_uro, RFc_n, Nat.reduceAdd, Nat.reduceMul, Nat.reduceLT, Nat.reduceLeDiff, Nat.reduceEqDiff, Nat.reduceSub]
        exact this
      · rw [cnt_s1 (p := pTr (I 49)) (j := j) (by unfold pTr; simp [ha]), cnt_s0 (p := pGo (I 49)) (j := j) (by unfold pGo; simp [hb]), cnt_s1 (p := pFo (I 49) th) (j := j) (by unfold pFo; simp [hc])] at this
        simp only [↓r292_12, ↓r292_13, ↓r292_16, ↓r292_19, ↓r292_20, ↓r292_21, ↓r292_23, ↓r292_26, ↓r292_29, ↓r292_30, ↓r292_33, ↓r292_34, ↓r292_35, ↓r292_36, ↓r292_37, ↓r292_38, ↓r292_40, ↓r292_42, ↓r292_45, ↓r292_46, ↓r292_49, ↓r292_50, ↓r292_53, ↓r292_54, ↓r292_55, ↓r292_56, ↓r292_58, ↓r292_59, ↓r292_61, ↓r292_64, ↓r292_67, ↓r292_68, ↓r292_71, ↓r292_72, ↓r292_73, ↓r292_75, ↓r292_78, ↓c_within, ↓c_meansTried, ↓c_nearest, ↓c_accept, ↓c_rf1, ↓c_rf2, ↓c_rf3, ↓c_rf5, ↓c_rf6, ↓c_has, ↓c_atx, ↓c_putx, ↓c_put0, ↓c_put1, ↓s_at0, ↓s_at1, ↓c_isTriedx, ↓c_sidex, ↓c_thingx, ↓c_isFoundx, ↓s_lies, ↓s_rf1, ↓s_rf2, ↓s_rf3, ↓s_rf5, ↓s_rf6, ↓s_good, ↓s_many, ↓s_at, ↓s_isChild, ↓s_replacesx, ↓s_factOfx, ↓s_isTried, ↓s_took, ↓s_waited, ↓s_term0, ↓s_term1, ↓s_term2, ↓s_isLong, ↓s_isShort, ↓s_thingOfx, ↓s_isFoundx, ↓s_isText, ↓s_isGroup, hW, hs, hT, hth, hth2, e1, hj2, ha, hb, hc, Int32.lt_irrefl, if_true, if_false, Int32.add_zero, hn, hn2, ht, hF, am_wt, am_wf, Option.isSome_some, am_rf_s, am_rf_n, ps_lit, nI_add, nI_1, pk_mul, ps_cl, ps_neg, ps_c0, ps_c1, ps_n01, ps_n11, ps_10, ps_b01, ps_e0, pu_Ine, pu_Ieq, pu_ne, pu_eq, am_k_n, am_k_i, am_k_r, am_k_u, am_k_l, am_sz_0, am_sz_i, am_sz_r, am_sz_u, am_sz_l, Option.toList_some, Option.toList_none, List.cons_append, List.nil_append, true_and, and_true, or_false, false_or, or_self, or_true, true_or, not_false_eq_true, not_true_eq_false, Classical.not_not, ne_eq, ps_e1, ps_em, ps_z, Nat.not_le, false_implies, true_implies, forall_const, ps_01, ps_1n, ps_0n, ps_m10, ps_m1n, lg_cmp_gt, lg_cmp_ge, lg_cmp_le, lg_cmp_lt, lg_cmp_eq, pu_rne, pu_req, pu_uro, RFc_n, Nat.reduceAdd, Nat.reduceMul, Nat.reduceLT, Nat.reduceLeDiff, Nat.reduceEqDiff, Nat.reduceSub]
        exact this
    · by_cases hb : I 49 (15 * j + 10) = nI 2
      · by_cases hc : I 49 (15 * j + (11 + th)) = -1
        · rw [cnt_s0 (p := pTr (I 49)) (j := j) (by unfold pTr; simp [ha]), cnt_s1 (p := pGo (I 49)) (j := j) (by unfold pGo; simp [hb]), cnt_s0 (p := pFo (I 49) th) (j := j) (by unfold pFo; simp [hc])] at this
          simp only [↓r292_12, ↓r292_13, ↓r292_16, ↓r292_19, ↓r292_20, ↓r292_21, ↓r292_23, ↓r292_26, ↓r292_29, ↓r292_30, ↓r292_33, ↓r292_34, ↓r292_35, ↓r292_36, ↓r292_37, ↓r292_38, ↓r292_40, ↓r292_42, ↓r292_45, ↓r292_46, ↓r292_49, ↓r292_50, ↓r292_53, ↓r292_54, ↓r292_55, ↓r292_56, ↓r292_58, ↓r292_59, ↓r292_61, ↓r292_64, ↓r292_67, ↓r292_68, ↓r292_71, ↓r292_72, ↓r292_73, ↓r292_75, ↓r292_78, ↓c_within, ↓c_meansTried, ↓c_nearest, ↓c_accept, ↓c_rf1, ↓c_rf2, ↓c_rf3, ↓c_rf5, ↓c_rf6, ↓c_has, ↓c_atx, ↓c_putx, ↓c_put0, ↓c_put1, ↓s_at0, ↓s_at1, ↓c_isTriedx, ↓c_sidex, ↓c_thingx, ↓c_isFoundx, ↓s_lies, ↓s_rf1, ↓s_rf2, ↓s_rf3, ↓s_rf5, ↓s_rf6, ↓s_good, ↓s_many, ↓s_at, ↓s_isChild, ↓s_replacesx, ↓s_factOfx, ↓s_isTried, ↓s_took, ↓s_waited, ↓s_term0, ↓s_term1, ↓s_term2, ↓s_isLong, ↓s_isShort, ↓s_thingOfx, ↓s_isFoundx, ↓s_isText, ↓s_isGroup, hW, hs, hT, hth, hth2, e1, hj2, ha, hb, hc, Int32.lt_irrefl, if_true, if_false, Int32.add_zero, hn, hn2, ht, hF, am_wt, am_wf, Option.isSome_some, am_rf_s, am_rf_n, ps_lit, nI_add, nI_1, pk_mul, ps_cl, ps_neg, ps_c0, ps_c1, ps_n01, ps_n11, ps_10, ps_b01, ps_e0, pu_Ine, pu_Ieq, pu_ne, pu_eq, am_k_n, am_k_i, am_k_r, am_k_u, am_k_l, am_sz_0, am_sz_i, am_sz_r, am_sz_u, am_sz_l, Option.toList_some, Option.toList_none, List.cons_append, List.nil_append, true_and, and_true, or_false, false_or, or_self, or_true, true_or, not_false_eq_true, not_true_eq_false, Classical.not_not, ne_eq, ps_e1, ps_em, ps_z, Nat.not_le, false_implies, true_implies, forall_const, ps_01, ps_1n, ps_0n, ps_m10, ps_m1n, lg_cmp_gt, lg_cmp_ge, lg_cmp_le, lg_cmp_lt, lg_cmp_eq, pu_rne, pu_req, pu_uro, RFc_n, Nat.reduceAdd, Nat.reduceMul, Nat.reduceLT, Nat.reduceLeDiff, Nat.reduceEqDiff, Nat.reduceSub]
          exact this
        · rw [cnt_s0 (p := pTr (I 49)) (j := j) (by unfold pTr; simp [ha]), cnt_s1 (p := pGo (I 49)) (j := j) (by unfold pGo; simp [hb]), cnt_s1 (p := pFo (I 49) th) (j := j) (by unfold pFo; simp [hc])] at this
          simp only [↓r292_12, ↓r292_13, ↓r292_16, ↓r292_19, ↓r292_20, ↓r292_21, ↓r292_23, ↓r292_26, ↓r292_29, ↓r292_30, ↓r292_33, ↓r292_34, ↓r292_35, ↓r292_36, ↓r292_37, ↓r292_38, ↓r292_40, ↓r292_42, ↓r292_45, ↓r292_46, ↓r292_49, ↓r292_50, ↓r292_53, ↓r292_54, ↓r292_55, ↓r292_56, ↓r292_58, ↓r292_59, ↓r292_61, ↓r292_64, ↓r292_67, ↓r292_68, ↓r292_71, ↓r292_72, ↓r292_73, ↓r292_75, ↓r292_78, ↓c_within, ↓c_meansTried, ↓c_nearest, ↓c_accept, ↓c_rf1, ↓c_rf2, ↓c_rf3, ↓c_rf5, ↓c_rf6, ↓c_has, ↓c_atx, ↓c_putx, ↓c_put0, ↓c_put1, ↓s_at0, ↓s_at1, ↓c_isTriedx, ↓c_sidex, ↓c_thingx, ↓c_isFoundx, ↓s_lies, ↓s_rf1, ↓s_rf2, ↓s_rf3, ↓s_rf5, ↓s_rf6, ↓s_good, ↓s_many, ↓s_at, ↓s_isChild, ↓s_replacesx, ↓s_factOfx, ↓s_isTried, ↓s_took, ↓s_waited, ↓s_term0, ↓s_term1, ↓s_term2, ↓s_isLong, ↓s_isShort, ↓s_thingOfx, ↓s_isFoundx, ↓s_isText, ↓s_isGroup, hW, hs, hT, hth, hth2, e1, hj2, ha, hb, hc, Int32.lt_irrefl, if_true, if_false, Int32.add_zero, hn, hn2, ht, hF, am_wt, am_wf, Option.isSome_some, am_rf_s, am_rf_n, ps_lit, nI_add, nI_1, pk_mul, ps_cl, ps_neg, ps_c0, ps_c1, ps_n01, ps_n11, ps_10, ps_b01, ps_e0, pu_Ine, pu_Ieq, pu_ne, pu_eq, am_k_n, am_k_i, am_k_r, am_k_u, am_k_l, am_sz_0, am_sz_i, am_sz_r, am_sz_u, am_sz_l, Option.toList_some, Option.toList_none, List.cons_append, List.nil_append, true_and, and_true, or_false, false_or, or_self, or_true, true_or, not_false_eq_true, not_true_eq_false, Classical.not_not, ne_eq, ps_e1, ps_em, ps_z, Nat.not_le, false_implies, true_implies, forall_const, ps_01, ps_1n, ps_0n, ps_m10, ps_m1n, lg_cmp_gt, lg_cmp_ge, lg_cmp_le, lg_cmp_lt, lg_cmp_eq, pu_rne, pu_req, pu_uro, RFc_n, Nat.reduceAdd, Nat.reduceMul, Nat.reduceLT, Nat.reduceLeDiff, Nat.reduceEqDiff, Nat.reduceSub]
          exact this
      · by_cases hc : I 49 (15 * j + (11 + th)) = -1
        · rw [cnt_s0 (p := pTr (I 49)) (j := j) (by unfold pTr; simp [ha]), cnt_s0 (p := pGo (I 49)) (j := j) (by unfold pGo; simp [hb]), cnt_s0 (p := pFo (I 49) th) (j := j) (by unfold pFo; simp [hc])] at this
          simp only [↓r292_12, ↓r292_13, ↓r292_16, ↓r292_19, ↓r292_20, ↓r292_21, ↓r292_23, ↓r292_26, ↓r292_29, ↓r292_30, ↓r292_33, ↓r292_34, ↓r292_35, ↓r292_36, ↓r292_37, ↓r292_38, ↓r292_40, ↓r292_42, ↓r292_45, ↓r292_46, ↓r292_49, ↓r292_50, ↓r292_53, ↓r292_54, ↓r292_55, ↓r292_56, ↓r292_58, ↓r292_59, ↓r292_61, ↓r292_64, ↓r292_67, ↓r292_68, ↓r292_71, ↓r292_72, ↓r292_73, ↓r292_75, ↓r292_78, ↓c_within, ↓c_meansTried, ↓c_nearest, ↓c_accept, ↓c_rf1, ↓c_rf2, ↓c_rf3, ↓c_rf5, ↓c_rf6, ↓c_has, ↓c_atx, ↓c_putx, ↓c_put0, ↓c_put1, ↓s_at0, ↓s_at1, ↓c_isTriedx, ↓c_sidex, ↓c_thingx, ↓c_isFoundx, ↓s_lies, ↓s_rf1, ↓s_rf2, ↓s_rf3, ↓s_rf5, ↓s_rf6, ↓s_good, ↓s_many, ↓s_at, ↓s_isChild, ↓s_replacesx, ↓s_factOfx, ↓s_isTried, ↓s_took, ↓s_waited, ↓s_term0, ↓s_term1, ↓s_term2, ↓s_isLong, ↓s_isShort, ↓s_thingOfx, ↓s_isFoundx, ↓s_isText, ↓s_isGroup, hW, hs, hT, hth, hth2, e1, hj2, ha, hb, hc, Int32.lt_irrefl, if_true, if_false, Int32.add_zero, hn, hn2, ht, hF, am_wt, am_wf, Option.isSome_some, am_rf_s, am_rf_n, ps_lit, nI_add, nI_1, pk_mul, ps_cl, ps_neg, ps_c0, ps_c1, ps_n01, ps_n11, ps_10, ps_b01, ps_e0, pu_Ine, pu_Ieq, pu_ne, pu_eq, am_k_n, am_k_i, am_k_r, am_k_u, am_k_l, am_sz_0, am_sz_i, am_sz_r, am_sz_u, am_sz_l, Option.toList_some, Option.toList_none, List.cons_append, List.nil_append, true_and, and_true, or_false, false_or, or_self, or_true, true_or, not_false_eq_true, not_true_eq_false, Classical.not_not, ne_eq, ps_e1, ps_em, ps_z, Nat.not_le, false_implies, true_implies, forall_const, ps_01, ps_1n, ps_0n, ps_m10, ps_m1n, lg_cmp_gt, lg_cmp_ge, lg_cmp_le, lg_cmp_lt, lg_cmp_eq, pu_rne, pu_req, pu_uro, RFc_n, Nat.reduceAdd, Nat.reduceMul, Nat.reduceLT, Nat.reduceLeDiff, Nat.reduceEqDiff, Nat.reduceSub]
          exact this
        · rw [cnt_s0 (p := pTr (I 49)) (j := j) (by unfold pTr; simp [ha]), cnt_s0 (p := pGo (I 49)) (j := j) (by unfold pGo; simp [hb]), cnt_s1 (p := pFo (I 49) th) (j := j) (by unfold pFo; simp [hc])] at this
          simp only [↓r292_12, ↓r292_13, ↓r292_16, ↓r292_19, ↓r292_20, ↓r292_21, ↓r292_23, ↓r292_26, ↓r292_29, ↓r292_30, ↓r292_33, ↓r292_34, ↓r292_35, ↓r292_36, ↓r292_37, ↓r292_38, ↓r292_40, ↓r292_42, ↓r292_45, ↓r292_46, ↓r292_49, ↓r292_50, ↓r292_53, ↓r292_54, ↓r292_55, ↓r292_56, ↓r292_58, ↓r292_59, ↓r292_61, ↓r292_64, ↓r292_67, ↓r292_68, ↓r292_71, ↓r292_72, ↓r292_73, ↓r292_75, ↓r292_78, ↓c_within, ↓c_meansTried, ↓c_nearest, ↓c_accept, ↓c_rf1, ↓c_rf2, ↓c_rf3, ↓c_rf5, ↓c_rf6, ↓c_has, ↓c_atx, ↓c_putx, ↓c_put0, ↓c_put1, ↓s_at0, ↓s_at1, ↓c_isTriedx, ↓c_sidex, ↓c_thingx, ↓c_isFoundx, ↓s_lies, ↓s_rf1, ↓s_rf2, ↓s_rf3, ↓s_rf5, ↓s_rf6, ↓s_good, ↓s_many, ↓s_at, ↓s_isChild, ↓s_replacesx, ↓s_factOfx, ↓s_isTried, ↓s_took, ↓s_waited, ↓s_term0, ↓s_term1, ↓s_term2, ↓s_isLong, ↓s_isShort, ↓s_thingOfx, ↓s_isFoundx, ↓s_isText, ↓s_isGroup, hW, hs, hT, hth, hth2, e1, hj2, ha, hb, hc, Int32.lt_irrefl, if_true, if_false, Int32.add_zero, hn, hn2, ht, hF, am_wt, am_wf, Option.isSome_some, am_rf_s, am_rf_n, ps_lit, nI_add, nI_1, pk_mul, ps_cl, ps_neg, ps_c0, ps_c1, ps_n01, ps_n11, ps_10, ps_b01, ps_e0, pu_Ine, pu_Ieq, pu_ne, pu_eq, am_k_n, am_k_i, am_k_r, am_k_u, am_k_l, am_sz_0, am_sz_i, am_sz_r, am_sz_u, am_sz_l, Option.toList_some, Option.toList_none, List.cons_append, List.nil_append, true_and, and_true, or_false, false_or, or_self, or_true, true_or, not_false_eq_true, not_true_eq_false, Classical.not_not, ne_eq, ps_e1, ps_em, ps_z, Nat.not_le, false_implies, true_implies, forall_const, ps_01, ps_1n, ps_0n, ps_m10, ps_m1n, lg_cmp_gt, lg_cmp_ge, lg_cmp_le, lg_cmp_lt, lg_cmp_eq, pu_rne, pu_req, pu_uro, RFc_n, Nat.reduceAdd, Nat.reduceMul, Nat.reduceLT, Nat.reduceLeDiff, Nat.reduceEqDiff, Nat.reduceSub]
          exact this
theorem l_count0 {N th : Nat} {v : Int32} (hW : WS n t F) (hN : N ≤ 120) (hs : I 49 1811 = nI N) (hth : th < 4) (hT : I 49 1809 = nI th) : am_W X (d + 3) 292 0 [some (.ref 47), some (.int v), none, none, none, none] [] (n, sl, t, I, J, F) Q ↔ am_W X (d + 3) 292 81 [some (.ref 47), some (.int v), some (.int (nI (cnt (pTr (I 49)) N))), some (.int (nI (cnt (pGo (I 49)) N))), some (.int (nI (cnt (pFo (I 49) th) N))), some (.int (nI N))] [] (n, sl, t, I, J, F) Q := by
  rw [← l_count (X := X) (d := d) (Q := Q) (sl := sl) (J := J) hW hN hs hth hT N 0 (by omega)]
  simp only [↓r292_0, ↓r292_1, ↓r292_2, ↓r292_3, ↓r292_4, ↓r292_5, ↓r292_7, ↓r292_8, am_k_i]
  exact Iff.rfl
theorem cnt_add {p q r : Nat → Bool} : ∀ j, (∀ i, i < j → (r i = true ↔ p i = true ∨ q i = true) ∧ ¬ (p i = true ∧ q i = true)) → cnt p j + cnt q j = cnt r j := by
  intro j
  induction j with
  | zero => intro _; rfl
  | succ j ih =>
    intro h
    have e := ih (fun i hi => h i (by omega))
    obtain ⟨h1, h2⟩ := h j (by omega)
    unfold cnt
    cases hp : p j <;> cases hq : q j <;> cases hr : r j <;> simp [hp, hq, hr] at h1 h2 ⊢ <;> omega
theorem pr_count_0 {i : Nat} (hX : XS X) (hi : i < 600) (hV : Inv i (n, sl, t, I, J, F)) : PR X i 162 292 [some (.ref 0), some (.int 0)] [some (.ref 47), some (.int 0), none, none, none, none] (n, sl, t, I, J, F) := by
  unfold PR
  have hW : WS n t F := hV.1
  obtain ⟨hn, hn2, ht, hF⟩ := id hW
  have hKR : KR (I 1 4) (I 1 5) (I 2) (I 3) (I 4) (I 49) := hV.2.2.1
  obtain ⟨N, T, ⟨hN, hT, hKN, hKT, hRW, hTW⟩, hs, hc, hr, hu, hm⟩ := id hKR
  obtain ⟨t1, ⟨th, hth, hT1⟩, t3, t4⟩ := id hTW
  have hT3 : I 3 1 = nI th := (hu 1 (by decide)).trans hT1
  have hI : Inv (i + 1) (n, sl, t, I, J, F) := Inv_sc hV hi (fun _ _ _ => rfl) (SC_r I)
  have hTP : TP (I 7 1) (I 8) (I 47 8) (I 53) := hV.2.2.2.2.2.1
  have hRS : RS (I 46) (I 48) (I 0 14) (I 47 0) := hV.2.2.2.1
  obtain ⟨m, hm4, e1, e2, e3⟩ := id hTP
  simp only [↓r162_0, ↓r162_1_0, ↓r162_1_1, ↓r162_1_2, ↓r162_1_3, ↓r162_1_4, ↓r162_1_5, ↓r162_1_6, ↓r162_1_7, ↓r162_1_8, ↓r162_1_9, ↓r162_1_10, ↓r162_1_d, ↓r162_60, ↓r162_61, ↓r162_64, ↓r162_67, ↓r162_68, ↓r162_69, ↓r162_72, ↓r162_75, ↓r162_76, ↓r162_77, ↓r162_80, ↓r162_81, ↓r162_84, ↓r162_85, ↓r162_88, ↓r162_89, ↓r162_92, ↓r162_93, ↓r162_94, ↓r162_95, ↓r162_98, ↓r162_99, ↓r162_102, ↓r162_103, ↓r162_104, ↓r162_107, ↓r162_110, ↓r162_111, ↓r162_112, ↓r162_115, ↓r162_118, ↓r162_119, ↓r162_120, ↓r162_123, ↓r162_124, ↓r162_124k, ↓r162_125, ↓r162_126, ↓r162_127, ↓r162_130, ↓r162_131, ↓r162_131k, ↓r162_132, ↓r162_133, ↓r162_134, ↓r162_137, ↓r162_138, ↓r162_138k, ↓r162_139, ↓r162_140, ↓r162_141, ↓r162_144, ↓r162_145, ↓r162_145k, ↓r162_146, ↓r162_147, ↓r162_148, ↓r162_151, ↓r162_153, ↓r162_153k, ↓r162_154, ↓r162_155, ↓r162_156, ↓c_countHow hW hN hs, ↓c_countFound hW hN hs hth hT3, hs, hc, e1, ps_n5, hn, hn2, ht, hF, am_wt, am_wf, Option.isSome_some, am_rf_s, am_rf_n, ps_lit, nI_add, nI_1, pk_mul, ps_cl, ps_neg, ps_c0, ps_c1, ps_n01, ps_n11, ps_10, ps_b01, ps_e0, pu_Ine, pu_Ieq, pu_ne, pu_eq, am_k_n, am_k_i, am_k_r, am_k_u, am_k_l, am_sz_0, am_sz_i, am_sz_r, am_sz_u, am_sz_l, Option.toList_some, Option.toList_none, List.cons_append, List.nil_append, true_and, and_true, or_false, false_or, or_self, or_true, true_or, not_false_eq_true, not_true_eq_false, Classical.not_not, ne_eq, ps_e1, ps_em, ps_z, Nat.not_le, false_implies, true_implies, forall_const, ps_01, ps_1n, ps_0n, ps_m10, ps_m1n, lg_cmp_gt, lg_cmp_ge, lg_cmp_le, lg_cmp_lt, lg_cmp_eq, pu_rne, pu_req, pu_uro, RFc_n, Nat.reduceAdd, Nat.reduceMul, Nat.reduceLT, Nat.reduceLeDiff, Nat.reduceEqDiff, Nat.reduceSub]
  refine ⟨_, rfl, ?_⟩
  refine (l_count0 hW hN hKN hth hT1).mpr ?_
  simp only [↓r292_81, ↓r292_82_0, ↓r292_82_1, ↓r292_82_2, ↓r292_82_3, ↓r292_82_4, ↓r292_82_5, ↓r292_82_6, ↓r292_82_7, ↓r292_82_8, ↓r292_82_9, ↓r292_82_10, ↓r292_82_d, ↓r292_140, ↓r292_141, ↓r292_144, ↓r292_145, ↓r292_146, ↓r292_149, ↓r292_152, ↓r292_152k, ↓r292_153, ↓r292_154, ↓r292_155, ↓r292_156, ↓r292_157, ↓r292_158, ↓r292_160, ↓r292_161, ↓r292_162, ↓r292_165, ↓r292_166, ↓r292_167, ↓r292_170, ↓r292_171, ↓r292_172, ↓r292_173, ↓r292_173k, ↓r292_174, ↓r292_175, ↓r292_176, ↓r292_179, ↓r292_180, ↓r292_180k, ↓r292_181, ↓r292_182, ↓r292_183, ↓r292_186, ↓r292_188, ↓r292_188k, ↓r292_189, ↓r292_190, ↓r292_191, ↓c_within, ↓c_meansTried, ↓c_nearest, ↓c_accept, ↓c_rf1, ↓c_rf2, ↓c_rf3, ↓c_rf5, ↓c_rf6, ↓c_has, ↓c_atx, ↓c_putx, ↓c_put0, ↓c_put1, ↓s_at0, ↓s_at1, ↓c_isTriedx, ↓c_sidex, ↓c_thingx, ↓c_isFoundx, ↓s_lies, ↓s_rf1, ↓s_rf2, ↓s_rf3, ↓s_rf5, ↓s_rf6, ↓s_good, ↓s_many, ↓s_at, ↓s_isChild, ↓s_replacesx, ↓s_factOfx, ↓s_isTried, ↓s_took, ↓s_waited, ↓s_term0, ↓s_term1, ↓s_term2, ↓s_isLong, ↓s_isShort, ↓s_thingOfx, ↓s_isFoundx, ↓s_isText, ↓s_isGroup, hW, hKN, hKT, e2, ps_n5, hn, hn2, ht, hF, am_wt, am_wf, Option.isSome_some, am_rf_s, am_rf_n, ps_lit, nI_add, nI_1, pk_mul, ps_cl, ps_neg, ps_c0, ps_c1, ps_n01, ps_n11, ps_10, ps_b01, ps_e0, pu_Ine, pu_Ieq, pu_ne, pu_eq, am_k_n, am_k_i, am_k_r, am_k_u, am_k_l, am_sz_0, am_sz_i, am_sz_r, am_sz_u, am_sz_l, Option.toList_some, Option.toList_none, List.cons_append, List.nil_append, true_and, and_true, or_false, false_or, or_self, or_true, true_or, not_false_eq_true, not_true_eq_false, Classical.not_not, ne_eq, ps_e1, ps_em, ps_z, Nat.not_le, false_implies, true_implies, forall_const, ps_01, ps_1n, ps_0n, ps_m10, ps_m1n, lg_cmp_gt, lg_cmp_ge, lg_cmp_le, lg_cmp_lt, lg_cmp_eq, pu_rne, pu_req, pu_uro, RFc_n, Nat.reduceAdd, Nat.reduceMul, Nat.reduceLT, Nat.reduceLeDiff, Nat.reduceEqDiff, Nat.reduceSub]
  refine ⟨?_, hI⟩
  rfl
theorem pr_count_1 {i : Nat} (hX : XS X) (hi : i < 600) (hV : Inv i (n, sl, t, I, J, F)) : PR X i 162 292 [some (.ref 0), some (.int 1)] [some (.ref 47), some (.int 1), none, none, none, none] (n, sl, t, I, J, F) := by
  unfold PR
  have hW : WS n t F := hV.1
  obtain ⟨hn, hn2, ht, hF⟩ := id hW
  have hKR : KR (I 1 4) (I 1 5) (I 2) (I 3) (I 4) (I 49) := hV.2.2.1
  obtain ⟨N, T, ⟨hN, hT, hKN, hKT, hRW, hTW⟩, hs, hc, hr, hu, hm⟩ := id hKR
  obtain ⟨t1, ⟨th, hth, hT1⟩, t3, t4⟩ := id hTW
  have hT3 : I 3 1 = nI th := (hu 1 (by decide)).trans hT1
  have hI : Inv (i + 1) (n, sl, t, I, J, F) := Inv_sc hV hi (fun _ _ _ => rfl) (SC_r I)
  have hTP : TP (I 7 1) (I 8) (I 47 8) (I 53) := hV.2.2.2.2.2.1
  have hRS : RS (I 46) (I 48) (I 0 14) (I 47 0) := hV.2.2.2.1
  obtain ⟨m, hm4, e1, e2, e3⟩ := id hTP
  simp only [↓r162_0, ↓r162_1_0, ↓r162_1_1, ↓r162_1_2, ↓r162_1_3, ↓r162_1_4, ↓r162_1_5, ↓r162_1_6, ↓r162_1_7, ↓r162_1_8, ↓r162_1_9, ↓r162_1_10, ↓r162_1_d, ↓r162_60, ↓r162_61, ↓r162_64, ↓r162_67, ↓r162_68, ↓r162_69, ↓r162_72, ↓r162_75, ↓r162_76, ↓r162_77, ↓r162_80, ↓r162_81, ↓r162_84, ↓r162_85, ↓r162_88, ↓r162_89, ↓r162_92, ↓r162_93, ↓r162_94, ↓r162_95, ↓r162_98, ↓r162_99, ↓r162_102, ↓r162_103, ↓r162_104, ↓r162_107, ↓r162_110, ↓r162_111, ↓r162_112, ↓r162_115, ↓r162_118, ↓r162_119, ↓r162_120, ↓r162_123, ↓r162_124, ↓r162_124k, ↓r162_125, ↓r162_126, ↓r162_127, ↓r162_130, ↓r162_131, ↓r162_131k, ↓r162_132, ↓r162_133, ↓r162_134, ↓r162_137, ↓r162_138, ↓r162_138k, ↓r162_139, ↓r162_140, ↓r162_141, ↓r162_144, ↓r162_145, ↓r162_145k, ↓r162_146, ↓r162_147, ↓r162_148, ↓r162_151, ↓r162_153, ↓r162_153k, ↓r162_154, ↓r162_155, ↓r162_156, ↓c_countHow hW hN hs, ↓c_countFound hW hN hs hth hT3, hs, hc, e1, ps_n5, hn, hn2, ht, hF, am_wt, am_wf, Option.isSome_some, am_rf_s, am_rf_n, ps_lit, nI_add, nI_1, pk_mul, ps_cl, ps_neg, ps_c0, ps_c1, ps_n01, ps_n11, ps_10, ps_b01, ps_e0, pu_Ine, pu_Ieq, pu_ne, pu_eq, am_k_n, am_k_i, am_k_r, am_k_u, am_k_l, am_sz_0, am_sz_i, am_sz_r, am_sz_u, am_sz_l, Option.toList_some, Option.toList_none, List.cons_append, List.nil_append, true_and, and_true, or_false, false_or, or_self, or_true, true_or, not_false_eq_true, not_true_eq_false, Classical.not_not, ne_eq, ps_e1, ps_em, ps_z, Nat.not_le, false_implies, true_implies, forall_const, ps_01, ps_1n, ps_0n, ps_m10, ps_m1n, lg_cmp_gt, lg_cmp_ge, lg_cmp_le, lg_cmp_lt, lg_cmp_eq, pu_rne, pu_req, pu_uro, RFc_n, Nat.reduceAdd, Nat.reduceMul, Nat.reduceLT, Nat.reduceLeDiff, Nat.reduceEqDiff, Nat.reduceSub]
  refine ⟨_, rfl, ?_⟩
  refine (l_count0 hW hN hKN hth hT1).mpr ?_
  simp only [↓r292_81, ↓r292_82_0, ↓r292_82_1, ↓r292_82_2, ↓r292_82_3, ↓r292_82_4, ↓r292_82_5, ↓r292_82_6, ↓r292_82_7, ↓r292_82_8, ↓r292_82_9, ↓r292_82_10, ↓r292_82_d, ↓r292_140, ↓r292_141, ↓r292_144, ↓r292_145, ↓r292_146, ↓r292_149, ↓r292_152, ↓r292_152k, ↓r292_153, ↓r292_154, ↓r292_155, ↓r292_156, ↓r292_157, ↓r292_158, ↓r292_160, ↓r292_161, ↓r292_162, ↓r292_165, ↓r292_166, ↓r292_167, ↓r292_170, ↓r292_171, ↓r292_172, ↓r292_173, ↓r292_173k, ↓r292_174, ↓r292_175, ↓r292_176, ↓r292_179, ↓r292_180, ↓r292_180k, ↓r292_181, ↓r292_182, ↓r292_183, ↓r292_186, ↓r292_188, ↓r292_188k, ↓r292_189, ↓r292_190, ↓r292_191, ↓c_within, ↓c_meansTried, ↓c_nearest, ↓c_accept, ↓c_rf1, ↓c_rf2, ↓c_rf3, ↓c_rf5, ↓c_rf6, ↓c_has, ↓c_atx, ↓c_putx, ↓c_put0, ↓c_put1, ↓s_at0, ↓s_at1, ↓c_isTriedx, ↓c_sidex, ↓c_thingx, ↓c_isFoundx, ↓s_lies, ↓s_rf1, ↓s_rf2, ↓s_rf3, ↓s_rf5, ↓s_rf6, ↓s_good, ↓s_many, ↓s_at, ↓s_isChild, ↓s_replacesx, ↓s_factOfx, ↓s_isTried, ↓s_took, ↓s_waited, ↓s_term0, ↓s_term1, ↓s_term2, ↓s_isLong, ↓s_isShort, ↓s_thingOfx, ↓s_isFoundx, ↓s_isText, ↓s_isGroup, hW, hKN, hKT, e2, ps_n5, hn, hn2, ht, hF, am_wt, am_wf, Option.isSome_some, am_rf_s, am_rf_n, ps_lit, nI_add, nI_1, pk_mul, ps_cl, ps_neg, ps_c0, ps_c1, ps_n01, ps_n11, ps_10, ps_b01, ps_e0, pu_Ine, pu_Ieq, pu_ne, pu_eq, am_k_n, am_k_i, am_k_r, am_k_u, am_k_l, am_sz_0, am_sz_i, am_sz_r, am_sz_u, am_sz_l, Option.toList_some, Option.toList_none, List.cons_append, List.nil_append, true_and, and_true, or_false, false_or, or_self, or_true, true_or, not_false_eq_true, not_true_eq_false, Classical.not_not, ne_eq, ps_e1, ps_em, ps_z, Nat.not_le, false_implies, true_implies, forall_const, ps_01, ps_1n, ps_0n, ps_m10, ps_m1n, lg_cmp_gt, lg_cmp_ge, lg_cmp_le, lg_cmp_lt, lg_cmp_eq, pu_rne, pu_req, pu_uro, RFc_n, Nat.reduceAdd, Nat.reduceMul, Nat.reduceLT, Nat.reduceLeDiff, Nat.reduceEqDiff, Nat.reduceSub]
  refine ⟨?_, hI⟩
  rfl
theorem pr_count_2 {i : Nat} (hX : XS X) (hi : i < 600) (hV : Inv i (n, sl, t, I, J, F)) : PR X i 162 292 [some (.ref 0), some (.int 2)] [some (.ref 47), some (.int 2), none, none, none, none] (n, sl, t, I, J, F) := by
  unfold PR
  have hW : WS n t F := hV.1
  obtain ⟨hn, hn2, ht, hF⟩ := id hW
  have hKR : KR (I 1 4) (I 1 5) (I 2) (I 3) (I 4) (I 49) := hV.2.2.1
  obtain ⟨N, T, ⟨hN, hT, hKN, hKT, hRW, hTW⟩, hs, hc, hr, hu, hm⟩ := id hKR
  obtain ⟨t1, ⟨th, hth, hT1⟩, t3, t4⟩ := id hTW
  have hT3 : I 3 1 = nI th := (hu 1 (by decide)).trans hT1
  have hI : Inv (i + 1) (n, sl, t, I, J, F) := Inv_sc hV hi (fun _ _ _ => rfl) (SC_r I)
  have hTP : TP (I 7 1) (I 8) (I 47 8) (I 53) := hV.2.2.2.2.2.1
  have hRS : RS (I 46) (I 48) (I 0 14) (I 47 0) := hV.2.2.2.1
  obtain ⟨m, hm4, e1, e2, e3⟩ := id hTP
  simp only [↓r162_0, ↓r162_1_0, ↓r162_1_1, ↓r162_1_2, ↓r162_1_3, ↓r162_1_4, ↓r162_1_5, ↓r162_1_6, ↓r162_1_7, ↓r162_1_8, ↓r162_1_9, ↓r162_1_10, ↓r162_1_d, ↓r162_60, ↓r162_61, ↓r162_64, ↓r162_67, ↓r162_68, ↓r162_69, ↓r162_72, ↓r162_75, ↓r162_76, ↓r162_77, ↓r162_80, ↓r162_81, ↓r162_84, ↓r162_85, ↓r162_88, ↓r162_89, ↓r162_92, ↓r162_93, ↓r162_94, ↓r162_95, ↓r162_98, ↓r162_99, ↓r162_102, ↓r162_103, ↓r162_104, ↓r162_107, ↓r162_110, ↓r162_111, ↓r162_112, ↓r162_115, ↓r162_118, ↓r162_119, ↓r162_120, ↓r162_123, ↓r162_124, ↓r162_124k, ↓r162_125, ↓r162_126, ↓r162_127, ↓r162_130, ↓r162_131, ↓r162_131k, ↓r162_132, ↓r162_133, ↓r162_134, ↓r162_137, ↓r162_138, ↓r162_138k, ↓r162_139, ↓r162_140, ↓r162_141, ↓r162_144, ↓r162_145, ↓r162_145k, ↓r162_146, ↓r162_147, ↓r162_148, ↓r162_151, ↓r162_153, ↓r162_153k, ↓r162_154, ↓r162_155, ↓r162_156, ↓c_countHow hW hN hs, ↓c_countFound hW hN hs hth hT3, hs, hc, e1, ps_n5, hn, hn2, ht, hF, am_wt, am_wf, Option.isSome_some, am_rf_s, am_rf_n, ps_lit, nI_add, nI_1, pk_mul, ps_cl, ps_neg, ps_c0, ps_c1, ps_n01, ps_n11, ps_10, ps_b01, ps_e0, pu_Ine, pu_Ieq, pu_ne, pu_eq, am_k_n, am_k_i, am_k_r, am_k_u, am_k_l, am_sz_0, am_sz_i, am_sz_r, am_sz_u, am_sz_l, Option.toList_some, Option.toList_none, List.cons_append, List.nil_append, true_and, and_true, or_false, false_or, or_self, or_true, true_or, not_false_eq_true, not_true_eq_false, Classical.not_not, ne_eq, ps_e1, ps_em, ps_z, Nat.not_le, false_implies, true_implies, forall_const, ps_01, ps_1n, ps_0n, ps_m10, ps_m1n, lg_cmp_gt, lg_cmp_ge, lg_cmp_le, lg_cmp_lt, lg_cmp_eq, pu_rne, pu_req, pu_uro, RFc_n, Nat.reduceAdd, Nat.reduceMul, Nat.reduceLT, Nat.reduceLeDiff, Nat.reduceEqDiff, Nat.reduceSub]
  refine ⟨_, rfl, ?_⟩
  refine (l_count0 hW hN hKN hth hT1).mpr ?_
  have e82 : ∀ {d : Nat} {Q : Option Value → am_H → Prop} {L : am_L} {st : List Value} {h : am_H}, am_W X d 292 82 L (.int (nI 2) :: st) h Q ↔ am_W X d 292 154 L st h Q := r292_82_2
  simp only [↓r292_81, ↓e82, ↓r292_140, ↓r292_141, ↓r292_144, ↓r292_145, ↓r292_146, ↓r292_149, ↓r292_152, ↓r292_152k, ↓r292_153, ↓r292_154, ↓r292_155, ↓r292_156, ↓r292_157, ↓r292_158, ↓r292_160, ↓r292_161, ↓r292_162, ↓r292_165, ↓r292_166, ↓r292_167, ↓r292_170, ↓r292_171, ↓r292_172, ↓r292_173, ↓r292_173k, ↓r292_174, ↓r292_175, ↓r292_176, ↓r292_179, ↓r292_180, ↓r292_180k, ↓r292_181, ↓r292_182, ↓r292_183, ↓r292_186, ↓r292_188, ↓r292_188k, ↓r292_189, ↓r292_190, ↓r292_191, ↓c_within, ↓c_meansTried, ↓c_nearest, ↓c_accept, ↓c_rf1, ↓c_rf2, ↓c_rf3, ↓c_rf5, ↓c_rf6, ↓c_has, ↓c_atx, ↓c_putx, ↓c_put0, ↓c_put1, ↓s_at0, ↓s_at1, ↓c_isTriedx, ↓c_sidex, ↓c_thingx, ↓c_isFoundx, ↓s_lies, ↓s_rf1, ↓s_rf2, ↓s_rf3, ↓s_rf5, ↓s_rf6, ↓s_good, ↓s_many, ↓s_at, ↓s_isChild, ↓s_replacesx, ↓s_factOfx, ↓s_isTried, ↓s_took, ↓s_waited, ↓s_term0, ↓s_term1, ↓s_term2, ↓s_isLong, ↓s_isShort, ↓s_thingOfx, ↓s_isFoundx, ↓s_isText, ↓s_isGroup, hW, hKN, hKT, e2, ps_n5, hn, hn2, ht, hF, am_wt, am_wf, Option.isSome_some, am_rf_s, am_rf_n, ps_lit, nI_add, nI_1, pk_mul, ps_cl, ps_neg, ps_c0, ps_c1, ps_n01, ps_n11, ps_10, ps_b01, ps_e0, pu_Ine, pu_Ieq, pu_ne, pu_eq, am_k_n, am_k_i, am_k_r, am_k_u, am_k_l, am_sz_0, am_sz_i, am_sz_r, am_sz_u, am_sz_l, Option.toList_some, Option.toList_none, List.cons_append, List.nil_append, true_and, and_true, or_false, false_or, or_self, or_true, true_or, not_false_eq_true, not_true_eq_false, Classical.not_not, ne_eq, ps_e1, ps_em, ps_z, Nat.not_le, false_implies, true_implies, forall_const, ps_01, ps_1n, ps_0n, ps_m10, ps_m1n, lg_cmp_gt, lg_cmp_ge, lg_cmp_le, lg_cmp_lt, lg_cmp_eq, pu_rne, pu_req, pu_uro, RFc_n, Nat.reduceAdd, Nat.reduceMul, Nat.reduceLT, Nat.reduceLeDiff, Nat.reduceEqDiff, Nat.reduceSub]
  refine ⟨?_, hI⟩
  rw [cnt_add (r := pTr (I 49)) N ?_]
  intro c' hc'
  obtain ⟨w, hw, ew⟩ := RW_lt (hRW c' hc') (f := 10) (by decide)
  have er : I 2 (15 * c' + 10) = nI w := (hr _ (by omega)).trans ew
  have hw3 : w ≤ 3 := hw
  have g0 : (nI w = 0) = (w = 0) := propext (nI_eq (b := 0) (by omega) (by decide))
  have g1 : (nI w = 1) = (w = 1) := propext (nI_eq (b := 1) (by omega) (by decide))
  have g2 : (nI w < nI 2) = (w < 2) := propext (nI_ltI (by omega) (by decide))
  unfold pTr
  rw [show I 49 (15 * c' + 10) = nI w from ew, er]
  simp only [g0, g1, g2, decide_eq_true_eq]
  omega
theorem pr_count_3 {i : Nat} (hX : XS X) (hi : i < 600) (hV : Inv i (n, sl, t, I, J, F)) : PR X i 162 292 [some (.ref 0), some (.int 3)] [some (.ref 47), some (.int 3), none, none, none, none] (n, sl, t, I, J, F) := by
  unfold PR
  have hW : WS n t F := hV.1
  obtain ⟨hn, hn2, ht, hF⟩ := id hW
  have hKR : KR (I 1 4) (I 1 5) (I 2) (I 3) (I 4) (I 49) := hV.2.2.1
  obtain ⟨N, T, ⟨hN, hT, hKN, hKT, hRW, hTW⟩, hs, hc, hr, hu, hm⟩ := id hKR
  obtain ⟨t1, ⟨th, hth, hT1⟩, t3, t4⟩ := id hTW
  have hT3 : I 3 1 = nI th := (hu 1 (by decide)).trans hT1
  have hI : Inv (i + 1) (n, sl, t, I, J, F) := Inv_sc hV hi (fun _ _ _ => rfl) (SC_r I)
  have hTP : TP (I 7 1) (I 8) (I 47 8) (I 53) := hV.2.2.2.2.2.1
  have hRS : RS (I 46) (I 48) (I 0 14) (I 47 0) := hV.2.2.2.1
  obtain ⟨m, hm4, e1, e2, e3⟩ := id hTP
  simp only [↓r162_0, ↓r162_1_0, ↓r162_1_1, ↓r162_1_2, ↓r162_1_3, ↓r162_1_4, ↓r162_1_5, ↓r162_1_6, ↓r162_1_7, ↓r162_1_8, ↓r162_1_9, ↓r162_1_10, ↓r162_1_d, ↓r162_60, ↓r162_61, ↓r162_64, ↓r162_67, ↓r162_68, ↓r162_69, ↓r162_72, ↓r162_75, ↓r162_76, ↓r162_77, ↓r162_80, ↓r162_81, ↓r162_84, ↓r162_85, ↓r162_88, ↓r162_89, ↓r162_92, ↓r162_93, ↓r162_94, ↓r162_95, ↓r162_98, ↓r162_99, ↓r162_102, ↓r162_103, ↓r162_104, ↓r162_107, ↓r162_110, ↓r162_111, ↓r162_112, ↓r162_115, ↓r162_118, ↓r162_119, ↓r162_120, ↓r162_123, ↓r162_124, ↓r162_124k, ↓r162_125, ↓r162_126, ↓r162_127, ↓r162_130, ↓r162_131, ↓r162_131k, ↓r162_132, ↓r162_133, ↓r162_134, ↓r162_137, ↓r162_138, ↓r162_138k, ↓r162_139, ↓r162_140, ↓r162_141, ↓r162_144, ↓r162_145, ↓r162_145k, ↓r162_146, ↓r162_147, ↓r162_148, ↓r162_151, ↓r162_153, ↓r162_153k, ↓r162_154, ↓r162_155, ↓r162_156, ↓c_countHow hW hN hs, ↓c_countFound hW hN hs hth hT3, hs, hc, e1, ps_n5, hn, hn2, ht, hF, am_wt, am_wf, Option.isSome_some, am_rf_s, am_rf_n, ps_lit, nI_add, nI_1, pk_mul, ps_cl, ps_neg, ps_c0, ps_c1, ps_n01, ps_n11, ps_10, ps_b01, ps_e0, pu_Ine, pu_Ieq, pu_ne, pu_eq, am_k_n, am_k_i, am_k_r, am_k_u, am_k_l, am_sz_0, am_sz_i, am_sz_r, am_sz_u, am_sz_l, Option.toList_some, Option.toList_none, List.cons_append, List.nil_append, true_and, and_true, or_false, false_or, or_self, or_true, true_or, not_false_eq_true, not_true_eq_false, Classical.not_not, ne_eq, ps_e1, ps_em, ps_z, Nat.not_le, false_implies, true_implies, forall_const, ps_01, ps_1n, ps_0n, ps_m10, ps_m1n, lg_cmp_gt, lg_cmp_ge, lg_cmp_le, lg_cmp_lt, lg_cmp_eq, pu_rne, pu_req, pu_uro, RFc_n, Nat.reduceAdd, Nat.reduceMul, Nat.reduceLT, Nat.reduceLeDiff, Nat.reduceEqDiff, Nat.reduceSub]
  refine ⟨_, rfl, ?_⟩
  refine (l_count0 hW hN hKN hth hT1).mpr ?_
  have e82 : ∀ {d : Nat} {Q : Option Value → am_H → Prop} {L : am_L} {st : List Value} {h : am_H}, am_W X d 292 82 L (.int (nI 3) :: st) h Q ↔ am_W X d 292 156 L st h Q := r292_82_3
  simp only [↓r292_81, ↓e82, ↓r292_140, ↓r292_141, ↓r292_144, ↓r292_145, ↓r292_146, ↓r292_149, ↓r292_152, ↓r292_152k, ↓r292_153, ↓r292_154, ↓r292_155, ↓r292_156, ↓r292_157, ↓r292_158, ↓r292_160, ↓r292_161, ↓r292_162, ↓r292_165, ↓r292_166, ↓r292_167, ↓r292_170, ↓r292_171, ↓r292_172, ↓r292_173, ↓r292_173k, ↓r292_174, ↓r292_175, ↓r292_176, ↓r292_179, ↓r292_180, ↓r292_180k, ↓r292_181, ↓r292_182, ↓r292_183, ↓r292_186, ↓r292_188, ↓r292_188k, ↓r292_189, ↓r292_190, ↓r292_191, ↓c_within, ↓c_meansTried, ↓c_nearest, ↓c_accept, ↓c_rf1, ↓c_rf2, ↓c_rf3, ↓c_rf5, ↓c_rf6, ↓c_has, ↓c_atx, ↓c_putx, ↓c_put0, ↓c_put1, ↓s_at0, ↓s_at1, ↓c_isTriedx, ↓c_sidex, ↓c_thingx, ↓c_isFoundx, ↓s_lies, ↓s_rf1, ↓s_rf2, ↓s_rf3, ↓s_rf5, ↓s_rf6, ↓s_good, ↓s_many, ↓s_at, ↓s_isChild, ↓s_replacesx, ↓s_factOfx, ↓s_isTried, ↓s_took, ↓s_waited, ↓s_term0, ↓s_term1, ↓s_term2, ↓s_isLong, ↓s_isShort, ↓s_thingOfx, ↓s_isFoundx, ↓s_isText, ↓s_isGroup, hW, hKN, hKT, e2, ps_n5, hn, hn2, ht, hF, am_wt, am_wf, Option.isSome_some, am_rf_s, am_rf_n, ps_lit, nI_add, nI_1, pk_mul, ps_cl, ps_neg, ps_c0, ps_c1, ps_n01, ps_n11, ps_10, ps_b01, ps_e0, pu_Ine, pu_Ieq, pu_ne, pu_eq, am_k_n, am_k_i, am_k_r, am_k_u, am_k_l, am_sz_0, am_sz_i, am_sz_r, am_sz_u, am_sz_l, Option.toList_some, Option.toList_none, List.cons_append, List.nil_append, true_and, and_true, or_false, false_or, or_self, or_true, true_or, not_false_eq_true, not_true_eq_false, Classical.not_not, ne_eq, ps_e1, ps_em, ps_z, Nat.not_le, false_implies, true_implies, forall_const, ps_01, ps_1n, ps_0n, ps_m10, ps_m1n, lg_cmp_gt, lg_cmp_ge, lg_cmp_le, lg_cmp_lt, lg_cmp_eq, pu_rne, pu_req, pu_uro, RFc_n, Nat.reduceAdd, Nat.reduceMul, Nat.reduceLT, Nat.reduceLeDiff, Nat.reduceEqDiff, Nat.reduceSub]
  refine ⟨?_, hI⟩
  rw [cnt_c N (q := pGo (I 49)) (fun c' hc' => by unfold pGo; rw [hr _ (by omega)])]
theorem pr_count_4 {i : Nat} (hX : XS X) (hi : i < 600) (hV : Inv i (n, sl, t, I, J, F)) : PR X i 162 292 [some (.ref 0), some (.int 4)] [some (.ref 47), some (.int 4), none, none, none, none] (n, sl, t, I, J, F) := by
  unfold PR
  have hW : WS n t F := hV.1
  obtain ⟨hn, hn2, ht, hF⟩ := id hW
  have hKR : KR (I 1 4) (I 1 5) (I 2) (I 3) (I 4) (I 49) := hV.2.2.1
  obtain ⟨N, T, ⟨hN, hT, hKN, hKT, hRW, hTW⟩, hs, hc, hr, hu, hm⟩ := id hKR
  obtain ⟨t1, ⟨th, hth, hT1⟩, t3, t4⟩ := id hTW
  have hT3 : I 3 1 = nI th := (hu 1 (by decide)).trans hT1
  have hI : Inv (i + 1) (n, sl, t, I, J, F) := Inv_sc hV hi (fun _ _ _ => rfl) (SC_r I)
  have hTP : TP (I 7 1) (I 8) (I 47 8) (I 53) := hV.2.2.2.2.2.1
  have hRS : RS (I 46) (I 48) (I 0 14) (I 47 0) := hV.2.2.2.1
  obtain ⟨m, hm4, e1, e2, e3⟩ := id hTP
  simp only [↓r162_0, ↓r162_1_0, ↓r162_1_1, ↓r162_1_2, ↓r162_1_3, ↓r162_1_4, ↓r162_1_5, ↓r162_1_6, ↓r162_1_7, ↓r162_1_8, ↓r162_1_9, ↓r162_1_10, ↓r162_1_d, ↓r162_60, ↓r162_61, ↓r162_64, ↓r162_67, ↓r162_68, ↓r162_69, ↓r162_72, ↓r162_75, ↓r162_76, ↓r162_77, ↓r162_80, ↓r162_81, ↓r162_84, ↓r162_85, ↓r162_88, ↓r162_89, ↓r162_92, ↓r162_93, ↓r162_94, ↓r162_95, ↓r162_98, ↓r162_99, ↓r162_102, ↓r162_103, ↓r162_104, ↓r162_107, ↓r162_110, ↓r162_111, ↓r162_112, ↓r162_115, ↓r162_118, ↓r162_119, ↓r162_120, ↓r162_123, ↓r162_124, ↓r162_124k, ↓r162_125, ↓r162_126, ↓r162_127, ↓r162_130, ↓r162_131, ↓r162_131k, ↓r162_132, ↓r162_133, ↓r162_134, ↓r162_137, ↓r162_138, ↓r162_138k, ↓r162_139, ↓r162_140, ↓r162_141, ↓r162_144, ↓r162_145, ↓r162_145k, ↓r162_146, ↓r162_147, ↓r162_148, ↓r162_151, ↓r162_153, ↓r162_153k, ↓r162_154, ↓r162_155, ↓r162_156, ↓c_countHow hW hN hs, ↓c_countFound hW hN hs hth hT3, hs, hc, e1, ps_n5, hn, hn2, ht, hF, am_wt, am_wf, Option.isSome_some, am_rf_s, am_rf_n, ps_lit, nI_add, nI_1, pk_mul, ps_cl, ps_neg, ps_c0, ps_c1, ps_n01, ps_n11, ps_10, ps_b01, ps_e0, pu_Ine, pu_Ieq, pu_ne, pu_eq, am_k_n, am_k_i, am_k_r, am_k_u, am_k_l, am_sz_0, am_sz_i, am_sz_r, am_sz_u, am_sz_l, Option.toList_some, Option.toList_none, List.cons_append, List.nil_append, true_and, and_true, or_false, false_or, or_self, or_true, true_or, not_false_eq_true, not_true_eq_false, Classical.not_not, ne_eq, ps_e1, ps_em, ps_z, Nat.not_le, false_implies, true_implies, forall_const, ps_01, ps_1n, ps_0n, ps_m10, ps_m1n, lg_cmp_gt, lg_cmp_ge, lg_cmp_le, lg_cmp_lt, lg_cmp_eq, pu_rne, pu_req, pu_uro, RFc_n, Nat.reduceAdd, Nat.reduceMul, Nat.reduceLT, Nat.reduceLeDiff, Nat.reduceEqDiff, Nat.reduceSub]
  refine ⟨_, rfl, ?_⟩
  refine (l_count0 hW hN hKN hth hT1).mpr ?_
  have e82 : ∀ {d : Nat} {Q : Option Value → am_H → Prop} {L : am_L} {st : List Value} {h : am_H}, am_W X d 292 82 L (.int (nI 4) :: st) h Q ↔ am_W X d 292 158 L st h Q := r292_82_4
  simp only [↓r292_81, ↓e82, ↓r292_140, ↓r292_141, ↓r292_144, ↓r292_145, ↓r292_146, ↓r292_149, ↓r292_152, ↓r292_152k, ↓r292_153, ↓r292_154, ↓r292_155, ↓r292_156, ↓r292_157, ↓r292_158, ↓r292_160, ↓r292_161, ↓r292_162, ↓r292_165, ↓r292_166, ↓r292_167, ↓r292_170, ↓r292_171, ↓r292_172, ↓r292_173, ↓r292_173k, ↓r292_174, ↓r292_175, ↓r292_176, ↓r292_179, ↓r292_180, ↓r292_180k, ↓r292_181, ↓r292_182, ↓r292_183, ↓r292_186, ↓r292_188, ↓r292_188k, ↓r292_189, ↓r292_190, ↓r292_191, ↓c_within, ↓c_meansTried, ↓c_nearest, ↓c_accept, ↓c_rf1, ↓c_rf2, ↓c_rf3, ↓c_rf5, ↓c_rf6, ↓c_has, ↓c_atx, ↓c_putx, ↓c_put0, ↓c_put1, ↓s_at0, ↓s_at1, ↓c_isTriedx, ↓c_sidex, ↓c_thingx, ↓c_isFoundx, ↓s_lies, ↓s_rf1, ↓s_rf2, ↓s_rf3, ↓s_rf5, ↓s_rf6, ↓s_good, ↓s_many, ↓s_at, ↓s_isChild, ↓s_replacesx, ↓s_factOfx, ↓s_isTried, ↓s_took, ↓s_waited, ↓s_term0, ↓s_term1, ↓s_term2, ↓s_isLong, ↓s_isShort, ↓s_thingOfx, ↓s_isFoundx, ↓s_isText, ↓s_isGroup, hW, hKN, hKT, e2, ps_n5, hn, hn2, ht, hF, am_wt, am_wf, Option.isSome_some, am_rf_s, am_rf_n, ps_lit, nI_add, nI_1, pk_mul, ps_cl, ps_neg, ps_c0, ps_c1, ps_n01, ps_n11, ps_10, ps_b01, ps_e0, pu_Ine, pu_Ieq, pu_ne, pu_eq, am_k_n, am_k_i, am_k_r, am_k_u, am_k_l, am_sz_0, am_sz_i, am_sz_r, am_sz_u, am_sz_l, Option.toList_some, Option.toList_none, List.cons_append, List.nil_append, true_and, and_true, or_false, false_or, or_self, or_true, true_or, not_false_eq_true, not_true_eq_false, Classical.not_not, ne_eq, ps_e1, ps_em, ps_z, Nat.not_le, false_implies, true_implies, forall_const, ps_01, ps_1n, ps_0n, ps_m10, ps_m1n, lg_cmp_gt, lg_cmp_ge, lg_cmp_le, lg_cmp_lt, lg_cmp_eq, pu_rne, pu_req, pu_uro, RFc_n, Nat.reduceAdd, Nat.reduceMul, Nat.reduceLT, Nat.reduceLeDiff, Nat.reduceEqDiff, Nat.reduceSub]
  refine ⟨?_, hI⟩
  rw [cnt_c N (q := pFo (I 49) th) (fun c' hc' => by unfold pFo; rw [hr _ (by omega)])]
theorem pr_count_5 {i : Nat} (hX : XS X) (hi : i < 600) (hV : Inv i (n, sl, t, I, J, F)) : PR X i 162 292 [some (.ref 0), some (.int 5)] [some (.ref 47), some (.int 5), none, none, none, none] (n, sl, t, I, J, F) := by
  unfold PR
  have hW : WS n t F := hV.1
  obtain ⟨hn, hn2, ht, hF⟩ := id hW
  have hKR : KR (I 1 4) (I 1 5) (I 2) (I 3) (I 4) (I 49) := hV.2.2.1
  obtain ⟨N, T, ⟨hN, hT, hKN, hKT, hRW, hTW⟩, hs, hc, hr, hu, hm⟩ := id hKR
  obtain ⟨t1, ⟨th, hth, hT1⟩, t3, t4⟩ := id hTW
  have hT3 : I 3 1 = nI th := (hu 1 (by decide)).trans hT1
  have hI : Inv (i + 1) (n, sl, t, I, J, F) := Inv_sc hV hi (fun _ _ _ => rfl) (SC_r I)
  have hTP : TP (I 7 1) (I 8) (I 47 8) (I 53) := hV.2.2.2.2.2.1
  have hRS : RS (I 46) (I 48) (I 0 14) (I 47 0) := hV.2.2.2.1
  obtain ⟨m, hm4, e1, e2, e3⟩ := id hTP
  simp only [↓r162_0, ↓r162_1_0, ↓r162_1_1, ↓r162_1_2, ↓r162_1_3, ↓r162_1_4, ↓r162_1_5, ↓r162_1_6, ↓r162_1_7, ↓r162_1_8, ↓r162_1_9, ↓r162_1_10, ↓r162_1_d, ↓r162_60, ↓r162_61, ↓r162_64, ↓r162_67, ↓r162_68, ↓r162_69, ↓r162_72, ↓r162_75, ↓r162_76, ↓r162_77, ↓r162_80, ↓r162_81, ↓r162_84, ↓r162_85, ↓r162_88, ↓r162_89, ↓r162_92, ↓r162_93, ↓r162_94, ↓r162_95, ↓r162_98, ↓r162_99, ↓r162_102, ↓r162_103, ↓r162_104, ↓r162_107, ↓r162_110, ↓r162_111, ↓r162_112, ↓r162_115, ↓r162_118, ↓r162_119, ↓r162_120, ↓r162_123, ↓r162_124, ↓r162_124k, ↓r162_125, ↓r162_126, ↓r162_127, ↓r162_130, ↓r162_131, ↓r162_131k, ↓r162_132, ↓r162_133, ↓r162_134, ↓r162_137, ↓r162_138, ↓r162_138k, ↓r162_139, ↓r162_140, ↓r162_141, ↓r162_144, ↓r162_145, ↓r162_145k, ↓r162_146, ↓r162_147, ↓r162_148, ↓r162_151, ↓r162_153, ↓r162_153k, ↓r162_154, ↓r162_155, ↓r162_156, ↓c_countHow hW hN hs, ↓c_countFound hW hN hs hth hT3, hs, hc, e1, ps_n5, hn, hn2, ht, hF, am_wt, am_wf, Option.isSome_some, am_rf_s, am_rf_n, ps_lit, nI_add, nI_1, pk_mul, ps_cl, ps_neg, ps_c0, ps_c1, ps_n01, ps_n11, ps_10, ps_b01, ps_e0, pu_Ine, pu_Ieq, pu_ne, pu_eq, am_k_n, am_k_i, am_k_r, am_k_u, am_k_l, am_sz_0, am_sz_i, am_sz_r, am_sz_u, am_sz_l, Option.toList_some, Option.toList_none, List.cons_append, List.nil_append, true_and, and_true, or_false, false_or, or_self, or_true, true_or, not_false_eq_true, not_true_eq_false, Classical.not_not, ne_eq, ps_e1, ps_em, ps_z, Nat.not_le, false_implies, true_implies, forall_const, ps_01, ps_1n, ps_0n, ps_m10, ps_m1n, lg_cmp_gt, lg_cmp_ge, lg_cmp_le, lg_cmp_lt, lg_cmp_eq, pu_rne, pu_req, pu_uro, RFc_n, Nat.reduceAdd, Nat.reduceMul, Nat.reduceLT, Nat.reduceLeDiff, Nat.reduceEqDiff, Nat.reduceSub]
  refine ⟨_, rfl, ?_⟩
  refine (l_count0 hW hN hKN hth hT1).mpr ?_
  have e82 : ∀ {d : Nat} {Q : Option Value → am_H → Prop} {L : am_L} {st : List Value} {h : am_H}, am_W X d 292 82 L (.int (nI 5) :: st) h Q ↔ am_W X d 292 161 L st h Q := r292_82_5
  simp only [↓r292_81, ↓e82, ↓r292_140, ↓r292_141, ↓r292_144, ↓r292_145, ↓r292_146, ↓r292_149, ↓r292_152, ↓r292_152k, ↓r292_153, ↓r292_154, ↓r292_155, ↓r292_156, ↓r292_157, ↓r292_158, ↓r292_160, ↓r292_161, ↓r292_162, ↓r292_165, ↓r292_166, ↓r292_167, ↓r292_170, ↓r292_171, ↓r292_172, ↓r292_173, ↓r292_173k, ↓r292_174, ↓r292_175, ↓r292_176, ↓r292_179, ↓r292_180, ↓r292_180k, ↓r292_181, ↓r292_182, ↓r292_183, ↓r292_186, ↓r292_188, ↓r292_188k, ↓r292_189, ↓r292_190, ↓r292_191, ↓c_within, ↓c_meansTried, ↓c_nearest, ↓c_accept, ↓c_rf1, ↓c_rf2, ↓c_rf3, ↓c_rf5, ↓c_rf6, ↓c_has, ↓c_atx, ↓c_putx, ↓c_put0, ↓c_put1, ↓s_at0, ↓s_at1, ↓c_isTriedx, ↓c_sidex, ↓c_thingx, ↓c_isFoundx, ↓s_lies, ↓s_rf1, ↓s_rf2, ↓s_rf3, ↓s_rf5, ↓s_rf6, ↓s_good, ↓s_many, ↓s_at, ↓s_isChild, ↓s_replacesx, ↓s_factOfx, ↓s_isTried, ↓s_took, ↓s_waited, ↓s_term0, ↓s_term1, ↓s_term2, ↓s_isLong, ↓s_isShort, ↓s_thingOfx, ↓s_isFoundx, ↓s_isText, ↓s_isGroup, hW, hKN, hKT, e2, ps_n5, hn, hn2, ht, hF, am_wt, am_wf, Option.isSome_some, am_rf_s, am_rf_n, ps_lit, nI_add, nI_1, pk_mul, ps_cl, ps_neg, ps_c0, ps_c1, ps_n01, ps_n11, ps_10, ps_b01, ps_e0, pu_Ine, pu_Ieq, pu_ne, pu_eq, am_k_n, am_k_i, am_k_r, am_k_u, am_k_l, am_sz_0, am_sz_i, am_sz_r, am_sz_u, am_sz_l, Option.toList_some, Option.toList_none, List.cons_append, List.nil_append, true_and, and_true, or_false, false_or, or_self, or_true, true_or, not_false_eq_true, not_true_eq_false, Classical.not_not, ne_eq, ps_e1, ps_em, ps_z, Nat.not_le, false_implies, true_implies, forall_const, ps_01, ps_1n, ps_0n, ps_m10, ps_m1n, lg_cmp_gt, lg_cmp_ge, lg_cmp_le, lg_cmp_lt, lg_cmp_eq, pu_rne, pu_req, pu_uro, RFc_n, Nat.reduceAdd, Nat.reduceMul, Nat.reduceLT, Nat.reduceLeDiff, Nat.reduceEqDiff, Nat.reduceSub]
  refine ⟨?_, hI⟩
  rfl
theorem pr_count_6 {i : Nat} (hX : XS X) (hi : i < 600) (hV : Inv i (n, sl, t, I, J, F)) : PR X i 162 292 [some (.ref 0), some (.int 6)] [some (.ref 47), some (.int 6), none, none, none, none] (n, sl, t, I, J, F) := by
  unfold PR
  have hW : WS n t F := hV.1
  obtain ⟨hn, hn2, ht, hF⟩ := id hW
  have hKR : KR (I 1 4) (I 1 5) (I 2) (I 3) (I 4) (I 49) := hV.2.2.1
  obtain ⟨N, T, ⟨hN, hT, hKN, hKT, hRW, hTW⟩, hs, hc, hr, hu, hm⟩ := id hKR
  obtain ⟨t1, ⟨th, hth, hT1⟩, t3, t4⟩ := id hTW
  have hT3 : I 3 1 = nI th := (hu 1 (by decide)).trans hT1
  have hI : Inv (i + 1) (n, sl, t, I, J, F) := Inv_sc hV hi (fun _ _ _ => rfl) (SC_r I)
  have hTP : TP (I 7 1) (I 8) (I 47 8) (I 53) := hV.2.2.2.2.2.1
  have hRS : RS (I 46) (I 48) (I 0 14) (I 47 0) := hV.2.2.2.1
  obtain ⟨m, hm4, e1, e2, e3⟩ := id hTP
  simp only [↓r162_0, ↓r162_1_0, ↓r162_1_1, ↓r162_1_2, ↓r162_1_3, ↓r162_1_4, ↓r162_1_5, ↓r162_1_6, ↓r162_1_7, ↓r162_1_8, ↓r162_1_9, ↓r162_1_10, ↓r162_1_d, ↓r162_60, ↓r162_61, ↓r162_64, ↓r162_67, ↓r162_68, ↓r162_69, ↓r162_72, ↓r162_75, ↓r162_76, ↓r162_77, ↓r162_80, ↓r162_81, ↓r162_84, ↓r162_85, ↓r162_88, ↓r162_89, ↓r162_92, ↓r162_93, ↓r162_94, ↓r162_95, ↓r162_98, ↓r162_99, ↓r162_102, ↓r162_103, ↓r162_104, ↓r162_107, ↓r162_110, ↓r162_111, ↓r162_112, ↓r162_115, ↓r162_118, ↓r162_119, ↓r162_120, ↓r162_123, ↓r162_124, ↓r162_124k, ↓r162_125, ↓r162_126, ↓r162_127, ↓r162_130, ↓r162_131, ↓r162_131k, ↓r162_132, ↓r162_133, ↓r162_134, ↓r162_137, ↓r162_138, ↓r162_138k, ↓r162_139, ↓r162_140, ↓r162_141, ↓r162_144, ↓r162_145, ↓r162_145k, ↓r162_146, ↓r162_147, ↓r162_148, ↓r162_151, ↓r162_153, ↓r162_153k, ↓r162_154, ↓r162_155, ↓r162_156, ↓c_countHow hW hN hs, ↓c_countFound hW hN hs hth hT3, hs, hc, e1, ps_n5, hn, hn2, ht, hF, am_wt, am_wf, Option.isSome_some, am_rf_s, am_rf_n, ps_lit, nI_add, nI_1, pk_mul, ps_cl, ps_neg, ps_c0, ps_c1, ps_n01, ps_n11, ps_10, ps_b01, ps_e0, pu_Ine, pu_Ieq, pu_ne, pu_eq, am_k_n, am_k_i, am_k_r, am_k_u, am_k_l, am_sz_0, am_sz_i, am_sz_r, am_sz_u, am_sz_l, Option.toList_some, Option.toList_none, List.cons_append, List.nil_append, true_and, and_true, or_false, false_or, or_self, or_true, true_or, not_false_eq_true, not_true_eq_false, Classical.not_not, ne_eq, ps_e1, ps_em, ps_z, Nat.not_le, false_implies, true_implies, forall_const, ps_01, ps_1n, ps_0n, ps_m10, ps_m1n, lg_cmp_gt, lg_cmp_ge, lg_cmp_le, lg_cmp_lt, lg_cmp_eq, pu_rne, pu_req, pu_uro, RFc_n, Nat.reduceAdd, Nat.reduceMul, Nat.reduceLT, Nat.reduceLeDiff, Nat.reduceEqDiff, Nat.reduceSub]
  refine ⟨_, rfl, ?_⟩
  refine (l_count0 hW hN hKN hth hT1).mpr ?_
  have e82 : ∀ {d : Nat} {Q : Option Value → am_H → Prop} {L : am_L} {st : List Value} {h : am_H}, am_W X d 292 82 L (.int (nI 6) :: st) h Q ↔ am_W X d 292 166 L st h Q := r292_82_6
  simp only [↓r292_81, ↓e82, ↓r292_140, ↓r292_141, ↓r292_144, ↓r292_145, ↓r292_146, ↓r292_149, ↓r292_152, ↓r292_152k, ↓r292_153, ↓r292_154, ↓r292_155, ↓r292_156, ↓r292_157, ↓r292_158, ↓r292_160, ↓r292_161, ↓r292_162, ↓r292_165, ↓r292_166, ↓r292_167, ↓r292_170, ↓r292_171, ↓r292_172, ↓r292_173, ↓r292_173k, ↓r292_174, ↓r292_175, ↓r292_176, ↓r292_179, ↓r292_180, ↓r292_180k, ↓r292_181, ↓r292_182, ↓r292_183, ↓r292_186, ↓r292_188, ↓r292_188k, ↓r292_189, ↓r292_190, ↓r292_191, ↓c_within, ↓c_meansTried, ↓c_nearest, ↓c_accept, ↓c_rf1, ↓c_rf2, ↓c_rf3, ↓c_rf5, ↓c_rf6, ↓c_has, ↓c_atx, ↓c_putx, ↓c_put0, ↓c_put1, ↓s_at0, ↓s_at1, ↓c_isTriedx, ↓c_sidex, ↓c_thingx, ↓c_isFoundx, ↓s_lies, ↓s_rf1, ↓s_rf2, ↓s_rf3, ↓s_rf5, ↓s_rf6, ↓s_good, ↓s_many, ↓s_at, ↓s_isChild, ↓s_replacesx, ↓s_factOfx, ↓s_isTried, ↓s_took, ↓s_waited, ↓s_term0, ↓s_term1, ↓s_term2, ↓s_isLong, ↓s_isShort, ↓s_thingOfx, ↓s_isFoundx, ↓s_isText, ↓s_isGroup, hW, hKN, hKT, e2, ps_n5, hn, hn2, ht, hF, am_wt, am_wf, Option.isSome_some, am_rf_s, am_rf_n, ps_lit, nI_add, nI_1, pk_mul, ps_cl, ps_neg, ps_c0, ps_c1, ps_n01, ps_n11, ps_10, ps_b01, ps_e0, pu_Ine, pu_Ieq, pu_ne, pu_eq, am_k_n, am_k_i, am_k_r, am_k_u, am_k_l, am_sz_0, am_sz_i, am_sz_r, am_sz_u, am_sz_l, Option.toList_some, Option.toList_none, List.cons_append, List.nil_append, true_and, and_true, or_false, false_or, or_self, or_true, true_or, not_false_eq_true, not_true_eq_false, Classical.not_not, ne_eq, ps_e1, ps_em, ps_z, Nat.not_le, false_implies, true_implies, forall_const, ps_01, ps_1n, ps_0n, ps_m10, ps_m1n, lg_cmp_gt, lg_cmp_ge, lg_cmp_le, lg_cmp_lt, lg_cmp_eq, pu_rne, pu_req, pu_uro, RFc_n, Nat.reduceAdd, Nat.reduceMul, Nat.reduceLT, Nat.reduceLeDiff, Nat.reduceEqDiff, Nat.reduceSub]
  refine ⟨?_, hI⟩
  rw [hRS.1 1 (by decide)]
theorem pr_count_7 {i : Nat} (hX : XS X) (hi : i < 600) (hV : Inv i (n, sl, t, I, J, F)) : PR X i 162 292 [some (.ref 0), some (.int 7)] [some (.ref 47), some (.int 7), none, none, none, none] (n, sl, t, I, J, F) := by
  unfold PR
  have hW : WS n t F := hV.1
  obtain ⟨hn, hn2, ht, hF⟩ := id hW
  have hKR : KR (I 1 4) (I 1 5) (I 2) (I 3) (I 4) (I 49) := hV.2.2.1
  obtain ⟨N, T, ⟨hN, hT, hKN, hKT, hRW, hTW⟩, hs, hc, hr, hu, hm⟩ := id hKR
  obtain ⟨t1, ⟨th, hth, hT1⟩, t3, t4⟩ := id hTW
  have hT3 : I 3 1 = nI th := (hu 1 (by decide)).trans hT1
  have hI : Inv (i + 1) (n, sl, t, I, J, F) := Inv_sc hV hi (fun _ _ _ => rfl) (SC_r I)
  have hTP : TP (I 7 1) (I 8) (I 47 8) (I 53) := hV.2.2.2.2.2.1
  have hRS : RS (I 46) (I 48) (I 0 14) (I 47 0) := hV.2.2.2.1
  obtain ⟨m, hm4, e1, e2, e3⟩ := id hTP
  simp only [↓r162_0, ↓r162_1_0, ↓r162_1_1, ↓r162_1_2, ↓r162_1_3, ↓r162_1_4, ↓r162_1_5, ↓r162_1_6, ↓r162_1_7, ↓r162_1_8, ↓r162_1_9, ↓r162_1_10, ↓r162_1_d, ↓r162_60, ↓r162_61, ↓r162_64, ↓r162_67, ↓r162_68, ↓r162_69, ↓r162_72, ↓r162_75, ↓r162_76, ↓r162_77, ↓r162_80, ↓r162_81, ↓r162_84, ↓r162_85, ↓r162_88, ↓r162_89, ↓r162_92, ↓r162_93, ↓r162_94, ↓r162_95, ↓r162_98, ↓r162_99, ↓r162_102, ↓r162_103, ↓r162_104, ↓r162_107, ↓r162_110, ↓r162_111, ↓r162_112, ↓r162_115, ↓r162_118, ↓r162_119, ↓r162_120, ↓r162_123, ↓r162_124, ↓r162_124k, ↓r162_125, ↓r162_126, ↓r162_127, ↓r162_130, ↓r162_131, ↓r162_131k, ↓r162_132, ↓r162_133, ↓r162_134, ↓r162_137, ↓r162_138, ↓r162_138k, ↓r162_139, ↓r162_140, ↓r162_141, ↓r162_144, ↓r162_145, ↓r162_145k, ↓r162_146, ↓r162_147, ↓r162_148, ↓r162_151, ↓r162_153, ↓r162_153k, ↓r162_154, ↓r162_155, ↓r162_156, ↓c_countHow hW hN hs, ↓c_countFound hW hN hs hth hT3, hs, hc, e1, ps_n5, hn, hn2, ht, hF, am_wt, am_wf, Option.isSome_some, am_rf_s, am_rf_n, ps_lit, nI_add, nI_1, pk_mul, ps_cl, ps_neg, ps_c0, ps_c1, ps_n01, ps_n11, ps_10, ps_b01, ps_e0, pu_Ine, pu_Ieq, pu_ne, pu_eq, am_k_n, am_k_i, am_k_r, am_k_u, am_k_l, am_sz_0, am_sz_i, am_sz_r, am_sz_u, am_sz_l, Option.toList_some, Option.toList_none, List.cons_append, List.nil_append, true_and, and_true, or_false, false_or, or_self, or_true, true_or, not_false_eq_true, not_true_eq_false, Classical.not_not, ne_eq, ps_e1, ps_em, ps_z, Nat.not_le, false_implies, true_implies, forall_const, ps_01, ps_1n, ps_0n, ps_m10, ps_m1n, lg_cmp_gt, lg_cmp_ge, lg_cmp_le, lg_cmp_lt, lg_cmp_eq, pu_rne, pu_req, pu_uro, RFc_n, Nat.reduceAdd, Nat.reduceMul, Nat.reduceLT, Nat.reduceLeDiff, Nat.reduceEqDiff, Nat.reduceSub]
  refine ⟨_, rfl, ?_⟩
  refine (l_count0 hW hN hKN hth hT1).mpr ?_
  have e82 : ∀ {d : Nat} {Q : Option Value → am_H → Prop} {L : am_L} {st : List Value} {h : am_H}, am_W X d 292 82 L (.int (nI 7) :: st) h Q ↔ am_W X d 292 166 L st h Q := r292_82_7
  simp only [↓r292_81, ↓e82, ↓r292_140, ↓r292_141, ↓r292_144, ↓r292_145, ↓r292_146, ↓r292_149, ↓r292_152, ↓r292_152k, ↓r292_153, ↓r292_154, ↓r292_155, ↓r292_156, ↓r292_157, ↓r292_158, ↓r292_160, ↓r292_161, ↓r292_162, ↓r292_165, ↓r292_166, ↓r292_167, ↓r292_170, ↓r292_171, ↓r292_172, ↓r292_173, ↓r292_173k, ↓r292_174, ↓r292_175, ↓r292_176, ↓r292_179, ↓r292_180, ↓r292_180k, ↓r292_181, ↓r292_182, ↓r292_183, ↓r292_186, ↓r292_188, ↓r292_188k, ↓r292_189, ↓r292_190, ↓r292_191, ↓c_within, ↓c_meansTried, ↓c_nearest, ↓c_accept, ↓c_rf1, ↓c_rf2, ↓c_rf3, ↓c_rf5, ↓c_rf6, ↓c_has, ↓c_atx, ↓c_putx, ↓c_put0, ↓c_put1, ↓s_at0, ↓s_at1, ↓c_isTriedx, ↓c_sidex, ↓c_thingx, ↓c_isFoundx, ↓s_lies, ↓s_rf1, ↓s_rf2, ↓s_rf3, ↓s_rf5, ↓s_rf6, ↓s_good, ↓s_many, ↓s_at, ↓s_isChild, ↓s_replacesx, ↓s_factOfx, ↓s_isTried, ↓s_took, ↓s_waited, ↓s_term0, ↓s_term1, ↓s_term2, ↓s_isLong, ↓s_isShort, ↓s_thingOfx, ↓s_isFoundx, ↓s_isText, ↓s_isGroup, hW, hKN, hKT, e2, ps_n5, hn, hn2, ht, hF, am_wt, am_wf, Option.isSome_some, am_rf_s, am_rf_n, ps_lit, nI_add, nI_1, pk_mul, ps_cl, ps_neg, ps_c0, ps_c1, ps_n01, ps_n11, ps_10, ps_b01, ps_e0, pu_Ine, pu_Ieq, pu_ne, pu_eq, am_k_n, am_k_i, am_k_r, am_k_u, am_k_l, am_sz_0, am_sz_i, am_sz_r, am_sz_u, am_sz_l, Option.toList_some, Option.toList_none, List.cons_append, List.nil_append, true_and, and_true, or_false, false_or, or_self, or_true, true_or, not_false_eq_true, not_true_eq_false, Classical.not_not, ne_eq, ps_e1, ps_em, ps_z, Nat.not_le, false_implies, true_implies, forall_const, ps_01, ps_1n, ps_0n, ps_m10, ps_m1n, lg_cmp_gt, lg_cmp_ge, lg_cmp_le, lg_cmp_lt, lg_cmp_eq, pu_rne, pu_req, pu_uro, RFc_n, Nat.reduceAdd, Nat.reduceMul, Nat.reduceLT, Nat.reduceLeDiff, Nat.reduceEqDiff, Nat.reduceSub]
  refine ⟨?_, hI⟩
  rw [hRS.1 2 (by decide)]
theorem pr_count_8 {i : Nat} (hX : XS X) (hi : i < 600) (hV : Inv i (n, sl, t, I, J, F)) : PR X i 162 292 [some (.ref 0), some (.int 8)] [some (.ref 47), some (.int 8), none, none, none, none] (n, sl, t, I, J, F) := by
  unfold PR
  have hW : WS n t F := hV.1
  obtain ⟨hn, hn2, ht, hF⟩ := id hW
  have hKR : KR (I 1 4) (I 1 5) (I 2) (I 3) (I 4) (I 49) := hV.2.2.1
  obtain ⟨N, T, ⟨hN, hT, hKN, hKT, hRW, hTW⟩, hs, hc, hr, hu, hm⟩ := id hKR
  obtain ⟨t1, ⟨th, hth, hT1⟩, t3, t4⟩ := id hTW
  have hT3 : I 3 1 = nI th := (hu 1 (by decide)).trans hT1
  have hI : Inv (i + 1) (n, sl, t, I, J, F) := Inv_sc hV hi (fun _ _ _ => rfl) (SC_r I)
  have hTP : TP (I 7 1) (I 8) (I 47 8) (I 53) := hV.2.2.2.2.2.1
  have hRS : RS (I 46) (I 48) (I 0 14) (I 47 0) := hV.2.2.2.1
  obtain ⟨m, hm4, e1, e2, e3⟩ := id hTP
  simp only [↓r162_0, ↓r162_1_0, ↓r162_1_1, ↓r162_1_2, ↓r162_1_3, ↓r162_1_4, ↓r162_1_5, ↓r162_1_6, ↓r162_1_7, ↓r162_1_8, ↓r162_1_9, ↓r162_1_10, ↓r162_1_d, ↓r162_60, ↓r162_61, ↓r162_64, ↓r162_67, ↓r162_68, ↓r162_69, ↓r162_72, ↓r162_75, ↓r162_76, ↓r162_77, ↓r162_80, ↓r162_81, ↓r162_84, ↓r162_85, ↓r162_88, ↓r162_89, ↓r162_92, ↓r162_93, ↓r162_94, ↓r162_95, ↓r162_98, ↓r162_99, ↓r162_102, ↓r162_103, ↓r162_104, ↓r162_107, ↓r162_110, ↓r162_111, ↓r162_112, ↓r162_115, ↓r162_118, ↓r162_119, ↓r162_120, ↓r162_123, ↓r162_124, ↓r162_124k, ↓r162_125, ↓r162_126, ↓r162_127, ↓r162_130, ↓r162_131, ↓r162_131k, ↓r162_132, ↓r162_133, ↓r162_134, ↓r162_137, ↓r162_138, ↓r162_138k, ↓r162_139, ↓r162_140, ↓r162_141, ↓r162_144, ↓r162_145, ↓r162_145k, ↓r162_146, ↓r162_147, ↓r162_148, ↓r162_151, ↓r162_153, ↓r162_153k, ↓r162_154, ↓r162_155, ↓r162_156, ↓c_countHow hW hN hs, ↓c_countFound hW hN hs hth hT3, hs, hc, e1, ps_n5, hn, hn2, ht, hF, am_wt, am_wf, Option.isSome_some, am_rf_s, am_rf_n, ps_lit, nI_add, nI_1, pk_mul, ps_cl, ps_neg, ps_c0, ps_c1, ps_n01, ps_n11, ps_10, ps_b01, ps_e0, pu_Ine, pu_Ieq, pu_ne, pu_eq, am_k_n, am_k_i, am_k_r, am_k_u, am_k_l, am_sz_0, am_sz_i, am_sz_r, am_sz_u, am_sz_l, Option.toList_some, Option.toList_none, List.cons_append, List.nil_append, true_and, and_true, or_false, false_or, or_self, or_true, true_or, not_false_eq_true, not_true_eq_false, Classical.not_not, ne_eq, ps_e1, ps_em, ps_z, Nat.not_le, false_implies, true_implies, forall_const, ps_01, ps_1n, ps_0n, ps_m10, ps_m1n, lg_cmp_gt, lg_cmp_ge, lg_cmp_le, lg_cmp_lt, lg_cmp_eq, pu_rne, pu_req, pu_uro, RFc_n, Nat.reduceAdd, Nat.reduceMul, Nat.reduceLT, Nat.reduceLeDiff, Nat.reduceEqDiff, Nat.reduceSub]
  refine ⟨_, rfl, ?_⟩
  refine (l_count0 hW hN hKN hth hT1).mpr ?_
  have e82 : ∀ {d : Nat} {Q : Option Value → am_H → Prop} {L : am_L} {st : List Value} {h : am_H}, am_W X d 292 82 L (.int (nI 8) :: st) h Q ↔ am_W X d 292 166 L st h Q := r292_82_8
  simp only [↓r292_81, ↓e82, ↓r292_140, ↓r292_141, ↓r292_144, ↓r292_145, ↓r292_146, ↓r292_149, ↓r292_152, ↓r292_152k, ↓r292_153, ↓r292_154, ↓r292_155, ↓r292_156, ↓r292_157, ↓r292_158, ↓r292_160, ↓r292_161, ↓r292_162, ↓r292_165, ↓r292_166, ↓r292_167, ↓r292_170, ↓r292_171, ↓r292_172, ↓r292_173, ↓r292_173k, ↓r292_174, ↓r292_175, ↓r292_176, ↓r292_179, ↓r292_180, ↓r292_180k, ↓r292_181, ↓r292_182, ↓r292_183, ↓r292_186, ↓r292_188, ↓r292_188k, ↓r292_189, ↓r292_190, ↓r292_191, ↓c_within, ↓c_meansTried, ↓c_nearest, ↓c_accept, ↓c_rf1, ↓c_rf2, ↓c_rf3, ↓c_rf5, ↓c_rf6, ↓c_has, ↓c_atx, ↓c_putx, ↓c_put0, ↓c_put1, ↓s_at0, ↓s_at1, ↓c_isTriedx, ↓c_sidex, ↓c_thingx, ↓c_isFoundx, ↓s_lies, ↓s_rf1, ↓s_rf2, ↓s_rf3, ↓s_rf5, ↓s_rf6, ↓s_good, ↓s_many, ↓s_at, ↓s_isChild, ↓s_replacesx, ↓s_factOfx, ↓s_isTried, ↓s_took, ↓s_waited, ↓s_term0, ↓s_term1, ↓s_term2, ↓s_isLong, ↓s_isShort, ↓s_thingOfx, ↓s_isFoundx, ↓s_isText, ↓s_isGroup, hW, hKN, hKT, e2, ps_n5, hn, hn2, ht, hF, am_wt, am_wf, Option.isSome_some, am_rf_s, am_rf_n, ps_lit, nI_add, nI_1, pk_mul, ps_cl, ps_neg, ps_c0, ps_c1, ps_n01, ps_n11, ps_10, ps_b01, ps_e0, pu_Ine, pu_Ieq, pu_ne, pu_eq, am_k_n, am_k_i, am_k_r, am_k_u, am_k_l, am_sz_0, am_sz_i, am_sz_r, am_sz_u, am_sz_l, Option.toList_some, Option.toList_none, List.cons_append, List.nil_append, true_and, and_true, or_false, false_or, or_self, or_true, true_or, not_false_eq_true, not_true_eq_false, Classical.not_not, ne_eq, ps_e1, ps_em, ps_z, Nat.not_le, false_implies, true_implies, forall_const, ps_01, ps_1n, ps_0n, ps_m10, ps_m1n, lg_cmp_gt, lg_cmp_ge, lg_cmp_le, lg_cmp_lt, lg_cmp_eq, pu_rne, pu_req, pu_uro, RFc_n, Nat.reduceAdd, Nat.reduceMul, Nat.reduceLT, Nat.reduceLeDiff, Nat.reduceEqDiff, Nat.reduceSub]
  refine ⟨?_, hI⟩
  rw [hRS.1 3 (by decide)]
theorem pr_count_9 {i : Nat} (hX : XS X) (hi : i < 600) (hV : Inv i (n, sl, t, I, J, F)) : PR X i 162 292 [some (.ref 0), some (.int 9)] [some (.ref 47), some (.int 9), none, none, none, none] (n, sl, t, I, J, F) := by
  unfold PR
  have hW : WS n t F := hV.1
  obtain ⟨hn, hn2, ht, hF⟩ := id hW
  have hKR : KR (I 1 4) (I 1 5) (I 2) (I 3) (I 4) (I 49) := hV.2.2.1
  obtain ⟨N, T, ⟨hN, hT, hKN, hKT, hRW, hTW⟩, hs, hc, hr, hu, hm⟩ := id hKR
  obtain ⟨t1, ⟨th, hth, hT1⟩, t3, t4⟩ := id hTW
  have hT3 : I 3 1 = nI th := (hu 1 (by decide)).trans hT1
  have hI : Inv (i + 1) (n, sl, t, I, J, F) := Inv_sc hV hi (fun _ _ _ => rfl) (SC_r I)
  have hTP : TP (I 7 1) (I 8) (I 47 8) (I 53) := hV.2.2.2.2.2.1
  have hRS : RS (I 46) (I 48) (I 0 14) (I 47 0) := hV.2.2.2.1
  obtain ⟨m, hm4, e1, e2, e3⟩ := id hTP
  simp only [↓r162_0, ↓r162_1_0, ↓r162_1_1, ↓r162_1_2, ↓r162_1_3, ↓r162_1_4, ↓r162_1_5, ↓r162_1_6, ↓r162_1_7, ↓r162_1_8, ↓r162_1_9, ↓r162_1_10, ↓r162_1_d, ↓r162_60, ↓r162_61, ↓r162_64, ↓r162_67, ↓r162_68, ↓r162_69, ↓r162_72, ↓r162_75, ↓r162_76, ↓r162_77, ↓r162_80, ↓r162_81, ↓r162_84, ↓r162_85, ↓r162_88, ↓r162_89, ↓r162_92, ↓r162_93, ↓r162_94, ↓r162_95, ↓r162_98, ↓r162_99, ↓r162_102, ↓r162_103, ↓r162_104, ↓r162_107, ↓r162_110, ↓r162_111, ↓r162_112, ↓r162_115, ↓r162_118, ↓r162_119, ↓r162_120, ↓r162_123, ↓r162_124, ↓r162_124k, ↓r162_125, ↓r162_126, ↓r162_127, ↓r162_130, ↓r162_131, ↓r162_131k, ↓r162_132, ↓r162_133, ↓r162_134, ↓r162_137, ↓r162_138, ↓r162_138k, ↓r162_139, ↓r162_140, ↓r162_141, ↓r162_144, ↓r162_145, ↓r162_145k, ↓r162_146, ↓r162_147, ↓r162_148, ↓r162_151, ↓r162_153, ↓r162_153k, ↓r162_154, ↓r162_155, ↓r162_156, ↓c_countHow hW hN hs, ↓c_countFound hW hN hs hth hT3, hs, hc, e1, ps_n5, hn, hn2, ht, hF, am_wt, am_wf, Option.isSome_some, am_rf_s, am_rf_n, ps_lit, nI_add, nI_1, pk_mul, ps_cl, ps_neg, ps_c0, ps_c1, ps_n01, ps_n11, ps_10, ps_b01, ps_e0, pu_Ine, pu_Ieq, pu_ne, pu_eq, am_k_n, am_k_i, am_k_r, am_k_u, am_k_l, am_sz_0, am_sz_i, am_sz_r, am_sz_u, am_sz_l, Option.toList_some, Option.toList_none, List.cons_append, List.nil_append, true_and, and_true, or_false, false_or, or_self, or_true, true_or, not_false_eq_true, not_true_eq_false, Classical.not_not, ne_eq, ps_e1, ps_em, ps_z, Nat.not_le, false_implies, true_implies, forall_const, ps_01, ps_1n, ps_0n, ps_m10, ps_m1n, lg_cmp_gt, lg_cmp_ge, lg_cmp_le, lg_cmp_lt, lg_cmp_eq, pu_rne, pu_req, pu_uro, RFc_n, Nat.reduceAdd, Nat.reduceMul, Nat.reduceLT, Nat.reduceLeDiff, Nat.reduceEqDiff, Nat.reduceSub]
  refine ⟨_, rfl, ?_⟩
  refine (l_count0 hW hN hKN hth hT1).mpr ?_
  have e82 : ∀ {d : Nat} {Q : Option Value → am_H → Prop} {L : am_L} {st : List Value} {h : am_H}, am_W X d 292 82 L (.int (nI 9) :: st) h Q ↔ am_W X d 292 175 L st h Q := r292_82_9
  simp only [↓r292_81, ↓e82, ↓r292_140, ↓r292_141, ↓r292_144, ↓r292_145, ↓r292_146, ↓r292_149, ↓r292_152, ↓r292_152k, ↓r292_153, ↓r292_154, ↓r292_155, ↓r292_156, ↓r292_157, ↓r292_158, ↓r292_160, ↓r292_161, ↓r292_162, ↓r292_165, ↓r292_166, ↓r292_167, ↓r292_170, ↓r292_171, ↓r292_172, ↓r292_173, ↓r292_173k, ↓r292_174, ↓r292_175, ↓r292_176, ↓r292_179, ↓r292_180, ↓r292_180k, ↓r292_181, ↓r292_182, ↓r292_183, ↓r292_186, ↓r292_188, ↓r292_188k, ↓r292_189, ↓r292_190, ↓r292_191, ↓c_within, ↓c_meansTried, ↓c_nearest, ↓c_accept, ↓c_rf1, ↓c_rf2, ↓c_rf3, ↓c_rf5, ↓c_rf6, ↓c_has, ↓c_atx, ↓c_putx, ↓c_put0, ↓c_put1, ↓s_at0, ↓s_at1, ↓c_isTriedx, ↓c_sidex, ↓c_thingx, ↓c_isFoundx, ↓s_lies, ↓s_rf1, ↓s_rf2, ↓s_rf3, ↓s_rf5, ↓s_rf6, ↓s_good, ↓s_many, ↓s_at, ↓s_isChild, ↓s_replacesx, ↓s_factOfx, ↓s_isTried, ↓s_took, ↓s_waited, ↓s_term0, ↓s_term1, ↓s_term2, ↓s_isLong, ↓s_isShort, ↓s_thingOfx, ↓s_isFoundx, ↓s_isText, ↓s_isGroup, hW, hKN, hKT, e2, ps_n5, hn, hn2, ht, hF, am_wt, am_wf, Option.isSome_some, am_rf_s, am_rf_n, ps_lit, nI_add, nI_1, pk_mul, ps_cl, ps_neg, ps_c0, ps_c1, ps_n01, ps_n11, ps_10, ps_b01, ps_e0, pu_Ine, pu_Ieq, pu_ne, pu_eq, am_k_n, am_k_i, am_k_r, am_k_u, am_k_l, am_sz_0, am_sz_i, am_sz_r, am_sz_u, am_sz_l, Option.toList_some, Option.toList_none, List.cons_append, List.nil_append, true_and, and_true, or_false, false_or, or_self, or_true, true_or, not_false_eq_true, not_true_eq_false, Classical.not_not, ne_eq, ps_e1, ps_em, ps_z, Nat.not_le, false_implies, true_implies, forall_const, ps_01, ps_1n, ps_0n, ps_m10, ps_m1n, lg_cmp_gt, lg_cmp_ge, lg_cmp_le, lg_cmp_lt, lg_cmp_eq, pu_rne, pu_req, pu_uro, RFc_n, Nat.reduceAdd, Nat.reduceMul, Nat.reduceLT, Nat.reduceLeDiff, Nat.reduceEqDiff, Nat.reduceSub]
  refine ⟨?_, hI⟩
  rw [hRS.1 5 (by decide)]
theorem pr_count_10 {i : Nat} (hX : XS X) (hi : i < 600) (hV : Inv i (n, sl, t, I, J, F)) : PR X i 162 292 [some (.ref 0), some (.int 10)] [some (.ref 47), some (.int 10), none, none, none, none] (n, sl, t, I, J, F) := by
  unfold PR
  have hW : WS n t F := hV.1
  obtain ⟨hn, hn2, ht, hF⟩ := id hW
  have hKR : KR (I 1 4) (I 1 5) (I 2) (I 3) (I 4) (I 49) := hV.2.2.1
  obtain ⟨N, T, ⟨hN, hT, hKN, hKT, hRW, hTW⟩, hs, hc, hr, hu, hm⟩ := id hKR
  obtain ⟨t1, ⟨th, hth, hT1⟩, t3, t4⟩ := id hTW
  have hT3 : I 3 1 = nI th := (hu 1 (by decide)).trans hT1
  have hI : Inv (i + 1) (n, sl, t, I, J, F) := Inv_sc hV hi (fun _ _ _ => rfl) (SC_r I)
  have hTP : TP (I 7 1) (I 8) (I 47 8) (I 53) := hV.2.2.2.2.2.1
  have hRS : RS (I 46) (I 48) (I 0 14) (I 47 0) := hV.2.2.2.1
  obtain ⟨m, hm4, e1, e2, e3⟩ := id hTP
  simp only [↓r162_0, ↓r162_1_0, ↓r162_1_1, ↓r162_1_2, ↓r162_1_3, ↓r162_1_4, ↓r162_1_5, ↓r162_1_6, ↓r162_1_7, ↓r162_1_8, ↓r162_1_9, ↓r162_1_10, ↓r162_1_d, ↓r162_60, ↓r162_61, ↓r162_64, ↓r162_67, ↓r162_68, ↓r162_69, ↓r162_72, ↓r162_75, ↓r162_76, ↓r162_77, ↓r162_80, ↓r162_81, ↓r162_84, ↓r162_85, ↓r162_88, ↓r162_89, ↓r162_92, ↓r162_93, ↓r162_94, ↓r162_95, ↓r162_98, ↓r162_99, ↓r162_102, ↓r162_103, ↓r162_104, ↓r162_107, ↓r162_110, ↓r162_111, ↓r162_112, ↓r162_115, ↓r162_118, ↓r162_119, ↓r162_120, ↓r162_123, ↓r162_124, ↓r162_124k, ↓r162_125, ↓r162_126, ↓r162_127, ↓r162_130, ↓r162_131, ↓r162_131k, ↓r162_132, ↓r162_133, ↓r162_134, ↓r162_137, ↓r162_138, ↓r162_138k, ↓r162_139, ↓r162_140, ↓r162_141, ↓r162_144, ↓r162_145, ↓r162_145k, ↓r162_146, ↓r162_147, ↓r162_148, ↓r162_151, ↓r162_153, ↓r162_153k, ↓r162_154, ↓r162_155, ↓r162_156, ↓c_countHow hW hN hs, ↓c_countFound hW hN hs hth hT3, hs, hc, e1, ps_n5, hn, hn2, ht, hF, am_wt, am_wf, Option.isSome_some, am_rf_s, am_rf_n, ps_lit, nI_add, nI_1, pk_mul, ps_cl, ps_neg, ps_c0, ps_c1, ps_n01, ps_n11, ps_10, ps_b01, ps_e0, pu_Ine, pu_Ieq, pu_ne, pu_eq, am_k_n, am_k_i, am_k_r, am_k_u, am_k_l, am_sz_0, am_sz_i, am_sz_r, am_sz_u, am_sz_l, Option.toList_some, Option.toList_none, List.cons_append, List.nil_append, true_and, and_true, or_false, false_or, or_self, or_true, true_or, not_false_eq_true, not_true_eq_false, Classical.not_not, ne_eq, ps_e1, ps_em, ps_z, Nat.not_le, false_implies, true_implies, forall_const, ps_01, ps_1n, ps_0n, ps_m10, ps_m1n, lg_cmp_gt, lg_cmp_ge, lg_cmp_le, lg_cmp_lt, lg_cmp_eq, pu_rne, pu_req, pu_uro, RFc_n, Nat.reduceAdd, Nat.reduceMul, Nat.reduceLT, Nat.reduceLeDiff, Nat.reduceEqDiff, Nat.reduceSub]
  refine ⟨_, rfl, ?_⟩
  refine (l_count0 hW hN hKN hth hT1).mpr ?_
  have e82 : ∀ {d : Nat} {Q : Option Value → am_H → Prop} {L : am_L} {st : List Value} {h : am_H}, am_W X d 292 82 L (.int (nI 10) :: st) h Q ↔ am_W X d 292 182 L st h Q := r292_82_10
  simp only [↓r292_81, ↓e82, ↓r292_140, ↓r292_141, ↓r292_144, ↓r292_145, ↓r292_146, ↓r292_149, ↓r292_152, ↓r292_152k, ↓r292_153, ↓r292_154, ↓r292_155, ↓r292_156, ↓r292_157, ↓r292_158, ↓r292_160, ↓r292_161, ↓r292_162, ↓r292_165, ↓r292_166, ↓r292_167, ↓r292_170, ↓r292_171, ↓r292_172, ↓r292_173, ↓r292_173k, ↓r292_174, ↓r292_175, ↓r292_176, ↓r292_179, ↓r292_180, ↓r292_180k, ↓r292_181, ↓r292_182, ↓r292_183, ↓r292_186, ↓r292_188, ↓r292_188k, ↓r292_189, ↓r292_190, ↓r292_191, ↓c_within, ↓c_meansTried, ↓c_nearest, ↓c_accept, ↓c_rf1, ↓c_rf2, ↓c_rf3, ↓c_rf5, ↓c_rf6, ↓c_has, ↓c_atx, ↓c_putx, ↓c_put0, ↓c_put1, ↓s_at0, ↓s_at1, ↓c_isTriedx, ↓c_sidex, ↓c_thingx, ↓c_isFoundx, ↓s_lies, ↓s_rf1, ↓s_rf2, ↓s_rf3, ↓s_rf5, ↓s_rf6, ↓s_good, ↓s_many, ↓s_at, ↓s_isChild, ↓s_replacesx, ↓s_factOfx, ↓s_isTried, ↓s_took, ↓s_waited, ↓s_term0, ↓s_term1, ↓s_term2, ↓s_isLong, ↓s_isShort, ↓s_thingOfx, ↓s_isFoundx, ↓s_isText, ↓s_isGroup, hW, hKN, hKT, e2, ps_n5, hn, hn2, ht, hF, am_wt, am_wf, Option.isSome_some, am_rf_s, am_rf_n, ps_lit, nI_add, nI_1, pk_mul, ps_cl, ps_neg, ps_c0, ps_c1, ps_n01, ps_n11, ps_10, ps_b01, ps_e0, pu_Ine, pu_Ieq, pu_ne, pu_eq, am_k_n, am_k_i, am_k_r, am_k_u, am_k_l, am_sz_0, am_sz_i, am_sz_r, am_sz_u, am_sz_l, Option.toList_some, Option.toList_none, List.cons_append, List.nil_append, true_and, and_true, or_false, false_or, or_self, or_true, true_or, not_false_eq_true, not_true_eq_false, Classical.not_not, ne_eq, ps_e1, ps_em, ps_z, Nat.not_le, false_implies, true_implies, forall_const, ps_01, ps_1n, ps_0n, ps_m10, ps_m1n, lg_cmp_gt, lg_cmp_ge, lg_cmp_le, lg_cmp_lt, lg_cmp_eq, pu_rne, pu_req, pu_uro, RFc_n, Nat.reduceAdd, Nat.reduceMul, Nat.reduceLT, Nat.reduceLeDiff, Nat.reduceEqDiff, Nat.reduceSub]
  refine ⟨?_, hI⟩
  rw [hRS.1 6 (by decide)]
theorem pr_count {v : Int32} {i : Nat} (hX : XS X) (hi : i < 600) (hV : Inv i (n, sl, t, I, J, F)) : PR X i 162 292 [some (.ref 0), some (.int v)] [some (.ref 47), some (.int v), none, none, none, none] (n, sl, t, I, J, F) := by
  unfold PR
  have hW : WS n t F := hV.1
  obtain ⟨hn, hn2, ht, hF⟩ := id hW
  have hKR : KR (I 1 4) (I 1 5) (I 2) (I 3) (I 4) (I 49) := hV.2.2.1
  obtain ⟨N, T, ⟨hN, hT, hKN, hKT, hRW, hTW⟩, hs, hc, hr, hu, hm⟩ := id hKR
  by_cases hd : v.toInt < 0 ∨ 10 < v.toInt
  · obtain ⟨t1, ⟨th, hth, hT1⟩, t3, t4⟩ := id hTW
    have hI : Inv (i + 1) (n, sl, t, I, J, F) := Inv_sc hV hi (fun _ _ _ => rfl) (SC_r I)
    simp only [↓r162_0, ↓r162_1_d hd, ↓r162_155, ↓r162_156, hn, hn2, ht, hF, am_wt, am_wf, Option.isSome_some, am_rf_s, am_rf_n, ps_lit, nI_add, nI_1, pk_mul, ps_cl, ps_neg, ps_c0, ps_c1, ps_n01, ps_n11, ps_10, ps_b01, ps_e0, pu_Ine, pu_Ieq, pu_ne, pu_eq, am_k_n, am_k_i, am_k_r, am_k_u, am_k_l, am_sz_0, am_sz_i, am_sz_r, am_sz_u, am_sz_l, Option.toList_some, Option.toList_none, List.cons_append, List.nil_append, true_and, and_true, or_false, false_or, or_self, or_true, true_or, not_false_eq_true, not_true_eq_false, Classical.not_not, ne_eq, ps_e1, ps_em, ps_z, Nat.not_le, false_implies, true_implies, forall_const, ps_01, ps_1n, ps_0n, ps_m10, ps_m1n, lg_cmp_gt, lg_cmp_ge, lg_cmp_le, lg_cmp_lt, lg_cmp_eq, pu_rne, pu_req, pu_uro, RFc_n, Nat.reduceAdd, Nat.reduceMul, Nat.reduceLT, Nat.reduceLeDiff, Nat.reduceEqDiff, Nat.reduceSub]
    refine ⟨_, rfl, ?_⟩
    refine (l_count0 hW hN hKN hth hT1).mpr ?_
    simp only [↓r292_81, ↓r292_82_d hd, ↓r292_190, ↓r292_191, hn, hn2, ht, hF, am_wt, am_wf, Option.isSome_some, am_rf_s, am_rf_n, ps_lit, nI_add, nI_1, pk_mul, ps_cl, ps_neg, ps_c0, ps_c1, ps_n01, ps_n11, ps_10, ps_b01, ps_e0, pu_Ine, pu_Ieq, pu_ne, pu_eq, am_k_n, am_k_i, am_k_r, am_k_u, am_k_l, am_sz_0, am_sz_i, am_sz_r, am_sz_u, am_sz_l, Option.toList_some, Option.toList_none, List.cons_append, List.nil_append, true_and, and_true, or_false, false_or, or_self, or_true, true_or, not_false_eq_true, not_true_eq_false, Classical.not_not, ne_eq, ps_e1, ps_em, ps_z, Nat.not_le, false_implies, true_implies, forall_const, ps_01, ps_1n, ps_0n, ps_m10, ps_m1n, lg_cmp_gt, lg_cmp_ge, lg_cmp_le, lg_cmp_lt, lg_cmp_eq, pu_rne, pu_req, pu_uro, RFc_n, Nat.reduceAdd, Nat.reduceMul, Nat.reduceLT, Nat.reduceLeDiff, Nat.reduceEqDiff, Nat.reduceSub]
    exact ⟨rfl, hI⟩
  · obtain ⟨j, hj, rfl⟩ : ∃ j, j ≤ 10 ∧ v = nI j := by
      have h0 : ¬ v < 0 := fun q => by
        have := Int32.lt_iff_toInt_lt.mp q
        have e2 : (0 : Int32).toInt = 0 := by decide
        omega
      obtain ⟨j, hj, rfl⟩ := nI_of h0
      rw [nI_toInt hj] at hd
      exact ⟨j, by omega, rfl⟩
    match j, hj with
    | 0, _ => exact pr_count_0 hX hi hV
    | 1, _ => exact pr_count_1 hX hi hV
    | 2, _ => exact pr_count_2 hX hi hV
    | 3, _ => exact pr_count_3 hX hi hV
    | 4, _ => exact pr_count_4 hX hi hV
    | 5, _ => exact pr_count_5 hX hi hV
    | 6, _ => exact pr_count_6 hX hi hV
    | 7, _ => exact pr_count_7 hX hi hV
    | 8, _ => exact pr_count_8 hX hi hV
    | 9, _ => exact pr_count_9 hX hi hV
    | 10, _ => exact pr_count_10 hX hi hV
end CO
