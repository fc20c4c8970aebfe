/-! calls, one on each side: run -/
section RP
variable {X : am_X} {d : Nat} {Q : Option Value → am_H → Prop} {n sl : Nat} {t : Nat → Nat × Nat} {I : Nat → Nat → Int32} {J : Nat → Nat → Int64} {F : Nat → Nat → Option Nat} {h : am_H}
variable {K : Nat → Int32} {N T : Nat} {lw : Nat → List CL}
theorem ro_same {T : Nat → Nat → Int32} {a : Nat} {f : Nat → Int32} (h : T a = f) : am_ro T a f = T := by
  rw [← h]
  exact pu_roI
theorem pa1 {T : Nat → Nat → Int32} {f g : Nat → Int32} : am_ro (am_ro T 72 f) 58 g = am_ro (am_ro T 58 g) 72 f := pu_rol (by decide)
theorem pa2 {T : Nat → Nat → Int32} {f g : Nat → Int32} : am_ro (am_ro T 71 f) 58 g = am_ro (am_ro T 58 g) 71 f := pu_rol (by decide)
theorem pa3 {T : Nat → Nat → Int32} {f g : Nat → Int32} : am_ro (am_ro T 70 f) 58 g = am_ro (am_ro T 58 g) 70 f := pu_rol (by decide)
theorem pa4 {T : Nat → Nat → Int32} {f g : Nat → Int32} : am_ro (am_ro T 69 f) 58 g = am_ro (am_ro T 58 g) 69 f := pu_rol (by decide)
theorem pa5 {T : Nat → Nat → Int32} {f g : Nat → Int32} : am_ro (am_ro T 72 f) 71 g = am_ro (am_ro T 71 g) 72 f := pu_rol (by decide)
theorem m_run {j E q0 : Nat} {x2 : Int32} {B : Nat → Int32} (hC : CX n t I F K N T lw) (hj : j < T) (hE : E ≤ 20) (hq : q0 < 1000003) (h38 : B 38 = nI N) (h39 : B 39 = nI E)
    (hQ : ∀ f47 f58 g47, ag7 f47 B → Q (some (.int (nI (cnt (fun k => decide (E ≤ rwt K (lw j) E q0 k)) N)))) (n, sl, t, am_uI (am_ro (am_ro (am_ro (am_ro (am_ro (am_ro I 47 f47) 58 f58) 69 (fl1 (I 69) (fun k => nI (rwt K (lw j) E q0 k)) N)) 70 (fl1 (I 70) (fun k => if rwt K (lw j) E q0 k < E then 1 else 0) N)) 71 (fl1 (I 71) (fun k => nI (rla K (lw j) E q0 k)) N)) 72 (wfr (I 72) K (8 * N))) 47 0 0, am_ro J 47 g47, F)) :
    ∀ f47 f58 g47, ∀ l5 l6 l7 : Option Value, ag7 f47 B → f47 35 = nI (rsd K (lw j) E q0 0) → am_W X (d + 48) 287 58 [some (.ref 47), some (.int (nI j)), some (.int x2), some (.int 0), some (.int 0), l5, l6, l7] [] (n, sl, t, am_ro (am_ro (am_ro (am_ro (am_ro (am_ro I 47 f47) 58 f58) 69 (fl1 (I 69) (fun k => nI (rwt K (lw j) E q0 k)) 0)) 70 (fl1 (I 70) (fun k => if rwt K (lw j) E q0 k < E then 1 else 0) 0)) 71 (fl1 (I 71) (fun k => nI (rla K (lw j) E q0 k)) 0)) 72 (wfr (I 72) K (8 * 0)), am_ro J 47 g47, F) Q := by
  have hW := hC.1
  obtain ⟨hn, hn2, ht, hF⟩ := id hW
  have hK := hC.2.1
  have h49 := hC.2.2.1
  have hN := hK.1
  refine lp0 (A := fun c => ∀ f47 f58 g47, ∀ l5 l6 l7 : Option Value, ag7 f47 B → f47 35 = nI (rsd K (lw j) E q0 c) → am_W X (d + 48) 287 58 [some (.ref 47), some (.int (nI j)), some (.int x2), some (.int (nI (cnt (fun k => decide (E ≤ rwt K (lw j) E q0 k)) c))), some (.int (nI c)), l5, l6, l7] [] (n, sl, t, am_ro (am_ro (am_ro (am_ro (am_ro (am_ro I 47 f47) 58 f58) 69 (fl1 (I 69) (fun k => nI (rwt K (lw j) E q0 k)) c)) 70 (fl1 (I 70) (fun k => if rwt K (lw j) E q0 k < E then 1 else 0) c)) 71 (fl1 (I 71) (fun k => nI (rla K (lw j) E q0 k)) c)) 72 (wfr (I 72) K (8 * c)), am_ro J 47 g47, F) Q) (N := N) ?_ ?_
  · intro c hc ih f47 f58 g47 l5 l6 l7 hf hfq
    have z1 : c < 2000000 ∧ N < 2000000 ∧ E < 2000000 ∧ c < 120 := by omega
    have z2 : ¬ N ≤ c := by omega
    have e38 : f47 38 = nI N := (hf 38 (by decide) (by decide) (by decide) (by decide) (by decide)).trans h38
    have hwE := rwt_le (K := K) (l := lw j) (E := E) (q0 := q0) (c := c)
    have zw : rwt K (lw j) E q0 c < 2000000 := by omega
    rw [r287_58]
    simp only [↓r287_60, ↓r287_61, ↓r287_64, ↓r287_67, ↓r287_68, ↓r287_70, ↓r287_71, q_le, q_lt, q_eq, q_e0, q_e1, q_0e, q_1e, ps_n0, q_0le, q_le0, q_0lt, q_m1e, q_em1, e38, z1, z2, Bool.false_eq_true, hn, hn2, ht, hF, am_wt, am_wf, Option.isSome_some, am_rf_s, am_rf_n, ps_lit, nI_add, nI_1, pk_mul, ps_cl, ps_neg, ps_c0, ps_c1, ps_n01, ps_n11, ps_10, ps_b01, ps_e0, pu_Ine, pu_Ieq, pu_ne, pu_eq, am_k_n, am_k_i, am_k_r, am_k_u, am_k_l, am_sz_0, am_sz_i, am_sz_r, am_sz_u, am_sz_l, Option.toList_some, Option.toList_none, List.cons_append, List.nil_append, true_and, and_true, or_false, false_or, or_self, or_true, true_or, not_false_eq_true, not_true_eq_false, Classical.not_not, ne_eq, ps_e1, ps_em, ps_z, Nat.not_le, false_implies, true_implies, forall_const, ps_01, ps_1n, ps_0n, ps_m10, ps_m1n, lg_cmp_gt, lg_cmp_ge, lg_cmp_le, lg_cmp_lt, lg_cmp_eq, pu_rne, pu_req, pu_uro, RFc_n, Nat.reduceAdd, Nat.reduceMul, Nat.reduceLT, Nat.reduceLeDiff, Nat.reduceEqDiff, Nat.reduceSub]
    refine m_waitOut hC hj hc hE h39 E 0 (rsd K (lw j) E q0 c) (by omega) (rsd_lt hq c) f47 f58 g47 hf hfq _ (fun a b g q1 q2 => ?_)
    have x1 : (wout (chm K (lw j) c) E 0 (rsd K (lw j) E q0 c)).1 = rwt K (lw j) E q0 c := rfl
    rw [x1]
    have q2' : a 35 = nI (rsd K (lw j) E q0 (c + 1)) := q2
    have hw := wdr_WV (K := K) (c := c) hK hc (show rwt K (lw j) E q0 c ≤ 20 by omega)
    obtain ⟨_, _, _, _, _, hb⟩ := CX_law hC hj
    have tail : ∀ (x3 x6 : Int32) (b : Nat → Int32), (∀ l5 l6 l7 : Option Value, ∀ f47 f58 g47, ag7 f47 B → f47 35 = nI (rsd K (lw j) E q0 (c + 1)) → am_W X (d + 48) 287 58 [some (.ref 47), some (.int (nI j)), some (.int x2), some (.int x3), some (.int (nI (c + 1))), l5, l6, l7] [] (n, sl, t, am_ro (am_ro (am_ro (am_ro (am_ro (am_ro I 47 f47) 58 f58) 69 (fl1 (I 69) (fun k => nI (rwt K (lw j) E q0 k)) (c + 1))) 70 (fl1 (I 70) (fun k => if rwt K (lw j) E q0 k < E then 1 else 0) (c + 1))) 71 (fl1 (I 71) (fun k => nI (rla K (lw j) E q0 k)) (c + 1))) 72 (wfr (I 72) K (8 * (c + 1))), am_ro J 47 g47, F) Q) → am_W X (d + 48) 287 172 [some (.ref 47), some (.int (nI j)), some (.int x2), some (.int x3), some (.int (nI c)), some (.int (nI (rwt K (lw j) E q0 c))), some (.int x6), some (.int 0)] [] (n, sl, t, am_ro (am_ro (am_ro (am_ro (am_ro (am_ro I 47 a) 58 b) 69 (fl1 (I 69) (fun k => nI (rwt K (lw j) E q0 k)) (c + 1))) 70 (fl1 (I 70) (fun k => if rwt K (lw j) E q0 k < E then 1 else 0) (c + 1))) 71 (fl1 (I 71) (fun k => nI (rla K (lw j) E q0 k)) c)) 72 (wfr (I 72) K (8 * c)), am_ro J 47 g, F) Q := by
      intro x3 x6 b hh
      have hCKf := CK_of hC
      refine (m_facts (d := d + 47) (K := K) (N := N) (I' := am_ro (am_ro (am_ro (am_ro (am_ro I 47 a) 58 b) 69 (fl1 (I 69) (fun k => nI (rwt K (lw j) E q0 k)) (c + 1))) 70 (fl1 (I 70) (fun k => if rwt K (lw j) E q0 k < E then 1 else 0) (c + 1))) 71 (fl1 (I 71) (fun k => nI (rla K (lw j) E q0 k)) c)) (f := I 72) hCKf hc).mpr ?_
      have e8 : 8 * c + 8 = 8 * (c + 1) := by omega
      rw [e8]
      have ea := fun Q => s_asksChild (X := X) (d := d + 45) (Q := Q) (sl := sl) (J := am_ro J 47 g) (I := am_ro (am_ro (am_ro (am_ro (am_ro (am_ro I 47 a) 58 b) 69 (fl1 (I 69) (fun k => nI (rwt K (lw j) E q0 k)) (c + 1))) 70 (fl1 (I 70) (fun k => if rwt K (lw j) E q0 k < E then 1 else 0) (c + 1))) 71 (fl1 (I 71) (fun k => nI (rla K (lw j) E q0 k)) c)) 72 (wfr (I 72) K (8 * (c + 1)))) (k := c) (mi := 0) hW (by omega)
      simp only [↓r287_206, ↓r287_207, ↓r287_209, ↓r287_210, ↓r287_213, ↓r287_214, ↓r287_217, ↓r287_219, ↓r287_221, ↓r287_223, ↓r287_224, ↓r287_225, ↓r287_226, ↓r287_227, ↓r287_228, ↓ea, pu_uI, pu_rol, pu_ror, Bool.false_eq_true, hn, hn2, ht, hF, am_wt, am_wf, Option.isSome_some, am_rf_s, am_rf_n, ps_lit, nI_add, nI_1, pk_mul, ps_cl, ps_neg, ps_c0, ps_c1, ps_n01, ps_n11, ps_10, ps_b01, ps_e0, pu_Ine, pu_Ieq, pu_ne, pu_eq, am_k_n, am_k_i, am_k_r, am_k_u, am_k_l, am_sz_0, am_sz_i, am_sz_r, am_sz_u, am_sz_l, Option.toList_some, Option.toList_none, List.cons_append, List.nil_append, true_and, and_true, or_false, false_or, or_self, or_true, true_or, not_false_eq_true, not_true_eq_false, Classical.not_not, ne_eq, ps_e1, ps_em, ps_z, Nat.not_le, false_implies, true_implies, forall_const, ps_01, ps_1n, ps_0n, ps_m10, ps_m1n, lg_cmp_gt, lg_cmp_ge, lg_cmp_le, lg_cmp_lt, lg_cmp_eq, pu_rne, pu_req, pu_uro, RFc_n, Nat.reduceAdd, Nat.reduceMul, Nat.reduceLT, Nat.reduceLeDiff, Nat.reduceEqDiff, Nat.reduceSub]
      refine s_asks (d := d + 3) hC hj (hd := 3) (w := wdr K c (rwt K (lw j) E q0 c)) (by decide) hw (by simp only [pu_rne, ne_eq, not_false_eq_true, Nat.reduceAdd, Nat.reduceMul, Nat.reduceLT, Nat.reduceLeDiff, Nat.reduceEqDiff, Nat.reduceSub]; exact h49) (fun k hk => ?_) (fun f1 g1 p1 p2 p3 => ?_)
      · simp only [pu_rne, pu_req, ne_eq, not_false_eq_true, Nat.reduceAdd, Nat.reduceMul, Nat.reduceLT, Nat.reduceLeDiff, Nat.reduceEqDiff, Nat.reduceSub]
        unfold wdr
        by_cases k10 : k = 10
        · rw [if_pos k10, k10, pu_eq]
        · rw [if_neg k10, pu_ne k10, mAsk_w hk]
          simp only [pu_rne, ne_eq, not_false_eq_true, Nat.reduceAdd, Nat.reduceMul, Nat.reduceLT, Nat.reduceLeDiff, Nat.reduceEqDiff, Nat.reduceSub]
          rw [h49]
      · have p4 : ag7 f1 B := fun k k1 k2 k3 k4 k5 => by
          rw [p1 k k1 k2 k3 k4]
          simp only [pu_rne, pu_req, ne_eq, not_false_eq_true, Nat.reduceAdd, Nat.reduceMul, Nat.reduceLT, Nat.reduceLeDiff, Nat.reduceEqDiff, Nat.reduceSub]
          exact q1 k k1 k2 k3 k4 k5
        have p5 : f1 35 = nI (rsd K (lw j) E q0 (c + 1)) := by
          rw [p1 35 (by decide) (by decide) (by decide) (by decide)]
          simp only [pu_rne, pu_req, ne_eq, not_false_eq_true, Nat.reduceAdd, Nat.reduceMul, Nat.reduceLT, Nat.reduceLeDiff, Nat.reduceEqDiff, Nat.reduceSub]
          exact q2'
        have hv : ∃ v : Int, -1000000000 ≤ v ∧ v ≤ 1000000000 ∧ g1 21 = Int64.ofInt v ∧ nearN v 0 999 = rla K (lw j) E q0 c := by
          unfold rla laV
          cases ho : told (lw j) 3 (wdr K c (rwt K (lw j) E q0 c)) with
          | none =>
            rw [ho] at p3
            exact ⟨0, by decide, by decide, p3, rfl⟩
          | some v =>
            rw [ho] at p3
            obtain ⟨b1, b2⟩ := hb 3 _ v hw ho
            exact ⟨v, b1, b2, p3, rfl⟩
        obtain ⟨v, b1, b2, b3, b4⟩ := hv
        have e5 := fun I' Q => s_near (X := X) (d := d + 47) (Q := Q) (n := n) (sl := sl) (t := t) (I := I') (J := am_ro J 47 g1) (F := F) (lo := 0) (hi := 999) b1 b2 (by decide) (by decide)
        simp only [ps_n0, b4] at e5
        have h5 := fun l5 l6 l7 f58 => hh l5 l6 l7 f1 f58 g1 p4 p5
        rw [← fl1_s (a := fun k => nI (rla K (lw j) E q0 k))] at h5
        simp only [↓r287_231, ↓r287_232, ↓r287_235, ↓r287_237, ↓r287_238, ↓r287_241, ↓r287_242, ↓r287_245, ↓r287_248, ↓r287_249, ↓r287_252, ↓e5, b3, z1, pu_uI, pu_rol, pu_ror, pu_req, Bool.false_eq_true, hn, hn2, ht, hF, am_wt, am_wf, Option.isSome_some, am_rf_s, am_rf_n, ps_lit, nI_add, nI_1, pk_mul, ps_cl, ps_neg, ps_c0, ps_c1, ps_n01, ps_n11, ps_10, ps_b01, ps_e0, pu_Ine, pu_Ieq, pu_ne, pu_eq, am_k_n, am_k_i, am_k_r, am_k_u, am_k_l, am_sz_0, am_sz_i, am_sz_r, am_sz_u, am_sz_l, Option.toList_some, Option.toList_none, List.cons_append, List.nil_append, true_and, and_true, or_false, false_or, or_self, or_true, true_or, not_false_eq_true, not_true_eq_false, Classical.not_not, ne_eq, ps_e1, ps_em, ps_z, Nat.not_le, false_implies, true_implies, forall_const, ps_01, ps_1n, ps_0n, ps_m10, ps_m1n, lg_cmp_gt, lg_cmp_ge, lg_cmp_le, lg_cmp_lt, lg_cmp_eq, pu_rne, pu_req, pu_uro, RFc_n, Nat.reduceAdd, Nat.reduceMul, Nat.reduceLT, Nat.reduceLeDiff, Nat.reduceEqDiff, Nat.reduceSub]
        simp only [pa1, pa2, pa3, pa4, pa5, pu_ror]
        exact h5 _ _ _ _
    by_cases q : rwt K (lw j) E q0 c < E
    · have ih' := fun l5 l6 l7 f47 f58 g47 h1 h2 => ih f47 f58 g47 l5 l6 l7 h1 h2
      rw [cnt_s0 (p := fun k => decide (E ≤ rwt K (lw j) E q0 k)) (decide_eq_false (by omega))] at ih'
      have h6 := tail _ 1 b ih'
      rw [← fl1_s (a := fun k => nI (rwt K (lw j) E q0 k)), ← fl1_s (a := fun k => if rwt K (lw j) E q0 k < E then 1 else 0)] at h6
      simp only [if_pos q] at h6
      simp only [↓r287_130, ↓r287_131, ↓r287_134, ↓r287_136, ↓r287_138, ↓r287_139, ↓r287_140, ↓r287_143, ↓r287_145, ↓r287_147, ↓r287_150, ↓r287_151, ↓r287_154, ↓r287_155, ↓r287_156, ↓r287_157, ↓r287_159, ↓r287_162, ↓r287_163, ↓r287_166, ↓r287_167, ↓r287_168, ↓r287_169, ↓r287_170, z1, if_pos q, pu_uI, pu_rol, pu_ror, Int32.add_zero, Bool.false_eq_true, hn, hn2, ht, hF, am_wt, am_wf, Option.isSome_some, am_rf_s, am_rf_n, ps_lit, nI_add, nI_1, pk_mul, ps_cl, ps_neg, ps_c0, ps_c1, ps_n01, ps_n11, ps_10, ps_b01, ps_e0, pu_Ine, pu_Ieq, pu_ne, pu_eq, am_k_n, am_k_i, am_k_r, am_k_u, am_k_l, am_sz_0, am_sz_i, am_sz_r, am_sz_u, am_sz_l, Option.toList_some, Option.toList_none, List.cons_append, List.nil_append, true_and, and_true, or_false, false_or, or_self, or_true, true_or, not_false_eq_true, not_true_eq_false, Classical.not_not, ne_eq, ps_e1, ps_em, ps_z, Nat.not_le, false_implies, true_implies, forall_const, ps_01, ps_1n, ps_0n, ps_m10, ps_m1n, lg_cmp_gt, lg_cmp_ge, lg_cmp_le, lg_cmp_lt, lg_cmp_eq, pu_rne, pu_req, pu_uro, RFc_n, Nat.reduceAdd, Nat.reduceMul, Nat.reduceLT, Nat.reduceLeDiff, Nat.reduceEqDiff, Nat.reduceSub]
      exact h6
    · have ih' := fun l5 l6 l7 f47 f58 g47 h1 h2 => ih f47 f58 g47 l5 l6 l7 h1 h2
      rw [cnt_s1 (p := fun k => decide (E ≤ rwt K (lw j) E q0 k)) (decide_eq_true (by omega))] at ih'
      have h6 := tail _ 0 b ih'
      rw [← fl1_s (a := fun k => nI (rwt K (lw j) E q0 k)), ← fl1_s (a := fun k => if rwt K (lw j) E q0 k < E then 1 else 0)] at h6
      simp only [if_neg q] at h6
      simp only [↓r287_130, ↓r287_131, ↓r287_134, ↓r287_136, ↓r287_138, ↓r287_139, ↓r287_140, ↓r287_143, ↓r287_145, ↓r287_147, ↓r287_150, ↓r287_151, ↓r287_154, ↓r287_155, ↓r287_156, ↓r287_157, ↓r287_159, ↓r287_162, ↓r287_163, ↓r287_166, ↓r287_167, ↓r287_168, ↓r287_169, ↓r287_170, z1, if_neg q, pu_uI, pu_rol, pu_ror, Bool.false_eq_true, hn, hn2, ht, hF, am_wt, am_wf, Option.isSome_some, am_rf_s, am_rf_n, ps_lit, nI_add, nI_1, pk_mul, ps_cl, ps_neg, ps_c0, ps_c1, ps_n01, ps_n11, ps_10, ps_b01, ps_e0, pu_Ine, pu_Ieq, pu_ne, pu_eq, am_k_n, am_k_i, am_k_r, am_k_u, am_k_l, am_sz_0, am_sz_i, am_sz_r, am_sz_u, am_sz_l, Option.toList_some, Option.toList_none, List.cons_append, List.nil_append, true_and, and_true, or_false, false_or, or_self, or_true, true_or, not_false_eq_true, not_true_eq_false, Classical.not_not, ne_eq, ps_e1, ps_em, ps_z, Nat.not_le, false_implies, true_implies, forall_const, ps_01, ps_1n, ps_0n, ps_m10, ps_m1n, lg_cmp_gt, lg_cmp_ge, lg_cmp_le, lg_cmp_lt, lg_cmp_eq, pu_rne, pu_req, pu_uro, RFc_n, Nat.reduceAdd, Nat.reduceMul, Nat.reduceLT, Nat.reduceLeDiff, Nat.reduceEqDiff, Nat.reduceSub]
      exact h6
  · intro f47 f58 g47 l5 l6 l7 hf hfq
    have e38 : f47 38 = nI N := (hf 38 (by decide) (by decide) (by decide) (by decide) (by decide)).trans h38
    rw [r287_58]
    simp only [↓r287_60, ↓r287_61, ↓r287_64, ↓r287_255, ↓r287_256, ↓r287_257, ↓r287_260, ↓s_good hW, e38, Int32.le_refl, Bool.false_eq_true, hn, hn2, ht, hF, am_wt, am_wf, Option.isSome_some, am_rf_s, am_rf_n, ps_lit, nI_add, nI_1, pk_mul, ps_cl, ps_neg, ps_c0, ps_c1, ps_n01, ps_n11, ps_10, ps_b01, ps_e0, pu_Ine, pu_Ieq, pu_ne, pu_eq, am_k_n, am_k_i, am_k_r, am_k_u, am_k_l, am_sz_0, am_sz_i, am_sz_r, am_sz_u, am_sz_l, Option.toList_some, Option.toList_none, List.cons_append, List.nil_append, true_and, and_true, or_false, false_or, or_self, or_true, true_or, not_false_eq_true, not_true_eq_false, Classical.not_not, ne_eq, ps_e1, ps_em, ps_z, Nat.not_le, false_implies, true_implies, forall_const, ps_01, ps_1n, ps_0n, ps_m10, ps_m1n, lg_cmp_gt, lg_cmp_ge, lg_cmp_le, lg_cmp_lt, lg_cmp_eq, pu_rne, pu_req, pu_uro, RFc_n, Nat.reduceAdd, Nat.reduceMul, Nat.reduceLT, Nat.reduceLeDiff, Nat.reduceEqDiff, Nat.reduceSub]
    exact hQ f47 f58 g47 hf
theorem pr_run {x w : Int32} {i : Nat} (hX : XS X) (hi : i < 600) (hV : Inv i (n, sl, t, I, J, F)) : PR X i 149 287 [some (.ref 0), some (.int x), some (.int w), none] [some (.ref 47), some (.int x), some (.int w), none, none, none, none, none] (n, sl, t, I, J, F) := by
  have hV0 := hV
  obtain ⟨N, T, lw, hC⟩ := CX_of hV; obtain ⟨hW, hK, _, ⟨hs, hc, hr, hu, hm⟩, hl⟩ := id hC; have hN := hK.1; obtain ⟨hn, hn2, ht, hF⟩ := id hW
  have hT := hK.2.1
  by_cases h1 : 0 ≤ w ∧ w ≤ nI 1000000
  · by_cases h2 : isT T x
    · obtain ⟨j, hj, rfl⟩ := isT_c hT h2
      obtain ⟨a, ea, a1, a2, ta, hb⟩ := CX_law hC hj
      obtain ⟨q0, hq0, rfl⟩ := ps_rng (by decide) h1
      obtain ⟨x1, x2, x3⟩ := tEnd_le hK
      have hu2 : I 3 2 = nI (tEnd (I 49)) := (hu 2 (by decide)).trans x3
      have hq : q0 < 1000003 := by omega
      generalize tEnd (I 49) = E at x1 x2 x3 hu2
      unfold PR
      have e1 := fun Q => c_dstart (X := X) (d := 58) (Q := Q) (sl := sl) (J := J) (I := I) (x := nI q0) hW
      simp only [↓r149_0, ↓r149_1, ↓r149_2, ↓r149_5, ↓r149_8, ↓r149_11, ↓r149_12, ↓r149_13, ↓r149_16, ↓r149_17, ↓r149_18, ↓r149_21, ↓r149_22, ↓r149_25, ↓r149_25n, ↓r149_26, ↓r149_26n, ↓r149_27, ↓r149_27n, ↓r149_30, ↓r149_31, ↓r149_33, ↓r149_36, ↓r149_37, ↓r149_38, ↓r149_41, ↓r149_42, ↓r149_45, ↓r149_46, ↓r149_47, ↓r149_50, ↓r149_51, ↓r149_54, ↓r149_54n, ↓r149_55, ↓r149_56, ↓r149_59, ↓r149_60, ↓r149_63, ↓r150_0, ↓r150_0n, ↓r150_1, ↓r150_4, ↓r150_5, ↓r150_6, ↓r150_9, ↓r150_10, ↓r150_11, ↓r150_14, ↓r150_14k, ↓r150_15, ↓r150_18, ↓r150_19, ↓r150_19n, ↓r150_20, ↓r150_23, ↓r150_26, ↓r150_27, ↓r150_28, ↓r150_31, ↓r150_31n, ↓r150_32, ↓r150_35, ↓r150_36, ↓r150_36k, ↓r150_37, ↓r150_39, ↓r150_40, ↓r150_42, ↓r150_43, ↓c_within, ↓k_law1 hC hj ea, ↓e1, h1, hu2, hs, a2, ta, pu_uI, pu_rol, pu_ror, Nat.zero_add, Nat.le_refl, and_self, if_true, Bool.false_eq_true, hn, hn2, ht, hF, am_wt, am_wf, Option.isSome_some, am_rf_s, am_rf_n, ps_lit, nI_add, nI_1, pk_mul, ps_cl, ps_neg, ps_c0, ps_c1, ps_n01, ps_n11, ps_10, ps_b01, ps_e0, pu_Ine, pu_Ieq, pu_ne, pu_eq, am_k_n, am_k_i, am_k_r, am_k_u, am_k_l, am_sz_0, am_sz_i, am_sz_r, am_sz_u, am_sz_l, Option.toList_some, Option.toList_none, List.cons_append, List.nil_append, true_and, and_true, or_false, false_or, or_self, or_true, true_or, not_false_eq_true, not_true_eq_false, Classical.not_not, ne_eq, ps_e1, ps_em, ps_z, Nat.not_le, false_implies, true_implies, forall_const, ps_01, ps_1n, ps_0n, ps_m10, ps_m1n, lg_cmp_gt, lg_cmp_ge, lg_cmp_le, lg_cmp_lt, lg_cmp_eq, pu_rne, pu_req, pu_uro, RFc_n, Nat.reduceAdd, Nat.reduceMul, Nat.reduceLT, Nat.reduceLeDiff, Nat.reduceEqDiff, Nat.reduceSub]
      generalize hI1 : am_ro (am_ro (am_ro I 41 (upd (upd (I 41) 2 (nI N)) 3 1)) 42 (va_cpy (I 2) (I 42) 0 0 1800)) 44 (upd (I 44) 0 (nI q0)) = I1
      have o : ∀ s, s ≠ 41 → s ≠ 42 → s ≠ 44 → I1 s = I s := fun s s1 s2 s3 => by rw [← hI1, pu_rne s3, pu_rne s2, pu_rne s1]
      have o44 : I1 44 = upd (I 44) 0 (nI q0) := by rw [← hI1, pu_req]
      have o42 : I1 42 = va_cpy (I 2) (I 42) 0 0 1800 := by rw [← hI1, pu_rne (by decide), pu_req]
      have o41 : I1 41 = upd (upd (I 41) 2 (nI N)) 3 1 := by rw [← hI1, pu_rne (by decide), pu_rne (by decide), pu_req]
      have hst : am_ro (am_ro (am_ro (am_ro I1 13 (I1 13)) 14 (I1 14)) 43 (tlr (I1 43) (fun k => nI (rwt (I 49) (lw j) E q0 k)) (fun k => if rwt (I 49) (lw j) E q0 k < E then 1 else 0) (fun k => nI (rla (I 49) (lw j) E q0 k)) 0)) 44 (upd (I1 44) 0 (nI (rsd (I 49) (lw j) E q0 0))) = I1 := by
        have e44 : upd (I1 44) 0 (nI (rsd (I 49) (lw j) E q0 0)) = I1 44 := by
          rw [o44]
          exact pu_uu
        rw [tlr_0, pu_roI, pu_roI, pu_roI, e44, pu_roI]
      have hp := cl_play (X := X) (d := 51) (Q := fun v h' => am_W X 59 149 66 [some (.ref 0), some (.int (nI j)), some (.int (nI q0)), some (.ref a)] (v.toList ++ [.ref 0]) h' (fun r h1 => ∃ v, r = some (.int v) ∧ am_W X 59 287 0 [some (.ref 47), some (.int (nI j)), some (.int (nI q0)), none, none, none, none, none] [] h1 (fun r2 h2 => r2 = some (.int v) ∧ Inv (i + 1) h2))) (sl := sl) (J := J) (I1 := I1) hC hj ea x2 hq (fun s hs => o s (by omega) (by omega) (by omega)) (by rw [o41]; rfl) (fun k hk => by
        rw [o42]
        unfold va_cpy
        rw [if_pos (by omega), Nat.zero_add, Nat.sub_zero]
        exact hr k hk) (fun f13 f14 => ?_) (I1 13) (I1 14) none
      · rw [hst] at hp
        exact hp
      · generalize hI2 : am_ro (am_ro (am_ro (am_ro I1 13 f13) 14 f14) 43 (tlr (I1 43) (fun k => nI (rwt (I 49) (lw j) E q0 k)) (fun k => if rwt (I 49) (lw j) E q0 k < E then 1 else 0) (fun k => nI (rla (I 49) (lw j) E q0 k)) N)) 44 (upd (I1 44) 0 (nI (rsd (I 49) (lw j) E q0 N))) = I2
        have r0 : ∀ s, s ≠ 13 → s ≠ 14 → s ≠ 43 → s ≠ 44 → s ≠ 41 → s ≠ 42 → I2 s = I s := fun s s1 s2 s3 s4 s5 s6 => by rw [← hI2, pu_rne s4, pu_rne s3, pu_rne s2, pu_rne s1, o s s5 s6 s4]
        have r43 : I2 43 = tlr (I1 43) (fun k => nI (rwt (I 49) (lw j) E q0 k)) (fun k => if rwt (I 49) (lw j) E q0 k < E then 1 else 0) (fun k => nI (rla (I 49) (lw j) E q0 k)) N := by rw [← hI2, pu_rne (by decide), pu_req]
        have r41 : I2 41 = upd (upd (I 41) 2 (nI N)) 3 1 := by rw [← hI2, pu_rne (by decide), pu_rne (by decide), pu_rne (by decide), pu_rne (by decide), o41]
        have r42 : I2 42 = va_cpy (I 2) (I 42) 0 0 1800 := by rw [← hI2, pu_rne (by decide), pu_rne (by decide), pu_rne (by decide), pu_rne (by decide), o42]
        simp only [↓r149_66, ↓r149_69, ↓c_accept hW, Bool.false_eq_true, hn, hn2, ht, hF, am_wt, am_wf, Option.isSome_some, am_rf_s, am_rf_n, ps_lit, nI_add, nI_1, pk_mul, ps_cl, ps_neg, ps_c0, ps_c1, ps_n01, ps_n11, ps_10, ps_b01, ps_e0, pu_Ine, pu_Ieq, pu_ne, pu_eq, am_k_n, am_k_i, am_k_r, am_k_u, am_k_l, am_sz_0, am_sz_i, am_sz_r, am_sz_u, am_sz_l, Option.toList_some, Option.toList_none, List.cons_append, List.nil_append, true_and, and_true, or_false, false_or, or_self, or_true, true_or, not_false_eq_true, not_true_eq_false, Classical.not_not, ne_eq, ps_e1, ps_em, ps_z, Nat.not_le, false_implies, true_implies, forall_const, ps_01, ps_1n, ps_0n, ps_m10, ps_m1n, lg_cmp_gt, lg_cmp_ge, lg_cmp_le, lg_cmp_lt, lg_cmp_eq, pu_rne, pu_req, pu_uro, RFc_n, Nat.reduceAdd, Nat.reduceMul, Nat.reduceLT, Nat.reduceLeDiff, Nat.reduceEqDiff, Nat.reduceSub]
        refine ⟨_, rfl, ?_⟩
        generalize hI3 : am_uI I2 0 14 0 = I3
        have t0 : ∀ s, s ≠ 0 → I3 s = I2 s := fun s s1 => by rw [← hI3, pu_Ine s1]
        have t0' : I3 0 14 = 0 := by rw [← hI3, pu_Ieq, pu_eq]
        have hC3 : CX n t I3 F (I 49) N T lw := CX_g hC ((t0 1 (by decide)).trans (r0 1 (by decide) (by decide) (by decide) (by decide) (by decide) (by decide))) ((t0 2 (by decide)).trans (r0 2 (by decide) (by decide) (by decide) (by decide) (by decide) (by decide))) ((t0 3 (by decide)).trans (r0 3 (by decide) (by decide) (by decide) (by decide) (by decide) (by decide))) ((t0 4 (by decide)).trans (r0 4 (by decide) (by decide) (by decide) (by decide) (by decide) (by decide))) ((t0 49 (by decide)).trans (r0 49 (by decide) (by decide) (by decide) (by decide) (by decide) (by decide))) (fun s hs => (t0 s (by omega)).trans (r0 s (by omega) (by omega) (by omega) (by omega) (by omega) (by omega)))
        have h49 : I3 49 = I 49 := hC3.2.2.1
        have eN : I3 49 1811 = nI N := by rw [h49]; exact hK.2.2.1
        have eE : I3 49 1810 = nI E := by rw [h49]; exact x3
        simp only [↓r287_0, ↓r287_1, ↓r287_2, ↓r287_4, ↓r287_7, ↓r287_10, ↓r287_11, ↓r287_12, ↓r287_15, ↓r287_16, ↓r287_17, ↓r287_18, ↓r287_21, ↓r287_24, ↓r287_25, ↓r287_27, ↓r287_30, ↓r287_31, ↓r287_32, ↓r287_33, ↓r287_36, ↓r287_37, ↓r287_38, ↓r287_41, ↓r287_44, ↓r287_45, ↓r287_46, ↓r287_47, ↓r287_50, ↓r287_53, ↓r287_54, ↓r287_55, ↓r287_56, ↓s_lies, ↓m_isText1 hC3 hj, ↓s_many hW, ↓s_term2 hW, h1, eN, eE, and_self, if_true, pu_uI, pu_ror, Bool.false_eq_true, hn, hn2, ht, hF, am_wt, am_wf, Option.isSome_some, am_rf_s, am_rf_n, ps_lit, nI_add, nI_1, pk_mul, ps_cl, ps_neg, ps_c0, ps_c1, ps_n01, ps_n11, ps_10, ps_b01, ps_e0, pu_Ine, pu_Ieq, pu_ne, pu_eq, am_k_n, am_k_i, am_k_r, am_k_u, am_k_l, am_sz_0, am_sz_i, am_sz_r, am_sz_u, am_sz_l, Option.toList_some, Option.toList_none, List.cons_append, List.nil_append, true_and, and_true, or_false, false_or, or_self, or_true, true_or, not_false_eq_true, not_true_eq_false, Classical.not_not, ne_eq, ps_e1, ps_em, ps_z, Nat.not_le, false_implies, true_implies, forall_const, ps_01, ps_1n, ps_0n, ps_m10, ps_m1n, lg_cmp_gt, lg_cmp_ge, lg_cmp_le, lg_cmp_lt, lg_cmp_eq, pu_rne, pu_req, pu_uro, RFc_n, Nat.reduceAdd, Nat.reduceMul, Nat.reduceLT, Nat.reduceLeDiff, Nat.reduceEqDiff, Nat.reduceSub]
        generalize hB : upd (upd (upd (I3 47) 35 (nI q0)) 38 (nI N)) 39 (nI E) = B
        have b38 : B 38 = nI N := by rw [← hB, pu_ne (by decide), pu_eq]
        have b39 : B 39 = nI E := by rw [← hB, pu_eq]
        have b35 : B 35 = nI q0 := by rw [← hB, pu_ne (by decide), pu_ne (by decide), pu_eq]
        have bn : ∀ k, k ≠ 35 → k ≠ 38 → k ≠ 39 → B k = I 47 k := fun k k1 k2 k3 => by
          rw [← hB, pu_ne k3, pu_ne k2, pu_ne k1, t0 47 (by decide), r0 47 (by decide) (by decide) (by decide) (by decide) (by decide) (by decide)]
        have hs3 : am_ro (am_ro (am_ro (am_ro (am_ro (am_ro I3 47 B) 58 (I3 58)) 69 (fl1 (I3 69) (fun k => nI (rwt (I 49) (lw j) E q0 k)) 0)) 70 (fl1 (I3 70) (fun k => if rwt (I 49) (lw j) E q0 k < E then 1 else 0) 0)) 71 (fl1 (I3 71) (fun k => nI (rla (I 49) (lw j) E q0 k)) 0)) 72 (wfr (I3 72) (I 49) (8 * 0)) = am_ro I3 47 B := by
          have f0 : ∀ f g : Nat → Int32, fl1 f g 0 = f := fun f g => by
            funext k
            unfold fl1
            rw [if_neg (by omega)]
          have g0 : wfr (I3 72) (I 49) (8 * 0) = I3 72 := by
            funext k
            unfold wfr
            rw [if_neg (by omega)]
          rw [f0, f0, f0, g0]
          rw [ro_same (a := 58) (by rw [pu_rne (by decide)]), ro_same (a := 69) (by rw [pu_rne (by decide)]), ro_same (a := 70) (by rw [pu_rne (by decide)]), ro_same (a := 71) (by rw [pu_rne (by decide)]), ro_same (a := 72) (by rw [pu_rne (by decide)])]
        have hm3 := m_run (X := X) (d := 11) (Q := fun r2 h2 => r2 = some (.int (nI (cnt (fun k => decide (E ≤ rwt (I 49) (lw j) E q0 k)) N))) ∧ Inv (i + 1) h2) (sl := sl) (J := J) (x2 := nI q0) (B := B) hC3 hj x2 hq b38 b39 (fun f47 f58 g47 hf => ?_) B (I3 58) (J 47) none none none (fun _ _ _ _ _ _ => rfl) b35
        · rw [hs3, pu_roJ] at hm3
          exact hm3
        · refine ⟨rfl, ?_⟩
          generalize hI4 : am_uI (am_ro (am_ro (am_ro (am_ro (am_ro (am_ro I3 47 f47) 58 f58) 69 (fl1 (I3 69) (fun k => nI (rwt (I 49) (lw j) E q0 k)) N)) 70 (fl1 (I3 70) (fun k => if rwt (I 49) (lw j) E q0 k < E then 1 else 0) N)) 71 (fl1 (I3 71) (fun k => nI (rla (I 49) (lw j) E q0 k)) N)) 72 (wfr (I3 72) (I 49) (8 * N))) 47 0 0 = I4
          have w0 : ∀ s, s ≠ 47 → s ≠ 58 → s ≠ 69 → s ≠ 70 → s ≠ 71 → s ≠ 72 → I4 s = I3 s := fun s s1 s2 s3 s4 s5 s6 => by rw [← hI4, pu_Ine s1, pu_rne s6, pu_rne s5, pu_rne s4, pu_rne s3, pu_rne s2, pu_rne s1]
          have wI : ∀ s, s ≠ 0 → s ≠ 13 → s ≠ 14 → s ≠ 41 → s ≠ 42 → s ≠ 43 → s ≠ 44 → s ≠ 47 → s ≠ 58 → s ≠ 69 → s ≠ 70 → s ≠ 71 → s ≠ 72 → I4 s = I s := fun s a0 a1 a2 a3 a4 a5 a6 a7 a8 a9 a10 a11 a12 => by rw [w0 s a7 a8 a9 a10 a11 a12, t0 s a0, r0 s a1 a2 a5 a6 a3 a4]
          have w470 : I4 47 0 = 0 := by rw [← hI4, pu_Ieq, pu_eq]
          have w47 : ∀ k, k ≠ 0 → I4 47 k = f47 k := fun k hk => by rw [← hI4, pu_Ieq, pu_ne hk, pu_rne (by decide), pu_rne (by decide), pu_rne (by decide), pu_rne (by decide), pu_rne (by decide), pu_req]
          have w69 : I4 69 = fl1 (I3 69) (fun k => nI (rwt (I 49) (lw j) E q0 k)) N := by rw [← hI4, pu_Ine (by decide), pu_rne (by decide), pu_rne (by decide), pu_rne (by decide), pu_req]
          have w70 : I4 70 = fl1 (I3 70) (fun k => if rwt (I 49) (lw j) E q0 k < E then 1 else 0) N := by rw [← hI4, pu_Ine (by decide), pu_rne (by decide), pu_rne (by decide), pu_req]
          have w71 : I4 71 = fl1 (I3 71) (fun k => nI (rla (I 49) (lw j) E q0 k)) N := by rw [← hI4, pu_Ine (by decide), pu_rne (by decide), pu_req]
          have w72 : I4 72 = wfr (I3 72) (I 49) (8 * N) := by rw [← hI4, pu_Ine (by decide), pu_req]
          have w41 : I4 41 = upd (upd (I 41) 2 (nI N)) 3 1 := by rw [w0 41 (by decide) (by decide) (by decide) (by decide) (by decide) (by decide), t0 41 (by decide), r41]
          have w42 : I4 42 = va_cpy (I 2) (I 42) 0 0 1800 := by rw [w0 42 (by decide) (by decide) (by decide) (by decide) (by decide) (by decide), t0 42 (by decide), r42]
          have w43 : I4 43 = tlr (I1 43) (fun k => nI (rwt (I 49) (lw j) E q0 k)) (fun k => if rwt (I 49) (lw j) E q0 k < E then 1 else 0) (fun k => nI (rla (I 49) (lw j) E q0 k)) N := by rw [w0 43 (by decide) (by decide) (by decide) (by decide) (by decide) (by decide), t0 43 (by decide), r43]
          have wi : ∀ s, (s = 1 ∨ s = 2 ∨ s = 3 ∨ s = 4 ∨ s = 7 ∨ s = 8 ∨ s = 9 ∨ s = 46 ∨ s = 48 ∨ s = 49 ∨ s = 50 ∨ s = 51 ∨ s = 52 ∨ s = 53 ∨ 73 ≤ s) → I4 s = I s := fun s hs => wI s (by omega) (by omega) (by omega) (by omega) (by omega) (by omega) (by omega) (by omega) (by omega) (by omega) (by omega) (by omega) (by omega)
          have f8 : ∀ k, k = 8 ∨ k = 9 → I4 47 k = I 47 k := fun k hk => by
            rw [w47 k (by omega), hf k (by omega) (by omega) (by omega) (by omega) (by omega), bn k (by omega) (by omega) (by omega)]
          refine Inv_up hV0 hi (fun _ _ _ => rfl) (fun s hs => wi s (by omega)) (fun q => ?_) (fun q => ?_) (fun q => ?_) (fun q => ?_) (wi 52 (by omega)) (fun _ => ?_) (fun k hk => by rw [wi 49 (by omega)]) (wi 51 (by omega)) (wi 50 (by omega))
          · rw [wi 1 (by omega), wi 2 (by omega), wi 3 (by omega), wi 4 (by omega), wi 49 (by omega)]; exact q
          · rw [wi 46 (by omega), wi 48 (by omega), w470, w0 0 (by decide) (by decide) (by decide) (by decide) (by decide) (by decide), t0']
            exact ⟨q.1, rfl⟩
          · rw [wi 9 (by omega), f8 9 (by omega)]; exact q
          · rw [wi 7 (by omega), wi 8 (by omega), wi 53 (by omega), f8 8 (by omega)]; exact q
          · have hwE := fun c => rwt_le (K := I 49) (l := lw j) (E := E) (q0 := q0) (c := c)
            refine Or.inr ⟨by rw [w41, pu_eq], N, hN, by rw [w41, pu_ne (by decide), pu_eq], by rw [w47 38 (by decide), hf 38 (by decide) (by decide) (by decide) (by decide) (by decide), b38], fun c hc => ⟨⟨rwt (I 49) (lw j) E q0 c, by have := hwE c; omega, ?_, ?_⟩, ⟨if rwt (I 49) (lw j) E q0 c < E then 1 else 0, by split <;> omega, ?_, ?_⟩, ⟨rla (I 49) (lw j) E q0 c, laV_le, ?_, ?_⟩, fun f hf8 => ?_⟩⟩
            · rw [w43]
              unfold tlr
              rw [if_pos (by omega), if_pos (by omega), show 3 * c / 3 = c by omega]
            · rw [w69]
              exact if_pos hc
            · rw [w43]
              unfold tlr
              rw [if_pos (by omega), if_neg (by omega), if_pos (by omega), show (3 * c + 1) / 3 = c by omega]
              show (if rwt (I 49) (lw j) E q0 c < E then (1 : Int32) else 0) = nI (if rwt (I 49) (lw j) E q0 c < E then 1 else 0)
              split <;> rfl
            · rw [w70]
              unfold fl1
              rw [if_pos hc]
              show (if rwt (I 49) (lw j) E q0 c < E then (1 : Int32) else 0) = nI (if rwt (I 49) (lw j) E q0 c < E then 1 else 0)
              split <;> rfl
            · rw [w43]
              unfold tlr
              rw [if_pos (by omega), if_neg (by omega), if_neg (by omega), show (3 * c + 2) / 3 = c by omega]
            · rw [w71]
              exact if_pos hc
            · rw [w42, w72]
              unfold va_cpy wfr
              rw [if_pos (by omega), if_pos (by omega), Nat.zero_add, Nat.sub_zero, hr _ (by omega), show (8 * c + f) / 8 = c by omega, show (8 * c + f) % 8 = f by omega]
    · unfold PR
      have e0 : ¬ (0 ≤ x ∧ x ≤ I 49 1812 - 1) := by
        rw [hK.2.2.2.1]
        exact h2
      simp only [↓r149_0, ↓r149_1, ↓r149_2, ↓r149_5, ↓r149_8, ↓r149_11, ↓r149_12, ↓r149_13, ↓r149_16, ↓r149_17, ↓r149_18, ↓r149_21, ↓r149_22, ↓r149_25, ↓r149_25n, ↓r149_26, ↓r149_26n, ↓r149_27, ↓r149_27n, ↓r149_30, ↓r149_31, ↓r149_33, ↓r149_36, ↓r287_0, ↓r287_1, ↓r287_2, ↓r287_4, ↓r287_7, ↓r287_10, ↓r287_11, ↓r287_12, ↓r287_15, ↓r287_16, ↓r287_17, ↓r287_18, ↓r287_21, ↓r287_24, ↓r287_25, ↓r287_27, ↓r287_30, ↓c_within, ↓s_lies, ↓k_law0 hC h2, ↓s_isText hW, ↓c_rf2, ↓s_rf2, hW, h1, e0, and_self, if_true, if_false, Bool.false_eq_true, hn, hn2, ht, hF, am_wt, am_wf, Option.isSome_some, am_rf_s, am_rf_n, ps_lit, nI_add, nI_1, pk_mul, ps_cl, ps_neg, ps_c0, ps_c1, ps_n01, ps_n11, ps_10, ps_b01, ps_e0, pu_Ine, pu_Ieq, pu_ne, pu_eq, am_k_n, am_k_i, am_k_r, am_k_u, am_k_l, am_sz_0, am_sz_i, am_sz_r, am_sz_u, am_sz_l, Option.toList_some, Option.toList_none, List.cons_append, List.nil_append, true_and, and_true, or_false, false_or, or_self, or_true, true_or, not_false_eq_true, not_true_eq_false, Classical.not_not, ne_eq, ps_e1, ps_em, ps_z, Nat.not_le, false_implies, true_implies, forall_const, ps_01, ps_1n, ps_0n, ps_m10, ps_m1n, lg_cmp_gt, lg_cmp_ge, lg_cmp_le, lg_cmp_lt, lg_cmp_eq, pu_rne, pu_req, pu_uro, RFc_n, Nat.reduceAdd, Nat.reduceMul, Nat.reduceLT, Nat.reduceLeDiff, Nat.reduceEqDiff, Nat.reduceSub]
      exact ⟨_, rfl, rfl, Inv_rf hV0 hi 2⟩
  · unfold PR
    simp only [↓r149_0, ↓r149_1, ↓r149_2, ↓r149_5, ↓r149_8, ↓r149_11, ↓r149_12, ↓r149_13, ↓r149_16, ↓r287_0, ↓r287_1, ↓r287_2, ↓r287_4, ↓r287_7, ↓r287_10, ↓r287_11, ↓r287_12, ↓r287_15, ↓c_within, ↓s_lies, ↓c_rf1, ↓s_rf1, hW, h1, if_false, Bool.false_eq_true, hn, hn2, ht, hF, am_wt, am_wf, Option.isSome_some, am_rf_s, am_rf_n, ps_lit, nI_add, nI_1, pk_mul, ps_cl, ps_neg, ps_c0, ps_c1, ps_n01, ps_n11, ps_10, ps_b01, ps_e0, pu_Ine, pu_Ieq, pu_ne, pu_eq, am_k_n, am_k_i, am_k_r, am_k_u, am_k_l, am_sz_0, am_sz_i, am_sz_r, am_sz_u, am_sz_l, Option.toList_some, Option.toList_none, List.cons_append, List.nil_append, true_and, and_true, or_false, false_or, or_self, or_true, true_or, not_false_eq_true, not_true_eq_false, Classical.not_not, ne_eq, ps_e1, ps_em, ps_z, Nat.not_le, false_implies, true_implies, forall_const, ps_01, ps_1n, ps_0n, ps_m10, ps_m1n, lg_cmp_gt, lg_cmp_ge, lg_cmp_le, lg_cmp_lt, lg_cmp_eq, pu_rne, pu_req, pu_uro, RFc_n, Nat.reduceAdd, Nat.reduceMul, Nat.reduceLT, Nat.reduceLeDiff, Nat.reduceEqDiff, Nat.reduceSub]
    exact ⟨_, rfl, rfl, Inv_rf hV0 hi 1⟩
end RP
