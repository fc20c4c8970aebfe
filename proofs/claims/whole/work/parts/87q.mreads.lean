/-! TEXTS: the reference reads its tape -/
section MZ
variable {X : am_X} {d : Nat} {Q : Option Value → am_H → Prop} {n sl : Nat} {t : Nat → Nat × Nat} {I : Nat → Nat → Int32} {J : Nat → Nat → Int64} {F : Nat → Nat → Option Nat} {h : am_H}
variable {u : Nat → Nat} {m : Nat}
theorem rd_eq {Y : Nat → Nat → Int32} {N : Nat} {A B P : Nat → Int32} (h : ∀ s, s ≠ 47 → Y s = tQ I N A B P s) : Y = am_ro (am_ro (am_ro (am_ro I 47 (Y 47)) 55 A) 56 B) 57 P := by
  funext s
  by_cases h4 : s = 57
  · subst h4; rw [h 57 (by decide)]; rfl
  · rw [pu_rne h4]
    by_cases h3 : s = 56
    · subst h3; rw [h 56 (by decide)]; rfl
    · rw [pu_rne h3]
      by_cases h2 : s = 55
      · subst h2; rw [h 55 (by decide)]; rfl
      · rw [pu_rne h2]
        by_cases h1 : s = 47
        · subst h1; rfl
        · rw [pu_rne h1, h s h1, tQ_n h1 h2 h3 h4]
theorem m_reads {N : Nat} (hW : WS n t F) (hT : TPR I u m) (h8 : I 47 8 = nI m) (hWO : WO (I 52)) (hN : N ≤ m) (hN1 : plB u m N = m) (hN2 : ∀ i, i < N → plB u m i < m) (hk0 : tkB u m N = 0) (hk : ∀ j, j ≤ N → tkB u m j < 400)
    (hok : ∀ l A B P f, pText (tkB u m) (tvB u m) N = .ok l → TKp u m A B P (N + 1) → f 13 = nI N → f 8 = 0 → f 9 = -1 → (∀ j, j ≠ 8 → j ≠ 9 → j ≠ 13 → j ≠ 14 → j ≠ 15 → j ≠ 16 → f j = I 47 j) → Q (some (.int 1)) (n, sl, t, am_ro (am_ro (am_ro (am_ro I 47 f) 55 A) 56 B) 57 P, J, F))
    (her : ∀ x A B P f, pText (tkB u m) (tvB u m) N = .error x → f 8 = 0 → f 9 = nI (plB u m x) → (∀ j, j ≠ 8 → j ≠ 9 → j ≠ 13 → j ≠ 14 → j ≠ 15 → j ≠ 16 → f j = I 47 j) → Q (some (.int 0)) (n, sl, t, am_ro (am_ro (am_ro (am_ro I 47 f) 55 A) 56 B) 57 P, J, F)) : am_W X (d + 37) 196 0 [some (.ref 47), none] [] (n, sl, t, I, J, F) Q := by
  obtain ⟨hn, hn2, ht, hF⟩ := id hW
  have hm := hT.1
  have hpl := plB_le (u := u) (m := m)
  simp only [↓r196_0, ↓r196_1, ↓r196_2, ↓r196_5, h8, Bool.false_eq_true, hn, hn2, ht, hF, am_wt, am_wf, Option.isSome_some, am_rf_s, am_rf_n, ps_lit, nI_add, nI_1, pk_mul, ps_cl, ps_neg, ps_c0, ps_c1, ps_n01, ps_n11, ps_10, ps_b01, ps_e0, pu_Ine, pu_Ieq, pu_ne, pu_eq, am_k_n, am_k_i, am_k_r, am_k_u, am_k_l, am_sz_0, am_sz_i, am_sz_r, am_sz_u, am_sz_l, Option.toList_some, Option.toList_none, List.cons_append, List.nil_append, true_and, and_true, or_false, false_or, or_self, or_true, true_or, not_false_eq_true, not_true_eq_false, Classical.not_not, ne_eq, ps_e1, ps_em, ps_z, Nat.not_le, false_implies, true_implies, forall_const, ps_01, ps_1n, ps_0n, ps_m10, ps_m1n, lg_cmp_gt, lg_cmp_ge, lg_cmp_le, lg_cmp_lt, lg_cmp_eq, pu_rne, pu_req, pu_uro, RFc_n, Nat.reduceAdd, Nat.reduceMul, Nat.reduceLT, Nat.reduceLeDiff, Nat.reduceEqDiff, Nat.reduceSub]
  refine m_splits hW hT hWO hN hN1 hN2 (fun A B P hK => ?_)
  have e' : am_uI (am_uI (am_uI (am_uI (tQ I N A B P) 47 8 0) 47 14 (nI 0)) 47 15 (nI 0)) 47 16 (-1) = prS (am_uI (tQ I N A B P) 47 8 0) 0 0 (-1) := by
    funext s
    by_cases h1 : s = 47
    · subst h1
      rw [pu_Ieq, pu_Ieq, pu_Ieq]
      rfl
    · rw [pu_Ine h1, pu_Ine h1, pu_Ine h1, prS_n h1]
  have hTK : TKI (am_uI (tQ I N A B P) 47 8 0) (tkB u m) (tvB u m) (plB u m) N := by
    refine ⟨⟨by omega, hk0⟩, fun j hj => ⟨?_, hk j hj, vcB_r.1, by have := hpl j; omega⟩⟩
    rw [pu_Ine (by decide), pu_Ine (by decide), pu_Ine (by decide)]
    exact hK j (by omega)
  have h13 : am_uI (tQ I N A B P) 47 8 0 47 13 = nI N := by
    rw [pu_Ieq, pu_ne (by decide)]
    exact tQ_13
  have key : am_W X (d + 37) 196 28 [some (.ref 47), none] [] (n, sl, t, prS (am_uI (tQ I N A B P) 47 8 0) 0 0 (-1), J, F) Q := by
    refine m_clauses hW hTK h13 (fun l i' q' hl => ?_) (fun x i' q' hx => ?_)
    · rw [rd_eq (Y := am_uI (prS (am_uI (tQ I N A B P) 47 8 0) i' q' (-1)) 47 9 (-1)) (N := N) (A := A) (B := B) (P := P) (I := I) (fun s hs => by rw [pu_Ine hs, prS_n hs, pu_Ine hs])]
      refine hok l A B P _ hl hK rfl rfl rfl (fun j j1 j2 j3 j4 j5 j6 => ?_)
      rw [pu_Ieq, pu_ne j2]
      show upd (upd (upd (am_uI (tQ I N A B P) 47 8 0 47) 14 _) 15 _) 16 _ j = _
      rw [pu_ne j6, pu_ne j5, pu_ne j4, pu_Ieq, pu_ne j1]
      show upd (I 47) 13 (nI N) j = _
      rw [pu_ne j3]
    · rw [rd_eq (Y := am_uI (prS (am_uI (tQ I N A B P) 47 8 0) i' q' (nI (plB u m x))) 47 9 (nI (plB u m x))) (N := N) (A := A) (B := B) (P := P) (I := I) (fun s hs => by rw [pu_Ine hs, prS_n hs, pu_Ine hs])]
      refine her x A B P _ hx rfl rfl (fun j j1 j2 j3 j4 j5 j6 => ?_)
      rw [pu_Ieq, pu_ne j2]
      show upd (upd (upd (am_uI (tQ I N A B P) 47 8 0 47) 14 _) 15 _) 16 _ j = _
      rw [pu_ne j6, pu_ne j5, pu_ne j4, pu_Ieq, pu_ne j1]
      show upd (I 47) 13 (nI N) j = _
      rw [pu_ne j3]
  rw [← e'] at key
  simp only [↓r196_8, ↓r196_9, ↓r196_10, ↓r196_13, ↓r196_14, ↓r196_15, ↓r196_18, ↓r196_19, ↓r196_20, ↓r196_23, ↓r196_24, ↓r196_25, Bool.false_eq_true, hn, hn2, ht, hF, am_wt, am_wf, Option.isSome_some, am_rf_s, am_rf_n, ps_lit, nI_add, nI_1, pk_mul, ps_cl, ps_neg, ps_c0, ps_c1, ps_n01, ps_n11, ps_10, ps_b01, ps_e0, pu_Ine, pu_Ieq, pu_ne, pu_eq, am_k_n, am_k_i, am_k_r, am_k_u, am_k_l, am_sz_0, am_sz_i, am_sz_r, am_sz_u, am_sz_l, Option.toList_some, Option.toList_none, List.cons_append, List.nil_append, true_and, and_true, or_false, false_or, or_self, or_true, true_or, not_false_eq_true, not_true_eq_false, Classical.not_not, ne_eq, ps_e1, ps_em, ps_z, Nat.not_le, false_implies, true_implies, forall_const, ps_01, ps_1n, ps_0n, ps_m10, ps_m1n, lg_cmp_gt, lg_cmp_ge, lg_cmp_le, lg_cmp_lt, lg_cmp_eq, pu_rne, pu_req, pu_uro, RFc_n, Nat.reduceAdd, Nat.reduceMul, Nat.reduceLT, Nat.reduceLeDiff, Nat.reduceEqDiff, Nat.reduceSub]
  exact key
end MZ
