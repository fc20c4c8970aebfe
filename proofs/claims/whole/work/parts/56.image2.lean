/-! calls, one on each side: images are made and gone back to -/
section I2
variable {X : am_X} {d : Nat} {Q : Option Value → am_H → Prop} {n sl : Nat} {t : Nat → Nat × Nat} {I : Nat → Nat → Int32} {J : Nat → Nat → Int64} {F : Nat → Nat → Option Nat} {h : am_H}
theorem am_nw_t {kd len : Nat} {f : Nat → Int32} : am_nw (n, sl, t, I, J, F) kd len f = (n + 1, sl + len, am_ro t n (kd, len), am_ro I n f, am_ro J n (fun _ => 0), am_ro F n (fun _ => none)) := rfl
theorem vu_ne {f : Nat → Option Nat} {k j : Nat} {x : Option Nat} (h : j ≠ k) : va_up f k x j = f j := by unfold va_up; rw [if_neg h]
theorem vu_eq {f : Nat → Option Nat} {k : Nat} {x : Option Nat} : va_up f k x k = x := by unfold va_up; rw [if_pos rfl]
/-- a cell of children is made anew -/
theorem c_ini1 {a : Nat} (ha : a < n) (hn : n + 4 ≤ 600000) (hta : t a = (1, 6))
    (hQ : ∀ t' I' J' F', (∀ s, s < n → t' s = t s) → (t' n = (20, 1800) ∧ t' (n + 1) = (20, 3) ∧ t' (n + 2) = (20, 8) ∧ t' (n + 3) = (24, 10)) → (∀ s, s < n → s ≠ a → I' s = I s) → (∀ s, s < n → s ≠ a → F' s = F s) → (∀ s, s < n → J' s = J s) → (I' a 4 = 0 ∧ I' a 5 = 0 ∧ I' n = (fun _ => 0) ∧ I' (n + 1) 0 = nI 100 ∧ I' (n + 1) 1 = 0 ∧ I' (n + 1) 2 = nI 15 ∧ I' (n + 2) = fun _ => 0) → (F' a 0 = some n ∧ F' a 1 = some (n + 1) ∧ F' a 2 = some (n + 2) ∧ F' a 3 = some (n + 3) ∧ F' (n + 3) = fun _ => none) → Q none (n + 4, sl + 1821, t', I', J', F')) : am_W X (d + 1) 1 0 [some (.ref a)] [] (n, sl, t, I, J, F) Q := by
  have y1 : a ≠ n ∧ a ≠ n + 1 ∧ a ≠ n + 2 ∧ a ≠ n + 3 := by omega
  have y2 : n < 600000 ∧ n + 1 < 600000 ∧ n + 2 < 600000 ∧ n + 3 < 600000 ∧ n < 599999 ∧ n < 599998 ∧ n < 599997 := by omega
  have y3 : a < n + 1 ∧ a < n + 2 ∧ a < n + 3 ∧ a < n + 4 := by omega
  have y4 : n < n + 1 ∧ n < n + 2 ∧ n + 1 < n + 2 ∧ n + 1 < n + 3 ∧ n + 2 < n + 3 := by omega
  have y5 : n ≠ n + 1 ∧ n ≠ n + 2 ∧ n ≠ n + 3 ∧ n + 1 ≠ n ∧ n + 1 ≠ n + 2 ∧ n + 1 ≠ n + 3 ∧ n + 2 ≠ n ∧ n + 2 ≠ n + 1 ∧ n + 2 ≠ n + 3 ∧ n + 3 ≠ n ∧ n + 3 ≠ n + 1 ∧ n + 3 ≠ n + 2 := by omega
  have w1 : ¬ ((0 : Int32) < 0) := by decide
  simp only [↓r1_0, ↓r1_1, ↓r1_4, ↓r1_5, ↓r1_8, ↓r1_10, ↓r1_13, ↓r1_14, ↓r1_15, ↓r1_17, ↓r1_17r, ↓r1_18, ↓r1_19, ↓r1_21, ↓r1_22, ↓r1_22r, ↓r1_23, ↓r1_24, ↓r1_25, ↓r1_26, ↓r1_26r, ↓r1_27, ↓r1_28, ↓r1_30, ↓r1_31, ↓r1_34, ↓r1_35, ↓r1_37, ↓r1_39, ↓r1_42, ↓r1_43, ↓r1_45, ↓r1_48, ↓r1_51, ↓r1_52, ↓r1_53, ↓r1_56, ↓r1_57, ↓r1_58, ↓r1_61, am_nw_t, hta, ha, y1, y2, y3, y4, y5, pu_rne, pu_req, Nat.add_assoc, ps_lit, nI_add, nI_1, pk_mul, ps_cl, ps_neg, ps_c0, ps_c1, ps_n01, ps_n11, ps_10, ps_01, ps_1n, ps_0n, ps_b01, ps_e0, am_k_n, am_k_i, am_k_r, am_k_u, am_k_l, am_sz_0, am_sz_i, am_sz_r, am_sz_u, am_sz_l, Option.toList_some, Option.toList_none, List.cons_append, List.nil_append, true_and, and_true, or_false, false_or, or_self, or_true, true_or, and_self, if_true, if_false, not_false_eq_true, not_true_eq_false, Classical.not_not, ne_eq, ps_e1, ps_em, ps_z, Nat.not_le, false_implies, true_implies, forall_const, Nat.reduceAdd, Nat.reduceMul, Nat.reduceLT, Nat.reduceLeDiff, Nat.reduceEqDiff, Nat.reduceSub]
  have y6 : n ≠ a ∧ n + 1 ≠ a ∧ n + 2 ≠ a ∧ n + 3 ≠ a := by omega
  refine hQ _ _ _ _ (fun s hs => ?_) ⟨?_, ?_, ?_, ?_⟩ (fun s hs hsa => ?_) (fun s hs hsa => ?_) (fun s hs => ?_) ⟨?_, ?_, ?_, ?_, ?_, ?_, ?_⟩ ⟨?_, ?_, ?_, ?_, ?_⟩
  · rw [pu_rne (by omega), pu_rne (by omega), pu_rne (by omega), pu_rne (by omega)]
  · rw [pu_rne (by omega), pu_rne (by omega), pu_rne (by omega), pu_req]
  · rw [pu_rne (by omega), pu_rne (by omega), pu_req]
  · rw [pu_rne (by omega), pu_req]
  · rw [pu_req]
  · rw [pu_Ine hsa, pu_Ine hsa, pu_rne (by omega), pu_rne (by omega), pu_Ine (by omega), pu_Ine (by omega), pu_Ine (by omega), pu_rne (by omega), pu_rne (by omega)]
  · rw [pu_Fne hsa, pu_rne (by omega), pu_Fne hsa, pu_rne (by omega), pu_Fne hsa, pu_rne (by omega), pu_Fne hsa, pu_rne (by omega)]
  · rw [pu_rne (by omega), pu_rne (by omega), pu_rne (by omega), pu_rne (by omega)]
  · simp only [pu_Ieq, pu_ne, pu_eq, ne_eq, not_false_eq_true, Nat.reduceAdd, Nat.reduceMul, Nat.reduceLT, Nat.reduceLeDiff, Nat.reduceEqDiff, Nat.reduceSub]
  · simp only [pu_Ieq, pu_eq]
  · rw [pu_Ine y6.1, pu_Ine y6.1, pu_rne (by omega), pu_rne (by omega), pu_Ine (by omega), pu_Ine (by omega), pu_Ine (by omega), pu_rne (by omega), pu_req]
  · rw [pu_Ine y6.2.1, pu_Ine y6.2.1, pu_rne (by omega), pu_rne (by omega), pu_Ieq, pu_Ieq, pu_Ieq, pu_ne (by decide), pu_ne (by decide), pu_eq]
  · rw [pu_Ine y6.2.1, pu_Ine y6.2.1, pu_rne (by omega), pu_rne (by omega), pu_Ieq, pu_Ieq, pu_Ieq, pu_ne (by decide), pu_eq]
  · rw [pu_Ine y6.2.1, pu_Ine y6.2.1, pu_rne (by omega), pu_rne (by omega), pu_Ieq, pu_eq]
  · rw [pu_Ine y6.2.2.1, pu_Ine y6.2.2.1, pu_rne (by omega), pu_req]
  · simp only [pu_Feq, pu_rne, vu_ne, vu_eq, y1, ne_eq, not_false_eq_true, Nat.reduceAdd, Nat.reduceMul, Nat.reduceLT, Nat.reduceLeDiff, Nat.reduceEqDiff, Nat.reduceSub]
  · simp only [pu_Feq, pu_rne, vu_ne, vu_eq, y1, ne_eq, not_false_eq_true, Nat.reduceAdd, Nat.reduceMul, Nat.reduceLT, Nat.reduceLeDiff, Nat.reduceEqDiff, Nat.reduceSub]
  · simp only [pu_Feq, pu_rne, vu_ne, vu_eq, y1, ne_eq, not_false_eq_true, Nat.reduceAdd, Nat.reduceMul, Nat.reduceLT, Nat.reduceLeDiff, Nat.reduceEqDiff, Nat.reduceSub]
  · simp only [pu_Feq, pu_rne, vu_ne, vu_eq, y1, ne_eq, not_false_eq_true, Nat.reduceAdd, Nat.reduceMul, Nat.reduceLT, Nat.reduceLeDiff, Nat.reduceEqDiff, Nat.reduceSub]
  · rw [pu_Fne y6.2.2.2, pu_req]
/-- what holds once an image is copied -/
theorem Inv_im {i k b : Nat} {ow : Nat → Nat} (hW : WS n t F) (hb0 : n ≤ 73 + 5 * (i + 1) ∧ sl ≤ 100000 + 2000 * (i + 1) ∧ i + 1 ≤ 600) (hK : KR (I 1 4) (I 1 5) (I 2) (I 3) (I 4) (I 49)) (hR : RS (I 46) (I 48) (I 0 14) (I 47 0)) (h9 : I 9 10 = I 47 9) (hT : TP (I 7 1) (I 8) (I 47 8) (I 53)) (hO : WO (I 52))
    (hD : WD (I 41 2) (I 41 3) (I 42) (I 43) (I 47 38) (I 69) (I 70) (I 71) (I 72)) (hL : LWs n t I F ow (F 5) (I 49)) (hk : k < 2) (hI : ∀ k', k' < 2 → k' ≠ k → (I 51 k' = 0 ∧ F 6 k' = none) ∨ (I 51 k' = 1 ∧ ∃ b, F 6 k' = some b ∧ IMo n t I F ow k' b (fun i => I 50 (9823 * k' + i))))
    (hb : 73 ≤ b ∧ b + 4 < n) (how : ∀ i, i < 5 → ow (b + i) = 2 + k) (htb : t b = (1, 6) ∧ t (b + 1) = (20, 1800) ∧ t (b + 2) = (20, 3) ∧ t (b + 3) = (20, 8) ∧ t (b + 4) = (24, 10)) (hFb : F b 0 = some (b + 1) ∧ F b 1 = some (b + 2) ∧ F b 2 = some (b + 3) ∧ F b 3 = some (b + 4)) (hF6 : F 6 k = some b) :
    Inv (i + 1) (n, sl, t, am_uI (am_uI (am_ro (am_uI (am_uI (am_uI (am_ro (am_ro (am_ro I (b + 1) (va_cpy (I 2) (I (b + 1)) 0 0 1800)) (b + 2) (va_cpy (I 3) (I (b + 2)) 0 0 3)) (b + 3) (va_cpy (I 4) (I (b + 3)) 0 0 8)) b 4 (I 1 4)) b 5 (I 1 5)) 0 14 0) 50 (im1 (I 49) (I 50) k 9823)) 51 k (1 &&& 1)) 47 0 0, J, am_ro F (b + 4) (cpl (F 5) (F (b + 4)) 10)) := by
  generalize hI2 : am_uI (am_uI (am_ro (am_uI (am_uI (am_uI (am_ro (am_ro (am_ro I (b + 1) (va_cpy (I 2) (I (b + 1)) 0 0 1800)) (b + 2) (va_cpy (I 3) (I (b + 2)) 0 0 3)) (b + 3) (va_cpy (I 4) (I (b + 3)) 0 0 8)) b 4 (I 1 4)) b 5 (I 1 5)) 0 14 0) 50 (im1 (I 49) (I 50) k 9823)) 51 k (1 &&& 1)) 47 0 0 = I2
  generalize hF2 : am_ro F (b + 4) (cpl (F 5) (F (b + 4)) 10) = F2
  have o : ∀ a, a ≠ 0 → a ≠ 47 → a ≠ 50 → a ≠ 51 → a ≠ b → a ≠ b + 1 → a ≠ b + 2 → a ≠ b + 3 → I2 a = I a := fun a a1 a2 a3 a4 a5 a6 a7 a8 => by
    rw [← hI2, pu_Ine a2, pu_Ine a4, pu_rne a3, pu_Ine a1, pu_Ine a5, pu_Ine a5, pu_rne a8, pu_rne a7, pu_rne a6]
  have oF : ∀ a, a ≠ b + 4 → F2 a = F a := fun a ha => by rw [← hF2, pu_rne ha]
  have os : ∀ a, 0 < a → a < 47 → I2 a = I a := fun a a1 a2 => o a (by omega) (by omega) (by omega) (by omega) (by omega) (by omega) (by omega) (by omega)
  have o2 : ∀ a, 51 < a → a < 73 → I2 a = I a := fun a a1 a2 => o a (by omega) (by omega) (by omega) (by omega) (by omega) (by omega) (by omega) (by omega)
  have o49 : I2 49 = I 49 := o 49 (by omega) (by omega) (by omega) (by omega) (by omega) (by omega) (by omega) (by omega)
  have o48 : I2 48 = I 48 := o 48 (by omega) (by omega) (by omega) (by omega) (by omega) (by omega) (by omega) (by omega)
  have o0 : I2 0 14 = 0 := by rw [← hI2, pu_Ine (by decide), pu_Ine (by decide), pu_rne (by decide), pu_Ieq, pu_eq]
  have o47 : ∀ j, j ≠ 0 → I2 47 j = I 47 j := fun j hj => by rw [← hI2, pu_Ieq, pu_ne hj, pu_Ine (by decide), pu_rne (by decide), pu_Ine (by decide), pu_Ine (by omega), pu_Ine (by omega), pu_rne (by omega), pu_rne (by omega), pu_rne (by omega)]
  have o470 : I2 47 0 = 0 := by rw [← hI2, pu_Ieq, pu_eq]
  have o50 : I2 50 = im1 (I 49) (I 50) k 9823 := by rw [← hI2, pu_Ine (by decide), pu_Ine (by decide), pu_req]
  have o51 : I2 51 k = 1 := by rw [← hI2, pu_Ine (by decide), pu_Ieq, pu_eq]; rfl
  have o51' : ∀ j, j ≠ k → I2 51 j = I 51 j := fun j hj => by rw [← hI2, pu_Ine (by decide), pu_Ieq, pu_ne hj, pu_rne (by decide), pu_Ine (by decide), pu_Ine (by omega), pu_Ine (by omega), pu_rne (by omega), pu_rne (by omega), pu_rne (by omega)]
  have ob4 : I2 b 4 = I 1 4 := by rw [← hI2, pu_Ine (by omega), pu_Ine (by omega), pu_rne (by omega), pu_Ine (by omega), pu_Ieq, pu_ne (by decide), pu_Ieq, pu_eq]
  have ob5 : I2 b 5 = I 1 5 := by rw [← hI2, pu_Ine (by omega), pu_Ine (by omega), pu_rne (by omega), pu_Ine (by omega), pu_Ieq, pu_eq]
  have ob1 : I2 (b + 1) = va_cpy (I 2) (I (b + 1)) 0 0 1800 := by rw [← hI2, pu_Ine (by omega), pu_Ine (by omega), pu_rne (by omega), pu_Ine (by omega), pu_Ine (by omega), pu_Ine (by omega), pu_rne (by omega), pu_rne (by omega), pu_req]
  have ob2 : I2 (b + 2) = va_cpy (I 3) (I (b + 2)) 0 0 3 := by rw [← hI2, pu_Ine (by omega), pu_Ine (by omega), pu_rne (by omega), pu_Ine (by omega), pu_Ine (by omega), pu_Ine (by omega), pu_rne (by omega), pu_req]
  have ob3 : I2 (b + 3) = va_cpy (I 4) (I (b + 3)) 0 0 8 := by rw [← hI2, pu_Ine (by omega), pu_Ine (by omega), pu_rne (by omega), pu_Ine (by omega), pu_Ine (by omega), pu_Ine (by omega), pu_req]
  have oFb : F2 (b + 4) = cpl (F 5) (F (b + 4)) 10 := by rw [← hF2, pu_req]
  have hw1 : ∀ s, ow s = 1 → I2 s = I s ∨ s < 73 := fun s hs => by
    by_cases hs73 : s < 73
    · exact Or.inr hs73
    · refine Or.inl (o s (by omega) (by omega) (by omega) (by omega) ?_ ?_ ?_ ?_)
      · intro e; have := how 0 (by omega); rw [Nat.add_zero, ← e, hs] at this; omega
      · intro e; have := how 1 (by omega); rw [← e, hs] at this; omega
      · intro e; have := how 2 (by omega); rw [← e, hs] at this; omega
      · intro e; have := how 3 (by omega); rw [← e, hs] at this; omega
  have hwk : ∀ k', k' ≠ k → ∀ s, 73 ≤ s → (ow s = 1 ∨ ow s = 2 + k') → I2 s = I s ∧ F2 s = F s := fun k' hk' s hs73 hs => by
    have q : ∀ i, i < 5 → s ≠ b + i := fun i hi e => by have := how i hi; rw [← e] at this; omega
    have q0 := q 0 (by omega)
    rw [Nat.add_zero] at q0
    exact ⟨o s (by omega) (by omega) (by omega) (by omega) q0 (q 1 (by omega)) (q 2 (by omega)) (q 3 (by omega)), oF s (q 4 (by omega))⟩
  have hw : ∀ s, 73 ≤ s → ow s = 1 → I2 s = I s ∧ F2 s = F s := fun s hs73 hs => by
    have q : ∀ i, i < 5 → s ≠ b + i := fun i hi e => by have := how i hi; rw [← e] at this; omega
    have q0 := q 0 (by omega)
    rw [Nat.add_zero] at q0
    exact ⟨o s (by omega) (by omega) (by omega) (by omega) q0 (q 1 (by omega)) (q 2 (by omega)) (q 3 (by omega)), oF s (q 4 (by omega))⟩
  have hL2 : LWs n t I2 F2 ow (F 5) (I 49) := LWs_fr (Nat.le_refl _) (fun _ _ _ => rfl) (fun s h1 _ h3 => (hw s h1 h3).2) (fun s h1 _ h3 => (hw s h1 h3).1) hL
  obtain ⟨w1, w2, w3, w4⟩ := hW
  obtain ⟨N, T, hKW, _⟩ := id hK
  refine ⟨⟨w1, w2, w3, fun a j hj => ?_⟩, hb0, ?_, ?_, ?_, ?_, ?_, ?_, ow, ?_, fun k' hk' => ?_⟩
  · dsimp only
    by_cases e : a = b + 4
    · have : (am_wf a j) = none := by
        unfold am_wf
        split <;> first | omega | rfl
      rw [this] at hj
      cases hj
    · rw [oF a e]
      exact w4 a j hj
  · dsimp only
    rw [os 1 (by omega) (by omega), os 2 (by omega) (by omega), os 3 (by omega) (by omega), os 4 (by omega) (by omega), o49]
    exact hK
  · dsimp only
    rw [os 46 (by omega) (by omega), o48, o0, o470]
    exact ⟨hR.1, rfl⟩
  · dsimp only
    rw [os 9 (by omega) (by omega), o47 9 (by omega)]
    exact h9
  · dsimp only
    rw [os 7 (by omega) (by omega), os 8 (by omega) (by omega), o47 8 (by omega), o2 53 (by omega) (by omega)]
    exact hT
  · dsimp only
    rw [o2 52 (by omega) (by omega)]
    exact hO
  · dsimp only
    rw [os 41 (by omega) (by omega), os 42 (by omega) (by omega), os 43 (by omega) (by omega), o47 38 (by omega), o2 69 (by omega) (by omega), o2 70 (by omega) (by omega), o2 71 (by omega) (by omega), o2 72 (by omega) (by omega)]
    exact hD
  · dsimp only
    rw [o49, oF 5 (by omega)]
    exact hL2
  · dsimp only
    rw [oF 6 (by omega)]
    by_cases e : k' = k
    · subst e
      refine Or.inr ⟨o51, b, hF6, ⟨hb.1, hb.2⟩, how, htb, ?_, ?_, ?_⟩
      · rw [oF b (by omega)]
        exact hFb
      · rw [ob4, ob5, ob1, ob2, ob3, o50]
        refine KR_c hK (fun j hj => ?_) (fun j hj => ?_) (fun j hj => ?_) (fun j hj => ?_)
        · unfold va_cpy; rw [if_pos (by omega), Nat.zero_add, Nat.sub_zero]
        · unfold va_cpy; rw [if_pos (by omega), Nat.zero_add, Nat.sub_zero]
        · unfold va_cpy; rw [if_pos (by omega), Nat.zero_add, Nat.sub_zero]
        · unfold im1; rw [if_pos (by omega), Nat.add_sub_cancel_left]
      · rw [oFb, o50]
        refine LWs_c hL2 ?_ (fun j hj => ?_) (fun j hj hj2 => ?_)
        · rw [hKW.2.2.2.1, nI_clamp (by have := hKW.2.1; omega)]; exact hKW.2.1
        · unfold cpl; rw [if_pos hj]
        · unfold im1; rw [if_pos (by omega), Nat.add_sub_cancel_left]
    · rw [o51' k' e]
      rcases hI k' hk' e with q | ⟨q1, b', q2, q3⟩
      · exact Or.inl q
      · refine Or.inr ⟨q1, b', q2, ?_⟩
        have e5 : ∀ i, i < 9823 → I2 50 (9823 * k' + i) = I 50 (9823 * k' + i) := fun i hi => by
          rw [o50]
          unfold im1
          rw [if_neg (by omega)]
        have q4 := IMo_fr (n' := n) (t' := t) (I' := I2) (F' := F2) (Nat.le_refl _) (fun _ _ _ => rfl) (fun s h1 _ h3 => (hwk k' e s h1 h3).2) (fun s h1 _ h3 => (hwk k' e s h1 h3).1) q3
        obtain ⟨r1, r2, r3, r4, r5, r6⟩ := q4
        refine ⟨r1, r2, r3, r4, ?_, ?_⟩
        · refine KR_c r5 (fun _ _ => rfl) (fun _ _ => rfl) (fun _ _ => rfl) (fun j hj => e5 j (by omega))
        · obtain ⟨N', T', hKW', _⟩ := r5
          refine LWs_c r6 ?_ (fun _ _ => rfl) (fun j hj hj2 => e5 j hj2)
          have q7 := hKW'.2.2.2.1
          dsimp only at q7 ⊢
          rw [q7, nI_clamp (by have := hKW'.2.1; omega)]
          exact hKW'.2.1
end I2
