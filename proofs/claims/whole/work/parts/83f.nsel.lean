/-! the nearest set: what is chosen -/
section NT
variable {X : am_X} {d : Nat} {Q : Option Value → am_H → Prop} {n sl : Nat} {t : Nat → Nat × Nat} {I : Nat → Nat → Int32} {J : Nat → Nat → Int64} {F : Nat → Nat → Option Nat} {h : am_H}
variable {K : Nat → Int32} {N T : Nat} {lw : Nat → List CL} {LL SS : List Nat} {th : Nat → Int32}
def farN (w l : Nat) : Nat := if l < w then w - l else l - w
/-- the first set by which it is nearest -/
def bsel (w l : Nat → Nat) : Nat → Option (Nat × Nat)
  | 0 => none
  | s + 1 => if w s + l s = 0 then bsel w l s else (match bsel w l s with
    | none => some (s, farN (w s) (l s))
    | some p => if farN (w s) (l s) < p.2 then some (s, farN (w s) (l s)) else some p)
theorem bsel_b {w l : Nat → Nat} (h : ∀ s, w s < 14400 ∧ l s < 14400) : ∀ s p, bsel w l s = some p → p.1 < s ∧ p.2 < 14400 := by
  intro s
  induction s with
  | zero => intro p q; cases q
  | succ s ih =>
    intro p q
    have hf : farN (w s) (l s) < 14400 := by
      have := h s
      unfold farN
      split <;> omega
    rw [bsel] at q
    by_cases h0 : w s + l s = 0
    · rw [if_pos h0] at q
      have := ih p q
      omega
    · rw [if_neg h0] at q
      cases hb : bsel w l s with
      | none =>
        rw [hb] at q
        cases q
        exact ⟨by dsimp only; omega, hf⟩
      | some p' =>
        rw [hb] at q
        dsimp only at q
        have h1 := ih p' hb
        by_cases hc : farN (w s) (l s) < p'.2
        · rw [if_pos hc] at q
          cases q
          exact ⟨by dsimp only; omega, hf⟩
        · rw [if_neg hc] at q
          cases q
          omega
def chv : Option (Nat × Nat) → Int32
  | none => -1
  | some p => nI p.1
def lsv : Option (Nat × Nat) → Int32
  | none => nI 14400
  | some p => nI p.2
def lrv : Option (Nat × Nat) → Int32
  | none => 0
  | some p => nI p.2
theorem nI_sub {a b : Nat} (h : b ≤ a) : nI a - nI b = nI (a - b) := (Int32.ofNat_sub a b h).symm
theorem abs_d {a b : Nat} (ha : a < 14400) (hb : b < 14400) : (if 0 ≤ nI a - nI b then nI a - nI b else 0 - (nI a - nI b)) = nI (farN a b) := by
  unfold farN
  by_cases h : b < a
  · rw [if_pos h, nI_sub (by omega), if_pos (show (0 : Int32) ≤ nI (a - b) from nI_pos' (by omega))]
  · rw [if_neg h]
    by_cases h2 : a = b
    · subst h2
      rw [Int32.sub_self, Nat.sub_self]
      rfl
    · have e : nI a - nI b = -nI (b - a) := by
        rw [← nI_sub (show a ≤ b by omega), Int32.neg_sub]
      have e2 : ¬ (0 : Int32) ≤ -nI (b - a) := by
        rw [Int32.le_iff_toInt_le]
        have h3 : nI (b - a) ≠ Int32.minValue := by
          intro q
          have := congrArg Int32.toInt q
          rw [nI_toInt (by omega)] at this
          have e : Int32.minValue.toInt = -2147483648 := by decide
          omega
        have e3 : (-nI (b - a)).toInt = -(nI (b - a)).toInt := by
          rw [Int32.toInt_neg, nI_toInt (by omega)]
          rw [Int.bmod_eq_of_le] <;> omega
        rw [e3, nI_toInt (by omega)]
        have : Int32.toInt 0 = 0 := by decide
        omega
      rw [e, if_neg e2, Int32.zero_sub, Int32.neg_neg]
theorem cl_sel {w l : Nat → Nat} (hW : WS n t F) (h : ∀ s, w s < 14400 ∧ l s < 14400) : am_W X (d + 3) 132 12 [some (.ref 28), some (.int (nI 14400)), some (.int (-1)), some (.int 0)] [] (n, sl, t, ns2 37 38 I (fun s => nI (w s) - nI (l s)) (fun s => nI (w s + l s)), J, F) Q ↔ Q (some (.int (chv (bsel w l 256)))) (n, sl, t, ns2 37 38 I (fun s => nI (w s) - nI (l s)) (fun s => nI (w s + l s)), J, F) := by
  obtain ⟨hn, hn2, ht, hF⟩ := id hW
  refine lp0 (A := fun s => am_W X (d + 3) 132 12 [some (.ref 28), some (.int (lsv (bsel w l s))), some (.int (chv (bsel w l s))), some (.int (nI s))] [] (n, sl, t, ns2 37 38 I (fun s => nI (w s) - nI (l s)) (fun s => nI (w s + l s)), J, F) Q ↔ Q (some (.int (chv (bsel w l 256)))) (n, sl, t, ns2 37 38 I (fun s => nI (w s) - nI (l s)) (fun s => nI (w s + l s)), J, F)) (N := 256) ?_ ?_
  · intro s hs ih
    have hb := bsel_b h s
    have hws := h s
    have y1 : s < 2000000 ∧ s < 256 ∧ w s + l s < 2000000 := by omega
    have y2 : ¬ 256 ≤ s := by omega
    have ea := abs_d hws.1 hws.2
    have hf : farN (w s) (l s) < 14400 := by
      unfold farN
      split <;> omega
    have hf2 : farN (w s) (l s) < 2000000 := by omega
    rw [bsel] at ih
    rw [r132_12]
    by_cases h0 : w s + l s = 0
    · have h0' : w s + l s ≤ 0 := by omega
      rw [if_pos h0] at ih
      simp only [↓r132_13, ↓r132_16, ↓r132_19, ↓r132_20, ↓r132_23, ↓r132_24, ↓r132_24k, ↓r132_25, ↓r132_28, ↓r132_29, ↓r132_32, ↓r132_33, ↓r132_33k, ↓r132_34, ↓r132_37, ↓r132_38, ↓r132_41, ↓r132_42, ↓r132_45, ↓r132_46, ↓r132_46k, ↓r132_47, ↓r132_50, ↓r132_51, ↓r132_52, ↓r132_53, ↓r132_56, q_le, q_lt, q_eq, q_e0, q_e1, q_0e, q_1e, ps_n0, q_0le, q_le0, q_0lt, q_m1e, q_em1, y1, y2, h0', ns2_a, ns2_b, Bool.false_eq_true, hn, hn2, ht, hF, am_wt, am_wf, Option.isSome_some, am_rf_s, am_rf_n, ps_lit, nI_add, nI_1, pk_mul, ps_cl, ps_neg, ps_c0, ps_c1, ps_n01, ps_n11, ps_10, ps_b01, ps_e0, pu_Ine, pu_Ieq, pu_ne, pu_eq, am_k_n, am_k_i, am_k_r, am_k_u, am_k_l, am_sz_0, am_sz_i, am_sz_r, am_sz_u, am_sz_l, Option.toList_some, Option.toList_none, List.cons_append, List.nil_append, true_and, and_true, or_false, false_or, or_self, or_true, true_or, not_false_eq_true, not_true_eq_false, Classical.not_not, ne_eq, ps_e1, ps_em, ps_z, Nat.not_le, false_implies, true_implies, forall_const, ps_01, ps_1n, ps_0n, ps_m10, ps_m1n, lg_cmp_gt, lg_cmp_ge, lg_cmp_le, lg_cmp_lt, lg_cmp_eq, pu_rne, pu_req, pu_uro, RFc_n, Nat.reduceAdd, Nat.reduceMul, Nat.reduceLT, Nat.reduceLeDiff, Nat.reduceEqDiff, Nat.reduceSub]
      exact ih
    · have h0' : ¬ w s + l s ≤ 0 := by omega
      rw [if_neg h0] at ih
      cases hc : bsel w l s with
      | none =>
        rw [hc] at ih
        have e1 : ¬ 14400 ≤ farN (w s) (l s) := by omega
        simp only [lsv, chv] at ih ⊢
        simp only [↓r132_13, ↓r132_16, ↓r132_19, ↓r132_20, ↓r132_23, ↓r132_24, ↓r132_24k, ↓r132_25, ↓r132_28, ↓r132_29, ↓r132_32, ↓r132_33, ↓r132_33k, ↓r132_34, ↓r132_37, ↓r132_38, ↓r132_41, ↓r132_42, ↓r132_45, ↓r132_46, ↓r132_46k, ↓r132_47, ↓r132_50, ↓r132_51, ↓r132_52, ↓r132_53, ↓r132_56, q_le, q_lt, q_eq, q_e0, q_e1, q_0e, q_1e, ps_n0, q_0le, q_le0, q_0lt, q_m1e, q_em1, y1, y2, h0', ea, e1, hf2, ns2_a, ns2_b, Bool.false_eq_true, hn, hn2, ht, hF, am_wt, am_wf, Option.isSome_some, am_rf_s, am_rf_n, ps_lit, nI_add, nI_1, pk_mul, ps_cl, ps_neg, ps_c0, ps_c1, ps_n01, ps_n11, ps_10, ps_b01, ps_e0, pu_Ine, pu_Ieq, pu_ne, pu_eq, am_k_n, am_k_i, am_k_r, am_k_u, am_k_l, am_sz_0, am_sz_i, am_sz_r, am_sz_u, am_sz_l, Option.toList_some, Option.toList_none, List.cons_append, List.nil_append, true_and, and_true, or_false, false_or, or_self, or_true, true_or, not_false_eq_true, not_true_eq_false, Classical.not_not, ne_eq, ps_e1, ps_em, ps_z, Nat.not_le, false_implies, true_implies, forall_const, ps_01, ps_1n, ps_0n, ps_m10, ps_m1n, lg_cmp_gt, lg_cmp_ge, lg_cmp_le, lg_cmp_lt, lg_cmp_eq, pu_rne, pu_req, pu_uro, RFc_n, Nat.reduceAdd, Nat.reduceMul, Nat.reduceLT, Nat.reduceLeDiff, Nat.reduceEqDiff, Nat.reduceSub]
        exact ih
      | some p =>
        rw [hc] at ih
        obtain ⟨p1, p2⟩ := hb p hc
        have p3 : p.2 < 2000000 := by omega
        dsimp only at ih
        by_cases hd : farN (w s) (l s) < p.2
        · have e1 : ¬ p.2 ≤ farN (w s) (l s) := by omega
          rw [if_pos hd] at ih
          simp only [lsv, chv] at ih ⊢
          simp only [↓r132_13, ↓r132_16, ↓r132_19, ↓r132_20, ↓r132_23, ↓r132_24, ↓r132_24k, ↓r132_25, ↓r132_28, ↓r132_29, ↓r132_32, ↓r132_33, ↓r132_33k, ↓r132_34, ↓r132_37, ↓r132_38, ↓r132_41, ↓r132_42, ↓r132_45, ↓r132_46, ↓r132_46k, ↓r132_47, ↓r132_50, ↓r132_51, ↓r132_52, ↓r132_53, ↓r132_56, q_le, q_lt, q_eq, q_e0, q_e1, q_0e, q_1e, ps_n0, q_0le, q_le0, q_0lt, q_m1e, q_em1, y1, y2, h0', ea, e1, hf2, p3, ns2_a, ns2_b, Bool.false_eq_true, hn, hn2, ht, hF, am_wt, am_wf, Option.isSome_some, am_rf_s, am_rf_n, ps_lit, nI_add, nI_1, pk_mul, ps_cl, ps_neg, ps_c0, ps_c1, ps_n01, ps_n11, ps_10, ps_b01, ps_e0, pu_Ine, pu_Ieq, pu_ne, pu_eq, am_k_n, am_k_i, am_k_r, am_k_u, am_k_l, am_sz_0, am_sz_i, am_sz_r, am_sz_u, am_sz_l, Option.toList_some, Option.toList_none, List.cons_append, List.nil_append, true_and, and_true, or_false, false_or, or_self, or_true, true_or, not_false_eq_true, not_true_eq_false, Classical.not_not, ne_eq, ps_e1, ps_em, ps_z, Nat.not_le, false_implies, true_implies, forall_const, ps_01, ps_1n, ps_0n, ps_m10, ps_m1n, lg_cmp_gt, lg_cmp_ge, lg_cmp_le, lg_cmp_lt, lg_cmp_eq, pu_rne, pu_req, pu_uro, RFc_n, Nat.reduceAdd, Nat.reduceMul, Nat.reduceLT, Nat.reduceLeDiff, Nat.reduceEqDiff, Nat.reduceSub]
          exact ih
        · have e1 : p.2 ≤ farN (w s) (l s) := by omega
          rw [if_neg hd] at ih
          simp only [lsv, chv] at ih ⊢
          simp only [↓r132_13, ↓r132_16, ↓r132_19, ↓r132_20, ↓r132_23, ↓r132_24, ↓r132_24k, ↓r132_25, ↓r132_28, ↓r132_29, ↓r132_32, ↓r132_33, ↓r132_33k, ↓r132_34, ↓r132_37, ↓r132_38, ↓r132_41, ↓r132_42, ↓r132_45, ↓r132_46, ↓r132_46k, ↓r132_47, ↓r132_50, ↓r132_51, ↓r132_52, ↓r132_53, ↓r132_56, q_le, q_lt, q_eq, q_e0, q_e1, q_0e, q_1e, ps_n0, q_0le, q_le0, q_0lt, q_m1e, q_em1, y1, y2, h0', ea, e1, hf2, p3, ns2_a, ns2_b, Bool.false_eq_true, hn, hn2, ht, hF, am_wt, am_wf, Option.isSome_some, am_rf_s, am_rf_n, ps_lit, nI_add, nI_1, pk_mul, ps_cl, ps_neg, ps_c0, ps_c1, ps_n01, ps_n11, ps_10, ps_b01, ps_e0, pu_Ine, pu_Ieq, pu_ne, pu_eq, am_k_n, am_k_i, am_k_r, am_k_u, am_k_l, am_sz_0, am_sz_i, am_sz_r, am_sz_u, am_sz_l, Option.toList_some, Option.toList_none, List.cons_append, List.nil_append, true_and, and_true, or_false, false_or, or_self, or_true, true_or, not_false_eq_true, not_true_eq_false, Classical.not_not, ne_eq, ps_e1, ps_em, ps_z, Nat.not_le, false_implies, true_implies, forall_const, ps_01, ps_1n, ps_0n, ps_m10, ps_m1n, lg_cmp_gt, lg_cmp_ge, lg_cmp_le, lg_cmp_lt, lg_cmp_eq, pu_rne, pu_req, pu_uro, RFc_n, Nat.reduceAdd, Nat.reduceMul, Nat.reduceLT, Nat.reduceLeDiff, Nat.reduceEqDiff, Nat.reduceSub]
          exact ih
  · rw [r132_12]
    simp only [↓r132_13, ↓r132_16, ↓r132_59, ↓r132_60, q_le, q_lt, q_eq, q_e0, q_e1, q_0e, q_1e, ps_n0, q_0le, q_le0, q_0lt, q_m1e, q_em1, Bool.false_eq_true, hn, hn2, ht, hF, am_wt, am_wf, Option.isSome_some, am_rf_s, am_rf_n, ps_lit, nI_add, nI_1, pk_mul, ps_cl, ps_neg, ps_c0, ps_c1, ps_n01, ps_n11, ps_10, ps_b01, ps_e0, pu_Ine, pu_Ieq, pu_ne, pu_eq, am_k_n, am_k_i, am_k_r, am_k_u, am_k_l, am_sz_0, am_sz_i, am_sz_r, am_sz_u, am_sz_l, Option.toList_some, Option.toList_none, List.cons_append, List.nil_append, true_and, and_true, or_false, false_or, or_self, or_true, true_or, not_false_eq_true, not_true_eq_false, Classical.not_not, ne_eq, ps_e1, ps_em, ps_z, Nat.not_le, false_implies, true_implies, forall_const, ps_01, ps_1n, ps_0n, ps_m10, ps_m1n, lg_cmp_gt, lg_cmp_ge, lg_cmp_le, lg_cmp_lt, lg_cmp_eq, pu_rne, pu_req, pu_uro, RFc_n, Nat.reduceAdd, Nat.reduceMul, Nat.reduceLT, Nat.reduceLeDiff, Nat.reduceEqDiff, Nat.reduceSub]
/-! the class's sums are those of the reference -/
theorem smI_sb {g h : Nat → Nat} {f : Nat → Int32} : ∀ j, (∀ i, i < j → f i = nI (g i) - nI (h i)) → smI f j = nI (sm g j) - nI (sm h j) := by
  intro j
  induction j with
  | zero => intro _; show (0 : Int32) = nI 0 - nI 0; decide
  | succ j ih =>
    intro q
    rw [smI, sm, sm, ih (fun i hi => q i (by omega)), q j (by omega), ← nI_add, ← nI_add, Int32.sub_eq_add_neg, Int32.sub_eq_add_neg, Int32.sub_eq_add_neg, Int32.neg_add, Int32.sub_eq_add_neg]
    ac_rfl
theorem smI_nat {g : Nat → Nat} {f : Nat → Int32} : ∀ j, (∀ i, i < j → f i = nI (g i)) → smI f j = nI (sm g j) := by
  intro j
  induction j with
  | zero => intro _; rfl
  | succ j ih =>
    intro q
    rw [smI, sm, ih (fun i hi => q i (by omega)), q j (by omega), ← nI_add]
theorem sm_ad {g h : Nat → Nat} : ∀ j, sm (fun i => g i + h i) j = sm g j + sm h j := by
  intro j
  induction j with
  | zero => rfl
  | succ j ih => rw [sm, sm, sm, ih]; omega
theorem cmv_w {a b : Int32} : cmv a b = nI (if b < a then 1 else 0) - nI (if a < b then 1 else 0) := by
  unfold cmv
  by_cases h1 : a < b
  · have h2 : ¬ b < a := fun q => Int32.lt_irrefl (Int32.lt_trans h1 q)
    rw [if_pos h1, if_neg h2, if_pos h1]; rfl
  · by_cases h3 : a = b
    · subst h3
      rw [if_neg h1, if_pos rfl, if_neg h1]; rfl
    · have h2 : b < a := by
        rcases Int32.lt_or_le b a with q | q
        · exact q
        · exact absurd (Int32.le_antisymm (Int32.not_lt.mp (fun z => h1 z)) q).symm (fun z => h3 z)
      rw [if_neg h1, if_neg h3, if_pos h2, if_neg h1]; rfl
theorem dcv_w {a b : Int32} : dcv a b = nI ((if b < a then 1 else 0) + (if a < b then 1 else 0)) := by
  unfold dcv cmv
  by_cases h1 : a < b
  · have h2 : ¬ b < a := fun q => Int32.lt_irrefl (Int32.lt_trans h1 q)
    rw [if_pos h1, if_neg h2, if_pos h1]; rfl
  · by_cases h3 : a = b
    · subst h3
      rw [if_neg h1, if_pos rfl, if_neg h1]; rfl
    · have h2 : b < a := by
        rcases Int32.lt_or_le b a with q | q
        · exact q
        · exact absurd (Int32.le_antisymm (Int32.not_lt.mp (fun z => h1 z)) q).symm (fun z => h3 z)
      rw [if_neg h1, if_neg h3, if_pos h2, if_neg h1]; rfl
theorem bal_W {f : Nat → Int32} {s : Nat} (hs : s < 256) : bal 8 (fun i k => cmv (th (LL.getD i 0)) (th (SS.getD k 0))) (fun i k => alk f (LL.getD i 0) (SS.getD k 0) 8) LL.length SS.length s = nI (s2 (cW f s th) LL SS LL.length) - nI (s2 (cL f s th) LL SS LL.length) := by
  rw [bal_8 hs]
  unfold s2
  refine smI_sb _ (fun i _ => ?_)
  unfold s1
  refine smI_sb _ (fun k _ => ?_)
  unfold cW cL alq
  by_cases h : alk f (LL.getD i 0) (SS.getD k 0) 8 &&& s = s
  · rw [if_pos h, if_pos (decide_eq_true h), if_pos (decide_eq_true h), cmv_w]
  · rw [if_neg h, if_neg (fun q => h (of_decide_eq_true q)), if_neg (fun q => h (of_decide_eq_true q))]; rfl
theorem bal_D {f : Nat → Int32} {s : Nat} (hs : s < 256) : bal 8 (fun i k => dcv (th (LL.getD i 0)) (th (SS.getD k 0))) (fun i k => alk f (LL.getD i 0) (SS.getD k 0) 8) LL.length SS.length s = nI (s2 (cW f s th) LL SS LL.length + s2 (cL f s th) LL SS LL.length) := by
  rw [bal_8 hs]
  unfold s2
  rw [← sm_ad]
  refine smI_nat _ (fun i _ => ?_)
  unfold s1
  rw [← sm_ad]
  refine smI_nat _ (fun k _ => ?_)
  unfold cW cL alq
  by_cases h : alk f (LL.getD i 0) (SS.getD k 0) 8 &&& s = s
  · rw [if_pos h, if_pos (decide_eq_true h), if_pos (decide_eq_true h), dcv_w]
  · rw [if_neg h, if_neg (fun q => h (of_decide_eq_true q)), if_neg (fun q => h (of_decide_eq_true q))]; rfl
theorem cl_near {r : Nat} {w l : Nat → Nat} (hW : WS n t F) (hD : SDH I F r LL SS th) (hw : ∀ s, s < 256 → s2 (cW (I r) s th) LL SS LL.length = w s) (hl : ∀ s, s < 256 → s2 (cL (I r) s th) LL SS LL.length = l s) (h : ∀ s, w s < 14400 ∧ l s < 14400) : am_W X (d + 3) 132 0 [some (.ref 28), none, none, none] [] (n, sl, t, I, J, F) Q ↔ Q (some (.int (chv (bsel w l 256)))) (n, sl, t, ns2 37 38 I (fun s => nI (w s) - nI (l s)) (fun s => nI (w s + l s)), J, F) := by
  obtain ⟨hn, hn2, ht, hF⟩ := id hW
  refine Iff.trans ?_ (cl_sel (X := X) (d := d) (Q := Q) (sl := sl) (J := J) (I := I) hW h)
  simp only [↓r132_0, ↓r132_1, Bool.false_eq_true, hn, hn2, ht, hF, am_wt, am_wf, Option.isSome_some, am_rf_s, am_rf_n, ps_lit, nI_add, nI_1, pk_mul, ps_cl, ps_neg, ps_c0, ps_c1, ps_n01, ps_n11, ps_10, ps_b01, ps_e0, pu_Ine, pu_Ieq, pu_ne, pu_eq, am_k_n, am_k_i, am_k_r, am_k_u, am_k_l, am_sz_0, am_sz_i, am_sz_r, am_sz_u, am_sz_l, Option.toList_some, Option.toList_none, List.cons_append, List.nil_append, true_and, and_true, or_false, false_or, or_self, or_true, true_or, not_false_eq_true, not_true_eq_false, Classical.not_not, ne_eq, ps_e1, ps_em, ps_z, Nat.not_le, false_implies, true_implies, forall_const, ps_01, ps_1n, ps_0n, ps_m10, ps_m1n, lg_cmp_gt, lg_cmp_ge, lg_cmp_le, lg_cmp_lt, lg_cmp_eq, pu_rne, pu_req, pu_uro, RFc_n, Nat.reduceAdd, Nat.reduceMul, Nat.reduceLT, Nat.reduceLeDiff, Nat.reduceEqDiff, Nat.reduceSub]
  refine cl_cnt hW hD (fun l1 l2 l3 l4 => ?_)
  have x0 : ns2 37 38 I (nv (fun a b => cmv (th a) (th b)) (fun a b => alk (I r) a b 8) LL SS LL.length 0) (nv (fun a b => dcv (th a) (th b)) (fun a b => alk (I r) a b 8) LL SS LL.length 0) = ns2 37 38 I (bal 0 (fun i k => cmv (th (LL.getD i 0)) (th (SS.getD k 0))) (fun i k => alk (I r) (LL.getD i 0) (SS.getD k 0) 8) LL.length SS.length) (bal 0 (fun i k => dcv (th (LL.getD i 0)) (th (SS.getD k 0))) (fun i k => alk (I r) (LL.getD i 0) (SS.getD k 0) 8) LL.length SS.length) := ns2_c (fun e he => nv_end (v := fun a b => cmv (th a) (th b)) (e := fun a b => alk (I r) a b 8) (fun _ _ => bN_lt _ 8) he) (fun e he => nv_end (v := fun a b => dcv (th a) (th b)) (e := fun a b => alk (I r) a b 8) (fun _ _ => bN_lt _ 8) he)
  have x8 : ns2 37 38 I (bal 8 (fun i k => cmv (th (LL.getD i 0)) (th (SS.getD k 0))) (fun i k => alk (I r) (LL.getD i 0) (SS.getD k 0) 8) LL.length SS.length) (bal 8 (fun i k => dcv (th (LL.getD i 0)) (th (SS.getD k 0))) (fun i k => alk (I r) (LL.getD i 0) (SS.getD k 0) 8) LL.length SS.length) = ns2 37 38 I (fun s => nI (w s) - nI (l s)) (fun s => nI (w s + l s)) := ns2_c (fun e he => by rw [bal_W he, hw e he, hl e he]) (fun e he => by rw [bal_D he, hw e he, hl e he])
  rw [x0]
  simp only [↓r133_114, ↓r133_115, Bool.false_eq_true, hn, hn2, ht, hF, am_wt, am_wf, Option.isSome_some, am_rf_s, am_rf_n, ps_lit, nI_add, nI_1, pk_mul, ps_cl, ps_neg, ps_c0, ps_c1, ps_n01, ps_n11, ps_10, ps_b01, ps_e0, pu_Ine, pu_Ieq, pu_ne, pu_eq, am_k_n, am_k_i, am_k_r, am_k_u, am_k_l, am_sz_0, am_sz_i, am_sz_r, am_sz_u, am_sz_l, Option.toList_some, Option.toList_none, List.cons_append, List.nil_append, true_and, and_true, or_false, false_or, or_self, or_true, true_or, not_false_eq_true, not_true_eq_false, Classical.not_not, ne_eq, ps_e1, ps_em, ps_z, Nat.not_le, false_implies, true_implies, forall_const, ps_01, ps_1n, ps_0n, ps_m10, ps_m1n, lg_cmp_gt, lg_cmp_ge, lg_cmp_le, lg_cmp_lt, lg_cmp_eq, pu_rne, pu_req, pu_uro, RFc_n, Nat.reduceAdd, Nat.reduceMul, Nat.reduceLT, Nat.reduceLeDiff, Nat.reduceEqDiff, Nat.reduceSub]
  rw [cl_bits hW, x8]
  simp only [↓r132_4, ↓r132_7, ↓r132_8, ↓r132_9, ↓r132_10, ↓r132_11, Bool.false_eq_true, hn, hn2, ht, hF, am_wt, am_wf, Option.isSome_some, am_rf_s, am_rf_n, ps_lit, nI_add, nI_1, pk_mul, ps_cl, ps_neg, ps_c0, ps_c1, ps_n01, ps_n11, ps_10, ps_b01, ps_e0, pu_Ine, pu_Ieq, pu_ne, pu_eq, am_k_n, am_k_i, am_k_r, am_k_u, am_k_l, am_sz_0, am_sz_i, am_sz_r, am_sz_u, am_sz_l, Option.toList_some, Option.toList_none, List.cons_append, List.nil_append, true_and, and_true, or_false, false_or, or_self, or_true, true_or, not_false_eq_true, not_true_eq_false, Classical.not_not, ne_eq, ps_e1, ps_em, ps_z, Nat.not_le, false_implies, true_implies, forall_const, ps_01, ps_1n, ps_0n, ps_m10, ps_m1n, lg_cmp_gt, lg_cmp_ge, lg_cmp_le, lg_cmp_lt, lg_cmp_eq, pu_rne, pu_req, pu_uro, RFc_n, Nat.reduceAdd, Nat.reduceMul, Nat.reduceLT, Nat.reduceLeDiff, Nat.reduceEqDiff, Nat.reduceSub]
end NT
