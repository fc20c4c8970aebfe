/-! calls, one on each side: chance, waits -/
section TE
variable {X : am_X} {d : Nat} {Q : Option Value → am_H → Prop} {n sl : Nat} {t : Nat → Nat × Nat} {I : Nat → Nat → Int32} {J : Nat → Nat → Int64} {F : Nat → Nat → Option Nat} {h : am_H}
variable {K : Nat → Int32} {N T : Nat} {lw : Nat → List CL}
/-- the nearest from lo to hi -/
def nearN (v : Int) (lo hi : Nat) : Nat := if v < lo then lo else if hi < v then hi else v.toNat
theorem nearN_le {v : Int} {lo hi : Nat} (h : lo ≤ hi) : lo ≤ nearN v lo hi ∧ nearN v lo hi ≤ hi := by
  unfold nearN
  split
  · omega
  · split <;> omega
theorem oI_toInt {v : Int} (h1 : -1000000000 ≤ v) (h2 : v ≤ 1000000000) : (Int32.ofInt v).toInt = v := by
  rw [Int32.toInt_ofInt]
  exact Int.bmod_eq_of_le_mul_two (y := 4294967296) (by omega) (by omega)
theorem near_c {v : Int} {lo hi : Nat} (h1 : -1000000000 ≤ v) (h2 : v ≤ 1000000000) (hl : lo ≤ hi) (hh : hi < 2000) : (if nI lo < (if Int32.ofInt v < nI hi then Int32.ofInt v else nI hi) then (if Int32.ofInt v < nI hi then Int32.ofInt v else nI hi) else nI lo) = nI (nearN v lo hi) := by
  have e0 := oI_toInt h1 h2
  have e1 : (Int32.ofInt v < nI hi) ↔ v < hi := by rw [Int32.lt_iff_toInt_lt, e0, nI_toInt (by omega)]
  have e2 : (nI lo < Int32.ofInt v) ↔ lo < v := by rw [Int32.lt_iff_toInt_lt, e0, nI_toInt (by omega)]
  have e3 : (nI lo < nI hi) ↔ lo < hi := nI_ltI (by omega) (by omega)
  have e4 : 0 ≤ v → v < 2000 → Int32.ofInt v = nI v.toNat := fun a b => by
    apply Int32.toInt_inj.mp
    rw [e0, nI_toInt (by omega)]
    omega
  unfold nearN
  by_cases c1 : v < hi
  · rw [if_pos (e1.mpr c1)]
    by_cases c2 : lo < v
    · rw [if_pos (e2.mpr c2), if_neg (by omega), if_neg (by omega)]
      exact e4 (by omega) (by omega)
    · rw [if_neg (fun q => c2 (e2.mp q))]
      by_cases c3 : v < lo
      · rw [if_pos c3]
      · rw [if_neg c3, if_neg (by omega), show v = (lo : Int) by omega]
        rfl
  · rw [if_neg (fun q => c1 (e1.mp q))]
    by_cases c2 : lo < hi
    · rw [if_pos (e3.mpr c2), if_neg (by omega)]
      by_cases c3 : (hi : Int) < v
      · rw [if_pos c3]
      · rw [if_neg c3, show v = (hi : Int) by omega]
        rfl
    · rw [if_neg (fun q => c2 (e3.mp q)), if_neg (by omega)]
      by_cases c3 : (hi : Int) < v
      · rw [if_pos c3]
        congr 1
        omega
      · rw [if_neg c3, show v = (hi : Int) by omega]
        congr 1
        omega
theorem oI_un {v : Int} (h1 : -1000000000 ≤ v) (h2 : v ≤ 1000000000) : ¬ Int32.ofInt v = -nI 2000000000 := by
  intro q
  have e0 := oI_toInt h1 h2
  rw [q] at e0
  have e1 : (-nI 2000000000).toInt = -2000000000 := by decide
  omega
theorem oL_toInt {v : Int} (h1 : -1000000000 ≤ v) (h2 : v ≤ 1000000000) : (Int64.ofInt v).toInt = v := by
  rw [Int64.toInt_ofInt]
  exact Int.bmod_eq_of_le_mul_two (y := 18446744073709551616) (by omega) (by omega)
theorem s_near {v : Int} {lo hi : Nat} (h1 : -1000000000 ≤ v) (h2 : v ≤ 1000000000) (hl : lo ≤ hi) (hh : hi < 2000) : am_W X d 252 0 [some (.long (Int64.ofInt v)), none, some (.int (nI lo)), some (.int (nI hi))] [] (n, sl, t, I, J, F) Q ↔ Q (some (.int (nI (nearN v lo hi)))) (n, sl, t, I, J, F) := by
  have e0 := oL_toInt h1 h2
  have e1 : ((nI lo).toInt64 ≤ Int64.ofInt v) ↔ (lo : Int) ≤ v := by rw [Int64.le_iff_toInt_le, e0, Int32.toInt_toInt64, nI_toInt (by omega)]
  have e2 : (Int64.ofInt v ≤ (nI hi).toInt64) ↔ v ≤ hi := by rw [Int64.le_iff_toInt_le, e0, Int32.toInt_toInt64, nI_toInt (by omega)]
  have e3 : (lo : Int) ≤ v → v ≤ hi → (Int64.ofInt v).toInt32 = nI v.toNat := fun a b => by
    have : Int64.ofInt v = lN v.toNat := by
      apply Int64.toInt_inj.mp
      rw [e0, lN_toInt (by omega)]
      omega
    rw [this, lN_i]
  unfold nearN
  by_cases c1 : (lo : Int) ≤ v
  · by_cases c2 : v ≤ hi
    · rw [if_neg (by omega), if_neg (by omega)]
      simp only [↓r252_0, ↓r252_1, ↓r252_2, ↓r252_3, ↓r252_4, ↓r252_7, ↓r252_8, ↓r252_11, ↓r252_12, ↓r252_13, ↓r252_14, ↓r252_15, ↓r252_18, ↓r252_19, ↓r252_22, ↓r252_23, ↓r252_24, lg_cmp_ge, lg_cmp_le, e1.mpr c1, e2.mpr c2, e3 c1 c2, Bool.false_eq_true, ps_lit, nI_add, nI_1, pk_mul, ps_cl, ps_neg, ps_c0, ps_c1, ps_n01, ps_n11, ps_10, ps_01, ps_1n, ps_0n, ps_b01, ps_e0, am_k_n, am_k_i, am_k_r, am_k_u, am_k_l, am_sz_0, am_sz_i, am_sz_r, am_sz_u, am_sz_l, Option.toList_some, Option.toList_none, List.cons_append, List.nil_append, true_and, and_true, or_false, false_or, or_self, or_true, true_or, and_self, if_true, if_false, not_false_eq_true, not_true_eq_false, Classical.not_not, ne_eq, ps_e1, ps_em, ps_z, Nat.not_le, false_implies, true_implies, forall_const, Nat.reduceAdd, Nat.reduceMul, Nat.reduceLT, Nat.reduceLeDiff, Nat.reduceEqDiff, Nat.reduceSub]
    · rw [if_neg (by omega), if_pos (by omega)]
      have c2' : ¬ Int64.ofInt v ≤ (nI hi).toInt64 := fun q => c2 (e2.mp q)
      simp only [↓r252_0, ↓r252_1, ↓r252_2, ↓r252_3, ↓r252_4, ↓r252_7, ↓r252_8, ↓r252_11, ↓r252_12, ↓r252_13, ↓r252_14, ↓r252_15, ↓r252_18, ↓r252_19, ↓r252_22, ↓r252_23, ↓r252_24, lg_cmp_ge, lg_cmp_le, e1.mpr c1, c2', Bool.false_eq_true, ps_lit, nI_add, nI_1, pk_mul, ps_cl, ps_neg, ps_c0, ps_c1, ps_n01, ps_n11, ps_10, ps_01, ps_1n, ps_0n, ps_b01, ps_e0, am_k_n, am_k_i, am_k_r, am_k_u, am_k_l, am_sz_0, am_sz_i, am_sz_r, am_sz_u, am_sz_l, Option.toList_some, Option.toList_none, List.cons_append, List.nil_append, true_and, and_true, or_false, false_or, or_self, or_true, true_or, and_self, if_true, if_false, not_false_eq_true, not_true_eq_false, Classical.not_not, ne_eq, ps_e1, ps_em, ps_z, Nat.not_le, false_implies, true_implies, forall_const, Nat.reduceAdd, Nat.reduceMul, Nat.reduceLT, Nat.reduceLeDiff, Nat.reduceEqDiff, Nat.reduceSub]
  · rw [if_pos (by omega)]
    have c1' : ¬ (nI lo).toInt64 ≤ Int64.ofInt v := fun q => c1 (e1.mp q)
    simp only [↓r252_0, ↓r252_1, ↓r252_2, ↓r252_3, ↓r252_4, ↓r252_7, ↓r252_8, ↓r252_11, ↓r252_12, ↓r252_13, ↓r252_14, ↓r252_15, ↓r252_18, ↓r252_19, ↓r252_22, ↓r252_23, ↓r252_24, lg_cmp_ge, lg_cmp_le, c1', Bool.false_eq_true, ps_lit, nI_add, nI_1, pk_mul, ps_cl, ps_neg, ps_c0, ps_c1, ps_n01, ps_n11, ps_10, ps_01, ps_1n, ps_0n, ps_b01, ps_e0, am_k_n, am_k_i, am_k_r, am_k_u, am_k_l, am_sz_0, am_sz_i, am_sz_r, am_sz_u, am_sz_l, Option.toList_some, Option.toList_none, List.cons_append, List.nil_append, true_and, and_true, or_false, false_or, or_self, or_true, true_or, and_self, if_true, if_false, not_false_eq_true, not_true_eq_false, Classical.not_not, ne_eq, ps_e1, ps_em, ps_z, Nat.not_le, false_implies, true_implies, forall_const, Nat.reduceAdd, Nat.reduceMul, Nat.reduceLT, Nat.reduceLeDiff, Nat.reduceEqDiff, Nat.reduceSub]
def chV (l : List CL) (w : Nat → Int32) : Nat := match told l 1 w with
  | none => 50
  | some v => nearN v 1 99
def wtV (l : List CL) (w : Nat → Int32) (hi : Nat) : Nat := match told l 2 w with
  | none => 0
  | some v => nearN v 0 hi
def laV (l : List CL) (w : Nat → Int32) : Nat := match told l 3 w with
  | none => 0
  | some v => nearN v 0 999
theorem chV_le {l : List CL} {w : Nat → Int32} : 1 ≤ chV l w ∧ chV l w ≤ 99 := by
  unfold chV
  split
  · omega
  · exact nearN_le (by omega)
theorem wtV_le {l : List CL} {w : Nat → Int32} {hi : Nat} : wtV l w hi ≤ hi := by
  unfold wtV
  split
  · omega
  · exact (nearN_le (by omega)).2
theorem laV_le {l : List CL} {w : Nat → Int32} : laV l w ≤ 999 := by
  unfold laV
  split
  · omega
  · exact (nearN_le (by omega)).2
theorem CX_law (hC : CX n t I F K N T lw) {j : Nat} (hj : j < T) : ∃ a, F 5 j = some a ∧ 73 ≤ a ∧ a < n ∧ t a = (5, 2) ∧ TB (lw j) := by
  obtain ⟨a, s, c, ls, lc, ea, ⟨a1, a2, _⟩, ⟨ta, _⟩, _, hb, _⟩ := hC.2.2.2.2 j hj
  exact ⟨a, ea, a1, a2, ta, hb⟩
theorem c_chanceBy (hC : CX n t I F K N T lw) {j a mi : Nat} (hj : j < T) (ha : F 5 j = some a) {w : Nat → Int32} (hw : WV w) (hmi : w 9 = nI mi) {I' : Nat → Nat → Int32} (hS : SC I I') (h13 : ∀ k, k < 11 → k ≠ 9 → I' 13 (pw k) = w k) (hQ : ∀ f, Q (some (.int (nI (chV (lw j) w)))) (n, sl, t, am_ro (am_ro I' 13 (upd (I' 13) 10 (nI mi))) 14 f, J, F)) : am_W X (d + 5) 96 0 [some (.ref 12), some (.ref a), some (.int (nI mi)), none] [] (n, sl, t, I', J, F) Q := by
  obtain ⟨a', ea, a1, a2, ta, hb⟩ := CX_law hC hj
  rw [ha] at ea
  cases ea
  have hW := hC.1
  obtain ⟨hn, hn2, ht, hF⟩ := id hW
  simp only [↓r96_0, ↓r96_1, ↓r96_4, ↓r96_6, ↓r96_7, ↓r96_8, ↓r96_8n, ↓r96_9, ↓r96_10, ↓r96_11, a2, ta, pu_uI, Bool.false_eq_true, hn, hn2, ht, hF, am_wt, am_wf, Option.isSome_some, am_rf_s, am_rf_n, ps_lit, nI_add, nI_1, pk_mul, ps_cl, ps_neg, ps_c0, ps_c1, ps_n01, ps_n11, ps_10, ps_b01, ps_e0, pu_Ine, pu_Ieq, pu_ne, pu_eq, am_k_n, am_k_i, am_k_r, am_k_u, am_k_l, am_sz_0, am_sz_i, am_sz_r, am_sz_u, am_sz_l, Option.toList_some, Option.toList_none, List.cons_append, List.nil_append, true_and, and_true, or_false, false_or, or_self, or_true, true_or, not_false_eq_true, not_true_eq_false, Classical.not_not, ne_eq, ps_e1, ps_em, ps_z, Nat.not_le, false_implies, true_implies, forall_const, ps_01, ps_1n, ps_0n, ps_m10, ps_m1n, lg_cmp_gt, lg_cmp_ge, lg_cmp_le, lg_cmp_lt, lg_cmp_eq, pu_rne, pu_req, pu_uro, RFc_n, Nat.reduceAdd, Nat.reduceMul, Nat.reduceLT, Nat.reduceLeDiff, Nat.reduceEqDiff, Nat.reduceSub]
  refine c_tell hC hj ha (hd := 0) (w := w) (by decide) hw (SC_o hS (fun _ => rfl)) (fun k hk => ?_) (fun f => ?_)
  · rw [pu_req]
    by_cases k9 : k = 9
    · subst k9
      show upd (I' 13) 10 (nI mi) 10 = w 9
      rw [pu_eq, hmi]
    · rw [pu_ne, h13 k hk k9]
      unfold pw
      split <;> omega
  · have q := hQ f
    unfold chV at q
    cases ho : told (lw j) (0 + 1) w with
    | none =>
      rw [show told (lw j) 1 w = none from ho] at q
      simp only [↓r96_14, ↓r96_15, ↓r96_16, ↓r96_18, ↓r96_21, ↓r96_23, ↓r96_26, ↓r96_27, ↓r96_28, ↓r96_30, ↓r96_33, tva, Bool.false_eq_true, hn, hn2, ht, hF, am_wt, am_wf, Option.isSome_some, am_rf_s, am_rf_n, ps_lit, nI_add, nI_1, pk_mul, ps_cl, ps_neg, ps_c0, ps_c1, ps_n01, ps_n11, ps_10, ps_b01, ps_e0, pu_Ine, pu_Ieq, pu_ne, pu_eq, am_k_n, am_k_i, am_k_r, am_k_u, am_k_l, am_sz_0, am_sz_i, am_sz_r, am_sz_u, am_sz_l, Option.toList_some, Option.toList_none, List.cons_append, List.nil_append, true_and, and_true, or_false, false_or, or_self, or_true, true_or, not_false_eq_true, not_true_eq_false, Classical.not_not, ne_eq, ps_e1, ps_em, ps_z, Nat.not_le, false_implies, true_implies, forall_const, ps_01, ps_1n, ps_0n, ps_m10, ps_m1n, lg_cmp_gt, lg_cmp_ge, lg_cmp_le, lg_cmp_lt, lg_cmp_eq, pu_rne, pu_req, pu_uro, RFc_n, Nat.reduceAdd, Nat.reduceMul, Nat.reduceLT, Nat.reduceLeDiff, Nat.reduceEqDiff, Nat.reduceSub]
      exact q
    | some v =>
      rw [show told (lw j) 1 w = some v from ho] at q
      obtain ⟨b1, b2⟩ := hb 1 w v hw ho
      have e1 := oI_un b1 b2
      have e2 := near_c (lo := 1) (hi := 99) b1 b2 (by decide) (by decide)
      rw [ps_n1] at e2
      have e3 : ¬ (0 : Nat) = 3 := by decide
      simp only [↓r96_14, ↓r96_15, ↓r96_16, ↓r96_18, ↓r96_21, ↓r96_23, ↓r96_26, ↓r96_27, ↓r96_28, ↓r96_30, ↓r96_33, ↓c_nearest, tva, e1, if_false, Bool.false_eq_true, hn, hn2, ht, hF, am_wt, am_wf, Option.isSome_some, am_rf_s, am_rf_n, ps_lit, nI_add, nI_1, pk_mul, ps_cl, ps_neg, ps_c0, ps_c1, ps_n01, ps_n11, ps_10, ps_b01, ps_e0, pu_Ine, pu_Ieq, pu_ne, pu_eq, am_k_n, am_k_i, am_k_r, am_k_u, am_k_l, am_sz_0, am_sz_i, am_sz_r, am_sz_u, am_sz_l, Option.toList_some, Option.toList_none, List.cons_append, List.nil_append, true_and, and_true, or_false, false_or, or_self, or_true, true_or, not_false_eq_true, not_true_eq_false, Classical.not_not, ne_eq, ps_e1, ps_em, ps_z, Nat.not_le, false_implies, true_implies, forall_const, ps_01, ps_1n, ps_0n, ps_m10, ps_m1n, lg_cmp_gt, lg_cmp_ge, lg_cmp_le, lg_cmp_lt, lg_cmp_eq, pu_rne, pu_req, pu_uro, RFc_n, Nat.reduceAdd, Nat.reduceMul, Nat.reduceLT, Nat.reduceLeDiff, Nat.reduceEqDiff, Nat.reduceSub]
      have q' : Q (some (.int (nI (nearN v 1 99)))) (n, sl, t, am_ro (am_ro I' 13 (upd (I' 13) 10 (nI mi))) 14 f, J, F) := q
      rw [← e2] at q'
      exact q'
theorem c_waitsBy (hC : CX n t I F K N T lw) {j a E : Nat} (hj : j < T) (ha : F 5 j = some a) (hE : E ≤ 20) {w : Nat → Int32} (hw : WV w) (hmi : w 9 = 0) {I' : Nat → Nat → Int32} (hS : SC I I') (h13 : ∀ k, k < 11 → k ≠ 9 → I' 13 (pw k) = w k) (hQ : ∀ f, Q (some (.int (nI (wtV (lw j) w (10 * E))))) (n, sl, t, am_ro (am_ro I' 13 (upd (I' 13) 10 0)) 14 f, J, F)) : am_W X (d + 5) 109 0 [some (.ref 12), some (.ref a), some (.int (nI E)), none] [] (n, sl, t, I', J, F) Q := by
  obtain ⟨a', ea, a1, a2, ta, hb⟩ := CX_law hC hj
  rw [ha] at ea
  cases ea
  have hW := hC.1
  obtain ⟨hn, hn2, ht, hF⟩ := id hW
  simp only [↓r109_0, ↓r109_1, ↓r109_4, ↓r109_6, ↓r109_7, ↓r109_8, ↓r109_8n, ↓r109_9, ↓r109_10, ↓r109_11, a2, ta, pu_uI, Bool.false_eq_true, hn, hn2, ht, hF, am_wt, am_wf, Option.isSome_some, am_rf_s, am_rf_n, ps_lit, nI_add, nI_1, pk_mul, ps_cl, ps_neg, ps_c0, ps_c1, ps_n01, ps_n11, ps_10, ps_b01, ps_e0, pu_Ine, pu_Ieq, pu_ne, pu_eq, am_k_n, am_k_i, am_k_r, am_k_u, am_k_l, am_sz_0, am_sz_i, am_sz_r, am_sz_u, am_sz_l, Option.toList_some, Option.toList_none, List.cons_append, List.nil_append, true_and, and_true, or_false, false_or, or_self, or_true, true_or, not_false_eq_true, not_true_eq_false, Classical.not_not, ne_eq, ps_e1, ps_em, ps_z, Nat.not_le, false_implies, true_implies, forall_const, ps_01, ps_1n, ps_0n, ps_m10, ps_m1n, lg_cmp_gt, lg_cmp_ge, lg_cmp_le, lg_cmp_lt, lg_cmp_eq, pu_rne, pu_req, pu_uro, RFc_n, Nat.reduceAdd, Nat.reduceMul, Nat.reduceLT, Nat.reduceLeDiff, Nat.reduceEqDiff, Nat.reduceSub]
  refine c_tell hC hj ha (hd := 1) (w := w) (by decide) hw (SC_o hS (fun _ => rfl)) (fun k hk => ?_) (fun f => ?_)
  · rw [pu_req]
    by_cases k9 : k = 9
    · subst k9
      show upd (I' 13) 10 0 10 = w 9
      rw [pu_eq, hmi]
    · rw [pu_ne, h13 k hk k9]
      unfold pw
      split <;> omega
  · have q := hQ f
    unfold wtV at q
    cases ho : told (lw j) (1 + 1) w with
    | none =>
      rw [show told (lw j) 2 w = none from ho] at q
      simp only [↓r109_14, ↓r109_15, ↓r109_16, ↓r109_18, ↓r109_21, ↓r109_22, ↓r109_25, ↓r109_26, ↓r109_27, ↓r109_29, ↓r109_30, ↓r109_31, ↓r109_34, tva, Bool.false_eq_true, hn, hn2, ht, hF, am_wt, am_wf, Option.isSome_some, am_rf_s, am_rf_n, ps_lit, nI_add, nI_1, pk_mul, ps_cl, ps_neg, ps_c0, ps_c1, ps_n01, ps_n11, ps_10, ps_b01, ps_e0, pu_Ine, pu_Ieq, pu_ne, pu_eq, am_k_n, am_k_i, am_k_r, am_k_u, am_k_l, am_sz_0, am_sz_i, am_sz_r, am_sz_u, am_sz_l, Option.toList_some, Option.toList_none, List.cons_append, List.nil_append, true_and, and_true, or_false, false_or, or_self, or_true, true_or, not_false_eq_true, not_true_eq_false, Classical.not_not, ne_eq, ps_e1, ps_em, ps_z, Nat.not_le, false_implies, true_implies, forall_const, ps_01, ps_1n, ps_0n, ps_m10, ps_m1n, lg_cmp_gt, lg_cmp_ge, lg_cmp_le, lg_cmp_lt, lg_cmp_eq, pu_rne, pu_req, pu_uro, RFc_n, Nat.reduceAdd, Nat.reduceMul, Nat.reduceLT, Nat.reduceLeDiff, Nat.reduceEqDiff, Nat.reduceSub]
      exact q
    | some v =>
      rw [show told (lw j) 2 w = some v from ho] at q
      obtain ⟨b1, b2⟩ := hb 2 w v hw ho
      have e1 := oI_un b1 b2
      have e2 := near_c (lo := 0) (hi := 10 * E) b1 b2 (by omega) (by omega)
      rw [ps_n0] at e2
      simp only [↓r109_14, ↓r109_15, ↓r109_16, ↓r109_18, ↓r109_21, ↓r109_22, ↓r109_25, ↓r109_26, ↓r109_27, ↓r109_29, ↓r109_30, ↓r109_31, ↓r109_34, ↓c_nearest, tva, e1, e2, if_false, Bool.false_eq_true, hn, hn2, ht, hF, am_wt, am_wf, Option.isSome_some, am_rf_s, am_rf_n, ps_lit, nI_add, nI_1, pk_mul, ps_cl, ps_neg, ps_c0, ps_c1, ps_n01, ps_n11, ps_10, ps_b01, ps_e0, pu_Ine, pu_Ieq, pu_ne, pu_eq, am_k_n, am_k_i, am_k_r, am_k_u, am_k_l, am_sz_0, am_sz_i, am_sz_r, am_sz_u, am_sz_l, Option.toList_some, Option.toList_none, List.cons_append, List.nil_append, true_and, and_true, or_false, false_or, or_self, or_true, true_or, not_false_eq_true, not_true_eq_false, Classical.not_not, ne_eq, ps_e1, ps_em, ps_z, Nat.not_le, false_implies, true_implies, forall_const, ps_01, ps_1n, ps_0n, ps_m10, ps_m1n, lg_cmp_gt, lg_cmp_ge, lg_cmp_le, lg_cmp_lt, lg_cmp_eq, pu_rne, pu_req, pu_uro, RFc_n, Nat.reduceAdd, Nat.reduceMul, Nat.reduceLT, Nat.reduceLeDiff, Nat.reduceEqDiff, Nat.reduceSub]
      exact q
theorem m_chanceOf {j c mi : Nat} {I' : Nat → Nat → Int32} (hC : CX n t I F K N T lw) (hj : j < T) (hc : c < N) (hmi : mi ≤ 20) (h49 : I' 49 = K) (hQ : ∀ f47 f58 g47, (∀ k, k ≠ 17 → k ≠ 18 → k ≠ 19 → k ≠ 22 → f47 k = I' 47 k) → Q (some (.int (nI (chV (lw j) (wd K c (nI mi)))))) (n, sl, t, am_ro (am_ro I' 47 f47) 58 f58, am_ro J 47 g47, F)) : am_W X (d + 45) 251 0 [some (.ref 47), some (.int (nI j)), some (.int (nI c)), some (.int (nI mi))] [] (n, sl, t, I', J, F) Q := by
  obtain ⟨hW, hK, _, _, _⟩ := id hC
  obtain ⟨a, ea, a1, a2, ta, hb⟩ := CX_law hC hj
  have hN := hK.1
  obtain ⟨hn, hn2, ht, hF⟩ := id hW
  have hw := wd_WV hK hc (mi := mi) (by omega)
  have e2 := fun Q => s_asksChild (X := X) (d := d + 42) (Q := Q) (sl := sl) (J := J) (I := I') (k := c) (mi := nI mi) hW (by omega)
  simp only [↓r251_0, ↓r251_1, ↓r251_2, ↓r251_3, ↓r251_6, ↓r251_7, ↓r251_8, ↓r251_9, ↓e2, Bool.false_eq_true, hn, hn2, ht, hF, am_wt, am_wf, Option.isSome_some, am_rf_s, am_rf_n, ps_lit, nI_add, nI_1, pk_mul, ps_cl, ps_neg, ps_c0, ps_c1, ps_n01, ps_n11, ps_10, ps_b01, ps_e0, pu_Ine, pu_Ieq, pu_ne, pu_eq, am_k_n, am_k_i, am_k_r, am_k_u, am_k_l, am_sz_0, am_sz_i, am_sz_r, am_sz_u, am_sz_l, Option.toList_some, Option.toList_none, List.cons_append, List.nil_append, true_and, and_true, or_false, false_or, or_self, or_true, true_or, not_false_eq_true, not_true_eq_false, Classical.not_not, ne_eq, ps_e1, ps_em, ps_z, Nat.not_le, false_implies, true_implies, forall_const, ps_01, ps_1n, ps_0n, ps_m10, ps_m1n, lg_cmp_gt, lg_cmp_ge, lg_cmp_le, lg_cmp_lt, lg_cmp_eq, pu_rne, pu_req, pu_uro, RFc_n, Nat.reduceAdd, Nat.reduceMul, Nat.reduceLT, Nat.reduceLeDiff, Nat.reduceEqDiff, Nat.reduceSub]
  refine s_asks hC hj (hd := 1) (w := wd K c (nI mi)) (by decide) hw (by rw [pu_rne (by decide)]; exact h49) (fun k hk => ?_) (fun f g q1 q2 q3 => ?_)
  · rw [pu_req, mAsk_w hk, h49]
  · have q := hQ f (mAsk I' c (nI mi) (I' 58)) g (fun k k1 k2 k3 k4 => by rw [q1 k k1 k2 k3 k4, pu_rne (by decide)])
    unfold chV at q
    rw [pu_rol (by decide)]
    cases ho : told (lw j) 1 (wd K c (nI mi)) with
    | none =>
      rw [ho] at q q2
      simp only [Option.isSome_none, Bool.false_eq_true, if_false] at q2
      simp only [↓r251_12, ↓r251_13, ↓r251_16, ↓r251_19, ↓r251_20, ↓r251_23, ↓r251_24, ↓r251_26, ↓r251_29, ↓r251_32, ↓r251_34, q2, Bool.false_eq_true, hn, hn2, ht, hF, am_wt, am_wf, Option.isSome_some, am_rf_s, am_rf_n, ps_lit, nI_add, nI_1, pk_mul, ps_cl, ps_neg, ps_c0, ps_c1, ps_n01, ps_n11, ps_10, ps_b01, ps_e0, pu_Ine, pu_Ieq, pu_ne, pu_eq, am_k_n, am_k_i, am_k_r, am_k_u, am_k_l, am_sz_0, am_sz_i, am_sz_r, am_sz_u, am_sz_l, Option.toList_some, Option.toList_none, List.cons_append, List.nil_append, true_and, and_true, or_false, false_or, or_self, or_true, true_or, not_false_eq_true, not_true_eq_false, Classical.not_not, ne_eq, ps_e1, ps_em, ps_z, Nat.not_le, false_implies, true_implies, forall_const, ps_01, ps_1n, ps_0n, ps_m10, ps_m1n, lg_cmp_gt, lg_cmp_ge, lg_cmp_le, lg_cmp_lt, lg_cmp_eq, pu_rne, pu_req, pu_uro, RFc_n, Nat.reduceAdd, Nat.reduceMul, Nat.reduceLT, Nat.reduceLeDiff, Nat.reduceEqDiff, Nat.reduceSub]
      exact q
    | some v =>
      rw [ho] at q q2 q3
      obtain ⟨b1, b2⟩ := hb 1 _ v hw ho
      simp only [Option.isSome_some, if_true] at q2
      simp only [Option.getD_some] at q3
      have e5 := fun Q => s_near (X := X) (d := d + 44) (Q := Q) (n := n) (sl := sl) (t := t) (I := am_ro (am_ro I' 47 f) 58 (mAsk I' c (nI mi) (I' 58))) (J := am_ro J 47 g) (F := F) (lo := 1) (hi := 99) b1 b2 (by decide) (by decide)
      simp only [ps_n1] at e5
      simp only [↓r251_12, ↓r251_13, ↓r251_16, ↓r251_19, ↓r251_20, ↓r251_23, ↓r251_24, ↓r251_26, ↓r251_29, ↓r251_32, ↓r251_34, ↓e5, q2, q3, pu_req, Bool.false_eq_true, hn, hn2, ht, hF, am_wt, am_wf, Option.isSome_some, am_rf_s, am_rf_n, ps_lit, nI_add, nI_1, pk_mul, ps_cl, ps_neg, ps_c0, ps_c1, ps_n01, ps_n11, ps_10, ps_b01, ps_e0, pu_Ine, pu_Ieq, pu_ne, pu_eq, am_k_n, am_k_i, am_k_r, am_k_u, am_k_l, am_sz_0, am_sz_i, am_sz_r, am_sz_u, am_sz_l, Option.toList_some, Option.toList_none, List.cons_append, List.nil_append, true_and, and_true, or_false, false_or, or_self, or_true, true_or, not_false_eq_true, not_true_eq_false, Classical.not_not, ne_eq, ps_e1, ps_em, ps_z, Nat.not_le, false_implies, true_implies, forall_const, ps_01, ps_1n, ps_0n, ps_m10, ps_m1n, lg_cmp_gt, lg_cmp_ge, lg_cmp_le, lg_cmp_lt, lg_cmp_eq, pu_rne, pu_req, pu_uro, RFc_n, Nat.reduceAdd, Nat.reduceMul, Nat.reduceLT, Nat.reduceLeDiff, Nat.reduceEqDiff, Nat.reduceSub]
      exact q
end TE
