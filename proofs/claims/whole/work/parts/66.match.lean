/-! PAIRS are counted -/
section MA
variable {X : am_X} {d : Nat} {Q : Option Value → am_H → Prop} {n sl : Nat} {t : Nat → Nat × Nat} {I : Nat → Nat → Int32} {J : Nat → Nat → Int64} {F : Nat → Nat → Option Nat} {h : am_H}
variable {K : Nat → Int32} {N T : Nat} {lw : Nat → List CL}
def pL (K : Nat → Int32) (c : Nat) : Bool := fFo K c && fLo K c
def pS (K : Nat → Int32) (c : Nat) : Bool := fFo K c && fSh K c
theorem pL_e {c : Nat} : pL K c = true ↔ fFo K c = true ∧ fLo K c = true := by unfold pL; simp
theorem pS_e {c : Nat} : pS K c = true ↔ fFo K c = true ∧ fSh K c = true := by unfold pS; simp
/-- the ways, as numbers -/
def wyI (K : Nat → Int32) (c : Nat) : Int32 := K (15 * c + 5)
def tkI (I : Nat → Nat → Int32) (K : Nat → Int32) (l : List Nat) (k : Nat) : Nat → Nat → Int32 := sdI I (flt (pL K) l k) (flt (pS K) l k) (flt (fFo K) l k) (twr (I 35) (fFo K) (fTh K) l k) (twr (I 36) (fFo K) (wyI K) l k)
theorem c_stake {l : List Nat} (hCK : CK n t F (I 1 4) (I 2) (I 3) (I 49) K N) (hG : GH (I 15 1) (I 16) l N) : am_W X (d + 3) 121 0 [some (.ref 28), some (.ref 1), some (.ref 15), none, none] [] (n, sl, t, I, J, F) Q ↔ Q none (n, sl, t, tkI I K l l.length, J, am_uF F 28 8 (some 2)) := by
  have hW : WS n t F := hCK.1
  obtain ⟨hn, hn2, ht, hF⟩ := id hW
  obtain ⟨h1, h2, h3⟩ := hG
  obtain ⟨_, ⟨T, hK⟩, hs, hr, hu, h49⟩ := id hCK
  have hN := hK.1
  have hW' := WS_28 (r := 2) hW
  have hF' := hW'.2.2.2
  have hCK' : CK n t (am_uF F 28 8 (some 2)) (I 1 4) (I 2) (I 3) (I 49) K N := ⟨hW', ⟨T, hK⟩, hs, hr, hu, h49⟩
  have hr8 : am_uF F 28 8 (some 2) 28 8 = some 2 := by rw [pu_Feq, vu_eq]
  have hx : ∀ l4 : Option Value, am_W X (d + 3) 121 10 [some (.ref 28), some (.ref 1), some (.ref 15), some (.int 0), l4] [] (n, sl, t, tkI I K l 0, J, am_uF F 28 8 (some 2)) Q ↔ Q none (n, sl, t, tkI I K l l.length, J, am_uF F 28 8 (some 2)) := by
    refine lp0 (A := fun k => ∀ l4 : Option Value, am_W X (d + 3) 121 10 [some (.ref 28), some (.ref 1), some (.ref 15), some (.int (nI k)), l4] [] (n, sl, t, tkI I K l k, J, am_uF F 28 8 (some 2)) Q ↔ Q none (n, sl, t, tkI I K l l.length, J, am_uF F 28 8 (some 2))) (N := l.length) ?_ ?_
    · intro k hk ih l4
      obtain ⟨g1, g2⟩ := h3 k hk
      have z1 : k < 2000000 ∧ l.length < 2000000 ∧ k < 120 := by omega
      have z2 : ¬ l.length ≤ k := by omega
      have nn : ∀ a, a < 29 ∨ 36 < a → tkI I K l k a = I a := fun a => sd_n
      have n15 := nn 15 (by decide)
      have n16 := nn 16 (by decide)
      have n1 := nn 1 (by decide)
      have n2 := nn 2 (by decide)
      have n3 := nn 3 (by decide)
      have n49 := nn 49 (by decide)
      obtain ⟨w, hw, ew⟩ := RW_lt (hK.2.2.2.2.1 _ g2) (f := 5) (by decide)
      have hw23 : w ≤ 23 := hw
      have ew2 : wyI K (l.getD k 0) = nI w := ew
      rw [r121_10]
      simp only [↓r121_11, ↓r121_11n, ↓r121_12, ↓r121_15, ↓r121_18, ↓r121_18n, ↓r121_19, ↓r121_22, ↓r121_23, ↓r121_23k, ↓r121_24, ↓r121_26, ↓r121_27, ↓r121_29, ↓r121_29n, ↓r121_30, ↓r121_32, ↓r121_35, ↓r121_35n, ↓r121_36, ↓r121_38, ↓r121_41, ↓k_at (K := K) (N := N), ↓k_isTried (K := K) (N := N), ↓k_side (K := K) (N := N), ↓k_thing (K := K) (N := N), ↓k_isFound (K := K) (N := N), ↓m_factOf (K := K) (N := N), ↓m_isTried (K := K) (N := N), ↓m_took (K := K) (N := N), ↓m_waited (K := K) (N := N), ↓m_isLong (K := K) (N := N), ↓m_isShort (K := K) (N := N), ↓m_thingOf (K := K) (N := N), ↓m_isFound (K := K) (N := N), ↓m_many (K := K) (N := N), ↓c_within, ↓s_lies, hCK, b01, b11, hCK', hF', n15, n16, n1, n2, n3, n49, q_le, q_lt, q_eq, q_e0, q_e1, q_0e, q_1e, ps_n0, q_0le, q_le0, q_0lt, q_m1e, q_em1, h1, g1, g2, z1, z2, Bool.false_eq_true, hn, hn2, ht, hF, am_wt, am_wf, Option.isSome_some, am_rf_s, am_rf_n, ps_lit, nI_add, nI_1, pk_mul, ps_cl, ps_neg, ps_c0, ps_c1, ps_n01, ps_n11, ps_10, ps_b01, ps_e0, pu_Ine, pu_Ieq, pu_ne, pu_eq, am_k_n, am_k_i, am_k_r, am_k_u, am_k_l, am_sz_0, am_sz_i, am_sz_r, am_sz_u, am_sz_l, Option.toList_some, Option.toList_none, List.cons_append, List.nil_append, true_and, and_true, or_false, false_or, or_self, or_true, true_or, not_false_eq_true, not_true_eq_false, Classical.not_not, ne_eq, ps_e1, ps_em, ps_z, Nat.not_le, false_implies, true_implies, forall_const, ps_01, ps_1n, ps_0n, ps_m10, ps_m1n, lg_cmp_gt, lg_cmp_ge, lg_cmp_le, lg_cmp_lt, lg_cmp_eq, pu_rne, pu_req, pu_uro, RFc_n, Nat.reduceAdd, Nat.reduceMul, Nat.reduceLT, Nat.reduceLeDiff, Nat.reduceEqDiff, Nat.reduceSub]
      by_cases hf : fFo K (l.getD k 0) = true
      · have e0 := fun sd Q => c_sadd (X := X) (d := d + 1) (Q := Q) (sl := sl) (J := J) (F := am_uF F 28 8 (some 2)) (I := I) (LL := flt (pL K) l k) (SS := flt (pS K) l k) (FF := flt (fFo K) l k) (tf := twr (I 35) (fFo K) (fTh K) l k) (wf := twr (I 36) (fFo K) (wyI K) l k) (c := l.getD k 0) (r := 2) (w := w) (sd := sd) (th := fTh K (l.getD k 0)) hW' hr8 (Or.inl rfl) (by omega) hw23 (by rw [hr _ (by omega)]; exact ew) (by unfold fFo at hf; simpa using hf) (by have := flt_le (pL K) l k; omega) (by have := flt_le (pS K) l k; omega) (by have := flt_le (fFo K) l k; omega)
        have x1 : (if (if fLo K (l.getD k 0) = true then (1 : Int32) else if fSh K (l.getD k 0) = true then nI 2 else 0) = 1 then [l.getD k 0] else []) = if pL K (l.getD k 0) = true then [l.getD k 0] else [] := by
          simp only [(s01 (fLo K (l.getD k 0)) (fSh K (l.getD k 0)) fSh_n).1, pL, hf, Bool.true_and]
        have x2 : (if (if fLo K (l.getD k 0) = true then (1 : Int32) else if fSh K (l.getD k 0) = true then nI 2 else 0) = nI 2 then [l.getD k 0] else []) = if pS K (l.getD k 0) = true then [l.getD k 0] else [] := by
          simp only [(s01 (fLo K (l.getD k 0)) (fSh K (l.getD k 0)) fSh_n).2, pS, hf, Bool.true_and]
        have x3 : tkI I K l (k + 1) = sdI I (flt (pL K) l k ++ if pL K (l.getD k 0) = true then [l.getD k 0] else []) (flt (pS K) l k ++ if pS K (l.getD k 0) = true then [l.getD k 0] else []) (flt (fFo K) l k ++ [l.getD k 0]) (upd (twr (I 35) (fFo K) (fTh K) l k) (l.getD k 0) (fTh K (l.getD k 0))) (upd (twr (I 36) (fFo K) (wyI K) l k) (l.getD k 0) (nI w)) := by
          unfold tkI
          rw [flt, flt, flt, twr, twr, if_pos hf, if_pos hf, if_pos hf, ew2]
        have e1 := e0 (if fLo K (l.getD k 0) = true then 1 else if fSh K (l.getD k 0) = true then nI 2 else 0) (fun v h' => am_W X (d + 3) 121 44 [some (.ref 28), some (.ref 1), some (.ref 15), some (.int (nI k)), some (.int (nI (l.getD k 0)))] (v.toList ++ []) h' Q)
        rw [x1, x2, ← x3] at e1
        refine e1.trans ?_
        simp only [↓r121_44, ↓r121_47, Bool.false_eq_true, hn, hn2, ht, hF, am_wt, am_wf, Option.isSome_some, am_rf_s, am_rf_n, ps_lit, nI_add, nI_1, pk_mul, ps_cl, ps_neg, ps_c0, ps_c1, ps_n01, ps_n11, ps_10, ps_b01, ps_e0, pu_Ine, pu_Ieq, pu_ne, pu_eq, am_k_n, am_k_i, am_k_r, am_k_u, am_k_l, am_sz_0, am_sz_i, am_sz_r, am_sz_u, am_sz_l, Option.toList_some, Option.toList_none, List.cons_append, List.nil_append, true_and, and_true, or_false, false_or, or_self, or_true, true_or, not_false_eq_true, not_true_eq_false, Classical.not_not, ne_eq, ps_e1, ps_em, ps_z, Nat.not_le, false_implies, true_implies, forall_const, ps_01, ps_1n, ps_0n, ps_m10, ps_m1n, lg_cmp_gt, lg_cmp_ge, lg_cmp_le, lg_cmp_lt, lg_cmp_eq, pu_rne, pu_req, pu_uro, RFc_n, Nat.reduceAdd, Nat.reduceMul, Nat.reduceLT, Nat.reduceLeDiff, Nat.reduceEqDiff, Nat.reduceSub]
        exact ih _
      · have e0 := vth_n hf
        have e1 := fun sd Q => c_sadd0 (X := X) (d := d + 1) (Q := Q) (sl := sl) (J := J) (F := am_uF F 28 8 (some 2)) (I := tkI I K l k) (c := l.getD k 0) (sd := sd) hW'
        have x3 : tkI I K l (k + 1) = tkI I K l k := by
          have hl : ¬ pL K (l.getD k 0) = true := fun q => hf (pL_e.mp q).1
          have hs : ¬ pS K (l.getD k 0) = true := fun q => hf (pS_e.mp q).1
          unfold tkI
          rw [flt, flt, flt, twr, twr, if_neg hf, if_neg hf, if_neg hf, if_neg hl, if_neg hs, List.append_nil, List.append_nil, List.append_nil]
        rw [x3] at ih
        rw [e0]
        refine (e1 _ _).trans ?_
        simp only [↓r121_44, ↓r121_47, Bool.false_eq_true, hn, hn2, ht, hF, am_wt, am_wf, Option.isSome_some, am_rf_s, am_rf_n, ps_lit, nI_add, nI_1, pk_mul, ps_cl, ps_neg, ps_c0, ps_c1, ps_n01, ps_n11, ps_10, ps_b01, ps_e0, pu_Ine, pu_Ieq, pu_ne, pu_eq, am_k_n, am_k_i, am_k_r, am_k_u, am_k_l, am_sz_0, am_sz_i, am_sz_r, am_sz_u, am_sz_l, Option.toList_some, Option.toList_none, List.cons_append, List.nil_append, true_and, and_true, or_false, false_or, or_self, or_true, true_or, not_false_eq_true, not_true_eq_false, Classical.not_not, ne_eq, ps_e1, ps_em, ps_z, Nat.not_le, false_implies, true_implies, forall_const, ps_01, ps_1n, ps_0n, ps_m10, ps_m1n, lg_cmp_gt, lg_cmp_ge, lg_cmp_le, lg_cmp_lt, lg_cmp_eq, pu_rne, pu_req, pu_uro, RFc_n, Nat.reduceAdd, Nat.reduceMul, Nat.reduceLT, Nat.reduceLeDiff, Nat.reduceEqDiff, Nat.reduceSub]
        exact ih _
    · intro l4
      have n15 : tkI I K l l.length 15 = I 15 := sd_n (by decide)
      rw [r121_10]
      simp only [↓r121_11, ↓r121_11n, ↓r121_12, ↓r121_15, ↓r121_50, hF', n15, h1, Int32.le_refl, Bool.false_eq_true, hn, hn2, ht, hF, am_wt, am_wf, Option.isSome_some, am_rf_s, am_rf_n, ps_lit, nI_add, nI_1, pk_mul, ps_cl, ps_neg, ps_c0, ps_c1, ps_n01, ps_n11, ps_10, ps_b01, ps_e0, pu_Ine, pu_Ieq, pu_ne, pu_eq, am_k_n, am_k_i, am_k_r, am_k_u, am_k_l, am_sz_0, am_sz_i, am_sz_r, am_sz_u, am_sz_l, Option.toList_some, Option.toList_none, List.cons_append, List.nil_append, true_and, and_true, or_false, false_or, or_self, or_true, true_or, not_false_eq_true, not_true_eq_false, Classical.not_not, ne_eq, ps_e1, ps_em, ps_z, Nat.not_le, false_implies, true_implies, forall_const, ps_01, ps_1n, ps_0n, ps_m10, ps_m1n, lg_cmp_gt, lg_cmp_ge, lg_cmp_le, lg_cmp_lt, lg_cmp_eq, pu_rne, pu_req, pu_uro, RFc_n, Nat.reduceAdd, Nat.reduceMul, Nat.reduceLT, Nat.reduceLeDiff, Nat.reduceEqDiff, Nat.reduceSub]
  rw [← hx none]
  simp only [↓r121_0, ↓r121_1, ↓r121_1n, ↓r121_2, ↓r121_5, ↓r121_8, ↓r121_9, ↓c_sstart hW, Bool.false_eq_true, hn, hn2, ht, hF, am_wt, am_wf, Option.isSome_some, am_rf_s, am_rf_n, ps_lit, nI_add, nI_1, pk_mul, ps_cl, ps_neg, ps_c0, ps_c1, ps_n01, ps_n11, ps_10, ps_b01, ps_e0, pu_Ine, pu_Ieq, pu_ne, pu_eq, am_k_n, am_k_i, am_k_r, am_k_u, am_k_l, am_sz_0, am_sz_i, am_sz_r, am_sz_u, am_sz_l, Option.toList_some, Option.toList_none, List.cons_append, List.nil_append, true_and, and_true, or_false, false_or, or_self, or_true, true_or, not_false_eq_true, not_true_eq_false, Classical.not_not, ne_eq, ps_e1, ps_em, ps_z, Nat.not_le, false_implies, true_implies, forall_const, ps_01, ps_1n, ps_0n, ps_m10, ps_m1n, lg_cmp_gt, lg_cmp_ge, lg_cmp_le, lg_cmp_lt, lg_cmp_eq, pu_rne, pu_req, pu_uro, RFc_n, Nat.reduceAdd, Nat.reduceMul, Nat.reduceLT, Nat.reduceLeDiff, Nat.reduceEqDiff, Nat.reduceSub]
  exact Iff.rfl
/-- sides that lie here -/
def SDH (I : Nat → Nat → Int32) (F : Nat → Nat → Option Nat) (r : Nat) (LL SS : List Nat) (th : Nat → Int32) : Prop := F 28 8 = some r ∧ (r = 2 ∨ r = 42) ∧ GH (I 29 1) (I 30) LL 120 ∧ GH (I 31 1) (I 32) SS 120 ∧ (∀ i, i < LL.length → I 35 (LL.getD i 0) = th (LL.getD i 0)) ∧ ∀ i, i < SS.length → I 35 (SS.getD i 0) = th (SS.getD i 0)
theorem GH_flt {p : Nat → Bool} {l : List Nat} {f : Nat → Int32} (hl : l.length ≤ 120) (h : ∀ k, k < l.length → l.getD k 0 < N) : GH (nI (flt p l l.length).length) (ro_g f (flt p l l.length)) (flt p l l.length) N := by
  refine ⟨rfl, by have := flt_le p l l.length; omega, fun k hk => ⟨ro_gk hk, ?_⟩⟩
  obtain ⟨i, h1, h2, h3⟩ := flt_mem (getD_mem hk)
  rw [h2]
  exact h i h1
theorem SDH_take {l : List Nat} (hN : N ≤ 120) (hl : l.length ≤ 120) (h : ∀ k, k < l.length → l.getD k 0 < N) : SDH (tkI I K l l.length) (am_uF F 28 8 (some 2)) 2 (flt (pL K) l l.length) (flt (pS K) l l.length) (fTh K) := by
  refine ⟨by rw [pu_Feq, vu_eq], Or.inl rfl, GH_flt hl (fun k hk => by have := h k hk; omega), GH_flt hl (fun k hk => by have := h k hk; omega), fun i hi => ?_, fun i hi => ?_⟩
  · obtain ⟨j, h1, h2, h3⟩ := flt_mem (getD_mem hi)
    exact twr_at (pL_e.mp h3).1 l.length j h1 h2
  · obtain ⟨j, h1, h2, h3⟩ := flt_mem (getD_mem hi)
    exact twr_at (pS_e.mp h3).1 l.length j h1 h2
theorem c_icmp {a b : Int32} : am_W X d 128 0 [some (.int a), some (.int b)] [] (n, sl, t, I, J, F) Q ↔ Q (some (.int (if a < b then -1 else if a = b then 0 else 1))) (n, sl, t, I, J, F) := by
  by_cases h1 : a < b
  · simp only [↓r128_0, ↓r128_1, ↓r128_2, ↓r128_5, ↓r128_6, ↓r128_9, ↓r128_10, ↓r128_11, ↓r128_14, ↓r128_15, ↓r128_18, ↓r128_19, h1, Int32.not_le.mpr h1, if_true, Bool.false_eq_true, ps_lit, nI_add, nI_1, pk_mul, ps_cl, ps_neg, ps_c0, ps_c1, ps_n01, ps_n11, ps_10, ps_01, ps_1n, ps_0n, ps_b01, ps_e0, am_k_n, am_k_i, am_k_r, am_k_u, am_k_l, am_sz_0, am_sz_i, am_sz_r, am_sz_u, am_sz_l, Option.toList_some, Option.toList_none, List.cons_append, List.nil_append, true_and, and_true, or_false, false_or, or_self, or_true, true_or, and_self, if_true, if_false, not_false_eq_true, not_true_eq_false, Classical.not_not, ne_eq, ps_e1, ps_em, ps_z, Nat.not_le, false_implies, true_implies, forall_const, Nat.reduceAdd, Nat.reduceMul, Nat.reduceLT, Nat.reduceLeDiff, Nat.reduceEqDiff, Nat.reduceSub]
  · by_cases h2 : a = b
    · simp only [↓r128_0, ↓r128_1, ↓r128_2, ↓r128_5, ↓r128_6, ↓r128_9, ↓r128_10, ↓r128_11, ↓r128_14, ↓r128_15, ↓r128_18, ↓r128_19, h1, Int32.not_lt.mp h1, h2, Int32.le_refl, Int32.lt_irrefl, if_true, if_false, Bool.false_eq_true, ps_lit, nI_add, nI_1, pk_mul, ps_cl, ps_neg, ps_c0, ps_c1, ps_n01, ps_n11, ps_10, ps_01, ps_1n, ps_0n, ps_b01, ps_e0, am_k_n, am_k_i, am_k_r, am_k_u, am_k_l, am_sz_0, am_sz_i, am_sz_r, am_sz_u, am_sz_l, Option.toList_some, Option.toList_none, List.cons_append, List.nil_append, true_and, and_true, or_false, false_or, or_self, or_true, true_or, and_self, if_true, if_false, not_false_eq_true, not_true_eq_false, Classical.not_not, ne_eq, ps_e1, ps_em, ps_z, Nat.not_le, false_implies, true_implies, forall_const, Nat.reduceAdd, Nat.reduceMul, Nat.reduceLT, Nat.reduceLeDiff, Nat.reduceEqDiff, Nat.reduceSub]
    · simp only [↓r128_0, ↓r128_1, ↓r128_2, ↓r128_5, ↓r128_6, ↓r128_9, ↓r128_10, ↓r128_11, ↓r128_14, ↓r128_15, ↓r128_18, ↓r128_19, h1, Int32.not_lt.mp h1, h2, if_true, if_false, Bool.false_eq_true, ps_lit, nI_add, nI_1, pk_mul, ps_cl, ps_neg, ps_c0, ps_c1, ps_n01, ps_n11, ps_10, ps_01, ps_1n, ps_0n, ps_b01, ps_e0, am_k_n, am_k_i, am_k_r, am_k_u, am_k_l, am_sz_0, am_sz_i, am_sz_r, am_sz_u, am_sz_l, Option.toList_some, Option.toList_none, List.cons_append, List.nil_append, true_and, and_true, or_false, false_or, or_self, or_true, true_or, and_self, if_true, if_false, not_false_eq_true, not_true_eq_false, Classical.not_not, ne_eq, ps_e1, ps_em, ps_z, Nat.not_le, false_implies, true_implies, forall_const, Nat.reduceAdd, Nat.reduceMul, Nat.reduceLT, Nat.reduceLeDiff, Nat.reduceEqDiff, Nat.reduceSub]
def cmv (a b : Int32) : Int32 := if a < b then -1 else if a = b then 0 else 1
variable {LL SS : List Nat} {th : Nat → Int32}
theorem c_scmp {r i k : Nat} (hW : WS n t F) (hD : SDH I F r LL SS th) (hi : i < LL.length) (hk : k < SS.length) : am_W X (d + 1) 127 0 [some (.ref 28), some (.int (nI i)), some (.int (nI k))] [] (n, sl, t, I, J, F) Q ↔ Q (some (.int (cmv (th (LL.getD i 0)) (th (SS.getD k 0))))) (n, sl, t, I, J, F) := by
  obtain ⟨hn, hn2, ht, hF⟩ := id hW
  obtain ⟨_, _, ⟨a1, a2, a3⟩, ⟨b1, b2, b3⟩, t1, t2⟩ := hD
  obtain ⟨c1, c2⟩ := a3 i hi
  obtain ⟨c3, c4⟩ := b3 k hk
  have z1 : i < 2000000 ∧ k < 2000000 ∧ i < 120 ∧ k < 120 ∧ LL.getD i 0 < 2000000 ∧ SS.getD k 0 < 2000000 := by omega
  have e1 := t1 i hi
  have e2 := t2 k hk
  simp only [↓r127_0, ↓r127_1, ↓r127_4, ↓r127_5, ↓r127_8, ↓r127_11, ↓r127_12, ↓r127_12k, ↓r127_13, ↓r127_13k, ↓r127_14, ↓r127_15, ↓r127_18, ↓r127_19, ↓r127_22, ↓r127_25, ↓r127_26, ↓r127_26k, ↓r127_27, ↓r127_27k, ↓r127_28, ↓r127_31, ↓c_icmp, c1, c2, c3, c4, z1, e1, e2, Bool.false_eq_true, hn, hn2, ht, hF, am_wt, am_wf, Option.isSome_some, am_rf_s, am_rf_n, ps_lit, nI_add, nI_1, pk_mul, ps_cl, ps_neg, ps_c0, ps_c1, ps_n01, ps_n11, ps_10, ps_b01, ps_e0, pu_Ine, pu_Ieq, pu_ne, pu_eq, am_k_n, am_k_i, am_k_r, am_k_u, am_k_l, am_sz_0, am_sz_i, am_sz_r, am_sz_u, am_sz_l, Option.toList_some, Option.toList_none, List.cons_append, List.nil_append, true_and, and_true, or_false, false_or, or_self, or_true, true_or, not_false_eq_true, not_true_eq_false, Classical.not_not, ne_eq, ps_e1, ps_em, ps_z, Nat.not_le, false_implies, true_implies, forall_const, ps_01, ps_1n, ps_0n, ps_m10, ps_m1n, lg_cmp_gt, lg_cmp_ge, lg_cmp_le, lg_cmp_lt, lg_cmp_eq, pu_rne, pu_req, pu_uro, RFc_n, Nat.reduceAdd, Nat.reduceMul, Nat.reduceLT, Nat.reduceLeDiff, Nat.reduceEqDiff, Nat.reduceSub]
  exact Iff.rfl
def mt (f : Nat → Int32) (w l e : Nat) : Nat → Int32 := upd (upd (upd f 9 (nI w)) 10 (nI l)) 11 (nI e)
theorem mt_9 {f : Nat → Int32} {w l e : Nat} : mt f w l e 9 = nI w := rfl
theorem mt_10 {f : Nat → Int32} {w l e : Nat} : mt f w l e 10 = nI l := rfl
theorem mt_11 {f : Nat → Int32} {w l e : Nat} : mt f w l e 11 = nI e := rfl
theorem mt_u9 {f : Nat → Int32} {w l e v : Nat} : upd (mt f w l e) 9 (nI v) = mt f v l e := by
  funext k
  unfold mt upd
  by_cases h1 : k = 9
  · rw [if_pos h1, if_neg (by omega), if_neg (by omega), if_pos h1]
  · rw [if_neg h1, if_neg h1, if_neg h1]
theorem mt_u10 {f : Nat → Int32} {w l e v : Nat} : upd (mt f w l e) 10 (nI v) = mt f w v e := by
  funext k
  unfold mt upd
  by_cases h1 : k = 10
  · rw [if_pos h1, if_neg (by omega), if_pos h1]
  · rw [if_neg h1, if_neg h1, if_neg h1]
theorem mt_u11 {f : Nat → Int32} {w l e v : Nat} : upd (mt f w l e) 11 (nI v) = mt f w l v := by
  funext k
  unfold mt upd
  by_cases h1 : k = 11
  · rw [if_pos h1, if_pos h1]
  · rw [if_neg h1, if_neg h1, if_neg h1]
theorem c_countPair {w l e : Nat} {a b : Int32} (hW : WS n t F) {f : Nat → Int32} : am_W X d 129 0 [some (.ref 28), some (.int (cmv a b))] [] (n, sl, t, am_ro I 28 (mt f w l e), J, F) Q ↔ Q none (n, sl, t, am_ro I 28 (mt f (w + if b < a then 1 else 0) (l + if a < b then 1 else 0) (e + if a = b then 1 else 0)), J, F) := by
  obtain ⟨hn, hn2, ht, hF⟩ := id hW
  unfold cmv
  by_cases h1 : a < b
  · have h2 : ¬ b < a := fun q => Int32.lt_irrefl (Int32.lt_trans h1 q)
    have h3 : ¬ a = b := fun q => Int32.lt_irrefl (q ▸ h1)
    have c1 : (-1 : Int32) ≤ 0 := by decide
    have c2 : ¬ (0 : Int32) ≤ -1 := by decide
    simp only [↓r129_0, ↓r129_1, ↓r129_4, ↓r129_5, ↓r129_5r, ↓r129_6, ↓r129_9, ↓r129_10, ↓r129_11, ↓r129_14, ↓r129_17, ↓r129_18, ↓r129_21, ↓r129_22, ↓r129_22r, ↓r129_23, ↓r129_26, ↓r129_27, ↓r129_28, ↓r129_31, ↓r129_34, ↓r129_35, ↓r129_35r, ↓r129_36, ↓r129_39, ↓r129_40, ↓r129_41, ↓r129_44, h1, h2, h3, c1, c2, pu_uI, pu_ror, mt_10, mt_u10, if_true, if_false, Nat.add_zero, Bool.false_eq_true, hn, hn2, ht, hF, am_wt, am_wf, Option.isSome_some, am_rf_s, am_rf_n, ps_lit, nI_add, nI_1, pk_mul, ps_cl, ps_neg, ps_c0, ps_c1, ps_n01, ps_n11, ps_10, ps_b01, ps_e0, pu_Ine, pu_Ieq, pu_ne, pu_eq, am_k_n, am_k_i, am_k_r, am_k_u, am_k_l, am_sz_0, am_sz_i, am_sz_r, am_sz_u, am_sz_l, Option.toList_some, Option.toList_none, List.cons_append, List.nil_append, true_and, and_true, or_false, false_or, or_self, or_true, true_or, not_false_eq_true, not_true_eq_false, Classical.not_not, ne_eq, ps_e1, ps_em, ps_z, Nat.not_le, false_implies, true_implies, forall_const, ps_01, ps_1n, ps_0n, ps_m10, ps_m1n, lg_cmp_gt, lg_cmp_ge, lg_cmp_le, lg_cmp_lt, lg_cmp_eq, pu_rne, pu_req, pu_uro, RFc_n, Nat.reduceAdd, Nat.reduceMul, Nat.reduceLT, Nat.reduceLeDiff, Nat.reduceEqDiff, Nat.reduceSub]
  · by_cases h3 : a = b
    · have h2 : ¬ b < a := fun q => Int32.lt_irrefl (h3 ▸ q)
      have c1 : (0 : Int32) ≤ 0 := by decide
      simp only [↓r129_0, ↓r129_1, ↓r129_4, ↓r129_5, ↓r129_5r, ↓r129_6, ↓r129_9, ↓r129_10, ↓r129_11, ↓r129_14, ↓r129_17, ↓r129_18, ↓r129_21, ↓r129_22, ↓r129_22r, ↓r129_23, ↓r129_26, ↓r129_27, ↓r129_28, ↓r129_31, ↓r129_34, ↓r129_35, ↓r129_35r, ↓r129_36, ↓r129_39, ↓r129_40, ↓r129_41, ↓r129_44, h1, h2, h3, c1, Int32.lt_irrefl, pu_uI, pu_ror, mt_11, mt_u11, if_true, if_false, Nat.add_zero, Bool.false_eq_true, hn, hn2, ht, hF, am_wt, am_wf, Option.isSome_some, am_rf_s, am_rf_n, ps_lit, nI_add, nI_1, pk_mul, ps_cl, ps_neg, ps_c0, ps_c1, ps_n01, ps_n11, ps_10, ps_b01, ps_e0, pu_Ine, pu_Ieq, pu_ne, pu_eq, am_k_n, am_k_i, am_k_r, am_k_u, am_k_l, am_sz_0, am_sz_i, am_sz_r, am_sz_u, am_sz_l, Option.toList_some, Option.toList_none, List.cons_append, List.nil_append, true_and, and_true, or_false, false_or, or_self, or_true, true_or, not_false_eq_true, not_true_eq_false, Classical.not_not, ne_eq, ps_e1, ps_em, ps_z, Nat.not_le, false_implies, true_implies, forall_const, ps_01, ps_1n, ps_0n, ps_m10, ps_m1n, lg_cmp_gt, lg_cmp_ge, lg_cmp_le, lg_cmp_lt, lg_cmp_eq, pu_rne, pu_req, pu_uro, RFc_n, Nat.reduceAdd, Nat.reduceMul, Nat.reduceLT, Nat.reduceLeDiff, Nat.reduceEqDiff, Nat.reduceSub]
    · have h2 : b < a := by
        rcases Int32.lt_or_le b a with q | q
        · exact q
        · exact absurd (Int32.le_antisymm (Int32.not_lt.mp (fun z => h1 z)) q).symm (fun z => h3 z)
      have c1 : ¬ (1 : Int32) ≤ 0 := by decide
      simp only [↓r129_0, ↓r129_1, ↓r129_4, ↓r129_5, ↓r129_5r, ↓r129_6, ↓r129_9, ↓r129_10, ↓r129_11, ↓r129_14, ↓r129_17, ↓r129_18, ↓r129_21, ↓r129_22, ↓r129_22r, ↓r129_23, ↓r129_26, ↓r129_27, ↓r129_28, ↓r129_31, ↓r129_34, ↓r129_35, ↓r129_35r, ↓r129_36, ↓r129_39, ↓r129_40, ↓r129_41, ↓r129_44, h1, h2, h3, c1, pu_uI, pu_ror, mt_9, mt_u9, if_true, if_false, Nat.add_zero, Bool.false_eq_true, hn, hn2, ht, hF, am_wt, am_wf, Option.isSome_some, am_rf_s, am_rf_n, ps_lit, nI_add, nI_1, pk_mul, ps_cl, ps_neg, ps_c0, ps_c1, ps_n01, ps_n11, ps_10, ps_b01, ps_e0, pu_Ine, pu_Ieq, pu_ne, pu_eq, am_k_n, am_k_i, am_k_r, am_k_u, am_k_l, am_sz_0, am_sz_i, am_sz_r, am_sz_u, am_sz_l, Option.toList_some, Option.toList_none, List.cons_append, List.nil_append, true_and, and_true, or_false, false_or, or_self, or_true, true_or, not_false_eq_true, not_true_eq_false, Classical.not_not, ne_eq, ps_e1, ps_em, ps_z, Nat.not_le, false_implies, true_implies, forall_const, ps_01, ps_1n, ps_0n, ps_m10, ps_m1n, lg_cmp_gt, lg_cmp_ge, lg_cmp_le, lg_cmp_lt, lg_cmp_eq, pu_rne, pu_req, pu_uro, RFc_n, Nat.reduceAdd, Nat.reduceMul, Nat.reduceLT, Nat.reduceLeDiff, Nat.reduceEqDiff, Nat.reduceSub]
end MA
