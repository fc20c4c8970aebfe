/-! how the reference parts a group: the sum, and those parted most first -/
section P2
variable {X : am_X} {d : Nat} {Q : Option Value → am_H → Prop} {n sl : Nat} {t : Nat → Nat × Nat} {I : Nat → Nat → Int32} {J : Nat → Nat → Int64} {F : Nat → Nat → Option Nat} {h : am_H}
variable {K : Nat → Int32} {N T : Nat} {lw : Nat → List CL}
/-- so many of each number up to V, greatest first -/
def bl (c : Nat → Nat) : Nat → List Nat
  | 0 => List.replicate (c 0) 0
  | v + 1 => List.replicate (c (v + 1)) (v + 1) ++ bl c v
theorem bl_c {c c' : Nat → Nat} : ∀ V, (∀ v, v ≤ V → c v = c' v) → bl c V = bl c' V := by
  intro V
  induction V with
  | zero => intro h; rw [bl, bl, h 0 (Nat.le_refl _)]
  | succ V ih =>
    intro h
    rw [bl, bl, h (V + 1) (Nat.le_refl _), ih (fun v hv => h v (by omega))]
theorem bl_le {c : Nat → Nat} : ∀ V b, b ∈ bl c V → b ≤ V := by
  intro V
  induction V with
  | zero =>
    intro b hb
    rw [bl] at hb
    rw [List.eq_of_mem_replicate hb]
    exact Nat.le_refl 0
  | succ V ih =>
    intro b hb
    rw [bl] at hb
    rcases List.mem_append.mp hb with q | q
    · rw [List.eq_of_mem_replicate q]
      exact Nat.le_refl _
    · exact Nat.le_trans (ih b q) (by omega)
theorem bl_ins {c : Nat → Nat} {d : Nat} : ∀ V, d ≤ V → ∃ A B, bl c V = A ++ B ∧ bl (fun v => if v = d then c v + 1 else c v) V = A ++ (d :: B) ∧ (∀ b, b ∈ B → b < d) ∧ ∀ a, a ∈ A → d ≤ a := by
  intro V
  induction V with
  | zero =>
    intro h
    obtain rfl : d = 0 := by omega
    refine ⟨List.replicate (c 0) 0, [], by rw [bl, List.append_nil], ?_, (fun b hb => absurd hb List.not_mem_nil), fun a ha => Nat.zero_le a⟩
    rw [bl, if_pos rfl, List.replicate_succ']
  | succ V ih =>
    intro h
    by_cases e : d = V + 1
    · subst e
      refine ⟨List.replicate (c (V + 1)) (V + 1), bl c V, by rw [bl], ?_, fun b hb => Nat.lt_succ_of_le (bl_le V b hb), fun a ha => Nat.le_of_eq (List.eq_of_mem_replicate ha).symm⟩
      rw [bl, if_pos rfl, List.replicate_succ', List.append_assoc]
      rw [bl_c (c := fun v => if v = V + 1 then c v + 1 else c v) (c' := c) V (fun v hv => if_neg (by omega))]
      rfl
    · obtain ⟨A, B, h1, h2, h3, h4⟩ := ih (by omega)
      refine ⟨List.replicate (c (V + 1)) (V + 1) ++ A, B, by rw [bl, h1, List.append_assoc], ?_, h3, fun a ha => ?_⟩
      · rw [bl, if_neg (fun q => e q.symm), h2, List.append_assoc]
      · rcases List.mem_append.mp ha with q | q
        · rw [List.eq_of_mem_replicate q]; exact h
        · exact h4 a q
theorem gd_app {A B : List Nat} {d i : Nat} : (A ++ (d :: B)).getD i 0 = if i < A.length then (A ++ B).getD i 0 else if i = A.length then d else (A ++ B).getD (i - 1) 0 := by
  simp only [List.getD_eq_getElem?_getD]
  by_cases h1 : i < A.length
  · rw [if_pos h1, List.getElem?_append_left h1, List.getElem?_append_left h1]
  · rw [if_neg h1, List.getElem?_append_right (by omega)]
    by_cases h2 : i = A.length
    · rw [if_pos h2, h2, Nat.sub_self]
      rfl
    · rw [if_neg h2, List.getElem?_append_right (by omega)]
      obtain ⟨q, rfl⟩ : ∃ q, i = A.length + q + 1 := ⟨i - A.length - 1, by omega⟩
      rw [show A.length + q + 1 - A.length = q + 1 by omega, show A.length + q + 1 - 1 - A.length = q by omega]
      rfl
theorem gd_B {A B : List Nat} {i : Nat} (h1 : A.length ≤ i) (h2 : i < (A ++ B).length) : (A ++ B).getD i 0 ∈ B := by
  rw [List.length_append] at h2
  rw [List.getD_eq_getElem?_getD, List.getElem?_append_right h1, List.getElem?_eq_getElem (by omega), Option.getD_some]
  exact List.getElem_mem _
theorem gd_A {A B : List Nat} {i : Nat} (h1 : i < A.length) : (A ++ B).getD i 0 ∈ A := by
  rw [List.getD_eq_getElem?_getD, List.getElem?_append_left h1, List.getElem?_eq_getElem h1, Option.getD_some]
  exact List.getElem_mem _
/-- a row with room made at a place -/
def rsh (f : Nat → Int32) (k p : Nat) : Nat → Int32 := fun i => if p < i ∧ i ≤ k then f (i - 1) else f i
theorem rsh_k (f : Nat → Int32) (k : Nat) : rsh f k k = f := by
  funext i
  unfold rsh
  rw [if_neg (by omega)]
theorem rsh_s (f : Nat → Int32) (k p : Nat) (h : p < k) : upd (rsh f k (p + 1)) (p + 1) (f p) = rsh f k p := by
  funext i
  unfold upd rsh
  by_cases h1 : i = p + 1
  · rw [if_pos h1, if_pos (by omega), h1]
    rfl
  · rw [if_neg h1]
    by_cases h2 : p + 1 < i ∧ i ≤ k
    · rw [if_pos h2, if_pos (by omega)]
    · rw [if_neg h2, if_neg (by omega)]
theorem ml_ins {x1 x2 x3 x4 x5 dv : Int32} {k q p : Nat} {f : Nat → Int32} (hW : WS n t F) (hk : k < 120) (hp : p ≤ k) (h1 : ∀ i, p ≤ i → i < k → f i < dv) (h2 : p = 0 ∨ ¬ f (p - 1) < dv) : am_W X d 261 74 [some (.ref 47), some (.int x1), some (.int x2), some (.int x3), some (.int x4), some (.int x5), some (.int (nI q)), some (.int dv), some (.int (nI k))] [] (n, sl, t, am_ro I 63 f, J, F) Q ↔ am_W X d 261 115 [some (.ref 47), some (.int x1), some (.int x2), some (.int x3), some (.int x4), some (.int x5), some (.int (nI q)), some (.int dv), some (.int (nI p))] [] (n, sl, t, am_ro I 63 (rsh f k p), J, F) Q := by
  obtain ⟨hn, hn2, ht, hF⟩ := id hW
  have hx := lp0 (A := fun m => am_W X d 261 74 [some (.ref 47), some (.int x1), some (.int x2), some (.int x3), some (.int x4), some (.int x5), some (.int (nI q)), some (.int dv), some (.int (nI (k - m)))] [] (n, sl, t, am_ro I 63 (rsh f k (k - m)), J, F) Q ↔ am_W X d 261 115 [some (.ref 47), some (.int x1), some (.int x2), some (.int x3), some (.int x4), some (.int x5), some (.int (nI q)), some (.int dv), some (.int (nI p))] [] (n, sl, t, am_ro I 63 (rsh f k p), J, F) Q) (N := k - p) ?_ ?_
  · rw [Nat.sub_zero, rsh_k] at hx
    exact hx
  · intro m hm ih
    obtain ⟨a, ha⟩ : ∃ a, k - m = a + 1 := ⟨k - m - 1, by omega⟩
    have ea : k - (m + 1) = a := by omega
    rw [ea, ← rsh_s f k a (by omega)] at ih
    rw [ha]
    have z1 : a + 1 < 2000000 ∧ a < 2000000 ∧ a < 120 ∧ a + 1 < 120 ∧ a < 119 ∧ a < 1999999 := by omega
    have z2 : ¬ a + 1 ≤ 0 := by omega
    have e1 : rsh f k (a + 1) a = f a := by
      unfold rsh
      rw [if_neg (by omega)]
    have e2 : ¬ dv ≤ f a := Int32.not_le.mpr (h1 a (by omega) (by omega))
    have e3 : nI (a + 1) + Int32.ofInt (-1) = nI a := by
      rw [show Int32.ofInt (-1) = -1 by decide, ← Int32.sub_eq_add_neg, nI_pred]
    rw [r261_74]
    simp only [↓r261_76, ↓r261_79, ↓r261_80, ↓r261_83, ↓r261_85, ↓r261_86, ↓r261_87, ↓r261_87k, ↓r261_88, ↓r261_90, ↓r261_93, ↓r261_94, ↓r261_97, ↓r261_99, ↓r261_100, ↓r261_103, ↓r261_105, ↓r261_106, ↓r261_107, ↓r261_107k, ↓r261_108, ↓r261_109, ↓r261_112, q_le, q_lt, q_eq, q_e0, q_e1, q_0e, q_1e, ps_n0, q_0le, q_le0, q_0lt, q_m1e, q_em1, nI_pred, e1, e2, e3, z1, z2, pu_uI, pu_ror, Bool.false_eq_true, hn, hn2, ht, hF, am_wt, am_wf, Option.isSome_some, am_rf_s, am_rf_n, ps_lit, nI_add, nI_1, pk_mul, ps_cl, ps_neg, ps_c0, ps_c1, ps_n01, ps_n11, ps_10, ps_b01, ps_e0, pu_Ine, pu_Ieq, pu_ne, pu_eq, am_k_n, am_k_i, am_k_r, am_k_u, am_k_l, am_sz_0, am_sz_i, am_sz_r, am_sz_u, am_sz_l, Option.toList_some, Option.toList_none, List.cons_append, List.nil_append, true_and, and_true, or_false, false_or, or_self, or_true, true_or, not_false_eq_true, not_true_eq_false, Classical.not_not, ne_eq, ps_e1, ps_em, ps_z, Nat.not_le, false_implies, true_implies, forall_const, ps_01, ps_1n, ps_0n, ps_m10, ps_m1n, lg_cmp_gt, lg_cmp_ge, lg_cmp_le, lg_cmp_lt, lg_cmp_eq, pu_rne, pu_req, pu_uro, RFc_n, Nat.reduceAdd, Nat.reduceMul, Nat.reduceLT, Nat.reduceLeDiff, Nat.reduceEqDiff, Nat.reduceSub]
    exact ih
  · have ek : k - (k - p) = p := by omega
    rw [ek, r261_74]
    rcases h2 with rfl | h2
    · simp only [↓r261_76, q_le, q_lt, q_eq, q_e0, q_e1, q_0e, q_1e, ps_n0, q_0le, q_le0, q_0lt, q_m1e, q_em1, ps_n0, Int32.le_refl, Bool.false_eq_true, hn, hn2, ht, hF, am_wt, am_wf, Option.isSome_some, am_rf_s, am_rf_n, ps_lit, nI_add, nI_1, pk_mul, ps_cl, ps_neg, ps_c0, ps_c1, ps_n01, ps_n11, ps_10, ps_b01, ps_e0, pu_Ine, pu_Ieq, pu_ne, pu_eq, am_k_n, am_k_i, am_k_r, am_k_u, am_k_l, am_sz_0, am_sz_i, am_sz_r, am_sz_u, am_sz_l, Option.toList_some, Option.toList_none, List.cons_append, List.nil_append, true_and, and_true, or_false, false_or, or_self, or_true, true_or, not_false_eq_true, not_true_eq_false, Classical.not_not, ne_eq, ps_e1, ps_em, ps_z, Nat.not_le, false_implies, true_implies, forall_const, ps_01, ps_1n, ps_0n, ps_m10, ps_m1n, lg_cmp_gt, lg_cmp_ge, lg_cmp_le, lg_cmp_lt, lg_cmp_eq, pu_rne, pu_req, pu_uro, RFc_n, Nat.reduceAdd, Nat.reduceMul, Nat.reduceLT, Nat.reduceLeDiff, Nat.reduceEqDiff, Nat.reduceSub]
    · by_cases p0 : p = 0
      · subst p0
        simp only [↓r261_76, q_le, q_lt, q_eq, q_e0, q_e1, q_0e, q_1e, ps_n0, q_0le, q_le0, q_0lt, q_m1e, q_em1, ps_n0, Int32.le_refl, Bool.false_eq_true, hn, hn2, ht, hF, am_wt, am_wf, Option.isSome_some, am_rf_s, am_rf_n, ps_lit, nI_add, nI_1, pk_mul, ps_cl, ps_neg, ps_c0, ps_c1, ps_n01, ps_n11, ps_10, ps_b01, ps_e0, pu_Ine, pu_Ieq, pu_ne, pu_eq, am_k_n, am_k_i, am_k_r, am_k_u, am_k_l, am_sz_0, am_sz_i, am_sz_r, am_sz_u, am_sz_l, Option.toList_some, Option.toList_none, List.cons_append, List.nil_append, true_and, and_true, or_false, false_or, or_self, or_true, true_or, not_false_eq_true, not_true_eq_false, Classical.not_not, ne_eq, ps_e1, ps_em, ps_z, Nat.not_le, false_implies, true_implies, forall_const, ps_01, ps_1n, ps_0n, ps_m10, ps_m1n, lg_cmp_gt, lg_cmp_ge, lg_cmp_le, lg_cmp_lt, lg_cmp_eq, pu_rne, pu_req, pu_uro, RFc_n, Nat.reduceAdd, Nat.reduceMul, Nat.reduceLT, Nat.reduceLeDiff, Nat.reduceEqDiff, Nat.reduceSub]
      · obtain ⟨a, rfl⟩ : ∃ a, p = a + 1 := ⟨p - 1, by omega⟩
        have z1 : a + 1 < 2000000 ∧ a < 2000000 ∧ a < 120 := by omega
        have z2 : ¬ a + 1 ≤ 0 := by omega
        have e1 : rsh f k (a + 1) a = f a := by
          unfold rsh
          rw [if_neg (by omega)]
        rw [Nat.add_sub_cancel] at h2
        have e2 : dv ≤ f a := Int32.not_lt.mp h2
        simp only [↓r261_76, ↓r261_79, ↓r261_80, ↓r261_83, ↓r261_85, ↓r261_86, ↓r261_87, ↓r261_87k, ↓r261_88, ↓r261_90, q_le, q_lt, q_eq, q_e0, q_e1, q_0e, q_1e, ps_n0, q_0le, q_le0, q_0lt, q_m1e, q_em1, nI_pred, e1, e2, z1, z2, Bool.false_eq_true, hn, hn2, ht, hF, am_wt, am_wf, Option.isSome_some, am_rf_s, am_rf_n, ps_lit, nI_add, nI_1, pk_mul, ps_cl, ps_neg, ps_c0, ps_c1, ps_n01, ps_n11, ps_10, ps_b01, ps_e0, pu_Ine, pu_Ieq, pu_ne, pu_eq, am_k_n, am_k_i, am_k_r, am_k_u, am_k_l, am_sz_0, am_sz_i, am_sz_r, am_sz_u, am_sz_l, Option.toList_some, Option.toList_none, List.cons_append, List.nil_append, true_and, and_true, or_false, false_or, or_self, or_true, true_or, not_false_eq_true, not_true_eq_false, Classical.not_not, ne_eq, ps_e1, ps_em, ps_z, Nat.not_le, false_implies, true_implies, forall_const, ps_01, ps_1n, ps_0n, ps_m10, ps_m1n, lg_cmp_gt, lg_cmp_ge, lg_cmp_le, lg_cmp_lt, lg_cmp_eq, pu_rne, pu_req, pu_uro, RFc_n, Nat.reduceAdd, Nat.reduceMul, Nat.reduceLT, Nat.reduceLeDiff, Nat.reduceEqDiff, Nat.reduceSub]
/-- how many of the first k part by v -/
def cpv (v : Nat → Nat) (k : Nat) : Nat → Nat := fun x => cnt (fun i => decide (v i = x)) k
theorem cpv_s (v : Nat → Nat) (k : Nat) : cpv v (k + 1) = fun x => if x = v k then cpv v k x + 1 else cpv v k x := by
  funext x
  unfold cpv
  rw [cnt]
  by_cases h : x = v k
  · rw [if_pos h, if_pos (by simp [h])]
  · rw [if_neg h, if_neg (by simp; exact fun q => h q.symm), Nat.add_zero]
theorem bl_len {v : Nat → Nat} : ∀ k, (∀ i, i < k → v i ≤ 200) → (bl (cpv v k) 200).length = k := by
  intro k
  induction k with
  | zero =>
    intro _
    have : ∀ V, bl (cpv v 0) V = [] := by
      intro V
      induction V with
      | zero => rfl
      | succ V ih => rw [bl, ih]; rfl
    rw [this]
    rfl
  | succ k ih =>
    intro h
    obtain ⟨A, B, h1, h2, _⟩ := bl_ins (c := cpv v k) (d := v k) 200 (h k (by omega))
    rw [cpv_s, h2, List.length_append, List.length_cons]
    have := ih (fun i hi => h i (by omega))
    rw [h1, List.length_append] at this
    omega
theorem m_part {j1 j2 wy de : Nat} {l : List Nat} (hC : CX n t I F K N T lw) (h1 : j1 < T) (h2 : j2 < T) (hwy : wy ≤ 23) (hde : de ≤ 2) (hG : GH (I 47 24) (I 59) l N)
    (hQ : ∀ f47 f58 f63 g47, (∀ k, k ≠ 17 → k ≠ 18 → k ≠ 19 → k ≠ 22 → f47 k = I 47 k) → (∀ i, i < l.length → f63 i = nI ((bl (cpv (fun i => pdv K (lw j1) (lw j2) wy de (l.getD i 0)) l.length) 200).getD i 0)) → Q (some (.int (nI (sm (fun i => pdv K (lw j1) (lw j2) wy de (l.getD i 0)) l.length)))) (n, sl, t, am_ro (am_ro (am_ro I 47 f47) 58 f58) 63 f63, am_ro J 47 g47, F)) : am_W X (d + 46) 261 0 [some (.ref 47), some (.int (nI j1)), some (.int (nI j2)), some (.int (nI wy)), some (.int (nI de)), none, none, none, none] [] (n, sl, t, I, J, F) Q := by
  obtain ⟨hW, hK, h49, _, _⟩ := id hC
  obtain ⟨g1, g2, g3⟩ := hG
  have hN := hK.1
  obtain ⟨hn, hn2, ht, hF⟩ := id hW
  generalize hv : (fun i => pdv K (lw j1) (lw j2) wy de (l.getD i 0)) = v at hQ
  have hvi : ∀ i, v i = pdv K (lw j1) (lw j2) wy de (l.getD i 0) := fun i => by rw [← hv]
  have v200 : ∀ i, v i ≤ 200 := fun i => by rw [hvi]; exact pdv_le hK
  have hx : ∀ f47 f58 f63 g47, ∀ l7 l8 : Option Value, (∀ k, k ≠ 17 → k ≠ 18 → k ≠ 19 → k ≠ 22 → f47 k = I 47 k) → (∀ i, i < 0 → f63 i = nI ((bl (cpv v 0) 200).getD i 0)) → am_W X (d + 46) 261 6 [some (.ref 47), some (.int (nI j1)), some (.int (nI j2)), some (.int (nI wy)), some (.int (nI de)), some (.int 0), some (.int 0), l7, l8] [] (n, sl, t, am_ro (am_ro (am_ro I 47 f47) 58 f58) 63 f63, am_ro J 47 g47, F) Q := by
    refine lp0 (A := fun k => ∀ f47 f58 f63 g47, ∀ l7 l8 : Option Value, (∀ k, k ≠ 17 → k ≠ 18 → k ≠ 19 → k ≠ 22 → f47 k = I 47 k) → (∀ i, i < k → f63 i = nI ((bl (cpv v k) 200).getD i 0)) → am_W X (d + 46) 261 6 [some (.ref 47), some (.int (nI j1)), some (.int (nI j2)), some (.int (nI wy)), some (.int (nI de)), some (.int (nI (sm v k))), some (.int (nI k)), l7, l8] [] (n, sl, t, am_ro (am_ro (am_ro I 47 f47) 58 f58) 63 f63, am_ro J 47 g47, F) Q) (N := l.length) ?_ ?_
    · intro k hk ih f47 f58 f63 g47 l7 l8 q1 q2
      obtain ⟨k1, k2⟩ := g3 k hk
      have z1 : k < 2000000 ∧ l.length < 2000000 ∧ k < 120 := by omega
      have z2 : ¬ l.length ≤ k := by omega
      have e24 : f47 24 = nI l.length := (q1 24 (by decide) (by decide) (by decide) (by decide)).trans g1
      have w1 := nI_m1 (k := wy) (by omega)
      have w2 := nI_m1 (k := de) (by omega)
      have hw := wdt_WV (c := l.getD k 0) hK k2 hwy hde
      rw [r261_6]
      simp only [↓r261_8, ↓r261_9, ↓r261_12, ↓r261_15, ↓r261_16, ↓r261_17, ↓r261_18, ↓r261_21, ↓r261_23, ↓r261_23k, ↓r261_24, ↓r261_25, ↓r261_27, q_le, q_lt, q_eq, q_e0, q_e1, q_0e, q_1e, ps_n0, q_0le, q_le0, q_0lt, q_m1e, q_em1, e24, k1, z1, z2, Bool.false_eq_true, hn, hn2, ht, hF, am_wt, am_wf, Option.isSome_some, am_rf_s, am_rf_n, ps_lit, nI_add, nI_1, pk_mul, ps_cl, ps_neg, ps_c0, ps_c1, ps_n01, ps_n11, ps_10, ps_b01, ps_e0, pu_Ine, pu_Ieq, pu_ne, pu_eq, am_k_n, am_k_i, am_k_r, am_k_u, am_k_l, am_sz_0, am_sz_i, am_sz_r, am_sz_u, am_sz_l, Option.toList_some, Option.toList_none, List.cons_append, List.nil_append, true_and, and_true, or_false, false_or, or_self, or_true, true_or, not_false_eq_true, not_true_eq_false, Classical.not_not, ne_eq, ps_e1, ps_em, ps_z, Nat.not_le, false_implies, true_implies, forall_const, ps_01, ps_1n, ps_0n, ps_m10, ps_m1n, lg_cmp_gt, lg_cmp_ge, lg_cmp_le, lg_cmp_lt, lg_cmp_eq, pu_rne, pu_req, pu_uro, RFc_n, Nat.reduceAdd, Nat.reduceMul, Nat.reduceLT, Nat.reduceLeDiff, Nat.reduceEqDiff, Nat.reduceSub]
      refine m_waitsOf hC h1 k2 (by rw [pu_rne (by decide), pu_rne (by decide), pu_rne (by decide)]; exact h49) (by rw [if_neg w1, if_neg w2]; exact hw) (fun a b g q3 => ?_)
      rw [if_neg w1, if_neg w2]
      have q4 : ∀ k, k ≠ 17 → k ≠ 18 → k ≠ 19 → k ≠ 22 → a k = I 47 k := fun k k1 k2 k3 k4 => by
        rw [q3 k k1 k2 k3 k4, pu_rne (by decide), pu_rne (by decide), pu_req]
        exact q1 k k1 k2 k3 k4
      simp only [↓r261_30, ↓r261_31, ↓r261_32, ↓r261_33, ↓r261_36, ↓r261_38, ↓r261_38k, ↓r261_39, ↓r261_40, ↓r261_42, k1, z1, pu_rol, pu_ror, Bool.false_eq_true, hn, hn2, ht, hF, am_wt, am_wf, Option.isSome_some, am_rf_s, am_rf_n, ps_lit, nI_add, nI_1, pk_mul, ps_cl, ps_neg, ps_c0, ps_c1, ps_n01, ps_n11, ps_10, ps_b01, ps_e0, pu_Ine, pu_Ieq, pu_ne, pu_eq, am_k_n, am_k_i, am_k_r, am_k_u, am_k_l, am_sz_0, am_sz_i, am_sz_r, am_sz_u, am_sz_l, Option.toList_some, Option.toList_none, List.cons_append, List.nil_append, true_and, and_true, or_false, false_or, or_self, or_true, true_or, not_false_eq_true, not_true_eq_false, Classical.not_not, ne_eq, ps_e1, ps_em, ps_z, Nat.not_le, false_implies, true_implies, forall_const, ps_01, ps_1n, ps_0n, ps_m10, ps_m1n, lg_cmp_gt, lg_cmp_ge, lg_cmp_le, lg_cmp_lt, lg_cmp_eq, pu_rne, pu_req, pu_uro, RFc_n, Nat.reduceAdd, Nat.reduceMul, Nat.reduceLT, Nat.reduceLeDiff, Nat.reduceEqDiff, Nat.reduceSub]
      refine m_waitsOf hC h2 k2 (by rw [pu_rne (by decide), pu_rne (by decide), pu_rne (by decide)]; exact h49) (by rw [if_neg w1, if_neg w2]; exact hw) (fun a2 b2 g2 q5 => ?_)
      rw [if_neg w1, if_neg w2]
      have q6 : ∀ k, k ≠ 17 → k ≠ 18 → k ≠ 19 → k ≠ 22 → a2 k = I 47 k := fun k k1 k2 k3 k4 => by
        rw [q5 k k1 k2 k3 k4, pu_rne (by decide), pu_rne (by decide), pu_req]
        exact q4 k k1 k2 k3 k4
      obtain ⟨_, x2, _⟩ := tEnd_le hK
      have y1 : wtV (lw j1) (wdt K (l.getD k 0) (nI wy) (nI de)) (10 * tEnd K) ≤ 200 := Nat.le_trans wtV_le (by omega)
      have y2 : wtV (lw j2) (wdt K (l.getD k 0) (nI wy) (nI de)) (10 * tEnd K) ≤ 200 := Nat.le_trans wtV_le (by omega)
      have hvk : v k = abd (wtV (lw j1) (wdt K (l.getD k 0) (nI wy) (nI de)) (10 * tEnd K)) (wtV (lw j2) (wdt K (l.getD k 0) (nI wy) (nI de)) (10 * tEnd K)) := hvi k
      generalize wtV (lw j1) (wdt K (l.getD k 0) (nI wy) (nI de)) (10 * tEnd K) = u1 at y1 hvk ⊢
      generalize wtV (lw j2) (wdt K (l.getD k 0) (nI wy) (nI de)) (10 * tEnd K) = u2 at y2 hvk ⊢
      have go : am_W X (d + 46) 261 63 [some (.ref 47), some (.int (nI j1)), some (.int (nI j2)), some (.int (nI wy)), some (.int (nI de)), some (.int (nI (sm v k))), some (.int (nI k)), some (.int (nI (v k))), l8] [] (n, sl, t, am_ro (am_ro (am_ro I 47 a2) 58 b2) 63 f63, am_ro J 47 g2, F) Q := by
        obtain ⟨A, B, b1, b2', b3, b4⟩ := bl_ins (c := cpv v k) (d := v k) 200 (v200 k)
        have hlen := bl_len (v := v) k (fun i _ => v200 i)
        have hA : A.length ≤ k := by rw [← hlen, b1, List.length_append]; omega
        have zA : A.length < 2000000 ∧ A.length < 120 := by omega
        have hins := ml_ins (X := X) (d := d + 46) (Q := Q) (n := n) (sl := sl) (t := t) (J := am_ro J 47 g2) (F := F) (I := am_ro (am_ro I 47 a2) 58 b2) (x1 := nI j1) (x2 := nI j2) (x3 := nI wy) (x4 := nI de) (x5 := nI (sm v k + v k)) (dv := nI (v k)) (k := k) (q := k) (p := A.length) (f := f63) hW (by omega) hA (fun i i1 i2 => by
          rw [q2 i i2, b1]
          have := b3 _ (gd_B i1 (by rw [← b1, hlen]; exact i2))
          exact nI_lt this (by have := v200 k; omega)) (by
          by_cases a0 : A.length = 0
          · exact Or.inl a0
          · refine Or.inr ?_
            rw [q2 _ (by omega), b1]
            have := b4 _ (gd_A (B := B) (i := A.length - 1) (by omega))
            have h200 := bl_le (c := cpv v k) 200 ((A ++ B).getD (A.length - 1) 0) (by rw [b1]; exact List.mem_append_left _ (gd_A (by omega)))
            exact nI_nlt this (by omega))
        simp only [↓r261_63, ↓r261_65, ↓r261_67, ↓r261_68, ↓r261_70, ↓r261_72, Bool.false_eq_true, hn, hn2, ht, hF, am_wt, am_wf, Option.isSome_some, am_rf_s, am_rf_n, ps_lit, nI_add, nI_1, pk_mul, ps_cl, ps_neg, ps_c0, ps_c1, ps_n01, ps_n11, ps_10, ps_b01, ps_e0, pu_Ine, pu_Ieq, pu_ne, pu_eq, am_k_n, am_k_i, am_k_r, am_k_u, am_k_l, am_sz_0, am_sz_i, am_sz_r, am_sz_u, am_sz_l, Option.toList_some, Option.toList_none, List.cons_append, List.nil_append, true_and, and_true, or_false, false_or, or_self, or_true, true_or, not_false_eq_true, not_true_eq_false, Classical.not_not, ne_eq, ps_e1, ps_em, ps_z, Nat.not_le, false_implies, true_implies, forall_const, ps_01, ps_1n, ps_0n, ps_m10, ps_m1n, lg_cmp_gt, lg_cmp_ge, lg_cmp_le, lg_cmp_lt, lg_cmp_eq, pu_rne, pu_req, pu_uro, RFc_n, Nat.reduceAdd, Nat.reduceMul, Nat.reduceLT, Nat.reduceLeDiff, Nat.reduceEqDiff, Nat.reduceSub]
        refine hins.mpr ?_
        have ih' := ih a2 b2 (upd (rsh f63 k A.length) A.length (nI (v k))) g2 (some (.int (nI (v k)))) (some (.int (nI A.length))) q6 (fun i hi => by
          rw [cpv_s, b2', gd_app, ← b1]
          unfold upd rsh
          by_cases i1 : i < A.length
          · rw [if_neg (by omega), if_neg (by omega), if_pos i1]
            exact q2 i (by omega)
          · rw [if_neg i1]
            by_cases i2 : i = A.length
            · rw [if_pos i2, if_pos i2]
            · rw [if_neg i2, if_neg i2, if_pos (by omega)]
              exact q2 (i - 1) (by omega))
        have es : sm v (k + 1) = sm v k + v k := rfl
        rw [es] at ih'
        simp only [↓r261_115, ↓r261_116, ↓r261_119, ↓r261_121, ↓r261_123, ↓r261_124, ↓r261_127, zA, pu_uI, pu_rol, pu_ror, Bool.false_eq_true, hn, hn2, ht, hF, am_wt, am_wf, Option.isSome_some, am_rf_s, am_rf_n, ps_lit, nI_add, nI_1, pk_mul, ps_cl, ps_neg, ps_c0, ps_c1, ps_n01, ps_n11, ps_10, ps_b01, ps_e0, pu_Ine, pu_Ieq, pu_ne, pu_eq, am_k_n, am_k_i, am_k_r, am_k_u, am_k_l, am_sz_0, am_sz_i, am_sz_r, am_sz_u, am_sz_l, Option.toList_some, Option.toList_none, List.cons_append, List.nil_append, true_and, and_true, or_false, false_or, or_self, or_true, true_or, not_false_eq_true, not_true_eq_false, Classical.not_not, ne_eq, ps_e1, ps_em, ps_z, Nat.not_le, false_implies, true_implies, forall_const, ps_01, ps_1n, ps_0n, ps_m10, ps_m1n, lg_cmp_gt, lg_cmp_ge, lg_cmp_le, lg_cmp_lt, lg_cmp_eq, pu_rne, pu_req, pu_uro, RFc_n, Nat.reduceAdd, Nat.reduceMul, Nat.reduceLT, Nat.reduceLeDiff, Nat.reduceEqDiff, Nat.reduceSub]
        exact ih'
      have s0 := su_0le' y1 y2
      by_cases c1 : u2 ≤ u1
      · have ev : v k = u1 - u2 := by rw [hvk]; unfold abd; split <;> omega
        rw [ev] at go
        simp only [↓r261_45, ↓r261_46, ↓r261_48, ↓r261_50, ↓r261_53, ↓r261_55, ↓r261_56, ↓r261_59, ↓r261_61, s0.mpr c1, pk_sub c1, q_0le (show u1 - u2 < 2000000 by omega), pu_rol, pu_ror, Bool.false_eq_true, hn, hn2, ht, hF, am_wt, am_wf, Option.isSome_some, am_rf_s, am_rf_n, ps_lit, nI_add, nI_1, pk_mul, ps_cl, ps_neg, ps_c0, ps_c1, ps_n01, ps_n11, ps_10, ps_b01, ps_e0, pu_Ine, pu_Ieq, pu_ne, pu_eq, am_k_n, am_k_i, am_k_r, am_k_u, am_k_l, am_sz_0, am_sz_i, am_sz_r, am_sz_u, am_sz_l, Option.toList_some, Option.toList_none, List.cons_append, List.nil_append, true_and, and_true, or_false, false_or, or_self, or_true, true_or, not_false_eq_true, not_true_eq_false, Classical.not_not, ne_eq, ps_e1, ps_em, ps_z, Nat.not_le, false_implies, true_implies, forall_const, ps_01, ps_1n, ps_0n, ps_m10, ps_m1n, lg_cmp_gt, lg_cmp_ge, lg_cmp_le, lg_cmp_lt, lg_cmp_eq, pu_rne, pu_req, pu_uro, RFc_n, Nat.reduceAdd, Nat.reduceMul, Nat.reduceLT, Nat.reduceLeDiff, Nat.reduceEqDiff, Nat.reduceSub]
        exact go
      · have ev : v k = u2 - u1 := by rw [hvk]; unfold abd; split <;> omega
        have c2 : ¬ 0 ≤ nI u1 - nI u2 := fun q => c1 (s0.mp q)
        rw [ev] at go
        simp only [↓r261_45, ↓r261_46, ↓r261_48, ↓r261_50, ↓r261_53, ↓r261_55, ↓r261_56, ↓r261_59, ↓r261_61, c2, ng_s, pk_sub (show u1 ≤ u2 by omega), pu_rol, pu_ror, Bool.false_eq_true, hn, hn2, ht, hF, am_wt, am_wf, Option.isSome_some, am_rf_s, am_rf_n, ps_lit, nI_add, nI_1, pk_mul, ps_cl, ps_neg, ps_c0, ps_c1, ps_n01, ps_n11, ps_10, ps_b01, ps_e0, pu_Ine, pu_Ieq, pu_ne, pu_eq, am_k_n, am_k_i, am_k_r, am_k_u, am_k_l, am_sz_0, am_sz_i, am_sz_r, am_sz_u, am_sz_l, Option.toList_some, Option.toList_none, List.cons_append, List.nil_append, true_and, and_true, or_false, false_or, or_self, or_true, true_or, not_false_eq_true, not_true_eq_false, Classical.not_not, ne_eq, ps_e1, ps_em, ps_z, Nat.not_le, false_implies, true_implies, forall_const, ps_01, ps_1n, ps_0n, ps_m10, ps_m1n, lg_cmp_gt, lg_cmp_ge, lg_cmp_le, lg_cmp_lt, lg_cmp_eq, pu_rne, pu_req, pu_uro, RFc_n, Nat.reduceAdd, Nat.reduceMul, Nat.reduceLT, Nat.reduceLeDiff, Nat.reduceEqDiff, Nat.reduceSub]
        exact go
    · intro f47 f58 f63 g47 l7 l8 q1 q2
      have e24 : f47 24 = nI l.length := (q1 24 (by decide) (by decide) (by decide) (by decide)).trans g1
      rw [r261_6]
      simp only [↓r261_8, ↓r261_9, ↓r261_12, ↓r261_130, ↓r261_132, e24, Int32.le_refl, Bool.false_eq_true, hn, hn2, ht, hF, am_wt, am_wf, Option.isSome_some, am_rf_s, am_rf_n, ps_lit, nI_add, nI_1, pk_mul, ps_cl, ps_neg, ps_c0, ps_c1, ps_n01, ps_n11, ps_10, ps_b01, ps_e0, pu_Ine, pu_Ieq, pu_ne, pu_eq, am_k_n, am_k_i, am_k_r, am_k_u, am_k_l, am_sz_0, am_sz_i, am_sz_r, am_sz_u, am_sz_l, Option.toList_some, Option.toList_none, List.cons_append, List.nil_append, true_and, and_true, or_false, false_or, or_self, or_true, true_or, not_false_eq_true, not_true_eq_false, Classical.not_not, ne_eq, ps_e1, ps_em, ps_z, Nat.not_le, false_implies, true_implies, forall_const, ps_01, ps_1n, ps_0n, ps_m10, ps_m1n, lg_cmp_gt, lg_cmp_ge, lg_cmp_le, lg_cmp_lt, lg_cmp_eq, pu_rne, pu_req, pu_uro, RFc_n, Nat.reduceAdd, Nat.reduceMul, Nat.reduceLT, Nat.reduceLeDiff, Nat.reduceEqDiff, Nat.reduceSub]
      exact hQ f47 f58 f63 g47 q1 q2
  have h3 := hx (I 47) (I 58) (I 63) (J 47) none none (fun _ _ _ _ _ => rfl) (fun i hi => by omega)
  rw [pu_roJ, pu_roI, pu_roI, pu_roI] at h3
  simp only [↓r261_0, ↓r261_1, ↓r261_3, ↓r261_4, Bool.false_eq_true, hn, hn2, ht, hF, am_wt, am_wf, Option.isSome_some, am_rf_s, am_rf_n, ps_lit, nI_add, nI_1, pk_mul, ps_cl, ps_neg, ps_c0, ps_c1, ps_n01, ps_n11, ps_10, ps_b01, ps_e0, pu_Ine, pu_Ieq, pu_ne, pu_eq, am_k_n, am_k_i, am_k_r, am_k_u, am_k_l, am_sz_0, am_sz_i, am_sz_r, am_sz_u, am_sz_l, Option.toList_some, Option.toList_none, List.cons_append, List.nil_append, true_and, and_true, or_false, false_or, or_self, or_true, true_or, not_false_eq_true, not_true_eq_false, Classical.not_not, ne_eq, ps_e1, ps_em, ps_z, Nat.not_le, false_implies, true_implies, forall_const, ps_01, ps_1n, ps_0n, ps_m10, ps_m1n, lg_cmp_gt, lg_cmp_ge, lg_cmp_le, lg_cmp_lt, lg_cmp_eq, pu_rne, pu_req, pu_uro, RFc_n, Nat.reduceAdd, Nat.reduceMul, Nat.reduceLT, Nat.reduceLeDiff, Nat.reduceEqDiff, Nat.reduceSub]
  exact h3
end P2
