/-! LONG and SHORT ones -/
section SI
variable {X : am_X} {d : Nat} {Q : Option Value → am_H → Prop} {n sl : Nat} {t : Nat → Nat × Nat} {I : Nat → Nat → Int32} {J : Nat → Nat → Int64} {F : Nat → Nat → Option Nat} {h : am_H}
variable {K : Nat → Int32} {N T : Nat} {lw : Nat → List CL}
/-- those of the first k of a list that have p -/
def flt (p : Nat → Bool) (l : List Nat) : Nat → List Nat
  | 0 => []
  | k + 1 => flt p l k ++ (if p (l.getD k 0) = true then [l.getD k 0] else [])
theorem flt_le (p : Nat → Bool) (l : List Nat) : ∀ k, (flt p l k).length ≤ k := by
  intro k
  induction k with
  | zero => exact Nat.le_refl 0
  | succ k ih =>
    rw [flt, List.length_append]
    split
    · rw [List.length_singleton]; omega
    · rw [List.length_nil]; omega
theorem flt_mem {p : Nat → Bool} {l : List Nat} {c : Nat} : ∀ {k}, c ∈ flt p l k → ∃ i, i < k ∧ c = l.getD i 0 ∧ p c = true := by
  intro k
  induction k with
  | zero => intro h; cases h
  | succ k ih =>
    intro h
    rw [flt] at h
    rcases List.mem_append.mp h with q | q
    · obtain ⟨i, h1, h2, h3⟩ := ih q
      exact ⟨i, by omega, h2, h3⟩
    · by_cases hp : p (l.getD k 0) = true
      · rw [if_pos hp] at q
        have e := List.mem_singleton.mp q
        exact ⟨k, by omega, e, by rw [e]; exact hp⟩
      · rw [if_neg hp] at q
        cases q
theorem getD_mem {l : List Nat} {i : Nat} (h : i < l.length) : l.getD i 0 ∈ l := by
  rw [List.getD_eq_getElem?_getD, List.getElem?_eq_getElem h, Option.getD_some]
  exact List.getElem_mem h
theorem sm_flt (p : Nat → Bool) (l : List Nat) (f : Nat → Nat) : ∀ k, sm (fun i => f ((flt p l k).getD i 0)) (flt p l k).length = sm (fun i => if p (l.getD i 0) = true then f (l.getD i 0) else 0) k := by
  intro k
  induction k with
  | zero => rfl
  | succ k ih =>
    rw [sm, ← ih]
    by_cases hp : p (l.getD k 0) = true
    · have e : flt p l (k + 1) = flt p l k ++ [l.getD k 0] := by rw [flt, if_pos hp]
      rw [e, List.length_append, List.length_singleton, sm, if_pos hp]
      have e1 : (flt p l k ++ [l.getD k 0]).getD (flt p l k).length 0 = l.getD k 0 := by
        rw [List.getD_eq_getElem?_getD, List.getElem?_append_right (Nat.le_refl _), Nat.sub_self]
        rfl
      rw [e1, sm_c (g := fun i => f ((flt p l k).getD i 0))]
      intro i hi
      simp only [List.getD_eq_getElem?_getD, List.getElem?_append_left hi]
    · have e : flt p l (k + 1) = flt p l k := by rw [flt, if_neg hp, List.append_nil]
      rw [e, if_neg hp, Nat.add_zero]
/-- a row filled for some of a list -/
def twr (f : Nat → Int32) (p : Nat → Bool) (v : Nat → Int32) (l : List Nat) : Nat → (Nat → Int32)
  | 0 => f
  | k + 1 => if p (l.getD k 0) = true then upd (twr f p v l k) (l.getD k 0) (v (l.getD k 0)) else twr f p v l k
theorem twr_at {f : Nat → Int32} {p : Nat → Bool} {v : Nat → Int32} {l : List Nat} {c : Nat} (hp : p c = true) : ∀ k i, i < k → c = l.getD i 0 → twr f p v l k c = v c := by
  intro k
  induction k with
  | zero => intro i hi; omega
  | succ k ih =>
    intro i hi e
    rw [twr]
    by_cases h1 : l.getD k 0 = c
    · rw [h1, if_pos hp, pu_eq]
    · have hi' : i < k := by
        refine Nat.lt_of_le_of_ne (by omega) (fun q => h1 ?_)
        rw [← q]
        exact e.symm
      split
      · rw [pu_ne (fun q => h1 q.symm)]
        exact ih i hi' e
      · exact ih i hi' e
/-- the cells of the sides -/
def sdI (I : Nat → Nat → Int32) (LL SS FF : List Nat) (tf wf : Nat → Int32) : Nat → Nat → Int32 := fun a => match a with
  | 29 => upd (I 29) 1 (nI LL.length)
  | 30 => ro_g (I 30) LL
  | 31 => upd (I 31) 1 (nI SS.length)
  | 32 => ro_g (I 32) SS
  | 33 => upd (I 33) 1 (nI FF.length)
  | 34 => ro_g (I 34) FF
  | 35 => tf
  | 36 => wf
  | a => I a
variable {LL SS FF : List Nat} {tf wf : Nat → Int32}
theorem sd_29 : sdI I LL SS FF tf wf 29 1 = nI LL.length := rfl
theorem sd_31 : sdI I LL SS FF tf wf 31 1 = nI SS.length := rfl
theorem sd_33 : sdI I LL SS FF tf wf 33 1 = nI FF.length := rfl
theorem sd_30 : sdI I LL SS FF tf wf 30 = ro_g (I 30) LL := rfl
theorem sd_32 : sdI I LL SS FF tf wf 32 = ro_g (I 32) SS := rfl
theorem sd_34 : sdI I LL SS FF tf wf 34 = ro_g (I 34) FF := rfl
theorem sd_35 : sdI I LL SS FF tf wf 35 = tf := rfl
theorem sd_36 : sdI I LL SS FF tf wf 36 = wf := rfl
theorem sd_n {a : Nat} (h : a < 29 ∨ 36 < a) : sdI I LL SS FF tf wf a = I a := by
  unfold sdI
  split <;> first | omega | rfl
theorem SC_sd {I0 : Nat → Nat → Int32} (h : SC I0 I) : SC I0 (sdI I LL SS FF tf wf) := fun a k hk => by
  by_cases e : 29 ≤ a ∧ a ≤ 36
  · have : scr a k = true := by
      have : a = 29 ∨ a = 30 ∨ a = 31 ∨ a = 32 ∨ a = 33 ∨ a = 34 ∨ a = 35 ∨ a = 36 := by omega
      rcases this with e | e | e | e | e | e | e | e <;> rw [e] <;> rfl
    rw [this] at hk
    cases hk
  · rw [sd_n (by omega)]
    exact h a k hk
theorem sd_a29 {c : Nat} : am_ro (am_ro (sdI I LL SS FF tf wf) 29 (upd (sdI I LL SS FF tf wf 29) 1 (nI (LL.length + 1)))) 30 (upd (sdI I LL SS FF tf wf 30) LL.length (nI c)) = sdI I (LL ++ [c]) SS FF tf wf := by
  funext a
  by_cases h2 : a = 30
  · subst h2
    rw [pu_req, sd_30, sd_30, ro_gs]
  · rw [pu_rne h2]
    by_cases h1 : a = 29
    · subst h1
      rw [pu_req]
      show upd (upd (I 29) 1 (nI LL.length)) 1 (nI (LL.length + 1)) = upd (I 29) 1 (nI (LL ++ [c]).length)
      rw [pu_uu, List.length_append, List.length_singleton]
    · rw [pu_rne h1]
      unfold sdI
      split <;> first | contradiction | rfl
theorem sd_a31 {c : Nat} : am_ro (am_ro (sdI I LL SS FF tf wf) 31 (upd (sdI I LL SS FF tf wf 31) 1 (nI (SS.length + 1)))) 32 (upd (sdI I LL SS FF tf wf 32) SS.length (nI c)) = sdI I LL (SS ++ [c]) FF tf wf := by
  funext a
  by_cases h2 : a = 32
  · subst h2
    rw [pu_req, sd_32, sd_32, ro_gs]
  · rw [pu_rne h2]
    by_cases h1 : a = 31
    · subst h1
      rw [pu_req]
      show upd (upd (I 31) 1 (nI SS.length)) 1 (nI (SS.length + 1)) = upd (I 31) 1 (nI (SS ++ [c]).length)
      rw [pu_uu, List.length_append, List.length_singleton]
    · rw [pu_rne h1]
      unfold sdI
      split <;> first | contradiction | rfl
theorem sd_a33 {c : Nat} : am_ro (am_ro (sdI I LL SS FF tf wf) 33 (upd (sdI I LL SS FF tf wf 33) 1 (nI (FF.length + 1)))) 34 (upd (sdI I LL SS FF tf wf 34) FF.length (nI c)) = sdI I LL SS (FF ++ [c]) tf wf := by
  funext a
  by_cases h2 : a = 34
  · subst h2
    rw [pu_req, sd_34, sd_34, ro_gs]
  · rw [pu_rne h2]
    by_cases h1 : a = 33
    · subst h1
      rw [pu_req]
      show upd (upd (I 33) 1 (nI FF.length)) 1 (nI (FF.length + 1)) = upd (I 33) 1 (nI (FF ++ [c]).length)
      rw [pu_uu, List.length_append, List.length_singleton]
    · rw [pu_rne h1]
      unfold sdI
      split <;> first | contradiction | rfl
theorem sd_a35 {f : Nat → Int32} : am_ro (sdI I LL SS FF tf wf) 35 f = sdI I LL SS FF f wf := by
  funext a
  by_cases h1 : a = 35
  · subst h1
    rw [pu_req, sd_35]
  · rw [pu_rne h1]
    unfold sdI
    split <;> first | contradiction | rfl
theorem sd_a36 {f : Nat → Int32} : am_ro (sdI I LL SS FF tf wf) 36 f = sdI I LL SS FF tf f := by
  funext a
  by_cases h1 : a = 36
  · subst h1
    rw [pu_req, sd_36]
  · rw [pu_rne h1]
    unfold sdI
    split <;> first | contradiction | rfl
theorem c_ad29 {c : Nat} (hW : WS n t F) (hq : LL.length < 120) : am_W X d 66 0 [some (.ref 29), some (.int (nI c))] [] (n, sl, t, sdI I LL SS FF tf wf, J, F) Q ↔ Q none (n, sl, t, sdI I (LL ++ [c]) SS FF tf wf, J, F) := by
  rw [c_add29 hW hq sd_29, sd_a29]
theorem c_ad31 {c : Nat} (hW : WS n t F) (hq : SS.length < 120) : am_W X d 66 0 [some (.ref 31), some (.int (nI c))] [] (n, sl, t, sdI I LL SS FF tf wf, J, F) Q ↔ Q none (n, sl, t, sdI I LL (SS ++ [c]) FF tf wf, J, F) := by
  rw [c_add31 hW hq sd_31, sd_a31]
theorem c_ad33 {c : Nat} (hW : WS n t F) (hq : FF.length < 120) : am_W X d 66 0 [some (.ref 33), some (.int (nI c))] [] (n, sl, t, sdI I LL SS FF tf wf, J, F) Q ↔ Q none (n, sl, t, sdI I LL SS (FF ++ [c]) tf wf, J, F) := by
  rw [c_add33 hW hq sd_33, sd_a33]
theorem near23 {w : Nat} (h : w ≤ 23) : (if (0 : Int32) < (if nI w < nI 23 then nI w else nI 23) then (if nI w < nI 23 then nI w else nI 23) else 0) = nI w := by
  have e1 : (if nI w < nI 23 then nI w else nI 23) = nI w := by
    by_cases q : w < 23
    · rw [if_pos (nI_lt q (by decide))]
    · have : w = 23 := by omega
      rw [this]
      split <;> rfl
  rw [e1]
  by_cases q : w = 0
  · rw [q]; rfl
  · rw [if_pos]
    rw [q_0lt (by omega)]
    omega
theorem c_sadd0 {c : Nat} {sd : Int32} (hW : WS n t F) : am_W X (d + 1) 123 0 [some (.ref 28), some (.int (nI c)), some (.int sd), some (.int (-1)), none] [] (n, sl, t, I, J, F) Q ↔ Q none (n, sl, t, I, J, F) := by
  obtain ⟨hn, hn2, ht, hF⟩ := id hW
  simp only [↓r123_0, ↓r123_1, ↓r123_3, ↓r123_4, ↓r123_5, ↓r123_6, ↓r123_8, ↓r123_9, ↓r123_10, ↓r123_13, ↓r123_14, ↓r123_15, ↓r123_17, ↓r123_20, ↓r123_23, ↓r123_25, ↓r123_26, ↓r123_29, ↓r123_29k, ↓r123_30, ↓r123_33, if_true, Bool.false_eq_true, hn, hn2, ht, hF, am_wt, am_wf, Option.isSome_some, am_rf_s, am_rf_n, ps_lit, nI_add, nI_1, pk_mul, ps_cl, ps_neg, ps_c0, ps_c1, ps_n01, ps_n11, ps_10, ps_b01, ps_e0, pu_Ine, pu_Ieq, pu_ne, pu_eq, am_k_n, am_k_i, am_k_r, am_k_u, am_k_l, am_sz_0, am_sz_i, am_sz_r, am_sz_u, am_sz_l, Option.toList_some, Option.toList_none, List.cons_append, List.nil_append, true_and, and_true, or_false, false_or, or_self, or_true, true_or, not_false_eq_true, not_true_eq_false, Classical.not_not, ne_eq, ps_e1, ps_em, ps_z, Nat.not_le, false_implies, true_implies, forall_const, ps_01, ps_1n, ps_0n, ps_m10, ps_m1n, lg_cmp_gt, lg_cmp_ge, lg_cmp_le, lg_cmp_lt, lg_cmp_eq, pu_rne, pu_req, pu_uro, RFc_n, Nat.reduceAdd, Nat.reduceMul, Nat.reduceLT, Nat.reduceLeDiff, Nat.reduceEqDiff, Nat.reduceSub]
theorem c_sadd {c r w : Nat} {sd th : Int32} (hW : WS n t F) (hr : F 28 8 = some r) (hr2 : r = 2 ∨ r = 42) (hc : c < 120) (hw : w ≤ 23) (hway : I r (15 * c + 5) = nI w) (hth : ¬ th = -1) (l1 : LL.length < 120) (l2 : SS.length < 120) (l3 : FF.length < 120) : am_W X (d + 1) 123 0 [some (.ref 28), some (.int (nI c)), some (.int sd), some (.int th), none] [] (n, sl, t, sdI I LL SS FF tf wf, J, F) Q ↔ Q none (n, sl, t, sdI I (LL ++ if sd = 1 then [c] else []) (SS ++ if sd = nI 2 then [c] else []) (FF ++ [c]) (upd tf c th) (upd wf c (nI w)), J, F) := by
  obtain ⟨hn, hn2, ht, hF⟩ := id hW
  have g1 : r < n := by rcases hr2 with e | e <;> rw [e] <;> exact hn _ (by decide)
  have g2 : r < 1000000 := by omega
  have g3 : t r = (20, 1800) := by rcases hr2 with e | e <;> rw [e] <;> exact ht _ (by decide)
  have g4 : ∀ f g, sdI I LL SS FF f g r = I r := fun f g => sd_n (by omega)
  have z1 : c < 2000000 ∧ c ≤ 119 ∧ c < 120 ∧ 15 * c + 5 < 2000000 ∧ 15 * c + 5 < 1800 := by omega
  have z2 : ¬ 1800 ≤ 15 * c + 5 := by omega
  have e0 : c * 15 = 15 * c := by omega
  have e1 := fun Q => c_ad33 (X := X) (d := d) (Q := Q) (sl := sl) (J := J) (I := I) (LL := LL) (SS := SS) (FF := FF) (tf := upd tf c th) (wf := upd wf c (nI w)) (c := c) hW l3
  have e2 := fun Q => c_ad29 (X := X) (d := d) (Q := Q) (sl := sl) (J := J) (I := I) (LL := LL) (SS := SS) (FF := FF ++ [c]) (tf := upd tf c th) (wf := upd wf c (nI w)) (c := c) hW l1
  have e3 := fun Q => c_ad31 (X := X) (d := d) (Q := Q) (sl := sl) (J := J) (I := I) (LL := LL) (SS := SS) (FF := FF ++ [c]) (tf := upd tf c th) (wf := upd wf c (nI w)) (c := c) hW l2
  have e4 := near23 hw
  by_cases s1 : sd = 1
  · have s2 : ¬ (1 : Int32) = nI 2 := by decide
    simp only [↓r123_0, ↓r123_1, ↓r123_3, ↓r123_4, ↓r123_5, ↓r123_6, ↓r123_8, ↓r123_9, ↓r123_10, ↓r123_13, ↓r123_14, ↓r123_15, ↓r123_17, ↓r123_20, ↓r123_23, ↓r123_25, ↓r123_26, ↓r123_29, ↓r123_29k, ↓r123_30, ↓r123_33, ↓r123_34, ↓r123_35, ↓r123_38, ↓r123_39, ↓r123_40, ↓r123_41, ↓r123_42, ↓r123_45, ↓r123_46, ↓r123_47, ↓r123_50, ↓r123_52, ↓r123_52k, ↓r123_53, ↓r123_54, ↓r123_56, ↓r123_59, ↓r123_60, ↓r123_61, ↓r123_64, ↓r123_65, ↓r123_68, ↓r123_69, ↓r123_70, ↓r123_73, ↓r123_74, ↓r123_77, ↓r123_78, ↓r123_81, ↓r123_84, ↓r123_85, ↓r123_86, ↓r123_89, ↓r123_90, ↓r123_93, ↓r123_94, ↓r123_97, ↓c_within, ↓c_nearest, ↓e1, ↓e2, ↓e3, q_le, q_lt, q_eq, q_e0, q_e1, q_0e, q_1e, ps_n0, q_0le, q_le0, q_0lt, q_m1e, q_em1, hth, z1, z2, e0, hr, g1, g2, g3, g4, hway, e4, s1, s2, pu_uI, sd_35, sd_36, sd_a35, sd_a36, and_self, if_true, if_false, List.append_nil, Bool.false_eq_true, hn, hn2, ht, hF, am_wt, am_wf, Option.isSome_some, am_rf_s, am_rf_n, ps_lit, nI_add, nI_1, pk_mul, ps_cl, ps_neg, ps_c0, ps_c1, ps_n01, ps_n11, ps_10, ps_b01, ps_e0, pu_Ine, pu_Ieq, pu_ne, pu_eq, am_k_n, am_k_i, am_k_r, am_k_u, am_k_l, am_sz_0, am_sz_i, am_sz_r, am_sz_u, am_sz_l, Option.toList_some, Option.toList_none, List.cons_append, List.nil_append, true_and, and_true, or_false, false_or, or_self, or_true, true_or, not_false_eq_true, not_true_eq_false, Classical.not_not, ne_eq, ps_e1, ps_em, ps_z, Nat.not_le, false_implies, true_implies, forall_const, ps_01, ps_1n, ps_0n, ps_m10, ps_m1n, lg_cmp_gt, lg_cmp_ge, lg_cmp_le, lg_cmp_lt, lg_cmp_eq, pu_rne, pu_req, pu_uro, RFc_n, Nat.reduceAdd, Nat.reduceMul, Nat.reduceLT, Nat.reduceLeDiff, Nat.reduceEqDiff, Nat.reduceSub]
  · by_cases s2 : sd = nI 2
    · have s3 : ¬ nI 2 = 1 := by decide
      simp only [↓r123_0, ↓r123_1, ↓r123_3, ↓r123_4, ↓r123_5, ↓r123_6, ↓r123_8, ↓r123_9, ↓r123_10, ↓r123_13, ↓r123_14, ↓r123_15, ↓r123_17, ↓r123_20, ↓r123_23, ↓r123_25, ↓r123_26, ↓r123_29, ↓r123_29k, ↓r123_30, ↓r123_33, ↓r123_34, ↓r123_35, ↓r123_38, ↓r123_39, ↓r123_40, ↓r123_41, ↓r123_42, ↓r123_45, ↓r123_46, ↓r123_47, ↓r123_50, ↓r123_52, ↓r123_52k, ↓r123_53, ↓r123_54, ↓r123_56, ↓r123_59, ↓r123_60, ↓r123_61, ↓r123_64, ↓r123_65, ↓r123_68, ↓r123_69, ↓r123_70, ↓r123_73, ↓r123_74, ↓r123_77, ↓r123_78, ↓r123_81, ↓r123_84, ↓r123_85, ↓r123_86, ↓r123_89, ↓r123_90, ↓r123_93, ↓r123_94, ↓r123_97, ↓c_within, ↓c_nearest, ↓e1, ↓e2, ↓e3, q_le, q_lt, q_eq, q_e0, q_e1, q_0e, q_1e, ps_n0, q_0le, q_le0, q_0lt, q_m1e, q_em1, hth, z1, z2, e0, hr, g1, g2, g3, g4, hway, e4, s2, s3, pu_uI, sd_35, sd_36, sd_a35, sd_a36, and_self, if_true, if_false, List.append_nil, Bool.false_eq_true, hn, hn2, ht, hF, am_wt, am_wf, Option.isSome_some, am_rf_s, am_rf_n, ps_lit, nI_add, nI_1, pk_mul, ps_cl, ps_neg, ps_c0, ps_c1, ps_n01, ps_n11, ps_10, ps_b01, ps_e0, pu_Ine, pu_Ieq, pu_ne, pu_eq, am_k_n, am_k_i, am_k_r, am_k_u, am_k_l, am_sz_0, am_sz_i, am_sz_r, am_sz_u, am_sz_l, Option.toList_some, Option.toList_none, List.cons_append, List.nil_append, true_and, and_true, or_false, false_or, or_self, or_true, true_or, not_false_eq_true, not_true_eq_false, Classical.not_not, ne_eq, ps_e1, ps_em, ps_z, Nat.not_le, false_implies, true_implies, forall_const, ps_01, ps_1n, ps_0n, ps_m10, ps_m1n, lg_cmp_gt, lg_cmp_ge, lg_cmp_le, lg_cmp_lt, lg_cmp_eq, pu_rne, pu_req, pu_uro, RFc_n, Nat.reduceAdd, Nat.reduceMul, Nat.reduceLT, Nat.reduceLeDiff, Nat.reduceEqDiff, Nat.reduceSub]
    · simp only [↓r123_0, ↓r123_1, ↓r123_3, ↓r123_4, ↓r123_5, ↓r123_6, ↓r123_8, ↓r123_9, ↓r123_10, ↓r123_13, ↓r123_14, ↓r123_15, ↓r123_17, ↓r123_20, ↓r123_23, ↓r123_25, ↓r123_26, ↓r123_29, ↓r123_29k, ↓r123_30, ↓r123_33, ↓r123_34, ↓r123_35, ↓r123_38, ↓r123_39, ↓r123_40, ↓r123_41, ↓r123_42, ↓r123_45, ↓r123_46, ↓r123_47, ↓r123_50, ↓r123_52, ↓r123_52k, ↓r123_53, ↓r123_54, ↓r123_56, ↓r123_59, ↓r123_60, ↓r123_61, ↓r123_64, ↓r123_65, ↓r123_68, ↓r123_69, ↓r123_70, ↓r123_73, ↓r123_74, ↓r123_77, ↓r123_78, ↓r123_81, ↓r123_84, ↓r123_85, ↓r123_86, ↓r123_89, ↓r123_90, ↓r123_93, ↓r123_94, ↓r123_97, ↓c_within, ↓c_nearest, ↓e1, ↓e2, ↓e3, q_le, q_lt, q_eq, q_e0, q_e1, q_0e, q_1e, ps_n0, q_0le, q_le0, q_0lt, q_m1e, q_em1, hth, z1, z2, e0, hr, g1, g2, g3, g4, hway, e4, s1, s2, pu_uI, sd_35, sd_36, sd_a35, sd_a36, and_self, if_true, if_false, List.append_nil, Bool.false_eq_true, hn, hn2, ht, hF, am_wt, am_wf, Option.isSome_some, am_rf_s, am_rf_n, ps_lit, nI_add, nI_1, pk_mul, ps_cl, ps_neg, ps_c0, ps_c1, ps_n01, ps_n11, ps_10, ps_b01, ps_e0, pu_Ine, pu_Ieq, pu_ne, pu_eq, am_k_n, am_k_i, am_k_r, am_k_u, am_k_l, am_sz_0, am_sz_i, am_sz_r, am_sz_u, am_sz_l, Option.toList_some, Option.toList_none, List.cons_append, List.nil_append, true_and, and_true, or_false, false_or, or_self, or_true, true_or, not_false_eq_true, not_true_eq_false, Classical.not_not, ne_eq, ps_e1, ps_em, ps_z, Nat.not_le, false_implies, true_implies, forall_const, ps_01, ps_1n, ps_0n, ps_m10, ps_m1n, lg_cmp_gt, lg_cmp_ge, lg_cmp_le, lg_cmp_lt, lg_cmp_eq, pu_rne, pu_req, pu_uro, RFc_n, Nat.reduceAdd, Nat.reduceMul, Nat.reduceLT, Nat.reduceLeDiff, Nat.reduceEqDiff, Nat.reduceSub]
theorem WS_28 {r : Nat} (hW : WS n t F) : WS n t (am_uF F 28 8 (some r)) := by
  obtain ⟨w1, w2, w3, w4⟩ := hW
  refine ⟨w1, w2, w3, fun b j hj => ?_⟩
  by_cases e : b = 28
  · subst e
    rw [pu_Feq]
    by_cases e2 : j = 8
    · subst e2
      cases hj
    · rw [vu_ne e2]
      exact w4 28 j hj
  · rw [pu_Fne e]
    exact w4 b j hj
theorem F28_n {r : Nat} : ∀ a k, ¬ (a = 28 ∧ k = 8) → am_uF F 28 8 (some r) a k = F a k := fun a k h => by
  by_cases e : a = 28
  · subst e
    rw [pu_Feq, vu_ne (fun q => h ⟨rfl, q⟩)]
  · rw [pu_Fne e]
theorem sd_0 : am_uI (am_uI (am_uI I 29 1 0) 31 1 0) 33 1 0 = sdI I [] [] [] (I 35) (I 36) := by
  funext a
  unfold sdI
  split
  · rw [pu_Ine (by decide), pu_Ine (by decide), pu_Ieq]; rfl
  · rw [pu_Ine (by decide), pu_Ine (by decide), pu_Ine (by decide), ro_g0]
  · rw [pu_Ine (by decide), pu_Ieq, pu_Ine (by decide)]; rfl
  · rw [pu_Ine (by decide), pu_Ine (by decide), pu_Ine (by decide), ro_g0]
  · rw [pu_Ieq, pu_Ine (by decide), pu_Ine (by decide)]; rfl
  · rw [pu_Ine (by decide), pu_Ine (by decide), pu_Ine (by decide), ro_g0]
  · rw [pu_Ine (by decide), pu_Ine (by decide), pu_Ine (by decide)]
  · rw [pu_Ine (by decide), pu_Ine (by decide), pu_Ine (by decide)]
  · rename_i h1 h2 h3 h4 h5 h6 h7 h8
    rw [pu_Ine h5, pu_Ine h3, pu_Ine h1]
theorem c_sstart {r : Nat} (hW : WS n t F) : am_W X d 122 0 [some (.ref 28), some (.ref r)] [] (n, sl, t, I, J, F) Q ↔ Q none (n, sl, t, sdI I [] [] [] (I 35) (I 36), J, am_uF F 28 8 (some r)) := by
  obtain ⟨hn, hn2, ht, hF⟩ := id hW
  have hF' := (WS_28 (r := r) hW).2.2.2
  rw [← sd_0]
  simp only [↓r122_0, ↓r122_1, ↓r122_1n, ↓r122_2, ↓r122_5, ↓r122_6, ↓r122_9, ↓r122_10, ↓r122_13, ↓r122_14, ↓r122_17, ↓r122_18, ↓r122_21, ↓r122_22, ↓r122_25, ↓r122_26, ↓r122_29, hF', Bool.false_eq_true, hn, hn2, ht, hF, am_wt, am_wf, Option.isSome_some, am_rf_s, am_rf_n, ps_lit, nI_add, nI_1, pk_mul, ps_cl, ps_neg, ps_c0, ps_c1, ps_n01, ps_n11, ps_10, ps_b01, ps_e0, pu_Ine, pu_Ieq, pu_ne, pu_eq, am_k_n, am_k_i, am_k_r, am_k_u, am_k_l, am_sz_0, am_sz_i, am_sz_r, am_sz_u, am_sz_l, Option.toList_some, Option.toList_none, List.cons_append, List.nil_append, true_and, and_true, or_false, false_or, or_self, or_true, true_or, not_false_eq_true, not_true_eq_false, Classical.not_not, ne_eq, ps_e1, ps_em, ps_z, Nat.not_le, false_implies, true_implies, forall_const, ps_01, ps_1n, ps_0n, ps_m10, ps_m1n, lg_cmp_gt, lg_cmp_ge, lg_cmp_le, lg_cmp_lt, lg_cmp_eq, pu_rne, pu_req, pu_uro, RFc_n, Nat.reduceAdd, Nat.reduceMul, Nat.reduceLT, Nat.reduceLeDiff, Nat.reduceEqDiff, Nat.reduceSub]
end SI
