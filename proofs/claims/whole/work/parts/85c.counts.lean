/-! laws weighed: what is counted -/
section CF
variable {X : am_X} {d : Nat} {Q : Option Value → am_H → Prop} {n sl : Nat} {t : Nat → Nat × Nat} {I : Nat → Nat → Int32} {J : Nat → Nat → Int64} {F : Nat → Nat → Option Nat} {h : am_H}
variable {K : Nat → Int32} {N T : Nat} {lw : Nat → List CL}
def cf (ch : Nat → Nat) : Nat → Nat → Nat
  | 0 => fun _ => 0
  | m + 1 => fun f => cf ch m f + (if 100 - ch m = f then 1 else 0)
def chc (K : Nat → Int32) (l : List CL) (c m : Nat) : Nat := chV l (wd K c (nI m))
def mn (K : Nat → Int32) (c : Nat) : Nat := wN K c / 10
/-- how often each factor comes, by the first k of a group, and by m minutes of the next -/
def gc (K : Nat → Int32) (lc : List CL) (l : List Nat) : Nat → Nat → Nat
  | 0 => fun _ => 0
  | k + 1 => fun f => if fTr K (l.getD k 0) = true then gc K lc l k f + cf (chc K lc (l.getD k 0)) (mn K (l.getD k 0)) f + (if K (15 * l.getD k 0 + 10) = 0 ∧ mn K (l.getD k 0) < 20 then (if chc K lc (l.getD k 0) (mn K (l.getD k 0)) = f then 1 else 0) else 0) else gc K lc l k f
theorem cf_b {ch : Nat → Nat} : ∀ m f, cf ch m f ≤ m := by
  intro m
  induction m with
  | zero => intro f; exact Nat.le_refl 0
  | succ m ih =>
    intro f
    have := ih f
    show cf ch m f + _ ≤ m + 1
    split <;> omega
theorem chc_b {lc : List CL} {c m : Nat} : 1 ≤ chc K lc c m ∧ chc K lc c m ≤ 99 := chV_le
theorem gc_b {lc : List CL} {l : List Nat} : ∀ k, (∀ i, i < k → wN K (l.getD i 0) ≤ 200) → ∀ f, gc K lc l k f ≤ 20 * k := by
  intro k
  induction k with
  | zero => intro _ f; exact Nat.le_refl 0
  | succ k ih =>
    intro h f
    have h1 := ih (fun i hi => h i (by omega)) f
    have h2 := h k (by omega)
    have h3 := cf_b (ch := chc K lc (l.getD k 0)) (mn K (l.getD k 0)) f
    have h4 : mn K (l.getD k 0) ≤ 20 := by unfold mn; omega
    show (if fTr K (l.getD k 0) = true then _ else _) ≤ _
    split
    · split
      · rename_i q
        have := q.2
        split <;> omega
      · omega
    · omega
theorem cf_0 {ch : Nat → Nat} (h : ∀ m, 1 ≤ ch m ∧ ch m ≤ 99) : ∀ m, cf ch m 0 = 0 := by
  intro m
  induction m with
  | zero => rfl
  | succ m ih =>
    have := h m
    show cf ch m 0 + _ = 0
    rw [ih, if_neg (by omega)]
theorem gc_0 {lc : List CL} {l : List Nat} : ∀ k, gc K lc l k 0 = 0 := by
  intro k
  induction k with
  | zero => rfl
  | succ k ih =>
    have h1 := (chc_b (K := K) (lc := lc) (c := l.getD k 0) (m := mn K (l.getD k 0))).1
    show (if fTr K (l.getD k 0) = true then _ else _) = 0
    rw [ih, cf_0 (fun m => chc_b), if_neg (show ¬ chc K lc (l.getD k 0) (mn K (l.getD k 0)) = 0 by omega), ite_self, ite_self]
def nC : Nat := 99 ^ 2400
theorem nC_b : nC * 2000000 < bB ^ 600 := by decide +kernel
theorem nC_c : nC * 2000000 < cC ^ 620 := by decide +kernel
theorem n99 {j : Nat} (h : j ≤ 2400) : 99 ^ j ≤ nC := Nat.pow_le_pow_right (by decide) h
theorem cf_p {ch g : Nat → Nat} (h : ∀ m, 1 ≤ ch m ∧ ch m ≤ 99) {m : Nat} : fp (fun f => g f + cf ch (m + 1) f) 100 = fp (fun f => g f + cf ch m f) 100 * (100 - ch m) := by
  have := h m
  rw [← fp_a (x := 100 - ch m) (by omega)]
  refine fp_c _ (fun i _ => ?_)
  show g i + (cf ch m i + _) = g i + cf ch m i + _
  omega
theorem cf_pb {ch g : Nat → Nat} (h : ∀ m, 1 ≤ ch m ∧ ch m ≤ 99) {b : Nat} (hg : fp g 100 ≤ 99 ^ b) : ∀ m, fp (fun f => g f + cf ch m f) 100 ≤ 99 ^ (b + m) := by
  intro m
  induction m with
  | zero => exact hg
  | succ m ih =>
    have := h m
    rw [cf_p h, ← Nat.add_assoc, Nat.pow_succ]
    exact Nat.mul_le_mul ih (by omega)
theorem gc_p {lc : List CL} {l : List Nat} {k : Nat} : fp (gc K lc l (k + 1)) 100 = if fTr K (l.getD k 0) = true then (if K (15 * l.getD k 0 + 10) = 0 ∧ mn K (l.getD k 0) < 20 then fp (fun f => gc K lc l k f + cf (chc K lc (l.getD k 0)) (mn K (l.getD k 0)) f) 100 * chc K lc (l.getD k 0) (mn K (l.getD k 0)) else fp (fun f => gc K lc l k f + cf (chc K lc (l.getD k 0)) (mn K (l.getD k 0)) f) 100) else fp (gc K lc l k) 100 := by
  have hb := (chc_b (K := K) (lc := lc) (c := l.getD k 0) (m := mn K (l.getD k 0)))
  by_cases h : fTr K (l.getD k 0) = true
  · rw [if_pos h]
    by_cases h2 : K (15 * l.getD k 0 + 10) = 0 ∧ mn K (l.getD k 0) < 20
    · rw [if_pos h2, ← fp_a (by omega)]
      refine fp_c _ (fun i _ => ?_)
      show (if fTr K (l.getD k 0) = true then _ else _) = _
      rw [if_pos h, if_pos h2]
    · rw [if_neg h2]
      refine fp_c _ (fun i _ => ?_)
      show (if fTr K (l.getD k 0) = true then _ else _) = _
      rw [if_pos h, if_neg h2, Nat.add_zero]
  · rw [if_neg h]
    refine fp_c _ (fun i _ => ?_)
    show (if fTr K (l.getD k 0) = true then _ else _) = _
    rw [if_neg h]
theorem gc_pb {lc : List CL} {l : List Nat} : ∀ k, (∀ i, i < k → wN K (l.getD i 0) ≤ 200) → fp (gc K lc l k) 100 ≤ 99 ^ (20 * k) := by
  intro k
  induction k with
  | zero => intro _; rw [show gc K lc l 0 = fun _ => 0 from rfl, fp_z]; exact Nat.le_refl 1
  | succ k ih =>
    intro h
    have ih := ih (fun i hi => h i (by omega))
    have h2 := h k (by omega)
    have h4 : mn K (l.getD k 0) ≤ 20 := by unfold mn; omega
    have hb := (chc_b (K := K) (lc := lc) (c := l.getD k 0) (m := mn K (l.getD k 0)))
    have h5 := cf_pb (ch := chc K lc (l.getD k 0)) (fun m => chc_b) ih (mn K (l.getD k 0))
    rw [gc_p]
    split
    · split
      · rename_i q
        refine Nat.le_trans (Nat.mul_le_mul h5 hb.2) ?_
        rw [← Nat.pow_succ]
        exact Nat.pow_le_pow_right (by decide) (by omega)
      · exact Nat.le_trans h5 (Nat.pow_le_pow_right (by decide) (by omega))
    · exact Nat.le_trans ih (Nat.pow_le_pow_right (by decide) (by omega))
/-- the cells while a law's factors are counted -/
def FS (I0 I1 : Nat → Nat → Int32) (r : Nat) (C : Nat → Nat) : Prop := (∀ a, a ≠ 13 → a ≠ 14 → a ≠ r → I1 a = I0 a) ∧ ∀ f, f < 100 → I1 r f = nI (C f)
theorem FS_SC {I0 I1 I2 : Nat → Nat → Int32} {r : Nat} {C : Nat → Nat} (hr : r = 22 ∨ r = 23) (h0 : SC I0 I1) (h : FS I1 I2 r C) : SC I0 I2 := fun a k hk => by
  have h1 : a ≠ 13 := by rintro rfl; cases hk
  have h2 : a ≠ 14 := by rintro rfl; cases hk
  have h3 : a ≠ r := by rcases hr with rfl | rfl <;> (rintro rfl; cases hk)
  rw [h.1 a h1 h2 h3]
  exact h0 a k hk
theorem c_factors {I0 : Nat → Nat → Int32} {j a r : Nat} {l : List Nat} (hC : CX n t I F K N T lw) (hj : j < T) (ha : F 5 j = some a) (hr : r = 22 ∨ r = 23) (hS : SC I I0) (hG : GH (I0 15 1) (I0 16) l N) (hQ : ∀ I1, FS I0 I1 r (gc K (lw j) l l.length) → Q none (n, sl, t, I1, J, F)) : am_W X (d + 6) 99 0 [some (.ref 0), some (.ref a), some (.ref r), none, none, none, none, none, none, none] [] (n, sl, t, I0, J, F) Q := by
  obtain ⟨a', ea, a1, a2, ta, htb⟩ := CX_law hC hj
  rw [ha] at ea
  cases ea
  obtain ⟨hW, hK, h49, ⟨hs, hc, hr0, hu, hm⟩, hll⟩ := id hC
  have hN := hK.1
  obtain ⟨hn, hn2, ht, hF⟩ := id hW
  have a3 : a < 1000000 := by omega
  obtain ⟨h1, h2, h3⟩ := id hG
  have r1 : r < n := by rcases hr with e | e <;> rw [e] <;> exact hn _ (by decide)
  have r2 : r < 1000000 := by omega
  have r3 : t r = (20, 100) := by rcases hr with e | e <;> rw [e] <;> exact ht _ (by decide)
  have r4 : r ≠ 13 ∧ r ≠ 14 ∧ r ≠ 15 ∧ r ≠ 16 ∧ r ≠ 1 ∧ r ≠ 2 ∧ r ≠ 3 ∧ r ≠ 49 := by omega
  obtain ⟨b, hb1, hb2⟩ := k_hasw hC hj ha (k := 9) (by decide)
  have hb3 : b = false → ∀ c m, chc K (lw j) c m = chc K (lw j) c 0 := fun hb c m => by
    unfold chc chV
    rw [hb2 hb 1 (wd K c (nI m)) (wd K c (nI 0)) (fun q _ hq9 => by unfold wd; rw [if_neg hq9, if_neg hq9])]
  -- one child
  have hkid : ∀ (k c : Nat) (tk : Bool) (C : Nat → Nat), c < N → mn K c ≤ 20 → (∀ f, C f ≤ 2400) → (∀ I1, FS I0 I1 r (fun f => C f + cf (chc K (lw j) c) (mn K c) f + (if tk = true ∧ mn K c < 20 then (if chc K (lw j) c (mn K c) = f then 1 else 0) else 0)) → ∀ l8 l9 : Option Value, am_W X (d + 6) 99 194 [some (.ref 0), some (.ref a), some (.ref r), some (.int (if b = true then 1 else 0)), some (.int (nI k)), some (.int (nI c)), some (.int (nI (mn K c))), some (.int (if tk = true then 1 else 0)), l8, l9] [] (n, sl, t, I1, J, F) Q) → ∀ q m, m + q = mn K c → ∀ I1, FS I0 I1 r (fun f => C f + cf (chc K (lw j) c) m f) → (∀ w, w < 11 → w ≠ 9 → I1 13 (pw w) = wd K c 0 w) → ∀ x : Int32, (m ≠ 0 → b = false → x = nI (chc K (lw j) c 0)) → am_W X (d + 6) 99 119 [some (.ref 0), some (.ref a), some (.ref r), some (.int (if b = true then 1 else 0)), some (.int (nI k)), some (.int (nI c)), some (.int (nI (mn K c))), some (.int (if tk = true then 1 else 0)), some (.int x), some (.int (nI m))] [] (n, sl, t, I1, J, F) Q := by
    intro k c tk C hcN hmn hCb hnext
    have hch : ∀ m, 1 ≤ chc K (lw j) c m ∧ chc K (lw j) c m ≤ 99 := fun m => chc_b
    -- the chance of this minute
    have hask : ∀ m, m < 20 → ∀ I1 C1, FS I0 I1 r C1 → (∀ w, w < 11 → w ≠ 9 → I1 13 (pw w) = wd K c 0 w) → ∀ x : Int32, (m ≠ 0 → b = false → x = nI (chc K (lw j) c 0)) → (∀ I2, FS I0 I2 r C1 → (∀ w, w < 11 → w ≠ 9 → I2 13 (pw w) = wd K c 0 w) → am_W X (d + 6) 99 154 [some (.ref 0), some (.ref a), some (.ref r), some (.int (if b = true then 1 else 0)), some (.int (nI k)), some (.int (nI c)), some (.int (nI (mn K c))), some (.int (if tk = true then 1 else 0)), some (.int (nI (chc K (lw j) c m))), some (.int (nI m))] [] (n, sl, t, I2, J, F) Q) → am_W X (d + 6) 99 133 [some (.ref 0), some (.ref a), some (.ref r), some (.int (if b = true then 1 else 0)), some (.int (nI k)), some (.int (nI c)), some (.int (nI (mn K c))), some (.int (if tk = true then 1 else 0)), some (.int x), some (.int (nI m))] [] (n, sl, t, I1, J, F) Q := by
      intro m hm20 I1 C1 hFS h13 x hx hcont
      have z1 : m < 2000000 := by omega
      have call : am_W X (d + 6) 99 142 [some (.ref 0), some (.ref a), some (.ref r), some (.int (if b = true then 1 else 0)), some (.int (nI k)), some (.int (nI c)), some (.int (nI (mn K c))), some (.int (if tk = true then 1 else 0)), some (.int x), some (.int (nI m))] [] (n, sl, t, I1, J, F) Q := by
        simp only [↓r99_142, ↓r99_143, ↓r99_146, ↓r99_146n, ↓r99_147, ↓r99_149, am_k_i, Bool.false_eq_true, hn, hn2, ht, hF, am_wt, am_wf, Option.isSome_some, am_rf_s, am_rf_n, ps_lit, nI_add, nI_1, pk_mul, ps_cl, ps_neg, ps_c0, ps_c1, ps_n01, ps_n11, ps_10, ps_b01, ps_e0, pu_Ine, pu_Ieq, pu_ne, pu_eq, am_k_n, am_k_i, am_k_r, am_k_u, am_k_l, am_sz_0, am_sz_i, am_sz_r, am_sz_u, am_sz_l, Option.toList_some, Option.toList_none, List.cons_append, List.nil_append, true_and, and_true, or_false, false_or, or_self, or_true, true_or, not_false_eq_true, not_true_eq_false, Classical.not_not, ne_eq, ps_e1, ps_em, ps_z, Nat.not_le, false_implies, true_implies, forall_const, ps_01, ps_1n, ps_0n, ps_m10, ps_m1n, lg_cmp_gt, lg_cmp_ge, lg_cmp_le, lg_cmp_lt, lg_cmp_eq, pu_rne, pu_req, pu_uro, RFc_n, Nat.reduceAdd, Nat.reduceMul, Nat.reduceLT, Nat.reduceLeDiff, Nat.reduceEqDiff, Nat.reduceSub]
        refine c_chanceBy hC hj ha (w := wd K c (nI m)) (wd_WV hK hcN (by omega)) rfl (FS_SC hr hS hFS) (fun q hq hq9 => ?_) (fun f => ?_)
        · rw [h13 q hq hq9]
          unfold wd
          rw [if_neg hq9, if_neg hq9]
        · simp only [↓r99_152, am_k_i, Bool.false_eq_true, hn, hn2, ht, hF, am_wt, am_wf, Option.isSome_some, am_rf_s, am_rf_n, ps_lit, nI_add, nI_1, pk_mul, ps_cl, ps_neg, ps_c0, ps_c1, ps_n01, ps_n11, ps_10, ps_b01, ps_e0, pu_Ine, pu_Ieq, pu_ne, pu_eq, am_k_n, am_k_i, am_k_r, am_k_u, am_k_l, am_sz_0, am_sz_i, am_sz_r, am_sz_u, am_sz_l, Option.toList_some, Option.toList_none, List.cons_append, List.nil_append, true_and, and_true, or_false, false_or, or_self, or_true, true_or, not_false_eq_true, not_true_eq_false, Classical.not_not, ne_eq, ps_e1, ps_em, ps_z, Nat.not_le, false_implies, true_implies, forall_const, ps_01, ps_1n, ps_0n, ps_m10, ps_m1n, lg_cmp_gt, lg_cmp_ge, lg_cmp_le, lg_cmp_lt, lg_cmp_eq, pu_rne, pu_req, pu_uro, RFc_n, Nat.reduceAdd, Nat.reduceMul, Nat.reduceLT, Nat.reduceLeDiff, Nat.reduceEqDiff, Nat.reduceSub]
          refine hcont _ ⟨fun p p1 p2 p3 => ?_, fun f hf => ?_⟩ (fun w hw hw9 => ?_)
          · rw [pu_rne p2, pu_rne p1]
            exact hFS.1 p p1 p2 p3
          · rw [pu_rne r4.2.1, pu_rne r4.1]
            exact hFS.2 f hf
          · rw [pu_rne (by decide), pu_req, pu_ne (by
              unfold pw
              split <;> omega)]
            exact h13 w hw hw9
      rw [r99_133]
      by_cases c0 : m = 0
      · simp only [↓r99_135, q_le, q_lt, q_eq, q_e0, q_e1, q_0e, q_1e, ps_n0, q_0le, q_le0, q_0lt, q_m1e, q_em1, z1, c0, Bool.false_eq_true, hn, hn2, ht, hF, am_wt, am_wf, Option.isSome_some, am_rf_s, am_rf_n, ps_lit, nI_add, nI_1, pk_mul, ps_cl, ps_neg, ps_c0, ps_c1, ps_n01, ps_n11, ps_10, ps_b01, ps_e0, pu_Ine, pu_Ieq, pu_ne, pu_eq, am_k_n, am_k_i, am_k_r, am_k_u, am_k_l, am_sz_0, am_sz_i, am_sz_r, am_sz_u, am_sz_l, Option.toList_some, Option.toList_none, List.cons_append, List.nil_append, true_and, and_true, or_false, false_or, or_self, or_true, true_or, not_false_eq_true, not_true_eq_false, Classical.not_not, ne_eq, ps_e1, ps_em, ps_z, Nat.not_le, false_implies, true_implies, forall_const, ps_01, ps_1n, ps_0n, ps_m10, ps_m1n, lg_cmp_gt, lg_cmp_ge, lg_cmp_le, lg_cmp_lt, lg_cmp_eq, pu_rne, pu_req, pu_uro, RFc_n, Nat.reduceAdd, Nat.reduceMul, Nat.reduceLT, Nat.reduceLeDiff, Nat.reduceEqDiff, Nat.reduceSub]
        rw [c0] at call
        exact call
      · cases hbb : b with
        | true =>
          rw [hbb] at call
          simp only [if_true] at call
          simp only [↓r99_135, ↓r99_138, ↓r99_139, q_le, q_lt, q_eq, q_e0, q_e1, q_0e, q_1e, ps_n0, q_0le, q_le0, q_0lt, q_m1e, q_em1, z1, c0, if_true, Bool.false_eq_true, hn, hn2, ht, hF, am_wt, am_wf, Option.isSome_some, am_rf_s, am_rf_n, ps_lit, nI_add, nI_1, pk_mul, ps_cl, ps_neg, ps_c0, ps_c1, ps_n01, ps_n11, ps_10, ps_b01, ps_e0, pu_Ine, pu_Ieq, pu_ne, pu_eq, am_k_n, am_k_i, am_k_r, am_k_u, am_k_l, am_sz_0, am_sz_i, am_sz_r, am_sz_u, am_sz_l, Option.toList_some, Option.toList_none, List.cons_append, List.nil_append, true_and, and_true, or_false, false_or, or_self, or_true, true_or, not_false_eq_true, not_true_eq_false, Classical.not_not, ne_eq, ps_e1, ps_em, ps_z, Nat.not_le, false_implies, true_implies, forall_const, ps_01, ps_1n, ps_0n, ps_m10, ps_m1n, lg_cmp_gt, lg_cmp_ge, lg_cmp_le, lg_cmp_lt, lg_cmp_eq, pu_rne, pu_req, pu_uro, RFc_n, Nat.reduceAdd, Nat.reduceMul, Nat.reduceLT, Nat.reduceLeDiff, Nat.reduceEqDiff, Nat.reduceSub]
          exact call
        | false =>
          rw [hbb] at hcont
          have e1 := hx c0 hbb
          have e2 := hb3 hbb c m
          have := hcont I1 hFS h13
          rw [e2, ← e1] at this
          simp only [Bool.false_eq_true, hn, hn2, ht, hF, am_wt, am_wf, Option.isSome_some, am_rf_s, am_rf_n, ps_lit, nI_add, nI_1, pk_mul, ps_cl, ps_neg, ps_c0, ps_c1, ps_n01, ps_n11, ps_10, ps_b01, ps_e0, pu_Ine, pu_Ieq, pu_ne, pu_eq, am_k_n, am_k_i, am_k_r, am_k_u, am_k_l, am_sz_0, am_sz_i, am_sz_r, am_sz_u, am_sz_l, Option.toList_some, Option.toList_none, List.cons_append, List.nil_append, true_and, and_true, or_false, false_or, or_self, or_true, true_or, not_false_eq_true, not_true_eq_false, Classical.not_not, ne_eq, ps_e1, ps_em, ps_z, Nat.not_le, false_implies, true_implies, forall_const, ps_01, ps_1n, ps_0n, ps_m10, ps_m1n, lg_cmp_gt, lg_cmp_ge, lg_cmp_le, lg_cmp_lt, lg_cmp_eq, pu_rne, pu_req, pu_uro, RFc_n, Nat.reduceAdd, Nat.reduceMul, Nat.reduceLT, Nat.reduceLeDiff, Nat.reduceEqDiff, Nat.reduceSub] at this
          simp only [↓r99_135, ↓r99_138, ↓r99_139, q_le, q_lt, q_eq, q_e0, q_e1, q_0e, q_1e, ps_n0, q_0le, q_le0, q_0lt, q_m1e, q_em1, z1, c0, Bool.false_eq_true, hn, hn2, ht, hF, am_wt, am_wf, Option.isSome_some, am_rf_s, am_rf_n, ps_lit, nI_add, nI_1, pk_mul, ps_cl, ps_neg, ps_c0, ps_c1, ps_n01, ps_n11, ps_10, ps_b01, ps_e0, pu_Ine, pu_Ieq, pu_ne, pu_eq, am_k_n, am_k_i, am_k_r, am_k_u, am_k_l, am_sz_0, am_sz_i, am_sz_r, am_sz_u, am_sz_l, Option.toList_some, Option.toList_none, List.cons_append, List.nil_append, true_and, and_true, or_false, false_or, or_self, or_true, true_or, not_false_eq_true, not_true_eq_false, Classical.not_not, ne_eq, ps_e1, ps_em, ps_z, Nat.not_le, false_implies, true_implies, forall_const, ps_01, ps_1n, ps_0n, ps_m10, ps_m1n, lg_cmp_gt, lg_cmp_ge, lg_cmp_le, lg_cmp_lt, lg_cmp_eq, pu_rne, pu_req, pu_uro, RFc_n, Nat.reduceAdd, Nat.reduceMul, Nat.reduceLT, Nat.reduceLeDiff, Nat.reduceEqDiff, Nat.reduceSub]
          exact this
    intro q
    induction q with
    | zero =>
      intro m hm I1 hFS h13 x hx
      obtain rfl : m = mn K c := by omega
      have z1 : mn K c < 2000000 := by omega
      rw [r99_119]
      by_cases c20 : 20 ≤ mn K c
      · have : ¬ mn K c < 20 := by omega
        simp only [↓r99_121, ↓r99_123, ↓r99_126, ↓r99_128, ↓r99_130, q_le, q_lt, q_eq, q_e0, q_e1, q_0e, q_1e, ps_n0, q_0le, q_le0, q_0lt, q_m1e, q_em1, z1, c20, Int32.lt_irrefl, Bool.false_eq_true, hn, hn2, ht, hF, am_wt, am_wf, Option.isSome_some, am_rf_s, am_rf_n, ps_lit, nI_add, nI_1, pk_mul, ps_cl, ps_neg, ps_c0, ps_c1, ps_n01, ps_n11, ps_10, ps_b01, ps_e0, pu_Ine, pu_Ieq, pu_ne, pu_eq, am_k_n, am_k_i, am_k_r, am_k_u, am_k_l, am_sz_0, am_sz_i, am_sz_r, am_sz_u, am_sz_l, Option.toList_some, Option.toList_none, List.cons_append, List.nil_append, true_and, and_true, or_false, false_or, or_self, or_true, true_or, not_false_eq_true, not_true_eq_false, Classical.not_not, ne_eq, ps_e1, ps_em, ps_z, Nat.not_le, false_implies, true_implies, forall_const, ps_01, ps_1n, ps_0n, ps_m10, ps_m1n, lg_cmp_gt, lg_cmp_ge, lg_cmp_le, lg_cmp_lt, lg_cmp_eq, pu_rne, pu_req, pu_uro, RFc_n, Nat.reduceAdd, Nat.reduceMul, Nat.reduceLT, Nat.reduceLeDiff, Nat.reduceEqDiff, Nat.reduceSub]
        refine hnext I1 ?_ _ _
        refine ⟨hFS.1, fun f hf => ?_⟩
        rw [hFS.2 f hf]
        dsimp only
        rw [if_neg (fun q => this q.2), Nat.add_zero]
      · simp only [↓r99_121, ↓r99_123, ↓r99_126, ↓r99_128, ↓r99_130, q_le, q_lt, q_eq, q_e0, q_e1, q_0e, q_1e, ps_n0, q_0le, q_le0, q_0lt, q_m1e, q_em1, z1, c20, Int32.lt_irrefl, Bool.false_eq_true, hn, hn2, ht, hF, am_wt, am_wf, Option.isSome_some, am_rf_s, am_rf_n, ps_lit, nI_add, nI_1, pk_mul, ps_cl, ps_neg, ps_c0, ps_c1, ps_n01, ps_n11, ps_10, ps_b01, ps_e0, pu_Ine, pu_Ieq, pu_ne, pu_eq, am_k_n, am_k_i, am_k_r, am_k_u, am_k_l, am_sz_0, am_sz_i, am_sz_r, am_sz_u, am_sz_l, Option.toList_some, Option.toList_none, List.cons_append, List.nil_append, true_and, and_true, or_false, false_or, or_self, or_true, true_or, not_false_eq_true, not_true_eq_false, Classical.not_not, ne_eq, ps_e1, ps_em, ps_z, Nat.not_le, false_implies, true_implies, forall_const, ps_01, ps_1n, ps_0n, ps_m10, ps_m1n, lg_cmp_gt, lg_cmp_ge, lg_cmp_le, lg_cmp_lt, lg_cmp_eq, pu_rne, pu_req, pu_uro, RFc_n, Nat.reduceAdd, Nat.reduceMul, Nat.reduceLT, Nat.reduceLeDiff, Nat.reduceEqDiff, Nat.reduceSub]
        refine hask _ (by omega) I1 _ hFS h13 x hx (fun I2 hF2 h132 => ?_)
        have hc9 := hch (mn K c)
        have z3 : chc K (lw j) c (mn K c) < 2000000 ∧ chc K (lw j) c (mn K c) < 100 := by omega
        have e1 := hF2.2 (chc K (lw j) c (mn K c)) (by omega)
        cases htk : tk with
        | false =>
          rw [htk] at hnext
          simp only [↓r99_154, ↓r99_156, ↓r99_158, ↓r99_161, ↓r99_161n, ↓r99_162, ↓r99_164, ↓r99_166, ↓r99_167, ↓r99_168, ↓r99_168k, ↓r99_169, ↓r99_170, ↓r99_171, ↓r99_172, ↓r99_175, ↓r99_177, ↓r99_180, ↓r99_180n, ↓r99_181, ↓r99_183, ↓r99_184, ↓r99_184k, ↓r99_185, ↓r99_186, ↓r99_187, ↓r99_188, ↓r99_191, ↓r99_119, ↓r99_121, ↓r99_123, q_le, q_lt, q_eq, q_e0, q_e1, q_0e, q_1e, ps_n0, q_0le, q_le0, q_0lt, q_m1e, q_em1, z1, Int32.le_refl, Bool.false_eq_true, hn, hn2, ht, hF, am_wt, am_wf, Option.isSome_some, am_rf_s, am_rf_n, ps_lit, nI_add, nI_1, pk_mul, ps_cl, ps_neg, ps_c0, ps_c1, ps_n01, ps_n11, ps_10, ps_b01, ps_e0, pu_Ine, pu_Ieq, pu_ne, pu_eq, am_k_n, am_k_i, am_k_r, am_k_u, am_k_l, am_sz_0, am_sz_i, am_sz_r, am_sz_u, am_sz_l, Option.toList_some, Option.toList_none, List.cons_append, List.nil_append, true_and, and_true, or_false, false_or, or_self, or_true, true_or, not_false_eq_true, not_true_eq_false, Classical.not_not, ne_eq, ps_e1, ps_em, ps_z, Nat.not_le, false_implies, true_implies, forall_const, ps_01, ps_1n, ps_0n, ps_m10, ps_m1n, lg_cmp_gt, lg_cmp_ge, lg_cmp_le, lg_cmp_lt, lg_cmp_eq, pu_rne, pu_req, pu_uro, RFc_n, Nat.reduceAdd, Nat.reduceMul, Nat.reduceLT, Nat.reduceLeDiff, Nat.reduceEqDiff, Nat.reduceSub]
          have lt1 : nI (mn K c) < nI (mn K c + 1) := nI_lt (by omega) (by omega)
          simp only [lt1, Bool.false_eq_true, hn, hn2, ht, hF, am_wt, am_wf, Option.isSome_some, am_rf_s, am_rf_n, ps_lit, nI_add, nI_1, pk_mul, ps_cl, ps_neg, ps_c0, ps_c1, ps_n01, ps_n11, ps_10, ps_b01, ps_e0, pu_Ine, pu_Ieq, pu_ne, pu_eq, am_k_n, am_k_i, am_k_r, am_k_u, am_k_l, am_sz_0, am_sz_i, am_sz_r, am_sz_u, am_sz_l, Option.toList_some, Option.toList_none, List.cons_append, List.nil_append, true_and, and_true, or_false, false_or, or_self, or_true, true_or, not_false_eq_true, not_true_eq_false, Classical.not_not, ne_eq, ps_e1, ps_em, ps_z, Nat.not_le, false_implies, true_implies, forall_const, ps_01, ps_1n, ps_0n, ps_m10, ps_m1n, lg_cmp_gt, lg_cmp_ge, lg_cmp_le, lg_cmp_lt, lg_cmp_eq, pu_rne, pu_req, pu_uro, RFc_n, Nat.reduceAdd, Nat.reduceMul, Nat.reduceLT, Nat.reduceLeDiff, Nat.reduceEqDiff, Nat.reduceSub]
          simp only [Bool.false_eq_true, hn, hn2, ht, hF, am_wt, am_wf, Option.isSome_some, am_rf_s, am_rf_n, ps_lit, nI_add, nI_1, pk_mul, ps_cl, ps_neg, ps_c0, ps_c1, ps_n01, ps_n11, ps_10, ps_b01, ps_e0, pu_Ine, pu_Ieq, pu_ne, pu_eq, am_k_n, am_k_i, am_k_r, am_k_u, am_k_l, am_sz_0, am_sz_i, am_sz_r, am_sz_u, am_sz_l, Option.toList_some, Option.toList_none, List.cons_append, List.nil_append, true_and, and_true, or_false, false_or, or_self, or_true, true_or, not_false_eq_true, not_true_eq_false, Classical.not_not, ne_eq, ps_e1, ps_em, ps_z, Nat.not_le, false_implies, true_implies, forall_const, ps_01, ps_1n, ps_0n, ps_m10, ps_m1n, lg_cmp_gt, lg_cmp_ge, lg_cmp_le, lg_cmp_lt, lg_cmp_eq, pu_rne, pu_req, pu_uro, RFc_n, Nat.reduceAdd, Nat.reduceMul, Nat.reduceLT, Nat.reduceLeDiff, Nat.reduceEqDiff, Nat.reduceSub] at hnext
          refine hnext I2 ⟨hF2.1, fun f hf => ?_⟩ _ _
          rw [hF2.2 f hf]
          simp
        | true =>
          rw [htk] at hnext
          simp only [if_true] at hnext
          simp only [↓r99_154, ↓r99_156, ↓r99_158, ↓r99_161, ↓r99_161n, ↓r99_162, ↓r99_164, ↓r99_166, ↓r99_167, ↓r99_168, ↓r99_168k, ↓r99_169, ↓r99_170, ↓r99_171, ↓r99_172, ↓r99_175, ↓r99_177, ↓r99_180, ↓r99_180n, ↓r99_181, ↓r99_183, ↓r99_184, ↓r99_184k, ↓r99_185, ↓r99_186, ↓r99_187, ↓r99_188, ↓r99_191, ↓r99_119, ↓r99_121, ↓r99_123, q_le, q_lt, q_eq, q_e0, q_e1, q_0e, q_1e, ps_n0, q_0le, q_le0, q_0lt, q_m1e, q_em1, z1, z3, r1, r2, r3, e1, Int32.le_refl, if_true, Bool.false_eq_true, hn, hn2, ht, hF, am_wt, am_wf, Option.isSome_some, am_rf_s, am_rf_n, ps_lit, nI_add, nI_1, pk_mul, ps_cl, ps_neg, ps_c0, ps_c1, ps_n01, ps_n11, ps_10, ps_b01, ps_e0, pu_Ine, pu_Ieq, pu_ne, pu_eq, am_k_n, am_k_i, am_k_r, am_k_u, am_k_l, am_sz_0, am_sz_i, am_sz_r, am_sz_u, am_sz_l, Option.toList_some, Option.toList_none, List.cons_append, List.nil_append, true_and, and_true, or_false, false_or, or_self, or_true, true_or, not_false_eq_true, not_true_eq_false, Classical.not_not, ne_eq, ps_e1, ps_em, ps_z, Nat.not_le, false_implies, true_implies, forall_const, ps_01, ps_1n, ps_0n, ps_m10, ps_m1n, lg_cmp_gt, lg_cmp_ge, lg_cmp_le, lg_cmp_lt, lg_cmp_eq, pu_rne, pu_req, pu_uro, RFc_n, Nat.reduceAdd, Nat.reduceMul, Nat.reduceLT, Nat.reduceLeDiff, Nat.reduceEqDiff, Nat.reduceSub]
          have lt1 : nI (mn K c) < nI (mn K c + 1) := nI_lt (by omega) (by omega)
          simp only [lt1, Bool.false_eq_true, hn, hn2, ht, hF, am_wt, am_wf, Option.isSome_some, am_rf_s, am_rf_n, ps_lit, nI_add, nI_1, pk_mul, ps_cl, ps_neg, ps_c0, ps_c1, ps_n01, ps_n11, ps_10, ps_b01, ps_e0, pu_Ine, pu_Ieq, pu_ne, pu_eq, am_k_n, am_k_i, am_k_r, am_k_u, am_k_l, am_sz_0, am_sz_i, am_sz_r, am_sz_u, am_sz_l, Option.toList_some, Option.toList_none, List.cons_append, List.nil_append, true_and, and_true, or_false, false_or, or_self, or_true, true_or, not_false_eq_true, not_true_eq_false, Classical.not_not, ne_eq, ps_e1, ps_em, ps_z, Nat.not_le, false_implies, true_implies, forall_const, ps_01, ps_1n, ps_0n, ps_m10, ps_m1n, lg_cmp_gt, lg_cmp_ge, lg_cmp_le, lg_cmp_lt, lg_cmp_eq, pu_rne, pu_req, pu_uro, RFc_n, Nat.reduceAdd, Nat.reduceMul, Nat.reduceLT, Nat.reduceLeDiff, Nat.reduceEqDiff, Nat.reduceSub]
          refine hnext _ ⟨fun p p1 p2 p3 => ?_, fun f hf => ?_⟩ _ _
          · rw [pu_Ine p3]
            exact hF2.1 p p1 p2 p3
          · rw [pu_Ieq]
            by_cases hff : chc K (lw j) c (mn K c) = f
            · rw [← hff, pu_eq]
              dsimp only
              rw [if_pos ⟨trivial, by omega⟩, if_pos rfl]
            · rw [pu_ne (fun z => hff z.symm), hF2.2 f hf]
              dsimp only
              rw [if_pos ⟨trivial, by omega⟩, if_neg hff, Nat.add_zero]
    | succ q ih =>
      intro m hm I1 hFS h13 x hx
      have z1 : mn K c < 2000000 ∧ m < 2000000 := by omega
      have z2 : ¬ mn K c < m ∧ ¬ 20 ≤ m ∧ ¬ mn K c ≤ m := by omega
      rw [r99_119]
      simp only [↓r99_121, ↓r99_123, ↓r99_126, ↓r99_128, ↓r99_130, q_le, q_lt, q_eq, q_e0, q_e1, q_0e, q_1e, ps_n0, q_0le, q_le0, q_0lt, q_m1e, q_em1, z1, z2, Bool.false_eq_true, hn, hn2, ht, hF, am_wt, am_wf, Option.isSome_some, am_rf_s, am_rf_n, ps_lit, nI_add, nI_1, pk_mul, ps_cl, ps_neg, ps_c0, ps_c1, ps_n01, ps_n11, ps_10, ps_b01, ps_e0, pu_Ine, pu_Ieq, pu_ne, pu_eq, am_k_n, am_k_i, am_k_r, am_k_u, am_k_l, am_sz_0, am_sz_i, am_sz_r, am_sz_u, am_sz_l, Option.toList_some, Option.toList_none, List.cons_append, List.nil_append, true_and, and_true, or_false, false_or, or_self, or_true, true_or, not_false_eq_true, not_true_eq_false, Classical.not_not, ne_eq, ps_e1, ps_em, ps_z, Nat.not_le, false_implies, true_implies, forall_const, ps_01, ps_1n, ps_0n, ps_m10, ps_m1n, lg_cmp_gt, lg_cmp_ge, lg_cmp_le, lg_cmp_lt, lg_cmp_eq, pu_rne, pu_req, pu_uro, RFc_n, Nat.reduceAdd, Nat.reduceMul, Nat.reduceLT, Nat.reduceLeDiff, Nat.reduceEqDiff, Nat.reduceSub]
      refine hask m (by omega) I1 _ hFS h13 x hx (fun I2 hF2 h132 => ?_)
      have hc9 := hch m
      have y1 : nI 100 - nI (chc K (lw j) c m) = nI (100 - chc K (lw j) c m) := nI_sub (by omega)
      have z3 : 100 - chc K (lw j) c m < 2000000 ∧ 100 - chc K (lw j) c m < 100 := by omega
      have e1 := hF2.2 (100 - chc K (lw j) c m) (by omega)
      simp only [↓r99_154, ↓r99_156, ↓r99_158, ↓r99_161, ↓r99_161n, ↓r99_162, ↓r99_164, ↓r99_166, ↓r99_167, ↓r99_168, ↓r99_168k, ↓r99_169, ↓r99_170, ↓r99_171, ↓r99_172, ↓r99_175, ↓r99_177, ↓r99_180, ↓r99_180n, ↓r99_181, ↓r99_183, ↓r99_184, ↓r99_184k, ↓r99_185, ↓r99_186, ↓r99_187, ↓r99_188, ↓r99_191, q_le, q_lt, q_eq, q_e0, q_e1, q_0e, q_1e, ps_n0, q_0le, q_le0, q_0lt, q_m1e, q_em1, z1, z2, z3, r1, r2, r3, y1, e1, Bool.false_eq_true, hn, hn2, ht, hF, am_wt, am_wf, Option.isSome_some, am_rf_s, am_rf_n, ps_lit, nI_add, nI_1, pk_mul, ps_cl, ps_neg, ps_c0, ps_c1, ps_n01, ps_n11, ps_10, ps_b01, ps_e0, pu_Ine, pu_Ieq, pu_ne, pu_eq, am_k_n, am_k_i, am_k_r, am_k_u, am_k_l, am_sz_0, am_sz_i, am_sz_r, am_sz_u, am_sz_l, Option.toList_some, Option.toList_none, List.cons_append, List.nil_append, true_and, and_true, or_false, false_or, or_self, or_true, true_or, not_false_eq_true, not_true_eq_false, Classical.not_not, ne_eq, ps_e1, ps_em, ps_z, Nat.not_le, false_implies, true_implies, forall_const, ps_01, ps_1n, ps_0n, ps_m10, ps_m1n, lg_cmp_gt, lg_cmp_ge, lg_cmp_le, lg_cmp_lt, lg_cmp_eq, pu_rne, pu_req, pu_uro, RFc_n, Nat.reduceAdd, Nat.reduceMul, Nat.reduceLT, Nat.reduceLeDiff, Nat.reduceEqDiff, Nat.reduceSub]
      refine ih (m + 1) (by omega) _ ⟨fun p p1 p2 p3 => ?_, fun f hf => ?_⟩ (fun w hw hw9 => ?_) _ (fun _ hbf => by rw [hb3 hbf c m])
      · rw [pu_Ine p3]
        exact hF2.1 p p1 p2 p3
      · rw [pu_Ieq]
        show _ = nI (C f + (cf (chc K (lw j) c) m f + (if 100 - chc K (lw j) c m = f then 1 else 0)))
        by_cases hff : 100 - chc K (lw j) c m = f
        · rw [← hff, pu_eq, if_pos rfl, ← Nat.add_assoc]
        · rw [pu_ne (fun z => hff z.symm), hF2.2 f hf, if_neg hff, Nat.add_zero]
      · rw [pu_Ine (fun z => r4.1 z.symm)]
        exact h132 w hw hw9
  have hout : ∀ q k, k + q = l.length → ∀ I1, FS I0 I1 r (gc K (lw j) l k) → ∀ l5 l6 l7 l8 l9 : Option Value, am_W X (d + 6) 99 20 [some (.ref 0), some (.ref a), some (.ref r), some (.int (if b = true then 1 else 0)), some (.int (nI k)), l5, l6, l7, l8, l9] [] (n, sl, t, I1, J, F) Q := by
    intro q
    induction q with
    | zero =>
      intro k hk I1 hFS l5 l6 l7 l8 l9
      obtain rfl : k = l.length := by omega
      have e15 : I1 15 = I0 15 := hFS.1 15 (by decide) (by decide) (by omega)
      rw [r99_20]
      simp only [↓r99_22, ↓r99_23, ↓r99_26, ↓r99_29, ↓r99_200, e15, h1, Int32.le_refl, Bool.false_eq_true, hn, hn2, ht, hF, am_wt, am_wf, Option.isSome_some, am_rf_s, am_rf_n, ps_lit, nI_add, nI_1, pk_mul, ps_cl, ps_neg, ps_c0, ps_c1, ps_n01, ps_n11, ps_10, ps_b01, ps_e0, pu_Ine, pu_Ieq, pu_ne, pu_eq, am_k_n, am_k_i, am_k_r, am_k_u, am_k_l, am_sz_0, am_sz_i, am_sz_r, am_sz_u, am_sz_l, Option.toList_some, Option.toList_none, List.cons_append, List.nil_append, true_and, and_true, or_false, false_or, or_self, or_true, true_or, not_false_eq_true, not_true_eq_false, Classical.not_not, ne_eq, ps_e1, ps_em, ps_z, Nat.not_le, false_implies, true_implies, forall_const, ps_01, ps_1n, ps_0n, ps_m10, ps_m1n, lg_cmp_gt, lg_cmp_ge, lg_cmp_le, lg_cmp_lt, lg_cmp_eq, pu_rne, pu_req, pu_uro, RFc_n, Nat.reduceAdd, Nat.reduceMul, Nat.reduceLT, Nat.reduceLeDiff, Nat.reduceEqDiff, Nat.reduceSub]
      exact hQ I1 hFS
    | succ q ih =>
      intro k hk I1 hFS l5 l6 l7 l8 l9
      have hkl : k < l.length := by omega
      obtain ⟨g1, g2⟩ := h3 k hkl
      have hS1 := FS_SC hr hS hFS
      have hC1 := CX_sc hC hS1 (fun _ _ _ => rfl)
      have hCK := CK_of hC1
      obtain ⟨w1, w2⟩ := kid_w hCK g2
      obtain ⟨hw, hw3, eh⟩ := kid_h hCK g2
      have e15 : I1 15 = I0 15 := hFS.1 15 (by decide) (by decide) (by omega)
      have e16 : I1 16 = I0 16 := hFS.1 16 (by decide) (by decide) (by omega)
      have z1 : k < 2000000 ∧ l.length < 2000000 ∧ k < 120 := by omega
      have z2 : ¬ l.length ≤ k := by omega
      have y1 : nI (wN K (l.getD k 0)) / nI 10 = nI (mn K (l.getD k 0)) := pk_div (by omega) (by decide) (by decide)
      have y2 : ¬ nI 10 = 0 := by decide
      have hmn : mn K (l.getD k 0) ≤ 20 := by unfold mn; omega
      have eask := fun Q => c_ask (X := X) (d := d + 4) (Q := Q) (sl := sl) (J := J) (F := F) (I := I1) (c := l.getD k 0) hW (by omega)
      have ih' := ih (k + 1) (by omega)
      have hwb : ∀ i, i < l.length → wN K (l.getD i 0) ≤ 200 := fun i hi => (kid_w hCK (h3 i hi).2).2
      have hgb : ∀ f, gc K (lw j) l k f ≤ 2400 := fun f => by
        have := gc_b (K := K) (lc := lw j) (l := l) k (fun i hi => hwb i (by omega)) f
        omega
      have e13 : FS I0 (am_ro I1 13 (upd (va_cpy (I1 2) (I1 13) (15 * l.getD k 0) 0 10) 10 0)) r (gc K (lw j) l k) := by
        refine ⟨fun p p1 p2 p3 => ?_, fun f hf => ?_⟩
        · rw [pu_rne p1]
          exact hFS.1 p p1 p2 p3
        · rw [pu_rne r4.1]
          exact hFS.2 f hf
      rw [r99_20]
      by_cases c1 : fTr K (l.getD k 0) = true
      · by_cases c2 : K (15 * l.getD k 0 + 10) = 0
        · simp only [↓r99_22, ↓r99_23, ↓r99_26, ↓r99_29, ↓r99_32, ↓r99_33, ↓r99_36, ↓r99_39, ↓r99_41, ↓r99_41k, ↓r99_42, ↓r99_44, ↓r99_45, ↓r99_48, ↓r99_50, ↓r99_53, ↓r99_56, ↓r99_57, ↓r99_60, ↓r99_62, ↓r99_64, ↓r99_67, ↓r99_69, ↓r99_70, ↓r99_73, ↓r99_74, ↓r99_76, ↓r99_77, ↓r99_80, ↓r99_82, ↓r99_84, ↓r99_87, ↓r99_90, ↓r99_91, ↓r99_94, ↓r99_95, ↓r99_97, ↓r99_98, ↓r99_100, ↓r99_101, ↓r99_104, ↓r99_105, ↓r99_108, ↓r99_111, ↓r99_113, ↓r99_116, ↓r99_117, ↓k_at (K := K) (N := N), ↓k_isTried (K := K) (N := N), ↓k_side (K := K) (N := N), ↓k_thing (K := K) (N := N), ↓k_isFound (K := K) (N := N), ↓m_factOf (K := K) (N := N), ↓m_isTried (K := K) (N := N), ↓m_took (K := K) (N := N), ↓m_waited (K := K) (N := N), ↓m_isLong (K := K) (N := N), ↓m_isShort (K := K) (N := N), ↓m_thingOf (K := K) (N := N), ↓m_isFound (K := K) (N := N), ↓m_many (K := K) (N := N), ↓c_within, ↓s_lies, hCK, b01, b11, ↓eask, q_le, q_lt, q_eq, q_e0, q_e1, q_0e, q_1e, ps_n0, q_0le, q_le0, q_0lt, q_m1e, q_em1, e15, e16, h1, g1, g2, z1, z2, w1, y1, y2, c1, c2, am_k_i, am_k_n, if_true, Bool.false_eq_true, hn, hn2, ht, hF, am_wt, am_wf, Option.isSome_some, am_rf_s, am_rf_n, ps_lit, nI_add, nI_1, pk_mul, ps_cl, ps_neg, ps_c0, ps_c1, ps_n01, ps_n11, ps_10, ps_b01, ps_e0, pu_Ine, pu_Ieq, pu_ne, pu_eq, am_k_n, am_k_i, am_k_r, am_k_u, am_k_l, am_sz_0, am_sz_i, am_sz_r, am_sz_u, am_sz_l, Option.toList_some, Option.toList_none, List.cons_append, List.nil_append, true_and, and_true, or_false, false_or, or_self, or_true, true_or, not_false_eq_true, not_true_eq_false, Classical.not_not, ne_eq, ps_e1, ps_em, ps_z, Nat.not_le, false_implies, true_implies, forall_const, ps_01, ps_1n, ps_0n, ps_m10, ps_m1n, lg_cmp_gt, lg_cmp_ge, lg_cmp_le, lg_cmp_lt, lg_cmp_eq, pu_rne, pu_req, pu_uro, RFc_n, Nat.reduceAdd, Nat.reduceMul, Nat.reduceLT, Nat.reduceLeDiff, Nat.reduceEqDiff, Nat.reduceSub]
          have := hkid k (l.getD k 0) true (gc K (lw j) l k) g2 hmn hgb (fun I2 hF2 l8 l9 => by
            simp only [↓r99_194, ↓r99_197, Bool.false_eq_true, hn, hn2, ht, hF, am_wt, am_wf, Option.isSome_some, am_rf_s, am_rf_n, ps_lit, nI_add, nI_1, pk_mul, ps_cl, ps_neg, ps_c0, ps_c1, ps_n01, ps_n11, ps_10, ps_b01, ps_e0, pu_Ine, pu_Ieq, pu_ne, pu_eq, am_k_n, am_k_i, am_k_r, am_k_u, am_k_l, am_sz_0, am_sz_i, am_sz_r, am_sz_u, am_sz_l, Option.toList_some, Option.toList_none, List.cons_append, List.nil_append, true_and, and_true, or_false, false_or, or_self, or_true, true_or, not_false_eq_true, not_true_eq_false, Classical.not_not, ne_eq, ps_e1, ps_em, ps_z, Nat.not_le, false_implies, true_implies, forall_const, ps_01, ps_1n, ps_0n, ps_m10, ps_m1n, lg_cmp_gt, lg_cmp_ge, lg_cmp_le, lg_cmp_lt, lg_cmp_eq, pu_rne, pu_req, pu_uro, RFc_n, Nat.reduceAdd, Nat.reduceMul, Nat.reduceLT, Nat.reduceLeDiff, Nat.reduceEqDiff, Nat.reduceSub]
            refine ih' I2 ⟨hF2.1, fun f hf => ?_⟩ _ _ _ _ _
            rw [hF2.2 f hf]
            show _ = nI (if fTr K (l.getD k 0) = true then _ else _)
            rw [if_pos c1]
            simp only [c2, true_and]) (mn K (l.getD k 0)) 0 (by omega) _ e13 (fun w hw hw9 => by
              rw [pu_req]
              exact ask_w (mi := 0) hC1 g2 hC1.2.2.2.1.2.2.1 hw hw9) 0 (fun q => absurd rfl q)
          simp only [if_true] at this
          exact this
        · simp only [↓r99_22, ↓r99_23, ↓r99_26, ↓r99_29, ↓r99_32, ↓r99_33, ↓r99_36, ↓r99_39, ↓r99_41, ↓r99_41k, ↓r99_42, ↓r99_44, ↓r99_45, ↓r99_48, ↓r99_50, ↓r99_53, ↓r99_56, ↓r99_57, ↓r99_60, ↓r99_62, ↓r99_64, ↓r99_67, ↓r99_69, ↓r99_70, ↓r99_73, ↓r99_74, ↓r99_76, ↓r99_77, ↓r99_80, ↓r99_82, ↓r99_84, ↓r99_87, ↓r99_90, ↓r99_91, ↓r99_94, ↓r99_95, ↓r99_97, ↓r99_98, ↓r99_100, ↓r99_101, ↓r99_104, ↓r99_105, ↓r99_108, ↓r99_111, ↓r99_113, ↓r99_116, ↓r99_117, ↓k_at (K := K) (N := N), ↓k_isTried (K := K) (N := N), ↓k_side (K := K) (N := N), ↓k_thing (K := K) (N := N), ↓k_isFound (K := K) (N := N), ↓m_factOf (K := K) (N := N), ↓m_isTried (K := K) (N := N), ↓m_took (K := K) (N := N), ↓m_waited (K := K) (N := N), ↓m_isLong (K := K) (N := N), ↓m_isShort (K := K) (N := N), ↓m_thingOf (K := K) (N := N), ↓m_isFound (K := K) (N := N), ↓m_many (K := K) (N := N), ↓c_within, ↓s_lies, hCK, b01, b11, ↓eask, q_le, q_lt, q_eq, q_e0, q_e1, q_0e, q_1e, ps_n0, q_0le, q_le0, q_0lt, q_m1e, q_em1, e15, e16, h1, g1, g2, z1, z2, w1, y1, y2, c1, c2, am_k_i, am_k_n, if_true, Bool.false_eq_true, hn, hn2, ht, hF, am_wt, am_wf, Option.isSome_some, am_rf_s, am_rf_n, ps_lit, nI_add, nI_1, pk_mul, ps_cl, ps_neg, ps_c0, ps_c1, ps_n01, ps_n11, ps_10, ps_b01, ps_e0, pu_Ine, pu_Ieq, pu_ne, pu_eq, am_k_n, am_k_i, am_k_r, am_k_u, am_k_l, am_sz_0, am_sz_i, am_sz_r, am_sz_u, am_sz_l, Option.toList_some, Option.toList_none, List.cons_append, List.nil_append, true_and, and_true, or_false, false_or, or_self, or_true, true_or, not_false_eq_true, not_true_eq_false, Classical.not_not, ne_eq, ps_e1, ps_em, ps_z, Nat.not_le, false_implies, true_implies, forall_const, ps_01, ps_1n, ps_0n, ps_m10, ps_m1n, lg_cmp_gt, lg_cmp_ge, lg_cmp_le, lg_cmp_lt, lg_cmp_eq, pu_rne, pu_req, pu_uro, RFc_n, Nat.reduceAdd, Nat.reduceMul, Nat.reduceLT, Nat.reduceLeDiff, Nat.reduceEqDiff, Nat.reduceSub]
          have := hkid k (l.getD k 0) false (gc K (lw j) l k) g2 hmn hgb (fun I2 hF2 l8 l9 => by
            simp only [↓r99_194, ↓r99_197, Bool.false_eq_true, hn, hn2, ht, hF, am_wt, am_wf, Option.isSome_some, am_rf_s, am_rf_n, ps_lit, nI_add, nI_1, pk_mul, ps_cl, ps_neg, ps_c0, ps_c1, ps_n01, ps_n11, ps_10, ps_b01, ps_e0, pu_Ine, pu_Ieq, pu_ne, pu_eq, am_k_n, am_k_i, am_k_r, am_k_u, am_k_l, am_sz_0, am_sz_i, am_sz_r, am_sz_u, am_sz_l, Option.toList_some, Option.toList_none, List.cons_append, List.nil_append, true_and, and_true, or_false, false_or, or_self, or_true, true_or, not_false_eq_true, not_true_eq_false, Classical.not_not, ne_eq, ps_e1, ps_em, ps_z, Nat.not_le, false_implies, true_implies, forall_const, ps_01, ps_1n, ps_0n, ps_m10, ps_m1n, lg_cmp_gt, lg_cmp_ge, lg_cmp_le, lg_cmp_lt, lg_cmp_eq, pu_rne, pu_req, pu_uro, RFc_n, Nat.reduceAdd, Nat.reduceMul, Nat.reduceLT, Nat.reduceLeDiff, Nat.reduceEqDiff, Nat.reduceSub]
            refine ih' I2 ⟨hF2.1, fun f hf => ?_⟩ _ _ _ _ _
            rw [hF2.2 f hf]
            show _ = nI (if fTr K (l.getD k 0) = true then _ else _)
            rw [if_pos c1]
            simp only [c2, false_and, if_false, Bool.false_eq_true, hn, hn2, ht, hF, am_wt, am_wf, Option.isSome_some, am_rf_s, am_rf_n, ps_lit, nI_add, nI_1, pk_mul, ps_cl, ps_neg, ps_c0, ps_c1, ps_n01, ps_n11, ps_10, ps_b01, ps_e0, pu_Ine, pu_Ieq, pu_ne, pu_eq, am_k_n, am_k_i, am_k_r, am_k_u, am_k_l, am_sz_0, am_sz_i, am_sz_r, am_sz_u, am_sz_l, Option.toList_some, Option.toList_none, List.cons_append, List.nil_append, true_and, and_true, or_false, false_or, or_self, or_true, true_or, not_false_eq_true, not_true_eq_false, Classical.not_not, ne_eq, ps_e1, ps_em, ps_z, Nat.not_le, false_implies, true_implies, forall_const, ps_01, ps_1n, ps_0n, ps_m10, ps_m1n, lg_cmp_gt, lg_cmp_ge, lg_cmp_le, lg_cmp_lt, lg_cmp_eq, pu_rne, pu_req, pu_uro, RFc_n, Nat.reduceAdd, Nat.reduceMul, Nat.reduceLT, Nat.reduceLeDiff, Nat.reduceEqDiff, Nat.reduceSub]) (mn K (l.getD k 0)) 0 (by omega) _ e13 (fun w hw hw9 => by
              rw [pu_req]
              exact ask_w (mi := 0) hC1 g2 hC1.2.2.2.1.2.2.1 hw hw9) 0 (fun q => absurd rfl q)
          simp only [Bool.false_eq_true, hn, hn2, ht, hF, am_wt, am_wf, Option.isSome_some, am_rf_s, am_rf_n, ps_lit, nI_add, nI_1, pk_mul, ps_cl, ps_neg, ps_c0, ps_c1, ps_n01, ps_n11, ps_10, ps_b01, ps_e0, pu_Ine, pu_Ieq, pu_ne, pu_eq, am_k_n, am_k_i, am_k_r, am_k_u, am_k_l, am_sz_0, am_sz_i, am_sz_r, am_sz_u, am_sz_l, Option.toList_some, Option.toList_none, List.cons_append, List.nil_append, true_and, and_true, or_false, false_or, or_self, or_true, true_or, not_false_eq_true, not_true_eq_false, Classical.not_not, ne_eq, ps_e1, ps_em, ps_z, Nat.not_le, false_implies, true_implies, forall_const, ps_01, ps_1n, ps_0n, ps_m10, ps_m1n, lg_cmp_gt, lg_cmp_ge, lg_cmp_le, lg_cmp_lt, lg_cmp_eq, pu_rne, pu_req, pu_uro, RFc_n, Nat.reduceAdd, Nat.reduceMul, Nat.reduceLT, Nat.reduceLeDiff, Nat.reduceEqDiff, Nat.reduceSub] at this
          exact this
      · have c2 : ¬ K (15 * l.getD k 0 + 10) = 0 := fun q => c1 (tr_0 q)
        have lt1 : (-1 : Int32) < 0 := by decide
        simp only [↓r99_22, ↓r99_23, ↓r99_26, ↓r99_29, ↓r99_32, ↓r99_33, ↓r99_36, ↓r99_39, ↓r99_41, ↓r99_41k, ↓r99_42, ↓r99_44, ↓r99_45, ↓r99_48, ↓r99_50, ↓r99_53, ↓r99_56, ↓r99_57, ↓r99_60, ↓r99_62, ↓r99_64, ↓r99_67, ↓r99_69, ↓r99_70, ↓r99_73, ↓r99_74, ↓r99_76, ↓r99_77, ↓r99_80, ↓r99_82, ↓r99_84, ↓r99_87, ↓r99_90, ↓r99_91, ↓r99_94, ↓r99_95, ↓r99_97, ↓r99_98, ↓r99_100, ↓r99_101, ↓r99_104, ↓r99_105, ↓r99_108, ↓r99_111, ↓r99_113, ↓r99_116, ↓r99_117, ↓r99_119, ↓r99_121, ↓r99_123, ↓r99_194, ↓r99_197, ↓k_at (K := K) (N := N), ↓k_isTried (K := K) (N := N), ↓k_side (K := K) (N := N), ↓k_thing (K := K) (N := N), ↓k_isFound (K := K) (N := N), ↓m_factOf (K := K) (N := N), ↓m_isTried (K := K) (N := N), ↓m_took (K := K) (N := N), ↓m_waited (K := K) (N := N), ↓m_isLong (K := K) (N := N), ↓m_isShort (K := K) (N := N), ↓m_thingOf (K := K) (N := N), ↓m_isFound (K := K) (N := N), ↓m_many (K := K) (N := N), ↓c_within, ↓s_lies, hCK, b01, b11, ↓eask, q_le, q_lt, q_eq, q_e0, q_e1, q_0e, q_1e, ps_n0, q_0le, q_le0, q_0lt, q_m1e, q_em1, e15, e16, h1, g1, g2, z1, z2, w1, c1, c2, lt1, am_k_i, am_k_n, if_false, Bool.false_eq_true, hn, hn2, ht, hF, am_wt, am_wf, Option.isSome_some, am_rf_s, am_rf_n, ps_lit, nI_add, nI_1, pk_mul, ps_cl, ps_neg, ps_c0, ps_c1, ps_n01, ps_n11, ps_10, ps_b01, ps_e0, pu_Ine, pu_Ieq, pu_ne, pu_eq, am_k_n, am_k_i, am_k_r, am_k_u, am_k_l, am_sz_0, am_sz_i, am_sz_r, am_sz_u, am_sz_l, Option.toList_some, Option.toList_none, List.cons_append, List.nil_append, true_and, and_true, or_false, false_or, or_self, or_true, true_or, not_false_eq_true, not_true_eq_false, Classical.not_not, ne_eq, ps_e1, ps_em, ps_z, Nat.not_le, false_implies, true_implies, forall_const, ps_01, ps_1n, ps_0n, ps_m10, ps_m1n, lg_cmp_gt, lg_cmp_ge, lg_cmp_le, lg_cmp_lt, lg_cmp_eq, pu_rne, pu_req, pu_uro, RFc_n, Nat.reduceAdd, Nat.reduceMul, Nat.reduceLT, Nat.reduceLeDiff, Nat.reduceEqDiff, Nat.reduceSub]
        refine ih' _ ⟨e13.1, fun f hf => ?_⟩ _ _ _ _ _
        rw [e13.2 f hf]
        show _ = nI (if fTr K (l.getD k 0) = true then _ else _)
        rw [if_neg c1]
  have e4 := fun Q => c_fill (X := X) (d := d + 5) (Q := Q) (sl := sl) (J := J) (F := F) (I := I0) (a := r) (len := 100) hn2 r1 r3 (by decide)
  have hF0 : FS I0 (am_ro I0 r (fun k => if k < 100 then 0 else I0 r k)) r (gc K (lw j) l 0) := by
    refine ⟨fun p p1 p2 p3 => pu_rne p3, fun f hf => ?_⟩
    rw [pu_req, if_pos hf]
    rfl
  have e5 := fun Q => hb1 X (d + 5) Q sl J (am_ro I0 r (fun k => if k < 100 then 0 else I0 r k)) (FS_SC hr hS hF0)
  have e6 : nI (pw 9) = nI 10 := rfl
  rw [e6] at e5
  simp only [↓r99_0, ↓r99_0n, ↓r99_1, ↓r99_2, ↓r99_5, ↓r99_5n, ↓r99_6, ↓r99_6n, ↓r99_9, ↓r99_10, ↓r99_10n, ↓r99_11, ↓r99_13, ↓r99_16, ↓r99_17, ↓r99_18, ↓e4, ↓e5, a2, a3, ta, am_k_i, am_k_n, Bool.false_eq_true, hn, hn2, ht, hF, am_wt, am_wf, Option.isSome_some, am_rf_s, am_rf_n, ps_lit, nI_add, nI_1, pk_mul, ps_cl, ps_neg, ps_c0, ps_c1, ps_n01, ps_n11, ps_10, ps_b01, ps_e0, pu_Ine, pu_Ieq, pu_ne, pu_eq, am_k_n, am_k_i, am_k_r, am_k_u, am_k_l, am_sz_0, am_sz_i, am_sz_r, am_sz_u, am_sz_l, Option.toList_some, Option.toList_none, List.cons_append, List.nil_append, true_and, and_true, or_false, false_or, or_self, or_true, true_or, not_false_eq_true, not_true_eq_false, Classical.not_not, ne_eq, ps_e1, ps_em, ps_z, Nat.not_le, false_implies, true_implies, forall_const, ps_01, ps_1n, ps_0n, ps_m10, ps_m1n, lg_cmp_gt, lg_cmp_ge, lg_cmp_le, lg_cmp_lt, lg_cmp_eq, pu_rne, pu_req, pu_uro, RFc_n, Nat.reduceAdd, Nat.reduceMul, Nat.reduceLT, Nat.reduceLeDiff, Nat.reduceEqDiff, Nat.reduceSub]
  exact hout l.length 0 (by omega) _ hF0 _ _ _ _ _
end CF
