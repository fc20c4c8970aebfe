/-! numbers of many digits -/
section BG
def dig (B V k : Nat) : Nat := V / B ^ k % B
def cB (B V f i : Nat) : Nat := V % B ^ i * f / B ^ i
theorem dig_lt {B V k : Nat} (h : 0 < B) : dig B V k < B := Nat.mod_lt _ h
theorem cB_0 {B V f : Nat} : cB B V f 0 = 0 := by
  unfold cB
  rw [Nat.pow_zero, Nat.mod_one, Nat.zero_mul, Nat.zero_div]
theorem cB_le {B V f i : Nat} (h : 0 < B) : cB B V f i ≤ f := by
  unfold cB
  have hp : 0 < B ^ i := Nat.pow_pos h
  refine Nat.div_le_of_le_mul ?_
  exact Nat.mul_le_mul_right f (Nat.le_of_lt (Nat.mod_lt _ hp))
theorem gs_c {B V f i : Nat} (h : 0 < B) : dig B V i * f + cB B V f i = V % B ^ (i + 1) * f / B ^ i := by
  unfold dig cB
  have hp : 0 < B ^ i := Nat.pow_pos h
  rw [Nat.mod_pow_succ, Nat.add_mul, Nat.mul_assoc, Nat.add_mul_div_left _ _ hp, Nat.add_comm]
theorem gs_d {B V f i : Nat} : V % B ^ (i + 1) * f / B ^ i % B = dig B (V * f) i := by
  unfold dig
  rw [← Nat.mod_mul_right_div_self, ← Nat.mod_mul_right_div_self, ← Nat.pow_succ, Nat.mod_mul_mod]
theorem gs_q {B V f i : Nat} : V % B ^ (i + 1) * f / B ^ i / B = cB B V f (i + 1) := by
  unfold cB
  rw [Nat.div_div_eq_div_mul, ← Nat.pow_succ]
theorem gs_b {B V f i : Nat} (h : 0 < B) : V % B ^ (i + 1) * f / B ^ i ≤ B * f := by
  rw [← gs_c h]
  have h1 := dig_lt (V := V) (k := i) h
  have h2 : dig B V i * f ≤ (B - 1) * f := Nat.mul_le_mul_right f (by omega)
  have h3 := cB_le (V := V) (f := f) (i := i) h
  have h4 : B * f = (B - 1) * f + f := by
    obtain ⟨b, rfl⟩ : ∃ b, B = b + 1 := ⟨B - 1, by omega⟩
    rw [Nat.add_sub_cancel, Nat.add_mul, Nat.one_mul]
  omega
theorem cB_e {B V f i : Nat} (h : V < B ^ i) : cB B V f i = V * f / B ^ i := by
  unfold cB
  rw [Nat.mod_eq_of_lt h]
theorem dig_z {B V k l : Nat} (hb : 0 < B) (h : V < B ^ l) (hk : l ≤ k) : dig B V k = 0 := by
  unfold dig
  have : B ^ l ≤ B ^ k := Nat.pow_le_pow_right hb hk
  rw [Nat.div_eq_of_lt (by omega), Nat.zero_mod]
theorem dig_top {B V k : Nat} (h : V < B ^ (k + 1)) : dig B V k = V / B ^ k := by
  unfold dig
  refine Nat.mod_eq_of_lt ?_
  rw [Nat.pow_succ] at h
  exact Nat.div_lt_of_lt_mul h
def bB : Nat := 1073741824
theorem bB_e : bB = 1073741824 := rfl
theorem bB_p : 0 < bB := by decide
theorem lN_and {x : Nat} (h : x < 2 ^ 63) : lN x &&& 1073741823 = lN (x % bB) := by
  apply Int64.toBitVec_inj.mp
  apply BitVec.eq_of_toNat_eq
  have e1 : x % 2 ^ 64 = x := Nat.mod_eq_of_lt (by omega)
  have e2 : x % 1073741824 % 2 ^ 64 = x % 1073741824 := Nat.mod_eq_of_lt (by omega)
  show (BitVec.ofNat 64 x &&& BitVec.ofNat 64 1073741823).toNat = (BitVec.ofNat 64 (x % 1073741824)).toNat
  rw [BitVec.toNat_and, BitVec.toNat_ofNat, BitVec.toNat_ofNat, BitVec.toNat_ofNat, e1, e2]
  exact Nat.and_two_pow_sub_one_eq_mod x 30
/-- a long, by what it is -/
def jI (x : Int) : Int64 := Int64.ofInt x
theorem jI_t {x : Int} (h1 : -9223372036854775808 ≤ x) (h2 : x < 9223372036854775808) : (jI x).toInt = x := Int64.toInt_ofInt_of_le h1 h2
theorem jI_add (a b : Int) : jI a + jI b = jI (a + b) := (Int64.ofInt_add a b).symm
theorem jI_sub (a b : Int) : jI a - jI b = jI (a - b) := (Int64.ofInt_sub a b).symm
theorem jI_mul (a b : Int) : jI a * jI b = jI (a * b) := (Int64.ofInt_mul a b).symm
theorem lN_j (a : Nat) : lN a = jI (a : Int) := Int64.ofInt_eq_ofNat.symm
theorem jI_sh {x : Int} (h1 : -9223372036854775808 ≤ x) (h2 : x < 9223372036854775808) : jI x >>> ((nI 30).toInt64 &&& 63) = jI (x / 1073741824) := by
  apply Int64.toInt_inj.mp
  rw [jI_t (by omega) (by omega)]
  have hs : (((nI 30).toInt64 &&& 63).toBitVec.smod 64).toNat = 30 := by decide
  show ((jI x).toBitVec.sshiftRight (((nI 30).toInt64 &&& 63).toBitVec.smod 64).toNat).toInt = _
  rw [hs, BitVec.toInt_sshiftRight]
  show (jI x).toInt >>> 30 = _
  rw [jI_t h1 h2, Int.shiftRight_eq_div_pow]
  rfl
theorem lN_sh {x : Nat} (h : x < 2 ^ 63) : lN x >>> ((nI 30).toInt64 &&& 63) = lN (x / bB) := by
  rw [lN_j, lN_j, jI_sh (by omega) (by omega)]
  rfl
theorem jI_lt {a b : Int} (h1 : -9223372036854775808 ≤ a) (h2 : a < 9223372036854775808) (h3 : -9223372036854775808 ≤ b) (h4 : b < 9223372036854775808) : (jI a < jI b) = (a < b) := by
  apply propext
  rw [Int64.lt_iff_toInt_lt, jI_t h1 h2, jI_t h3 h4]
/-- what is left, of a great number and a small one taken m times, as far as i -/
def cv (G S m i : Nat) : Int := (((G % bB ^ i : Nat) : Int) - (m : Int) * ((S % bB ^ i : Nat) : Int)) / ((bB ^ i : Nat) : Int)
theorem cv_0 {G S m : Nat} : cv G S m 0 = 0 := by
  unfold cv
  rw [Nat.pow_zero, Nat.mod_one, Nat.mod_one]
  simp
theorem cv_b {G S m i : Nat} : -(m : Int) ≤ cv G S m i ∧ cv G S m i ≤ 1 := by
  unfold cv
  have hp : 0 < bB ^ i := Nat.pow_pos bB_p
  have h1 := Nat.mod_lt G hp
  have h2 := Nat.mod_lt S hp
  generalize G % bB ^ i = g at h1 ⊢
  generalize S % bB ^ i = s at h2 ⊢
  generalize bB ^ i = p at hp h1 h2 ⊢
  have hp' : (0 : Int) < (p : Int) := by omega
  constructor
  · rw [Int.le_ediv_iff_mul_le hp']
    have h3 : m * s ≤ m * p := Nat.mul_le_mul_left m (by omega)
    have h4 : ((m * s : Nat) : Int) = (m : Int) * (s : Int) := by rw [Int.natCast_mul]
    have h5 : ((m * p : Nat) : Int) = (m : Int) * (p : Int) := by rw [Int.natCast_mul]
    rw [Int.neg_mul]
    omega
  · refine Int.le_of_lt_add_one ?_
    rw [Int.ediv_lt_iff_lt_mul hp']
    have h4 : ((m * s : Nat) : Int) = (m : Int) * (s : Int) := by rw [Int.natCast_mul]
    omega
theorem cv_s {G S m i : Nat} : (((dig bB G i : Nat) : Int) - (m : Int) * ((dig bB S i : Nat) : Int) + cv G S m i) / 1073741824 = cv G S m (i + 1) := by
  unfold cv
  have hp : 0 < bB ^ i := Nat.pow_pos bB_p
  have hp' : ((bB ^ i : Nat) : Int) ≠ 0 := by omega
  have e1 : ((G % bB ^ (i + 1) : Nat) : Int) = ((G % bB ^ i : Nat) : Int) + ((bB ^ i : Nat) : Int) * ((dig bB G i : Nat) : Int) := by
    rw [Nat.mod_pow_succ, Int.natCast_add, Int.natCast_mul]
    rfl
  have e2 : ((S % bB ^ (i + 1) : Nat) : Int) = ((S % bB ^ i : Nat) : Int) + ((bB ^ i : Nat) : Int) * ((dig bB S i : Nat) : Int) := by
    rw [Nat.mod_pow_succ, Int.natCast_add, Int.natCast_mul]
    rfl
  have e3 : ((bB ^ (i + 1) : Nat) : Int) = ((bB ^ i : Nat) : Int) * 1073741824 := by
    rw [Nat.pow_succ, Int.natCast_mul]
    rfl
  rw [e1, e2, e3]
  generalize ((G % bB ^ i : Nat) : Int) = g
  generalize ((S % bB ^ i : Nat) : Int) = s
  generalize ((dig bB G i : Nat) : Int) = x
  generalize ((dig bB S i : Nat) : Int) = y
  have hpp : (0 : Int) ≤ ((bB ^ i : Nat) : Int) := by omega
  generalize ((bB ^ i : Nat) : Int) = p at *
  have e4 : g + p * x - (m : Int) * (s + p * y) = (g - (m : Int) * s) + p * (x - (m : Int) * y) := by
    rw [Int.mul_add, Int.mul_sub, ← Int.mul_assoc, ← Int.mul_assoc, Int.mul_comm p (m : Int)]
    omega
  rw [e4, ← Int.ediv_ediv_of_nonneg hpp, Int.add_mul_ediv_left _ _ hp', Int.add_comm]
theorem cv_e {G S m i : Nat} (hG : G < bB ^ i) (hS : S < bB ^ i) : (cv G S m i < 0) = (G < m * S) := by
  unfold cv
  have hp : 0 < bB ^ i := Nat.pow_pos bB_p
  have hp' : (0 : Int) < ((bB ^ i : Nat) : Int) := by omega
  rw [Nat.mod_eq_of_lt hG, Nat.mod_eq_of_lt hS]
  apply propext
  have h := Int.ediv_nonneg_iff_of_pos (a := (G : Int) - (m : Int) * (S : Int)) hp'
  have h4 : ((m * S : Nat) : Int) = (m : Int) * (S : Int) := by rw [Int.natCast_mul]
  omega
theorem cv_st {G S m i : Nat} (hm : m < 2000000) {x y : Int64} (hx : x = lN (dig bB G i)) (hy : y = lN (dig bB S i)) : (x - lN m * y + jI (cv G S m i)) >>> ((nI 30).toInt64 &&& 63) = jI (cv G S m (i + 1)) := by
  have h1 : dig bB G i < 1073741824 := dig_lt bB_p
  have h2 : dig bB S i < 1073741824 := dig_lt bB_p
  have h3 := cv_b (G := G) (S := S) (m := m) (i := i)
  have h5 : m * dig bB S i ≤ 2000000 * 1073741824 := Nat.mul_le_mul (by omega) (by omega)
  have h6 : ((m * dig bB S i : Nat) : Int) = (m : Int) * ((dig bB S i : Nat) : Int) := by rw [Int.natCast_mul]
  rw [hx, hy, lN_mul, lN_j, lN_j, jI_sub, jI_add, h6, jI_sh (by omega) (by omega), cv_s]
variable {X : am_X} {d : Nat} {Q : Option Value → am_H → Prop} {n sl : Nat} {t : Nat → Nat × Nat} {I : Nat → Nat → Int32} {J : Nat → Nat → Int64} {F : Nat → Nat → Option Nat} {h : am_H}
/-- the length when it has grown -/
def gl (V f len : Nat) : Nat := if V * f / bB ^ len = 0 then len else len + 1
theorem gl_b {V f len : Nat} (hV : V < bB ^ len) (hf : f < bB) : V * f < bB ^ gl V f len := by
  unfold gl
  have hp : 0 < bB ^ len := Nat.pow_pos bB_p
  by_cases h : V * f / bB ^ len = 0
  · rw [if_pos h]
    exact (Nat.div_eq_zero_iff_lt hp).mp h
  · rw [if_neg h, Nat.pow_succ]
    exact Nat.mul_lt_mul'' hV hf
theorem gl_le {V f len : Nat} (hV : V * f < bB ^ 600) (hl : len ≤ 600) : gl V f len ≤ 600 := by
  unfold gl
  by_cases h : V * f / bB ^ len = 0
  · rw [if_pos h]; exact hl
  · rw [if_neg h]
    by_cases h2 : len = 600
    · subst h2
      exact absurd (Nat.div_eq_of_lt hV) h
    · omega
theorem gl_1 {V f len : Nat} (h : 1 ≤ len) : 1 ≤ gl V f len := by
  unfold gl
  split <;> omega
theorem rwN_s {i : Nat} {g s : Nat → Int32} : upd (rwN i g s) i (s i) = rwN (i + 1) g s := by
  funext k
  unfold upd rwN
  by_cases h : k = i
  · rw [if_pos h, if_pos (by omega), h]
  · rw [if_neg h]
    by_cases h2 : k < i
    · rw [if_pos h2, if_pos (by omega)]
    · rw [if_neg h2, if_neg (by omega)]
theorem rwN_0 {g s : Nat → Int32} : rwN 0 g s = g := by
  funext k
  unfold rwN
  rw [if_neg (by omega)]
theorem rwN_n {i k : Nat} {g s : Nat → Int32} (h : ¬ k < i) : rwN i g s k = g k := if_neg h
theorem c_grow {a V len f : Nat} (hn2 : n ≤ 1000000) (ha : a < n) (ta : t a = (20, 600)) (hl : len ≤ 600) (hd : ∀ k, k < len → I a k = nI (dig bB V k)) (hV : V < bB ^ len) (hf : f < bB) (hVf : V * f < bB ^ 600) : am_W X d 86 0 [some (.ref a), some (.int (nI len)), some (.int (nI f)), none, none, none, none, none] [] (n, sl, t, I, J, F) Q ↔ Q (some (.int (nI (gl V f len)))) (n, sl, t, am_ro I a (rwN (gl V f len) (I a) (fun k => nI (dig bB (V * f) k))), J, F) := by
  have ha2 : a < 1000000 := by omega
  have hf' : f < 1073741824 := hf
  have hx : ∀ l6 l7 : Option Value, am_W X d 86 5 [some (.ref a), some (.int (nI len)), some (.int (nI f)), some (.long 0), none, some (.int 0), l6, l7] [] (n, sl, t, am_ro I a (rwN 0 (I a) (fun k => nI (dig bB (V * f) k))), J, F) Q ↔ Q (some (.int (nI (gl V f len)))) (n, sl, t, am_ro I a (rwN (gl V f len) (I a) (fun k => nI (dig bB (V * f) k))), J, F) := by
    have h0 : (0 : Int64) = lN (cB bB V f 0) := by rw [cB_0]; rfl
    rw [h0]
    refine lp0 (A := fun i => ∀ l6 l7 : Option Value, am_W X d 86 5 [some (.ref a), some (.int (nI len)), some (.int (nI f)), some (.long (lN (cB bB V f i))), none, some (.int (nI i)), l6, l7] [] (n, sl, t, am_ro I a (rwN i (I a) (fun k => nI (dig bB (V * f) k))), J, F) Q ↔ Q (some (.int (nI (gl V f len)))) (n, sl, t, am_ro I a (rwN (gl V f len) (I a) (fun k => nI (dig bB (V * f) k))), J, F)) (N := len) ?_ ?_
    · intro i hi ih l6 l7
      have z1 : i < 2000000 ∧ len < 2000000 ∧ i < 600 := by omega
      have z2 : ¬ len ≤ i ∧ ¬ 600 ≤ i := by omega
      have hdl : dig bB V i < 1073741824 := dig_lt bB_p
      have y1 : rwN i (I a) (fun k => nI (dig bB (V * f) k)) i = nI (dig bB V i) := by rw [rwN_n (by omega), hd i hi]
      have y2 : (nI (dig bB V i)).toInt64 = lN (dig bB V i) := nI_l (by omega)
      have y3 : (nI f).toInt64 = lN f := nI_l (by omega)
      have y4 := gs_c (V := V) (f := f) (i := i) bB_p
      have hb := gs_b (V := V) (f := f) (i := i) bB_p
      have hb2 : bB * f ≤ 1073741824 * 1073741824 := Nat.mul_le_mul (Nat.le_of_eq bB_e) (by omega)
      have y5 : lN (V % bB ^ (i + 1) * f / bB ^ i) &&& 1073741823 = lN (dig bB (V * f) i) := by rw [lN_and (by omega), gs_d]
      have y6 : lN (V % bB ^ (i + 1) * f / bB ^ i) >>> ((nI 30).toInt64 &&& 63) = lN (cB bB V f (i + 1)) := by rw [lN_sh (by omega), gs_q]
      have y7 := rwN_s (i := i) (g := I a) (s := fun k => nI (dig bB (V * f) k))
      rw [← y7] at ih
      rw [r86_5]
      simp only [↓r86_7, ↓r86_8, ↓r86_11, ↓r86_13, ↓r86_13n, ↓r86_14, ↓r86_14k, ↓r86_15, ↓r86_18, ↓r86_18n, ↓r86_19, ↓r86_21, ↓r86_21k, ↓r86_22, ↓r86_23, ↓r86_24, ↓r86_25, ↓r86_26, ↓r86_27, ↓r86_28, ↓r86_30, ↓r86_30n, ↓r86_31, ↓r86_33, ↓r86_35, ↓r86_38, ↓r86_39, ↓r86_40, ↓r86_41, ↓r86_43, ↓r86_45, ↓r86_46, ↓r86_47, ↓r86_50, q_le, q_lt, q_eq, q_e0, q_e1, q_0e, q_1e, ps_n0, q_0le, q_le0, q_0lt, q_m1e, q_em1, ha, ha2, ta, z1, z2, y1, y2, y3, lN_mul, lN_add, y4, y5, y6, lN_i, pu_req, pu_uro, am_k_n, am_k_i, am_k_l, Bool.false_eq_true, ps_lit, nI_add, nI_1, pk_mul, ps_cl, ps_neg, ps_c0, ps_c1, ps_n01, ps_n11, ps_10, ps_01, ps_1n, ps_0n, ps_b01, ps_e0, am_k_n, am_k_i, am_k_r, am_k_u, am_k_l, am_sz_0, am_sz_i, am_sz_r, am_sz_u, am_sz_l, Option.toList_some, Option.toList_none, List.cons_append, List.nil_append, true_and, and_true, or_false, false_or, or_self, or_true, true_or, and_self, if_true, if_false, not_false_eq_true, not_true_eq_false, Classical.not_not, ne_eq, ps_e1, ps_em, ps_z, Nat.not_le, false_implies, true_implies, forall_const, Nat.reduceAdd, Nat.reduceMul, Nat.reduceLT, Nat.reduceLeDiff, Nat.reduceEqDiff, Nat.reduceSub]
      exact ih _ _
    · intro l6 l7
      have z1 : len < 2000000 := by omega
      have hc := cB_e (f := f) hV
      have hcl := cB_le (V := V) (f := f) (i := len) bB_p
      rw [r86_5, hc]
      rw [hc] at hcl
      unfold gl
      by_cases h : V * f / bB ^ len = 0
      · have e0 : (lN 0 ≤ (0 : Int64)) = True := by decide
        rw [if_pos h, h]
        simp only [↓r86_7, ↓r86_8, ↓r86_53, ↓r86_54, ↓r86_55, ↓r86_56, ↓r86_74, ↓r86_75, Int32.le_refl, lg_cmp_le, e0, Bool.false_eq_true, ps_lit, nI_add, nI_1, pk_mul, ps_cl, ps_neg, ps_c0, ps_c1, ps_n01, ps_n11, ps_10, ps_01, ps_1n, ps_0n, ps_b01, ps_e0, am_k_n, am_k_i, am_k_r, am_k_u, am_k_l, am_sz_0, am_sz_i, am_sz_r, am_sz_u, am_sz_l, Option.toList_some, Option.toList_none, List.cons_append, List.nil_append, true_and, and_true, or_false, false_or, or_self, or_true, true_or, and_self, if_true, if_false, not_false_eq_true, not_true_eq_false, Classical.not_not, ne_eq, ps_e1, ps_em, ps_z, Nat.not_le, false_implies, true_implies, forall_const, Nat.reduceAdd, Nat.reduceMul, Nat.reduceLT, Nat.reduceLeDiff, Nat.reduceEqDiff, Nat.reduceSub]
      · have hl2 : len < 600 := by
          refine Nat.lt_of_le_of_ne hl (fun q => h ?_)
          rw [q]
          exact Nat.div_eq_of_lt hVf
        have e0 : (lN (V * f / bB ^ len) ≤ (0 : Int64)) = False := by
          apply eq_false
          intro q
          have := (pk_lLE (a := V * f / bB ^ len) (b := 0) (by omega) (by omega)).mp q
          omega
        have e1 : ¬ 600 ≤ len := by omega
        have e2 : dig bB (V * f) len = V * f / bB ^ len := dig_top (by
          have := gl_b hV hf
          unfold gl at this
          rw [if_neg h] at this
          exact this)
        have y7 := rwN_s (i := len) (g := I a) (s := fun k => nI (dig bB (V * f) k))
        rw [e2] at y7
        rw [if_neg h, ← y7]
        simp only [↓r86_7, ↓r86_8, ↓r86_53, ↓r86_54, ↓r86_55, ↓r86_56, ↓r86_59, ↓r86_60, ↓r86_60n, ↓r86_61, ↓r86_61k, ↓r86_62, ↓r86_65, ↓r86_65n, ↓r86_66, ↓r86_67, ↓r86_68, ↓r86_69, ↓r86_70, ↓r86_71, ↓r86_72, ↓r86_73, ↓r86_74, ↓r86_75, q_le, q_lt, q_eq, q_e0, q_e1, q_0e, q_1e, ps_n0, q_0le, q_le0, q_0lt, q_m1e, q_em1, ha, ha2, ta, z1, hl2, e1, Int32.le_refl, lg_cmp_le, e0, lN_i, pu_uro, Bool.false_eq_true, ps_lit, nI_add, nI_1, pk_mul, ps_cl, ps_neg, ps_c0, ps_c1, ps_n01, ps_n11, ps_10, ps_01, ps_1n, ps_0n, ps_b01, ps_e0, am_k_n, am_k_i, am_k_r, am_k_u, am_k_l, am_sz_0, am_sz_i, am_sz_r, am_sz_u, am_sz_l, Option.toList_some, Option.toList_none, List.cons_append, List.nil_append, true_and, and_true, or_false, false_or, or_self, or_true, true_or, and_self, if_true, if_false, not_false_eq_true, not_true_eq_false, Classical.not_not, ne_eq, ps_e1, ps_em, ps_z, Nat.not_le, false_implies, true_implies, forall_const, Nat.reduceAdd, Nat.reduceMul, Nat.reduceLT, Nat.reduceLeDiff, Nat.reduceEqDiff, Nat.reduceSub]
  have h1 := hx none none
  rw [rwN_0, pu_roI] at h1
  rw [← h1]
  simp only [↓r86_0, ↓r86_1, ↓r86_2, ↓r86_3, am_k_n, am_k_i, am_k_l, Bool.false_eq_true, ps_lit, nI_add, nI_1, pk_mul, ps_cl, ps_neg, ps_c0, ps_c1, ps_n01, ps_n11, ps_10, ps_01, ps_1n, ps_0n, ps_b01, ps_e0, am_k_n, am_k_i, am_k_r, am_k_u, am_k_l, am_sz_0, am_sz_i, am_sz_r, am_sz_u, am_sz_l, Option.toList_some, Option.toList_none, List.cons_append, List.nil_append, true_and, and_true, or_false, false_or, or_self, or_true, true_or, and_self, if_true, if_false, not_false_eq_true, not_true_eq_false, Classical.not_not, ne_eq, ps_e1, ps_em, ps_z, Nat.not_le, false_implies, true_implies, forall_const, Nat.reduceAdd, Nat.reduceMul, Nat.reduceLT, Nat.reduceLeDiff, Nat.reduceEqDiff, Nat.reduceSub]
theorem c_covers {a b G S lg ls m : Nat} (hn2 : n ≤ 1000000) (ha : a < n) (ta : t a = (20, 600)) (hb : b < n) (tb : t b = (20, 600)) (hlg : lg ≤ 600) (hls : ls ≤ 600) (hdG : ∀ k, k < lg → I a k = nI (dig bB G k)) (hdS : ∀ k, k < ls → I b k = nI (dig bB S k)) (hG : G < bB ^ lg) (hS : S < bB ^ ls) (hm : m < 2000000) : am_W X d 88 0 [some (.ref a), some (.int (nI lg)), some (.int (nI m)), some (.ref b), some (.int (nI ls)), none, none, none, none, none, none, none] [] (n, sl, t, I, J, F) Q ↔ Q (some (.int (if m * S ≤ G then 1 else 0))) (n, sl, t, I, J, F) := by
  have ha2 : a < 1000000 := by omega
  have hb2 : b < 1000000 := by omega
  have hmj : (nI m).toInt64 = lN m := nI_l (by omega)
  have hx : ∀ l8 l9 l10 l11 : Option Value, am_W X d 88 6 [some (.ref a), some (.int (nI lg)), some (.int (nI m)), some (.ref b), some (.int (nI ls)), some (.long 0), none, some (.int 0), l8, l9, l10, l11] [] (n, sl, t, I, J, F) Q ↔ Q (some (.int (if m * S ≤ G then 1 else 0))) (n, sl, t, I, J, F) := by
    have h0 : (0 : Int64) = jI (cv G S m 0) := by rw [cv_0]; rfl
    rw [h0]
    refine lp0 (A := fun i => ∀ l8 l9 l10 l11 : Option Value, am_W X d 88 6 [some (.ref a), some (.int (nI lg)), some (.int (nI m)), some (.ref b), some (.int (nI ls)), some (.long (jI (cv G S m i))), none, some (.int (nI i)), l8, l9, l10, l11] [] (n, sl, t, I, J, F) Q ↔ Q (some (.int (if m * S ≤ G then 1 else 0))) (n, sl, t, I, J, F)) (N := max lg ls) ?_ ?_
    · intro i hi ih l8 l9 l10 l11
      have z1 : i < 2000000 ∧ lg < 2000000 ∧ ls < 2000000 ∧ i < 600 := by omega
      have z2 : ¬ 600 ≤ i := by omega
      rw [r88_6]
      by_cases c1 : i < lg
      · have hdl : dig bB G i < 1073741824 := dig_lt bB_p
        have y1 := hdG i c1
        have y2 : (nI (dig bB G i)).toInt64 = lN (dig bB G i) := nI_l (by omega)
        have c1' : ¬ lg ≤ i := by omega
        by_cases c2 : i < ls
        · have hdl2 : dig bB S i < 1073741824 := dig_lt bB_p
          have x1 := hdS i c2
          have x2 : (nI (dig bB S i)).toInt64 = lN (dig bB S i) := nI_l (by omega)
          have c2' : ¬ ls ≤ i := by omega
          have y3 := cv_st (G := G) (S := S) (i := i) hm rfl rfl
          simp only [↓r88_8, ↓r88_11, ↓r88_14, ↓r88_16, ↓r88_17, ↓r88_20, ↓r88_22, ↓r88_24, ↓r88_27, ↓r88_29, ↓r88_30, ↓r88_33, ↓r88_33n, ↓r88_34, ↓r88_36, ↓r88_36k, ↓r88_37, ↓r88_38, ↓r88_41, ↓r88_42, ↓r88_44, ↓r88_46, ↓r88_48, ↓r88_51, ↓r88_51n, ↓r88_52, ↓r88_54, ↓r88_54k, ↓r88_55, ↓r88_56, ↓r88_59, ↓r88_60, ↓r88_62, ↓r88_64, ↓r88_65, ↓r88_66, ↓r88_68, ↓r88_69, ↓r88_70, ↓r88_72, ↓r88_73, ↓r88_75, ↓r88_76, ↓r88_78, ↓r88_81, q_le, q_lt, q_eq, q_e0, q_e1, q_0e, q_1e, ps_n0, q_0le, q_le0, q_0lt, q_m1e, q_em1, ha, ha2, ta, hb, hb2, tb, z1, z2, c1, c1', c2', y1, y2, x1, x2, hmj, y3, am_k_n, am_k_i, am_k_l, Bool.false_eq_true, ps_lit, nI_add, nI_1, pk_mul, ps_cl, ps_neg, ps_c0, ps_c1, ps_n01, ps_n11, ps_10, ps_01, ps_1n, ps_0n, ps_b01, ps_e0, am_k_n, am_k_i, am_k_r, am_k_u, am_k_l, am_sz_0, am_sz_i, am_sz_r, am_sz_u, am_sz_l, Option.toList_some, Option.toList_none, List.cons_append, List.nil_append, true_and, and_true, or_false, false_or, or_self, or_true, true_or, and_self, if_true, if_false, not_false_eq_true, not_true_eq_false, Classical.not_not, ne_eq, ps_e1, ps_em, ps_z, Nat.not_le, false_implies, true_implies, forall_const, Nat.reduceAdd, Nat.reduceMul, Nat.reduceLT, Nat.reduceLeDiff, Nat.reduceEqDiff, Nat.reduceSub]
          exact ih _ _ _ _
        · have c2' : ls ≤ i := by omega
          have y3 := cv_st (G := G) (S := S) (i := i) (x := lN (dig bB G i)) (y := 0) hm rfl (by rw [dig_z bB_p hS c2']; rfl)
          simp only [↓r88_8, ↓r88_11, ↓r88_14, ↓r88_16, ↓r88_17, ↓r88_20, ↓r88_22, ↓r88_24, ↓r88_27, ↓r88_29, ↓r88_30, ↓r88_33, ↓r88_33n, ↓r88_34, ↓r88_36, ↓r88_36k, ↓r88_37, ↓r88_38, ↓r88_41, ↓r88_42, ↓r88_44, ↓r88_46, ↓r88_48, ↓r88_51, ↓r88_51n, ↓r88_52, ↓r88_54, ↓r88_54k, ↓r88_55, ↓r88_56, ↓r88_59, ↓r88_60, ↓r88_62, ↓r88_64, ↓r88_65, ↓r88_66, ↓r88_68, ↓r88_69, ↓r88_70, ↓r88_72, ↓r88_73, ↓r88_75, ↓r88_76, ↓r88_78, ↓r88_81, q_le, q_lt, q_eq, q_e0, q_e1, q_0e, q_1e, ps_n0, q_0le, q_le0, q_0lt, q_m1e, q_em1, ha, ha2, ta, z1, z2, c1, c1', c2', y1, y2, hmj, y3, am_k_n, am_k_i, am_k_l, Bool.false_eq_true, ps_lit, nI_add, nI_1, pk_mul, ps_cl, ps_neg, ps_c0, ps_c1, ps_n01, ps_n11, ps_10, ps_01, ps_1n, ps_0n, ps_b01, ps_e0, am_k_n, am_k_i, am_k_r, am_k_u, am_k_l, am_sz_0, am_sz_i, am_sz_r, am_sz_u, am_sz_l, Option.toList_some, Option.toList_none, List.cons_append, List.nil_append, true_and, and_true, or_false, false_or, or_self, or_true, true_or, and_self, if_true, if_false, not_false_eq_true, not_true_eq_false, Classical.not_not, ne_eq, ps_e1, ps_em, ps_z, Nat.not_le, false_implies, true_implies, forall_const, Nat.reduceAdd, Nat.reduceMul, Nat.reduceLT, Nat.reduceLeDiff, Nat.reduceEqDiff, Nat.reduceSub]
          exact ih _ _ _ _
      · have c1' : lg ≤ i := by omega
        have c2 : i < ls := by omega
        have hdl2 : dig bB S i < 1073741824 := dig_lt bB_p
        have x1 := hdS i c2
        have x2 : (nI (dig bB S i)).toInt64 = lN (dig bB S i) := nI_l (by omega)
        have c2' : ¬ ls ≤ i := by omega
        have y3 := cv_st (G := G) (S := S) (i := i) (x := 0) (y := lN (dig bB S i)) hm (by rw [dig_z bB_p hG c1']; rfl) rfl
        simp only [↓r88_8, ↓r88_11, ↓r88_14, ↓r88_16, ↓r88_17, ↓r88_20, ↓r88_22, ↓r88_24, ↓r88_27, ↓r88_29, ↓r88_30, ↓r88_33, ↓r88_33n, ↓r88_34, ↓r88_36, ↓r88_36k, ↓r88_37, ↓r88_38, ↓r88_41, ↓r88_42, ↓r88_44, ↓r88_46, ↓r88_48, ↓r88_51, ↓r88_51n, ↓r88_52, ↓r88_54, ↓r88_54k, ↓r88_55, ↓r88_56, ↓r88_59, ↓r88_60, ↓r88_62, ↓r88_64, ↓r88_65, ↓r88_66, ↓r88_68, ↓r88_69, ↓r88_70, ↓r88_72, ↓r88_73, ↓r88_75, ↓r88_76, ↓r88_78, ↓r88_81, q_le, q_lt, q_eq, q_e0, q_e1, q_0e, q_1e, ps_n0, q_0le, q_le0, q_0lt, q_m1e, q_em1, hb, hb2, tb, z1, z2, c1, c1', c2', x1, x2, hmj, y3, am_k_n, am_k_i, am_k_l, Bool.false_eq_true, ps_lit, nI_add, nI_1, pk_mul, ps_cl, ps_neg, ps_c0, ps_c1, ps_n01, ps_n11, ps_10, ps_01, ps_1n, ps_0n, ps_b01, ps_e0, am_k_n, am_k_i, am_k_r, am_k_u, am_k_l, am_sz_0, am_sz_i, am_sz_r, am_sz_u, am_sz_l, Option.toList_some, Option.toList_none, List.cons_append, List.nil_append, true_and, and_true, or_false, false_or, or_self, or_true, true_or, and_self, if_true, if_false, not_false_eq_true, not_true_eq_false, Classical.not_not, ne_eq, ps_e1, ps_em, ps_z, Nat.not_le, false_implies, true_implies, forall_const, Nat.reduceAdd, Nat.reduceMul, Nat.reduceLT, Nat.reduceLeDiff, Nat.reduceEqDiff, Nat.reduceSub]
        exact ih _ _ _ _
    · intro l8 l9 l10 l11
      have hp1 : bB ^ lg ≤ bB ^ max lg ls := Nat.pow_le_pow_right bB_p (by omega)
      have hp2 : bB ^ ls ≤ bB ^ max lg ls := Nat.pow_le_pow_right bB_p (by omega)
      have e1 := cv_e (G := G) (S := S) (m := m) (i := max lg ls) (by omega) (by omega)
      have hbd := cv_b (G := G) (S := S) (m := m) (i := max lg ls)
      have e2 : (jI (cv G S m (max lg ls)) < 0) = (G < m * S) := by
        rw [← e1]
        exact jI_lt (b := 0) (by omega) (by omega) (by omega) (by omega)
      have z1 : max lg ls < 2000000 ∧ lg < 2000000 ∧ ls < 2000000 := by omega
      have z2 : ¬ max lg ls < lg ∧ ls ≤ max lg ls := by omega
      have hfin : ∀ l8 l9 l10 l11 : Option Value, am_W X d 88 84 [some (.ref a), some (.int (nI lg)), some (.int (nI m)), some (.ref b), some (.int (nI ls)), some (.long (jI (cv G S m (max lg ls)))), none, some (.int (nI (max lg ls))), l8, l9, l10, l11] [] (n, sl, t, I, J, F) Q ↔ Q (some (.int (if m * S ≤ G then 1 else 0))) (n, sl, t, I, J, F) := by
        intro l8 l9 l10 l11
        by_cases h : m * S ≤ G
        · have h' : ¬ G < m * S := by omega
          rw [if_pos h]
          simp only [↓r88_84, ↓r88_86, ↓r88_87, ↓r88_88, ↓r88_91, ↓r88_92, ↓r88_95, ↓r88_96, lg_cmp_lt, e2, h', Bool.false_eq_true, ps_lit, nI_add, nI_1, pk_mul, ps_cl, ps_neg, ps_c0, ps_c1, ps_n01, ps_n11, ps_10, ps_01, ps_1n, ps_0n, ps_b01, ps_e0, am_k_n, am_k_i, am_k_r, am_k_u, am_k_l, am_sz_0, am_sz_i, am_sz_r, am_sz_u, am_sz_l, Option.toList_some, Option.toList_none, List.cons_append, List.nil_append, true_and, and_true, or_false, false_or, or_self, or_true, true_or, and_self, if_true, if_false, not_false_eq_true, not_true_eq_false, Classical.not_not, ne_eq, ps_e1, ps_em, ps_z, Nat.not_le, false_implies, true_implies, forall_const, Nat.reduceAdd, Nat.reduceMul, Nat.reduceLT, Nat.reduceLeDiff, Nat.reduceEqDiff, Nat.reduceSub]
        · have h' : G < m * S := by omega
          rw [if_neg h]
          simp only [↓r88_84, ↓r88_86, ↓r88_87, ↓r88_88, ↓r88_91, ↓r88_92, ↓r88_95, ↓r88_96, lg_cmp_lt, e2, h', Bool.false_eq_true, ps_lit, nI_add, nI_1, pk_mul, ps_cl, ps_neg, ps_c0, ps_c1, ps_n01, ps_n11, ps_10, ps_01, ps_1n, ps_0n, ps_b01, ps_e0, am_k_n, am_k_i, am_k_r, am_k_u, am_k_l, am_sz_0, am_sz_i, am_sz_r, am_sz_u, am_sz_l, Option.toList_some, Option.toList_none, List.cons_append, List.nil_append, true_and, and_true, or_false, false_or, or_self, or_true, true_or, and_self, if_true, if_false, not_false_eq_true, not_true_eq_false, Classical.not_not, ne_eq, ps_e1, ps_em, ps_z, Nat.not_le, false_implies, true_implies, forall_const, Nat.reduceAdd, Nat.reduceMul, Nat.reduceLT, Nat.reduceLeDiff, Nat.reduceEqDiff, Nat.reduceSub]
      rw [r88_6]
      by_cases h6 : 600 ≤ max lg ls
      · simp only [↓r88_8, ↓r88_11, q_le, q_lt, q_eq, q_e0, q_e1, q_0e, q_1e, ps_n0, q_0le, q_le0, q_0lt, q_m1e, q_em1, z1, h6, Bool.false_eq_true, ps_lit, nI_add, nI_1, pk_mul, ps_cl, ps_neg, ps_c0, ps_c1, ps_n01, ps_n11, ps_10, ps_01, ps_1n, ps_0n, ps_b01, ps_e0, am_k_n, am_k_i, am_k_r, am_k_u, am_k_l, am_sz_0, am_sz_i, am_sz_r, am_sz_u, am_sz_l, Option.toList_some, Option.toList_none, List.cons_append, List.nil_append, true_and, and_true, or_false, false_or, or_self, or_true, true_or, and_self, if_true, if_false, not_false_eq_true, not_true_eq_false, Classical.not_not, ne_eq, ps_e1, ps_em, ps_z, Nat.not_le, false_implies, true_implies, forall_const, Nat.reduceAdd, Nat.reduceMul, Nat.reduceLT, Nat.reduceLeDiff, Nat.reduceEqDiff, Nat.reduceSub]
        exact hfin _ _ _ _
      · simp only [↓r88_8, ↓r88_11, ↓r88_14, ↓r88_16, ↓r88_17, ↓r88_20, ↓r88_22, ↓r88_24, q_le, q_lt, q_eq, q_e0, q_e1, q_0e, q_1e, ps_n0, q_0le, q_le0, q_0lt, q_m1e, q_em1, z1, z2, h6, Bool.false_eq_true, ps_lit, nI_add, nI_1, pk_mul, ps_cl, ps_neg, ps_c0, ps_c1, ps_n01, ps_n11, ps_10, ps_01, ps_1n, ps_0n, ps_b01, ps_e0, am_k_n, am_k_i, am_k_r, am_k_u, am_k_l, am_sz_0, am_sz_i, am_sz_r, am_sz_u, am_sz_l, Option.toList_some, Option.toList_none, List.cons_append, List.nil_append, true_and, and_true, or_false, false_or, or_self, or_true, true_or, and_self, if_true, if_false, not_false_eq_true, not_true_eq_false, Classical.not_not, ne_eq, ps_e1, ps_em, ps_z, Nat.not_le, false_implies, true_implies, forall_const, Nat.reduceAdd, Nat.reduceMul, Nat.reduceLT, Nat.reduceLeDiff, Nat.reduceEqDiff, Nat.reduceSub]
        exact hfin _ _ _ _
  rw [← hx none none none none]
  simp only [↓r88_0, ↓r88_1, ↓r88_3, ↓r88_4, am_k_n, am_k_i, am_k_l, Bool.false_eq_true, ps_lit, nI_add, nI_1, pk_mul, ps_cl, ps_neg, ps_c0, ps_c1, ps_n01, ps_n11, ps_10, ps_01, ps_1n, ps_0n, ps_b01, ps_e0, am_k_n, am_k_i, am_k_r, am_k_u, am_k_l, am_sz_0, am_sz_i, am_sz_r, am_sz_u, am_sz_l, Option.toList_some, Option.toList_none, List.cons_append, List.nil_append, true_and, and_true, or_false, false_or, or_self, or_true, true_or, and_self, if_true, if_false, not_false_eq_true, not_true_eq_false, Classical.not_not, ne_eq, ps_e1, ps_em, ps_z, Nat.not_le, false_implies, true_implies, forall_const, Nat.reduceAdd, Nat.reduceMul, Nat.reduceLT, Nat.reduceLeDiff, Nat.reduceEqDiff, Nat.reduceSub]
end BG
