/-! the rules, one an instruction, for any method -/
theorem am_sz_0 : am_sz [] = 0 := rfl
theorem am_sz_i (x : Int32) (r : List Value) : am_sz (.int x :: r) = 1 + am_sz r := by simp [am_sz, Value.category]
theorem am_sz_r (x : Nat) (r : List Value) : am_sz (.ref x :: r) = 1 + am_sz r := by simp [am_sz, Value.category]
theorem am_sz_u (r : List Value) : am_sz (.null :: r) = 1 + am_sz r := by simp [am_sz, Value.category]
theorem am_sz_l (x : Int64) (r : List Value) : am_sz (.long x :: r) = 2 + am_sz r := by simp [am_sz, Value.category]
theorem am_rf_s (a : Nat) : va_rf (some a) = .ref a := rfl
theorem am_rf_n : va_rf none = .null := rfl
section AMR
variable {X : am_X} {d m pc idx : Nat} {L : am_L} {st : List Value} {h : am_H} {Q : Option Value → am_H → Prop} {i : Instr} {len : Nat} {n sl : Nat} {t : Nat → Nat × Nat} {I : Nat → Nat → Int32} {J : Nat → Nat → Int64} {F : Nat → Nat → Option Nat}
theorem am_Wbr {c : Prop} [Decidable c] {off : Int} {tg : Nat} {r : List Value} (hd : decode (am_me m).2.1 pc = .ok (i, len)) (hop : am_opP i len pc L st = am_br (decide c) pc off L r) (ht : am_tg pc off = some tg) : am_W X d m pc L st h Q ↔ (c → am_W X d m tg L r h Q) ∧ (¬ c → am_W X d m (pc + 3) L r h Q) := by
  by_cases hc : c
  · rw [am_WP (pc' := tg) (L' := L) (st' := r) hd (by rw [hop]; simp only [am_br, ht, hc, decide_true, if_true])]
    exact ⟨fun w => ⟨fun _ => w, fun q => absurd hc q⟩, fun w => w.1 hc⟩
  · rw [am_WP (pc' := pc + 3) (L' := L) (st' := r) hd (by rw [hop]; simp only [am_br, ht, hc, decide_false, Bool.false_eq_true, if_false])]
    exact ⟨fun w => ⟨fun q => absurd q hc, fun _ => w⟩, fun w => w.2 hc⟩
theorem am_WHc {P : Prop} [Decidable P] {pc' : Nat} {st' : List Value} {h2 : am_H} (hd : decode (am_me m).2.1 pc = .ok (i, len)) (h1 : am_opP i len pc L st = none) (hop : am_opH X (am_me m).2.2.2.2.1 (decide ((am_me m).1.name = "<init>")) i len pc st h = if P then some (pc', st', h2) else none) (h3 : am_opR (am_me m).2.2.2.1 i len st = none) (h4 : am_opC (am_me m).2.2.2.2.1 i len st h = none) : am_W X d m pc L st h Q ↔ P ∧ am_W X d m pc' L st' h2 Q := by
  by_cases hp : P
  · rw [am_WH hd h1 (by rw [hop, if_pos hp])]
    exact ⟨fun w => ⟨hp, w⟩, fun w => w.2⟩
  · rw [am_WPn hd h1 (by rw [hop, if_neg hp]) h3 h4]
    exact ⟨False.elim, fun w => absurd w.1 hp⟩
theorem am_R_get {c k a : Nat} (w : am_H → Nat → Value) (hd : decode (am_me m).2.1 pc = .ok (.getfield idx, 3)) (hl : am_flt.lookup ((am_me m).2.2.2.2.1, idx) = some (c, k)) (hw : ∀ h a, am_rd h c a k = w h a) : am_W X d m pc L (.ref a :: st) h Q ↔ (a < h.1 ∧ (h.2.2.1 a).1 = c) ∧ am_W X d m (pc + 3) L (w h a :: st) h Q :=
  am_WHc hd rfl (by simp only [am_opH, hl, hw]) rfl rfl
theorem am_R_put {c k a : Nat} {v : Value} (w : am_H → am_H) (hd : decode (am_me m).2.1 pc = .ok (.putfield idx, 3)) (hl : am_flt.lookup ((am_me m).2.2.2.2.1, idx) = some (c, k)) (hf : ((am_T c k).2.2.2 = false ∨ (decide ((am_me m).1.name = "<init>") = true ∧ (am_me m).2.2.2.2.1 = c))) (hw : am_wr h c a k v = some (w h)) : am_W X d m pc L (v :: .ref a :: st) h Q ↔ (a < h.1 ∧ (h.2.2.1 a).1 = c) ∧ am_W X d m (pc + 3) L st (w h) Q := by
  refine am_WHc hd rfl ?_ rfl rfl
  simp only [am_opH, hl, hw]
  have e : (a < h.1 ∧ (h.2.2.1 a).1 = c ∧ ((am_T c k).2.2.2 = false ∨ (decide ((am_me m).1.name = "<init>") = true ∧ (am_me m).2.2.2.2.1 = c))) ↔ (a < h.1 ∧ (h.2.2.1 a).1 = c) := ⟨fun q => ⟨q.1, q.2.1⟩, fun q => ⟨q.1, q.2, hf⟩⟩
  simp only [e]
theorem am_R_iald {a : Nat} {x : Int32} (ha : a < am_K0) (hd : decode (am_me m).2.1 pc = .ok (.iaload, 1)) : am_W X d m pc L (.int x :: .ref a :: st) h Q ↔ (a < h.1 ∧ (h.2.2.1 a).1 = 20 ∧ ¬ (x < 0 ∨ (h.2.2.1 a).2 ≤ x.toNatClampNeg)) ∧ am_W X d m (pc + 1) L (.int (h.2.2.2.1 a x.toNatClampNeg) :: st) h Q := by
  refine am_WHc hd rfl ?_ rfl rfl
  simp only [am_opH]
  have e : ¬ (am_K0 ≤ a ∧ a < am_K0 + 5 ∧ ¬ (x < 0 ∨ (X (a - am_K0)).1 ≤ x.toNatClampNeg)) := fun q => absurd q.1 (Nat.not_le.mpr ha)
  simp only [if_neg e]
theorem am_R_ialk {j : Nat} {x : Int32} (hj : j < 5) (hn : h.1 ≤ am_K0) (hd : decode (am_me m).2.1 pc = .ok (.iaload, 1)) : am_W X d m pc L (.int x :: .ref (am_K0 + j) :: st) h Q ↔ (¬ (x < 0 ∨ (X j).1 ≤ x.toNatClampNeg)) ∧ am_W X d m (pc + 1) L (.int ((X j).2 x.toNatClampNeg) :: st) h Q := by
  refine am_WHc hd rfl ?_ rfl rfl
  have e1 : ¬ (am_K0 + j < h.1 ∧ (h.2.2.1 (am_K0 + j)).1 = 20 ∧ ¬ (x < 0 ∨ (h.2.2.1 (am_K0 + j)).2 ≤ x.toNatClampNeg)) := fun q => absurd q.1 (by omega)
  have e3 : (am_K0 ≤ am_K0 + j ∧ am_K0 + j < am_K0 + 5 ∧ ¬ (x < 0 ∨ (X j).1 ≤ x.toNatClampNeg)) ↔ ¬ (x < 0 ∨ (X j).1 ≤ x.toNatClampNeg) := ⟨fun q => q.2.2, fun q => ⟨Nat.le_add_right _ _, by omega, q⟩⟩
  simp only [am_opH, if_neg e1, Nat.add_sub_cancel_left, e3]
theorem am_R_bald {a : Nat} {x : Int32} (hd : decode (am_me m).2.1 pc = .ok (.baload, 1)) : am_W X d m pc L (.int x :: .ref a :: st) h Q ↔ (a < h.1 ∧ ((h.2.2.1 a).1 = 21 ∨ (h.2.2.1 a).1 = 22) ∧ ¬ (x < 0 ∨ (h.2.2.1 a).2 ≤ x.toNatClampNeg)) ∧ am_W X d m (pc + 1) L (.int (h.2.2.2.1 a x.toNatClampNeg) :: st) h Q := am_WHc hd rfl rfl rfl rfl
theorem am_R_lald {a : Nat} {x : Int32} (hd : decode (am_me m).2.1 pc = .ok (.laload, 1)) : am_W X d m pc L (.int x :: .ref a :: st) h Q ↔ (a < h.1 ∧ (h.2.2.1 a).1 = 23 ∧ ¬ (x < 0 ∨ (h.2.2.1 a).2 ≤ x.toNatClampNeg)) ∧ am_W X d m (pc + 1) L (.long (h.2.2.2.2.1 a x.toNatClampNeg) :: st) h Q := am_WHc hd rfl rfl rfl rfl
theorem am_R_aald {a : Nat} {x : Int32} (hd : decode (am_me m).2.1 pc = .ok (.aaload, 1)) : am_W X d m pc L (.int x :: .ref a :: st) h Q ↔ (a < h.1 ∧ ((h.2.2.1 a).1 = 24 ∨ (h.2.2.1 a).1 = 25) ∧ ¬ (x < 0 ∨ (h.2.2.1 a).2 ≤ x.toNatClampNeg)) ∧ am_W X d m (pc + 1) L (va_rf (h.2.2.2.2.2 a x.toNatClampNeg) :: st) h Q := am_WHc hd rfl rfl rfl rfl
theorem am_R_iast {a : Nat} {x y : Int32} (hd : decode (am_me m).2.1 pc = .ok (.iastore, 1)) : am_W X d m pc L (.int y :: .int x :: .ref a :: st) (n, sl, t, I, J, F) Q ↔ (a < n ∧ (t a).1 = 20 ∧ ¬ (x < 0 ∨ (t a).2 ≤ x.toNatClampNeg)) ∧ am_W X d m (pc + 1) L st (n, sl, t, am_uI I a x.toNatClampNeg y, J, F) Q := am_WHc hd rfl rfl rfl rfl
theorem am_R_bast {a : Nat} {x y : Int32} (ht : (t a).1 ≠ 22) (hd : decode (am_me m).2.1 pc = .ok (.bastore, 1)) : am_W X d m pc L (.int y :: .int x :: .ref a :: st) (n, sl, t, I, J, F) Q ↔ (a < n ∧ (t a).1 = 21 ∧ ¬ (x < 0 ∨ (t a).2 ≤ x.toNatClampNeg)) ∧ am_W X d m (pc + 1) L st (n, sl, t, am_uI I a x.toNatClampNeg y.toInt8.toInt32, J, F) Q := by
  refine am_WHc hd rfl ?_ rfl rfl
  have e : ¬ (a < n ∧ (t a).1 = 22 ∧ ¬ (x < 0 ∨ (t a).2 ≤ x.toNatClampNeg)) := fun q => ht q.2.1
  simp only [am_opH, if_neg e]
theorem am_R_zast {a : Nat} {x y : Int32} (ht : (t a).1 ≠ 21) (hd : decode (am_me m).2.1 pc = .ok (.bastore, 1)) : am_W X d m pc L (.int y :: .int x :: .ref a :: st) (n, sl, t, I, J, F) Q ↔ (a < n ∧ (t a).1 = 22 ∧ ¬ (x < 0 ∨ (t a).2 ≤ x.toNatClampNeg)) ∧ am_W X d m (pc + 1) L st (n, sl, t, am_uI I a x.toNatClampNeg (y &&& 1), J, F) Q := by
  refine am_WHc hd rfl ?_ rfl rfl
  have e : ¬ (a < n ∧ (t a).1 = 21 ∧ ¬ (x < 0 ∨ (t a).2 ≤ x.toNatClampNeg)) := fun q => ht q.2.1
  simp only [am_opH, if_neg e]
theorem am_R_last {a : Nat} {x : Int32} {y : Int64} (hd : decode (am_me m).2.1 pc = .ok (.lastore, 1)) : am_W X d m pc L (.long y :: .int x :: .ref a :: st) (n, sl, t, I, J, F) Q ↔ (a < n ∧ (t a).1 = 23 ∧ ¬ (x < 0 ∨ (t a).2 ≤ x.toNatClampNeg)) ∧ am_W X d m (pc + 1) L st (n, sl, t, I, am_uJ J a x.toNatClampNeg y, F) Q := am_WHc hd rfl rfl rfl rfl
theorem am_R_aast {a b : Nat} {x : Int32} (hd : decode (am_me m).2.1 pc = .ok (.aastore, 1)) : am_W X d m pc L (.ref b :: .int x :: .ref a :: st) (n, sl, t, I, J, F) Q ↔ (a < n ∧ b < n ∧ (((t a).1 = 24 ∧ (t b).1 = 5) ∨ ((t a).1 = 25 ∧ (t b).1 = 1)) ∧ ¬ (x < 0 ∨ (t a).2 ≤ x.toNatClampNeg)) ∧ am_W X d m (pc + 1) L st (n, sl, t, I, J, am_uF F a x.toNatClampNeg (some b)) Q := am_WHc hd rfl rfl rfl rfl
theorem am_R_aasn {a : Nat} {x : Int32} (hd : decode (am_me m).2.1 pc = .ok (.aastore, 1)) : am_W X d m pc L (.null :: .int x :: .ref a :: st) (n, sl, t, I, J, F) Q ↔ (a < n ∧ ((t a).1 = 24 ∨ (t a).1 = 25) ∧ ¬ (x < 0 ∨ (t a).2 ≤ x.toNatClampNeg)) ∧ am_W X d m (pc + 1) L st (n, sl, t, I, J, am_uF F a x.toNatClampNeg none) Q := am_WHc hd rfl rfl rfl rfl
theorem am_R_alen {a : Nat} (ha : a < am_K0) (hd : decode (am_me m).2.1 pc = .ok (.arraylength, 1)) : am_W X d m pc L (.ref a :: st) h Q ↔ (a < h.1 ∧ 20 ≤ (h.2.2.1 a).1 ∧ (h.2.2.1 a).1 ≤ 25) ∧ am_W X d m (pc + 1) L (.int (nI (h.2.2.1 a).2) :: st) h Q := by
  refine am_WHc hd rfl ?_ rfl rfl
  have e : ¬ (am_K0 ≤ a ∧ a < am_K0 + 5) := fun q => absurd q.1 (Nat.not_le.mpr ha)
  simp only [am_opH, if_neg e]
  rfl
theorem am_R_alnk {j : Nat} (hj : j < 5) (hn : h.1 ≤ am_K0) (hd : decode (am_me m).2.1 pc = .ok (.arraylength, 1)) : am_W X d m pc L (.ref (am_K0 + j) :: st) h Q ↔ am_W X d m (pc + 1) L (.int (nI (X j).1) :: st) h Q := by
  refine am_WH hd rfl ?_
  have e1 : ¬ (am_K0 + j < h.1 ∧ 20 ≤ (h.2.2.1 (am_K0 + j)).1 ∧ (h.2.2.1 (am_K0 + j)).1 ≤ 25) := fun q => absurd q.1 (by omega)
  have e2 : am_K0 ≤ am_K0 + j ∧ am_K0 + j < am_K0 + 5 := ⟨Nat.le_add_right _ _, by omega⟩
  simp only [am_opH, if_neg e1, if_pos e2, Nat.add_sub_cancel_left]
  rfl
theorem am_R_new {c : Nat} (hd : decode (am_me m).2.1 pc = .ok (.new idx, 3)) (hl : am_clt.lookup ((am_me m).2.2.2.2.1, idx) = some c) : am_W X d m pc L st h Q ↔ h.1 < 600000 ∧ am_W X d m (pc + 3) L (.ref h.1 :: st) (am_nw h c (am_nf c) (fun _ => 0)) Q :=
  am_WHc hd rfl (by simp only [am_opH, hl]) rfl rfl
theorem am_R_newa {at' : ArrayType} {kd : Nat} {x : Int32} (hk : am_ak at' = some kd) (hd : decode (am_me m).2.1 pc = .ok (.newarray at', 2)) : am_W X d m pc L (.int x :: st) h Q ↔ (h.1 < 600000 ∧ ¬ x < 0 ∧ x.toNatClampNeg ≤ 1000000) ∧ am_W X d m (pc + 2) L (.ref h.1 :: st) (am_nw h kd x.toNatClampNeg (fun _ => 0)) Q :=
  am_WHc hd rfl (by simp only [am_opH, hk]) rfl rfl
theorem am_R_anw5 {x : Int32} (hd : decode (am_me m).2.1 pc = .ok (.anewarray idx, 3)) (hl : am_clt.lookup ((am_me m).2.2.2.2.1, idx) = some 5) : am_W X d m pc L (.int x :: st) h Q ↔ (h.1 < 600000 ∧ ¬ x < 0 ∧ x.toNatClampNeg ≤ 1000000) ∧ am_W X d m (pc + 3) L (.ref h.1 :: st) (am_nw h 24 x.toNatClampNeg (fun _ => 0)) Q :=
  am_WHc hd rfl (by simp only [am_opH, hl]) rfl rfl
theorem am_R_anw1 {x : Int32} (hd : decode (am_me m).2.1 pc = .ok (.anewarray idx, 3)) (hl : am_clt.lookup ((am_me m).2.2.2.2.1, idx) = some 1) : am_W X d m pc L (.int x :: st) h Q ↔ (h.1 < 600000 ∧ ¬ x < 0 ∧ x.toNatClampNeg ≤ 1000000) ∧ am_W X d m (pc + 3) L (.ref h.1 :: st) (am_nw h 25 x.toNatClampNeg (fun _ => 0)) Q :=
  am_WHc hd rfl (by simp only [am_opH, hl]) rfl rfl
theorem am_R_gets {j : Nat} (hd : decode (am_me m).2.1 pc = .ok (.getstatic idx, 3)) (hl : am_sat.lookup ((am_me m).2.2.2.2.1, idx) = some j) : am_W X d m pc L st h Q ↔ am_W X d m (pc + 3) L (.ref (am_K0 + j) :: st) h Q := am_WH hd rfl (by simp only [am_opH, hl])
theorem am_R_ldc {v : Int32} (hd : decode (am_me m).2.1 pc = .ok (.ldc idx, 2)) (hl : am_cot.lookup ((am_me m).2.2.2.2.1, idx) = some v) : am_W X d m pc L st h Q ↔ am_W X d m (pc + 2) L (.int v :: st) h Q := am_WH hd rfl (by simp only [am_opH, hl])
theorem am_R_ldcS {j : Nat} (hd : decode (am_me m).2.1 pc = .ok (.ldc idx, 2)) (h0 : am_cot.lookup ((am_me m).2.2.2.2.1, idx) = none) (hl : am_stt.lookup ((am_me m).2.2.2.2.1, idx) = some j) : am_W X d m pc L st h Q ↔ am_W X d m (pc + 2) L (.ref (am_K0 + 10 + j) :: st) h Q := am_WH hd rfl (by simp only [am_opH, h0, hl])
theorem am_R_ldcw {v : Int32} (hd : decode (am_me m).2.1 pc = .ok (.ldc_w idx, 3)) (hl : am_cot.lookup ((am_me m).2.2.2.2.1, idx) = some v) : am_W X d m pc L st h Q ↔ am_W X d m (pc + 3) L (.int v :: st) h Q := am_WH hd rfl (by simp only [am_opH, hl])
theorem am_R_ldc2 {v : Int64} (hd : decode (am_me m).2.1 pc = .ok (.ldc2_w idx, 3)) (hl : am_cjt.lookup ((am_me m).2.2.2.2.1, idx) = some v) : am_W X d m pc L st h Q ↔ am_W X d m (pc + 3) L (.long v :: st) h Q := am_WH hd rfl (by simp only [am_opH, hl])
theorem am_R_oin {a k : Nat} (hd : decode (am_me m).2.1 pc = .ok (.invokespecial idx, 3)) (hl : am_mlt.lookup ((am_me m).2.2.2.2.1, idx) = some (k, 6)) : am_W X d m pc L (.ref a :: st) h Q ↔ am_sz st ≤ 8 ∧ am_W X d m (pc + 3) L st h Q :=
  am_WHc hd rfl (by simp only [am_opH, hl]) rfl (by simp only [am_opC, hl])
theorem am_R_cpy {a b k : Nat} {x sp dp : Int32} (hd : decode (am_me m).2.1 pc = .ok (.invokestatic idx, 3)) (hl : am_mlt.lookup ((am_me m).2.2.2.2.1, idx) = some (k, 7)) : am_W X d m pc L (.int x :: .int dp :: .ref b :: .int sp :: .ref a :: st) (n, sl, t, I, J, F) Q ↔ (am_sz st ≤ 8 ∧ a < n ∧ (t a).1 = 20 ∧ b < n ∧ (t b).1 = 20 ∧ ¬ sp < 0 ∧ ¬ dp < 0 ∧ ¬ x < 0 ∧ sp.toNatClampNeg + x.toNatClampNeg ≤ (t a).2 ∧ dp.toNatClampNeg + x.toNatClampNeg ≤ (t b).2) ∧ am_W X d m (pc + 3) L st (n, sl, t, am_ro I b (va_cpy (I a) (I b) sp.toNatClampNeg dp.toNatClampNeg x.toNatClampNeg), J, F) Q :=
  am_WHc hd rfl (by simp only [am_opH, hl]) rfl (by simp only [am_opC, hl])
theorem am_R_min {k : Nat} {x y : Int32} (hd : decode (am_me m).2.1 pc = .ok (.invokestatic idx, 3)) (hl : am_mlt.lookup ((am_me m).2.2.2.2.1, idx) = some (k, 11)) : am_W X d m pc L (.int y :: .int x :: st) h Q ↔ am_sz st ≤ 8 ∧ am_W X d m (pc + 3) L (.int (if y < x then y else x) :: st) h Q := by
  refine am_WHc hd rfl ?_ rfl (by simp only [am_opC, hl])
  unfold am_opH
  simp only [hl]
theorem am_R_max {k : Nat} {x y : Int32} (hd : decode (am_me m).2.1 pc = .ok (.invokestatic idx, 3)) (hl : am_mlt.lookup ((am_me m).2.2.2.2.1, idx) = some (k, 12)) : am_W X d m pc L (.int y :: .int x :: st) h Q ↔ am_sz st ≤ 8 ∧ am_W X d m (pc + 3) L (.int (if x < y then y else x) :: st) h Q := by
  refine am_WHc hd rfl ?_ rfl (by simp only [am_opC, hl])
  unfold am_opH
  simp only [hl]
theorem am_R_abs {k : Nat} {x : Int32} (hd : decode (am_me m).2.1 pc = .ok (.invokestatic idx, 3)) (hl : am_mlt.lookup ((am_me m).2.2.2.2.1, idx) = some (k, 13)) : am_W X d m pc L (.int x :: st) h Q ↔ am_sz st ≤ 8 ∧ am_W X d m (pc + 3) L (.int (if 0 ≤ x then x else 0 - x) :: st) h Q := by
  refine am_WHc hd rfl ?_ rfl (by simp only [am_opC, hl])
  unfold am_opH
  simp only [hl]
theorem am_R_cln {a k : Nat} (hd : decode (am_me m).2.1 pc = .ok (.invokevirtual idx, 3)) (hl : am_mlt.lookup ((am_me m).2.2.2.2.1, idx) = some (k, 8)) : am_W X d m pc L (.ref a :: st) h Q ↔ (am_sz st ≤ 8 ∧ h.1 < 600000 ∧ a < h.1 ∧ (h.2.2.1 a).1 = 20) ∧ am_W X d m (pc + 3) L (.ref h.1 :: st) (am_nw h 20 (h.2.2.1 a).2 (h.2.2.2.1 a)) Q :=
  am_WHc hd rfl (by simp only [am_opH, hl]) rfl (by simp only [am_opC, hl])
theorem am_R_sln {j k : Nat} (hj : j < 19) (hd : decode (am_me m).2.1 pc = .ok (.invokevirtual idx, 3)) (hl : am_mlt.lookup ((am_me m).2.2.2.2.1, idx) = some (k, 9)) : am_W X d m pc L (.ref (am_K0 + 10 + j) :: st) h Q ↔ am_sz st ≤ 8 ∧ am_W X d m (pc + 3) L (.int (nI (am_tx j).length) :: st) h Q := by
  refine am_WHc hd rfl ?_ rfl (by simp only [am_opC, hl])
  have e3 : (am_sz st ≤ 8 ∧ am_K0 + 10 ≤ am_K0 + 10 + j ∧ am_K0 + 10 + j < am_K0 + 10 + 19) ↔ am_sz st ≤ 8 := ⟨fun q => q.1, fun q => ⟨q, Nat.le_add_right _ _, by omega⟩⟩
  simp only [am_opH, hl, Nat.add_sub_cancel_left, e3]
  rfl
theorem am_R_sch {j k : Nat} {x : Int32} (hj : j < 19) (hd : decode (am_me m).2.1 pc = .ok (.invokevirtual idx, 3)) (hl : am_mlt.lookup ((am_me m).2.2.2.2.1, idx) = some (k, 10)) : am_W X d m pc L (.int x :: .ref (am_K0 + 10 + j) :: st) h Q ↔ (am_sz st ≤ 8 ∧ ¬ (x < 0 ∨ (am_tx j).length ≤ x.toNatClampNeg)) ∧ am_W X d m (pc + 3) L (.int (nI ((am_tx j).getD x.toNatClampNeg 0)) :: st) h Q := by
  refine am_WHc hd rfl ?_ rfl (by simp only [am_opC, hl])
  have e3 : (am_sz st ≤ 8 ∧ am_K0 + 10 ≤ am_K0 + 10 + j ∧ am_K0 + 10 + j < am_K0 + 10 + 19 ∧ ¬ (x < 0 ∨ (am_tx j).length ≤ x.toNatClampNeg)) ↔ (am_sz st ≤ 8 ∧ ¬ (x < 0 ∨ (am_tx j).length ≤ x.toNatClampNeg)) := ⟨fun q => ⟨q.1, q.2.2.2⟩, fun q => ⟨q.1, Nat.le_add_right _ _, by omega, q.2⟩⟩
  simp only [am_opH, hl, Nat.add_sub_cancel_left, e3]
  rfl
theorem am_R_cv {m' np mL ow a : Nat} {y : MethodName} {cc : ByteArray} {rt : Option FieldType} {sc : Bool} {as st0 r : List Value} (hm : am_me m' = (y, cc, mL, rt, ow, np, sc)) (hd : decode (am_me m).2.1 pc = .ok (.invokevirtual idx, 3)) (hl : am_mlt.lookup ((am_me m).2.2.2.2.1, idx) = some (m', 0)) (hst : st0 = as.reverse ++ .ref a :: r) (hlen : as.length = np) (hal : (am_ar (.ref a :: as)).length ≤ mL) :
    am_W X (d + 1) m pc L st0 h Q ↔ (am_sz r ≤ 8 ∧ a < h.1 ∧ (h.2.2.1 a).1 = ow) ∧ am_W X d m' 0 (am_en mL (.ref a :: as)) [] h (fun v h' => am_W X (d + 1) m (pc + 3) L (v.toList ++ r) h' Q) := by
  have e1 : (am_me m').2.2.2.2.2.1 = np := by rw [hm]
  have e2 : (am_me m').2.2.2.2.1 = ow := by rw [hm]
  have e3 : (am_me m').2.2.1 = mL := by rw [hm]
  have hdr : st0.drop np = .ref a :: r := by rw [hst, List.drop_left' (by rw [List.length_reverse, hlen])]
  have htk : (st0.take np).reverse = as := by rw [hst, List.take_left' (by rw [List.length_reverse, hlen]), List.reverse_reverse]
  have hle : np ≤ st0.length := by rw [hst, List.length_append, List.length_reverse, hlen]; omega
  have hH : am_opH X (am_me m).2.2.2.2.1 (decide ((am_me m).1.name = "<init>")) (.invokevirtual idx) 3 pc st0 h = none := by
    simp only [am_opH, hl]
  by_cases hp : am_sz r ≤ 8 ∧ a < h.1 ∧ (h.2.2.1 a).1 = ow
  · rw [am_WC (m' := m') (as := .ref a :: as) (r := r) hd rfl hH rfl ?_ (by rw [e3]; exact hal), e3]
    · exact ⟨fun w => ⟨hp, w⟩, fun w => w.2⟩
    · simp only [am_opC, hl, e1, hdr, htk, e2]
      rw [if_pos ⟨hp.1, hp.2.1, hp.2.2, hle⟩]
  · rw [am_WPn hd rfl hH rfl ?_]
    · exact ⟨False.elim, fun w => absurd w.1 hp⟩
    · simp only [am_opC, hl, e1, hdr, htk, e2]
      rw [if_neg (fun q => hp ⟨q.1, q.2.1, q.2.2.1⟩)]
theorem am_R_cs {m' np mL ow kd : Nat} {y : MethodName} {cc : ByteArray} {rt : Option FieldType} {sc : Bool} {as st0 r : List Value} (hk : kd = 1 ∨ kd = 3) (hm : am_me m' = (y, cc, mL, rt, ow, np, sc)) (hd : decode (am_me m).2.1 pc = .ok (.invokestatic idx, 3)) (hl : am_mlt.lookup ((am_me m).2.2.2.2.1, idx) = some (m', kd)) (hst : st0 = as.reverse ++ r) (hlen : as.length = np) (hal : (am_ar as).length ≤ mL) :
    am_W X (d + 1) m pc L st0 h Q ↔ am_sz r ≤ 8 ∧ am_W X d m' 0 (am_en mL as) [] h (fun v h' => am_W X (d + 1) m (pc + 3) L (v.toList ++ r) h' Q) := by
  have e1 : (am_me m').2.2.2.2.2.1 = np := by rw [hm]
  have e3 : (am_me m').2.2.1 = mL := by rw [hm]
  have hdr : st0.drop np = r := by rw [hst, List.drop_left' (by rw [List.length_reverse, hlen])]
  have htk : (st0.take np).reverse = as := by rw [hst, List.take_left' (by rw [List.length_reverse, hlen]), List.reverse_reverse]
  have hle : np ≤ st0.length := by rw [hst, List.length_append, List.length_reverse, hlen]; omega
  have hH : am_opH X (am_me m).2.2.2.2.1 (decide ((am_me m).1.name = "<init>")) (.invokestatic idx) 3 pc st0 h = none := by
    rcases hk with rfl | rfl <;> (simp only [am_opH, hl])
  have hC : am_opC (am_me m).2.2.2.2.1 (.invokestatic idx) 3 st0 h = if am_sz r ≤ 8 then some (m', as, r) else none := by
    rcases hk with rfl | rfl <;> (simp only [am_opC, hl, e1, hdr, htk, hle, and_true])
  by_cases hp : am_sz r ≤ 8
  · rw [am_WC (m' := m') (as := as) (r := r) hd rfl hH rfl (by rw [hC, if_pos hp]) (by rw [e3]; exact hal), e3]
    exact ⟨fun w => ⟨hp, w⟩, fun w => w.2⟩
  · rw [am_WPn hd rfl hH rfl (by rw [hC, if_neg hp])]
    exact ⟨False.elim, fun w => absurd w.1 hp⟩
theorem am_R_ci {m' np mL ow kd a : Nat} {y : MethodName} {cc : ByteArray} {rt : Option FieldType} {sc : Bool} {as st0 r : List Value} (hk : kd = 2 ∨ kd = 4) (hm : am_me m' = (y, cc, mL, rt, ow, np, sc)) (hd : decode (am_me m).2.1 pc = .ok (.invokespecial idx, 3)) (hl : am_mlt.lookup ((am_me m).2.2.2.2.1, idx) = some (m', kd)) (hst : st0 = as.reverse ++ .ref a :: r) (hlen : as.length = np) (hal : (am_ar (.ref a :: as)).length ≤ mL) :
    am_W X (d + 1) m pc L st0 h Q ↔ am_sz r ≤ 8 ∧ am_W X d m' 0 (am_en mL (.ref a :: as)) [] h (fun v h' => am_W X (d + 1) m (pc + 3) L (v.toList ++ r) h' Q) := by
  have e1 : (am_me m').2.2.2.2.2.1 = np := by rw [hm]
  have e3 : (am_me m').2.2.1 = mL := by rw [hm]
  have hdr : st0.drop np = .ref a :: r := by rw [hst, List.drop_left' (by rw [List.length_reverse, hlen])]
  have htk : (st0.take np).reverse = as := by rw [hst, List.take_left' (by rw [List.length_reverse, hlen]), List.reverse_reverse]
  have hle : np ≤ st0.length := by rw [hst, List.length_append, List.length_reverse, hlen]; omega
  have hH : am_opH X (am_me m).2.2.2.2.1 (decide ((am_me m).1.name = "<init>")) (.invokespecial idx) 3 pc st0 h = none := by
    rcases hk with rfl | rfl <;> (simp only [am_opH, hl])
  have hC : am_opC (am_me m).2.2.2.2.1 (.invokespecial idx) 3 st0 h = if am_sz r ≤ 8 then some (m', .ref a :: as, r) else none := by
    rcases hk with rfl | rfl <;> (simp only [am_opC, hl, e1, hdr, htk, hle, and_true])
  by_cases hp : am_sz r ≤ 8
  · rw [am_WC (m' := m') (as := .ref a :: as) (r := r) hd rfl hH rfl (by rw [hC, if_pos hp]) (by rw [e3]; exact hal), e3]
    exact ⟨fun w => ⟨hp, w⟩, fun w => w.2⟩
  · rw [am_WPn hd rfl hH rfl (by rw [hC, if_neg hp])]
    exact ⟨False.elim, fun w => absurd w.1 hp⟩
theorem am_R_putZ {c k a : Nat} {x : Int32} (hd : decode (am_me m).2.1 pc = .ok (.putfield idx, 3)) (hl : am_flt.lookup ((am_me m).2.2.2.2.1, idx) = some (c, k)) (hf : ((am_T c k).2.2.2 = false ∨ (decide ((am_me m).1.name = "<init>") = true ∧ (am_me m).2.2.2.2.1 = c))) (ht : am_ft c k = 3) : am_W X d m pc L (.int x :: .ref a :: st) (n, sl, t, I, J, F) Q ↔ (a < n ∧ (t a).1 = c ∧ (x = 0 ∨ x = 1)) ∧ am_W X d m (pc + 3) L st (n, sl, t, am_uI I a k x, J, F) Q := by
  refine am_WHc hd rfl ?_ rfl rfl
  simp only [am_opH, hl, am_wr, ht]
  by_cases h1 : a < n ∧ (t a).1 = c
  · have e : a < n ∧ (t a).1 = c ∧ ((am_T c k).2.2.2 = false ∨ (decide ((am_me m).1.name = "<init>") = true ∧ (am_me m).2.2.2.2.1 = c)) := ⟨h1.1, h1.2, hf⟩
    rw [if_pos e]
    by_cases h2 : x = 0 ∨ x = 1
    · rw [if_pos h2, if_pos ⟨h1.1, h1.2, h2⟩]
    · rw [if_neg h2, if_neg (fun q => h2 q.2.2)]
  · rw [if_neg (fun q => h1 ⟨q.1, q.2.1⟩), if_neg (fun q => h1 ⟨q.1, q.2.1⟩)]
theorem am_R_retI {x : Int32} (hd : decode (am_me m).2.1 pc = .ok (.ireturn, 1)) (hr : (am_me m).2.2.2.1 = some .int) : am_W X d m pc L [.int x] h Q ↔ Q (some (.int x)) h := am_WR hd rfl rfl (by rw [hr]; rfl)
theorem am_R_retZ {x : Int32} (hd : decode (am_me m).2.1 pc = .ok (.ireturn, 1)) (hr : (am_me m).2.2.2.1 = some .boolean) : am_W X d m pc L [.int x] h Q ↔ (x = 0 ∨ x = 1) ∧ Q (some (.int x)) h := by
  by_cases h2 : x = 0 ∨ x = 1
  · rw [am_WR (v0 := some (.int x)) hd rfl rfl (by rw [hr]; simp only [am_opR, if_pos h2])]
    exact ⟨fun w => ⟨h2, w⟩, fun w => w.2⟩
  · rw [am_WPn hd rfl rfl (by rw [hr]; simp only [am_opR, if_neg h2]) rfl]
    exact ⟨False.elim, fun w => absurd w.1 h2⟩
theorem am_R_retJ {x : Int64} (hd : decode (am_me m).2.1 pc = .ok (.lreturn, 1)) (hr : (am_me m).2.2.2.1 = some .long) : am_W X d m pc L [.long x] h Q ↔ Q (some (.long x)) h := am_WR hd rfl rfl (by rw [hr]; rfl)
theorem am_R_retR {a : Nat} {c : String} (hd : decode (am_me m).2.1 pc = .ok (.areturn, 1)) (hr : (am_me m).2.2.2.1 = some (.object c)) : am_W X d m pc L [.ref a] h Q ↔ Q (some (.ref a)) h := am_WR hd rfl rfl (by rw [hr]; rfl)
theorem am_R_retN {c : String} (hd : decode (am_me m).2.1 pc = .ok (.areturn, 1)) (hr : (am_me m).2.2.2.1 = some (.object c)) : am_W X d m pc L [.null] h Q ↔ Q (some .null) h := am_WR hd rfl rfl (by rw [hr]; rfl)
theorem am_R_retA {a : Nat} {c : FieldType} (hd : decode (am_me m).2.1 pc = .ok (.areturn, 1)) (hr : (am_me m).2.2.2.1 = some (.array c)) : am_W X d m pc L [.ref a] h Q ↔ Q (some (.ref a)) h := am_WR hd rfl rfl (by rw [hr]; rfl)
theorem am_R_retV (hd : decode (am_me m).2.1 pc = .ok (.return_, 1)) (hr : (am_me m).2.2.2.1 = none) : am_W X d m pc L [] h Q ↔ Q none h := am_WR hd rfl rfl (by rw [hr]; rfl)
end AMR
