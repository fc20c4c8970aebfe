/-! WHAT TOUCHES CELLS, on the machine -/
/-- the constants: the script and the static rows, the nest's words, the texts -/
def am_sC (j : Nat) : String := if j = 4 then "SweetWaits$Ratio" else "SweetWaits"
def am_sN (j : Nat) : String := match j with
  | 1 => "FACT_MOST"
  | 2 => "TERM_LEAST"
  | 3 => "TERM_MOST"
  | _ => "LOGS"
def am_nest : List Cond := lw_tbl.filter (fun w => match w with
  | .methodLinkNest _ _ _ _ => true
  | _ => false)
def am_sidx (j : Nat) : Nat := (am_stt.getD j ((0, 0), 0)).1.2
def am_C (X : am_X) (B : Nat) (ad : Nat → Nat) (U : State) : Prop :=
  (∀ j, j < 5 → va_T .int (ad (am_K0 + j)) (X j).1 (fun i => .int ((X j).2 i)) (fun q => B ≤ q) U U.heap) ∧
  (∀ j, j < 5 → 1 ≤ j → va_Z (am_sC j) (am_sN j) "[I" (.ref (ad (am_K0 + j))) (fun q => B ≤ q) U U.heap) ∧
  (∀ w ∈ am_nest, va_Nw w U) ∧ va_Nw (.castable "[I" "java/lang/Cloneable") U ∧
  (∀ j, j < 19 → vk_R "SweetWaits$Reader" (am_sidx j) (am_stx.getD j "") (ad (am_K0 + 10 + j)) U) ∧
  (∀ j, j < 19 → ∃ v : Nat, vk_S 1 [(am_tx j).length] [(am_tx j).map Int32.ofNat] (fun _ => ad (am_K0 + 10 + j)) (fun _ => v) (fun q => B ≤ q) U U.heap) ∧
  va_Z "java/lang/String" "COMPACT_STRINGS" "Z" (.int 1) (fun q => B ≤ q) U U.heap ∧
  va_Zq "jdk/internal/util/Preconditions" "SIOOBE_FORMATTER" "Ljava/util/function/BiFunction;" (fun q => B ≤ q) U U.heap ∧
  (va_AO (am_R 5) U ∧ va_AO (am_R 1) U) ∧
  B ≤ U.heap.size
theorem am_nest_m {w : Cond} (h : w ∈ am_nest) : ∃ a i x g, w = .methodLinkNest a i x g := by
  have := (List.mem_filter.mp h).2
  revert this
  split
  · intro _; exact ⟨_, _, _, _, rfl⟩
  · intro h; cases h
theorem am_C.to {X : am_X} {B : Nat} {ad : Nat → Nat} {s U : State} {H : Heap} {locs : List Loc} (h : am_C X B ad s) (hS : va_S (fun q => B ≤ q) s.heap H locs) (hU : U.heap = H) (hW : s.WarmedH U.vm) : am_C X B ad U := by
  obtain ⟨h1, h2, h3, h4, h5, h6, h7, h8, h10, h9⟩ := h
  have hq : ∀ a : Nat, a < s.heap.size → ¬ B ≤ a → U.heap[a]? = s.heap[a]? := fun a g1 g2 => by rw [hU]; exact hS.2.1 a g1 g2
  refine ⟨fun j hj => (va_T.moved hW.alike (h1 j hj)).kept hq, fun j hj h0 => (va_Z.moved hW.alike (h2 j hj h0)).kept hq, fun w hw => ?_, va_Nw.warmC hW h4, fun j hj => vk_R.warm hW (h5 j hj), fun j hj => (h6 j hj).imp (fun v h => (vk_S.moved hW.alike h).kept hq), (va_Z.moved hW.alike h7).kept hq, (va_Zq.moved hW.alike h8).kept hq, ⟨va_AO.moved hW.alike h10.1, va_AO.moved hW.alike h10.2⟩, by rw [hU]; exact Nat.le_trans h9 hS.1⟩
  obtain ⟨a, i, x, g, rfl⟩ := am_nest_m hw
  exact va_Nw.warmM hW (h3 _ hw)
theorem am_C.same {X : am_X} {B : Nat} {ad : Nat → Nat} {u U : State} (h : am_C X B ad u) (hv : U.vm = u.vm) (hh : U.heap = u.heap) : am_C X B ad U := by
  obtain ⟨h1, h2, h3, h4, h5, h6, h7, h8, h10, h9⟩ := h
  have ha : u.vm.Alike U.vm := by rw [hv]; exact Vm.Alike.refl _
  refine ⟨fun j hj => by rw [hh]; exact va_T.moved ha (h1 j hj), fun j hj h0 => by rw [hh]; exact va_Z.moved ha (h2 j hj h0), fun w hw => ?_, va_Nw.same rfl hv.symm h4, fun j hj => vk_R.same hv (h5 j hj), fun j hj => (h6 j hj).imp (fun v h => by rw [hh]; exact vk_S.moved ha h), by rw [hh]; exact va_Z.moved ha h7, by rw [hh]; exact va_Zq.moved ha h8, ⟨va_AO.moved ha h10.1, va_AO.moved ha h10.2⟩, by rw [hh]; exact h9⟩
  obtain ⟨a, i, x, g, rfl⟩ := am_nest_m hw
  exact va_Nw.same rfl hv.symm (h3 _ hw)
/-- what a walk of a method of class o with code cc has at hand -/
def am_Cx (X : am_X) (D : va_G) (dA : Nat → ClassId) (B : Nat) (ad : Nat → Nat) (o : Nat) (cc : ByteArray) (nL : Nat) (p : Program) (s : State) (m : MethodId) (args : Array Value) (c : Code) : Prop :=
  p.tables.exec = Jvm.exec ∧ c.code = cc ∧ c.maxLocals = nL ∧ s.vm.findClass (am_R o) = some m.cls ∧ (∀ w ∈ am_TB, w.before args s = true) ∧ va_K D vwCl (am_tys dA) s ∧ am_C X B ad s ∧ ∀ a, a < am_K0 → ad a = B + a
section AMH
variable {p : Program} {l : Launch} {e : Env} {R : Room} {s : State} {m : MethodId} {args : Array Value} {below : List Frame} {meth : Method} {c : Code} {H : Heap} {locs : List Loc} {cells slots : Nat} {Q : State → Prop}
variable {cc : ByteArray} {pc : Nat} {ls : Array Slot} {rest : List Value} {X : am_X} {D : va_G} {dA : Nat → ClassId} {B : Nat} {ad : Nat → Nat} {o nL : Nat} {h : am_H}
theorem am_hget (C0 : am_Cx X D dA B ad o cc nL p s m args c) (hP : am_P D dA B ad h H) {a ci k idx : Nat} (ha : a < h.1) (hc : (h.2.2.1 a).1 = ci) (hl : am_flt.lookup (o, idx) = some (ci, k)) (hd : decode cc pc = .ok (.getfield idx, 3))
    (kk : W p l e R s m args below meth c H locs cells slots Q (F0 m (pc + 3) ls (am_fv ad h ci a k :: rest))) : W p l e R s m args below meth c H locs cells slots Q (F0 m pc ls (.ref (B + a) :: rest)) := by
  obtain ⟨hx, hb, hml, hown, hts, hK, hC, had⟩ := C0
  obtain ⟨h13, hk, hlink⟩ := am_fl_ok hl
  refine va_get (D := D) (ci := ci) (C := am_R ci) (T := am_T ci) (N := am_nf ci) (ws := [(B + a, .inr (ci, (List.range (am_nf ci)).map (am_fv ad h ci a)))]) hx hb hts (am_lay ci h13) hown hK (hP.one ha (am_ce_o hc h13)) 0 rfl (am_cl_at ci h13) k hk (hts _ hlink) (fun _ h9 => h9) (v := am_fv ad h ci a k) ?_ hd kk
  rw [List.getElem?_map, List.getElem?_range hk]
  rfl
theorem am_hput (C0 : am_Cx X D dA B ad o cc nL p s m args c) (hP : am_P D dA B ad h H) (hS0 : va_S (fun q => B ≤ q) s.heap H locs) {a ci k idx : Nat} (ha : a < h.1) (hc : (h.2.2.1 a).1 = ci) (hl : am_flt.lookup (o, idx) = some (ci, k)) {v : Value} {h' : am_H} (hw : am_wr h ci a k v = some h') (hfin : (am_T ci k).2.2.2 = false ∨ (meth.name = "<init>" ∧ o = ci)) (hd : decode cc pc = .ok (.putfield idx, 3))
    (kk : ∀ (H1 : Heap) (locs1 : List Loc), am_P D dA B ad h' H1 → va_S (fun q => B ≤ q) s.heap H1 locs1 → W p l e R s m args below meth c H1 locs1 cells slots Q (F0 m (pc + 3) ls rest)) : W p l e R s m args below meth c H locs cells slots Q (F0 m pc ls (am_cv ad v :: .ref (B + a) :: rest)) := by
  obtain ⟨hx, hb, hml, hown, hts, hK, hC, had⟩ := C0
  obtain ⟨h13, hk, hlink⟩ := am_fl_ok hl
  have hclass := am_cl_at ci h13
  have hin := am_lay ci h13
  obtain ⟨w1, w2, w3, w4, w5, w6, w7⟩ := am_wr_ok (ad := ad) hw (am_tok_ok ci h13 k hk)
  have hap := va_apart (own := am_R o) hts hin (am_ty ci) (am_ty_ok ci h13) (am_nm_ok ci h13) hK hclass
  have hat := hP.2.2 a ha
  rw [am_ce_o hc h13] at hat
  obtain ⟨r, h1, cell, q1, q2, q3, q4⟩ := hat
  have hr : r = (am_R ci, am_T ci, am_nf ci) := Option.some.inj (h1.symm.trans hclass)
  subst hr
  obtain ⟨hS, hfc, kC, hkC, hkind⟩ := hK.1 ci _ hclass
  obtain ⟨cf, kf, fi, f, hi, hsl⟩ := hS k hk
  have hlay := hts _ (hin _ (u_in_lay hk))
  have hst := (u_facts hfc hkC (u_lays hts hin hk) hi).1
  have hafter : ∀ H1 : Heap, H1[B + a]? = some (cell.setSlot (D.2 ci k) (am_cv ad v)) → H1.size = H.size → (∀ q, q ≠ B + a → H1[q]? = H[q]?) → am_P D dA B ad h' H1 := by
    intro H1 e1 e2 e3
    refine hP.upd w1 (fun b _ hne => ?_) ?_ e2 e3
    · obtain ⟨g1, g2, g3⟩ := w5 b hne
      exact am_ce_congr (by rw [w3]) g1 g2 g3
    · rw [am_ce_o (by rw [w3]; exact hc) h13]
      refine ⟨_, hclass, t_OB.to (V := updV (vp_V ((List.range (am_nf ci)).map (am_fv ad h ci a))) k (am_cv ad v)) ⟨_, e1, q2, q3, t_set q4 hap hk _⟩ (fun j hj => ?_)⟩
      have hn : ∀ g : Nat → Value, vp_V ((List.range (am_nf ci)).map g) j = g j := fun g => by
        unfold vp_V
        rw [List.getD_eq_getElem?_getD, List.getElem?_map, List.getElem?_range hj]
        rfl
      unfold updV
      rw [hn, hn, w4 j]
  rcases hfin with hfin | ⟨hfin, ho⟩
  · have hlay2 := hlay
    unfold u_lay at hlay2
    rw [if_neg (by rw [hfin]; decide)] at hlay2
    have h6 := u_store hfc hkC hkind hlay2 hi (am_ty_ok ci h13 k hk) w6 w7
    refine W.putK hx hb (f := f) ⟨hown, hts _ hlink, ⟨_, _, _, hi⟩, hst⟩ (by rw [q2]; exact h6) q1 q3 (by rw [hsl]; exact k2_hasslot (q4 k hk)) rfl rfl hd fun H' e1 e2 e3 => ?_
    rw [hsl] at e1 ⊢
    exact kk H' _ (hafter H' e1 e2 e3) (hS0.put e2 e3 (Nat.le_add_right B a))
  · by_cases hf0 : (am_T ci k).2.2.2 = true
    · have hlay2 := hlay
      unfold u_lay at hlay2
      rw [if_pos hf0] at hlay2
      have hcf : m.cls = cf := by
        obtain ⟨_, _, c', _, _, _, -, -, hf', -, -, -, hown2, -⟩ := Cond.laysFinal_spec hlay2
        have e1 : c' = cf := by have := hi.symm.trans hf'; simp at this; exact this.1.symm
        rw [am_dcl_ok ci h13 k hk, ← ho] at hown2
        rw [← e1]; exact Option.some.inj (hown.symm.trans hown2)
      have h6 := u_fits hfc hkC hkind (Or.inr hlay2) hi (am_ty_ok ci h13 k hk) w6 w7
      refine W.putFinK hx hb hown (hts _ hlink) hi hst hcf hfin (by rw [q2]; exact h6) q1 q3 (by rw [hsl]; exact k2_hasslot (q4 k hk)) rfl rfl hd fun H' e1 e2 e3 => ?_
      rw [hsl] at e1 ⊢
      exact kk H' _ (hafter H' e1 e2 e3) (hS0.put e2 e3 (Nat.le_add_right B a))
    · have hlay2 := hlay
      unfold u_lay at hlay2
      rw [if_neg hf0] at hlay2
      have h6 := u_store hfc hkC hkind hlay2 hi (am_ty_ok ci h13 k hk) w6 w7
      refine W.putK hx hb (f := f) ⟨hown, hts _ hlink, ⟨_, _, _, hi⟩, hst⟩ (by rw [q2]; exact h6) q1 q3 (by rw [hsl]; exact k2_hasslot (q4 k hk)) rfl rfl hd fun H' e1 e2 e3 => ?_
      rw [hsl] at e1 ⊢
      exact kk H' _ (hafter H' e1 e2 e3) (hS0.put e2 e3 (Nat.le_add_right B a))
theorem am_upd_V (f : Nat → Int32) (k : Nat) (x : Int32) : updV (fun j => Value.int (f j)) k (.int x) = fun j => Value.int (upd f k x j) := by
  funext j
  unfold updV upd
  split <;> rfl
theorem am_upd_L (f : Nat → Int64) (k : Nat) (x : Int64) : updV (fun j => Value.long (f j)) k (.long x) = fun j => Value.long (vp_updL f k x j) := by
  funext j
  unfold updV vp_updL
  split <;> rfl
theorem am_upd_F (ad : Nat → Nat) (f : Nat → Option Nat) (k : Nat) (x : Option Nat) : updV (fun j => va_rf ((f j).map ad)) k (va_rf (x.map ad)) = fun j => va_rf ((va_up f k x j).map ad) := by
  funext j
  unfold updV va_up
  split <;> rfl
theorem am_hist (C0 : am_Cx X D dA B ad o cc nL p s m args c) (hP : am_P D dA B ad h H) (hS : va_S (fun q => B ≤ q) s.heap H locs) {a : Nat} {i x : Int32} (ha : a < h.1) (hc : (h.2.2.1 a).1 = 20) (hin : ¬ (i < 0 ∨ (h.2.2.1 a).2 ≤ i.toNatClampNeg)) (hd : decode cc pc = .ok (.iastore, 1))
    (kk : ∀ (H1 : Heap) (locs1 : List Loc), am_P D dA B ad (h.1, h.2.1, h.2.2.1, am_uI h.2.2.2.1 a i.toNatClampNeg x, h.2.2.2.2) H1 → va_S (fun q => B ≤ q) s.heap H1 locs1 → W p l e R s m args below meth c H1 locs1 cells slots Q (F0 m (pc + 1) ls rest)) : W p l e R s m args below meth c H locs cells slots Q (F0 m pc ls (.int x :: .int i :: .ref (B + a) :: rest)) := by
  obtain ⟨hx, hb, hml, hown, hts, hK, hC, had⟩ := C0
  have hat := hP.2.2 a ha
  rw [am_ce_i hc (Or.inl rfl)] at hat
  have hat : H[B + a]? = some (arrV (dA 20) (h.2.2.1 a).2 (fun j => .int (h.2.2.2.1 a j))) := hat
  refine W.iast hx hb hat ((hK.2 0 _ rfl).1 _ _) (fun q => by cases q) (by rw [arrV_size]; exact hin) rfl rfl hd fun H1 e z oq => ?_
  refine kk H1 _ (hP.upd rfl (fun b _ hne => am_ce_congr rfl (am_uI_ne hne) rfl rfl) ?_ z oq) (hS.put z oq (Nat.le_add_right B a))
  rw [am_ce_i (h := (h.1, h.2.1, h.2.2.1, am_uI h.2.2.2.1 a i.toNatClampNeg x, h.2.2.2.2)) hc (Or.inl rfl)]
  show H1[B + a]? = some (arrV (dA 20) (h.2.2.1 a).2 (fun j => .int (am_uI h.2.2.2.1 a i.toNatClampNeg x a j)))
  rw [e, arrV_store, am_upd_V, am_uI_eq]
theorem am_hbst (C0 : am_Cx X D dA B ad o cc nL p s m args c) (hP : am_P D dA B ad h H) (hS : va_S (fun q => B ≤ q) s.heap H locs) {a : Nat} {i x : Int32} (ha : a < h.1) (hc : (h.2.2.1 a).1 = 21) (hin : ¬ (i < 0 ∨ (h.2.2.1 a).2 ≤ i.toNatClampNeg)) (hd : decode cc pc = .ok (.bastore, 1))
    (kk : ∀ (H1 : Heap) (locs1 : List Loc), am_P D dA B ad (h.1, h.2.1, h.2.2.1, am_uI h.2.2.2.1 a i.toNatClampNeg x.toInt8.toInt32, h.2.2.2.2) H1 → va_S (fun q => B ≤ q) s.heap H1 locs1 → W p l e R s m args below meth c H1 locs1 cells slots Q (F0 m (pc + 1) ls rest)) : W p l e R s m args below meth c H locs cells slots Q (F0 m pc ls (.int x :: .int i :: .ref (B + a) :: rest)) := by
  obtain ⟨hx, hb, hml, hown, hts, hK, hC, had⟩ := C0
  have hat := hP.2.2 a ha
  rw [am_ce_i hc (Or.inr (Or.inl rfl))] at hat
  have hat : H[B + a]? = some (arrV (dA 21) (h.2.2.1 a).2 (fun j => .int (h.2.2.2.1 a j))) := hat
  refine W.bast hx hb hat ((hK.2 1 _ rfl).1 _ _) (fun q => by cases q) (by rw [arrV_size]; exact hin) rfl rfl hd fun H1 e z oq => ?_
  refine kk H1 _ (hP.upd rfl (fun b _ hne => am_ce_congr rfl (am_uI_ne hne) rfl rfl) ?_ z oq) (hS.put z oq (Nat.le_add_right B a))
  rw [am_ce_i (h := (h.1, h.2.1, h.2.2.1, am_uI h.2.2.2.1 a i.toNatClampNeg x.toInt8.toInt32, h.2.2.2.2)) hc (Or.inr (Or.inl rfl))]
  show H1[B + a]? = some (arrV (dA 21) (h.2.2.1 a).2 (fun j => .int (am_uI h.2.2.2.1 a i.toNatClampNeg x.toInt8.toInt32 a j)))
  rw [e, arrV_store, narrow_byte, am_upd_V, am_uI_eq]
theorem am_hzst (C0 : am_Cx X D dA B ad o cc nL p s m args c) (hP : am_P D dA B ad h H) (hS : va_S (fun q => B ≤ q) s.heap H locs) {a : Nat} {i x : Int32} (ha : a < h.1) (hc : (h.2.2.1 a).1 = 22) (hin : ¬ (i < 0 ∨ (h.2.2.1 a).2 ≤ i.toNatClampNeg)) (hd : decode cc pc = .ok (.bastore, 1))
    (kk : ∀ (H1 : Heap) (locs1 : List Loc), am_P D dA B ad (h.1, h.2.1, h.2.2.1, am_uI h.2.2.2.1 a i.toNatClampNeg (x &&& 1), h.2.2.2.2) H1 → va_S (fun q => B ≤ q) s.heap H1 locs1 → W p l e R s m args below meth c H1 locs1 cells slots Q (F0 m (pc + 1) ls rest)) : W p l e R s m args below meth c H locs cells slots Q (F0 m pc ls (.int x :: .int i :: .ref (B + a) :: rest)) := by
  obtain ⟨hx, hb, hml, hown, hts, hK, hC, had⟩ := C0
  have hat := hP.2.2 a ha
  rw [am_ce_i hc (Or.inr (Or.inr rfl))] at hat
  have hat : H[B + a]? = some (arrV (dA 22) (h.2.2.1 a).2 (fun j => .int (h.2.2.2.1 a j))) := hat
  refine W.zast hx hb hat ((hK.2 2 _ rfl).1 _ _) (fun q => by cases q) (by rw [arrV_size]; exact hin) rfl rfl hd fun H1 e z oq => ?_
  refine kk H1 _ (hP.upd rfl (fun b _ hne => am_ce_congr rfl (am_uI_ne hne) rfl rfl) ?_ z oq) (hS.put z oq (Nat.le_add_right B a))
  rw [am_ce_i (h := (h.1, h.2.1, h.2.2.1, am_uI h.2.2.2.1 a i.toNatClampNeg (x &&& 1), h.2.2.2.2)) hc (Or.inr (Or.inr rfl))]
  show H1[B + a]? = some (arrV (dA 22) (h.2.2.1 a).2 (fun j => .int (am_uI h.2.2.2.1 a i.toNatClampNeg (x &&& 1) a j)))
  rw [e, arrV_store, show narrow .boolean (.int x) = .int (x &&& 1) from rfl, am_upd_V, am_uI_eq]
theorem am_hlst (C0 : am_Cx X D dA B ad o cc nL p s m args c) (hP : am_P D dA B ad h H) (hS : va_S (fun q => B ≤ q) s.heap H locs) {a : Nat} {i : Int32} {x : Int64} (ha : a < h.1) (hc : (h.2.2.1 a).1 = 23) (hin : ¬ (i < 0 ∨ (h.2.2.1 a).2 ≤ i.toNatClampNeg)) (hd : decode cc pc = .ok (.lastore, 1))
    (kk : ∀ (H1 : Heap) (locs1 : List Loc), am_P D dA B ad (h.1, h.2.1, h.2.2.1, h.2.2.2.1, am_uJ h.2.2.2.2.1 a i.toNatClampNeg x, h.2.2.2.2.2) H1 → va_S (fun q => B ≤ q) s.heap H1 locs1 → W p l e R s m args below meth c H1 locs1 cells slots Q (F0 m (pc + 1) ls rest)) : W p l e R s m args below meth c H locs cells slots Q (F0 m pc ls (.long x :: .int i :: .ref (B + a) :: rest)) := by
  obtain ⟨hx, hb, hml, hown, hts, hK, hC, had⟩ := C0
  have hat := hP.2.2 a ha
  rw [am_ce_j hc] at hat
  have hat : H[B + a]? = some (arrV (dA 23) (h.2.2.1 a).2 (fun j => .long (h.2.2.2.2.1 a j))) := hat
  refine W.last hx hb hat ((hK.2 3 _ rfl).1 _ _) (fun q => by cases q) (by rw [arrV_size]; exact hin) rfl rfl hd fun H1 e z oq => ?_
  refine kk H1 _ (hP.upd rfl (fun b _ hne => am_ce_congr rfl rfl (am_uJ_ne hne) rfl) ?_ z oq) (hS.put z oq (Nat.le_add_right B a))
  rw [am_ce_j (h := (h.1, h.2.1, h.2.2.1, h.2.2.2.1, am_uJ h.2.2.2.2.1 a i.toNatClampNeg x, h.2.2.2.2.2)) hc]
  show H1[B + a]? = some (arrV (dA 23) (h.2.2.1 a).2 (fun j => .long (am_uJ h.2.2.2.2.1 a i.toNatClampNeg x a j)))
  rw [e, arrV_store, am_upd_L, am_uJ_eq]
/-- the array classes of references: their place in the table, their component -/
def am_qt (k : Nat) : Nat := if k = 24 then 4 else 5
def am_qc (k : Nat) : Nat := if k = 24 then 5 else 1
theorem am_qty (hK : va_K D vwCl (am_tys dA) s) {k : Nat} (hk : k = 24 ∨ k = 25) : ArrOfT s (dA k) (.object (am_R (am_qc k))) ∧ va_RA s (dA k) (.object (am_R (am_qc k))) := by
  rcases hk with rfl | rfl
  · exact hK.2 4 _ rfl
  · exact hK.2 5 _ rfl
theorem am_hqst (C0 : am_Cx X D dA B ad o cc nL p s m args c) (hP : am_P D dA B ad h H) (hS : va_S (fun q => B ≤ q) s.heap H locs) {a b : Nat} {i : Int32} (ha : a < h.1) (hb0 : b < h.1) (hc : (h.2.2.1 a).1 = 24 ∨ (h.2.2.1 a).1 = 25) (hcb : (h.2.2.1 b).1 = am_qc (h.2.2.1 a).1) (hin : ¬ (i < 0 ∨ (h.2.2.1 a).2 ≤ i.toNatClampNeg)) (hd : decode cc pc = .ok (.aastore, 1))
    (kk : ∀ (H1 : Heap) (locs1 : List Loc), am_P D dA B ad (h.1, h.2.1, h.2.2.1, h.2.2.2.1, h.2.2.2.2.1, am_uF h.2.2.2.2.2 a i.toNatClampNeg (some b)) H1 → va_S (fun q => B ≤ q) s.heap H1 locs1 → W p l e R s m args below meth c H1 locs1 cells slots Q (F0 m (pc + 1) ls rest)) : W p l e R s m args below meth c H locs cells slots Q (F0 m pc ls (.ref (B + b) :: .int i :: .ref (B + a) :: rest)) := by
  obtain ⟨hx, hb, hml, hown, hts, hK, hC, had⟩ := C0
  have hlt : i.toNatClampNeg < (h.2.2.1 a).2 := Nat.not_le.mp fun q => hin (Or.inr q)
  have h0 : ¬ i < 0 := fun q => hin (Or.inl q)
  have hq13 : am_qc (h.2.2.1 a).1 < 13 := by unfold am_qc; split <;> omega
  have hat := hP.2.2 a ha
  rw [am_ce_q hc] at hat
  have hat : H[B + a]? = some (arrV (dA (h.2.2.1 a).1) (h.2.2.1 a).2 (fun j => va_rf ((h.2.2.2.2.2 a j).map ad))) := hat
  have hbt := hP.2.2 b hb0
  rw [am_ce_o hcb hq13] at hbt
  obtain ⟨r', hr', cellV, g1, g2, g3, -⟩ := hbt
  have hcls := (hK.1 _ _ (am_cl_at _ hq13)).2
  obtain ⟨kA, comp, k1, k2, k3, -⟩ := (am_qty hK hc).2
  have hcomp : comp = D.1 (am_qc (h.2.2.1 a).1) := Option.some.inj (k3.symm.trans hcls.1)
  subst hcomp
  obtain ⟨kC, hkC, -⟩ := hcls.2
  have hadb : ad b = B + b := had b (Nat.lt_of_lt_of_le hb0 (Nat.le_trans hP.2.1 (by decide)))
  refine W.aast hx hb hat (fun q h => by cases h) (fun h => by cases h) k1 k2 rfl hkC ⟨h0, by rw [arrV_size]; exact hlt⟩ g1 (fun q h => by rw [g3] at h; cases h) (by rw [g2]; exact hkC) (by rw [g2]; exact va_assign hcls) rfl rfl hd fun H1 e z oq => ?_
  refine kk H1 _ (hP.upd rfl (fun b _ hne => am_ce_congr rfl rfl rfl (am_uF_ne hne)) ?_ z oq) (hS.put z oq (Nat.le_add_right B a))
  rw [am_ce_q (h := (h.1, h.2.1, h.2.2.1, h.2.2.2.1, h.2.2.2.2.1, am_uF h.2.2.2.2.2 a i.toNatClampNeg (some b))) hc]
  show H1[B + a]? = some (arrV (dA (h.2.2.1 a).1) (h.2.2.1 a).2 (fun j => va_rf ((am_uF h.2.2.2.2.2 a i.toNatClampNeg (some b) a j).map ad)))
  rw [e, arrV_store, am_uF_eq, ← am_upd_F]
  show some (arrV _ _ (updV _ _ (Value.ref (B + b)))) = some (arrV _ _ (updV _ _ (Value.ref (ad b))))
  rw [hadb]
theorem am_hqsn (C0 : am_Cx X D dA B ad o cc nL p s m args c) (hP : am_P D dA B ad h H) (hS : va_S (fun q => B ≤ q) s.heap H locs) {a : Nat} {i : Int32} (ha : a < h.1) (hc : (h.2.2.1 a).1 = 24 ∨ (h.2.2.1 a).1 = 25) (hin : ¬ (i < 0 ∨ (h.2.2.1 a).2 ≤ i.toNatClampNeg)) (hd : decode cc pc = .ok (.aastore, 1))
    (kk : ∀ (H1 : Heap) (locs1 : List Loc), am_P D dA B ad (h.1, h.2.1, h.2.2.1, h.2.2.2.1, h.2.2.2.2.1, am_uF h.2.2.2.2.2 a i.toNatClampNeg none) H1 → va_S (fun q => B ≤ q) s.heap H1 locs1 → W p l e R s m args below meth c H1 locs1 cells slots Q (F0 m (pc + 1) ls rest)) : W p l e R s m args below meth c H locs cells slots Q (F0 m pc ls (.null :: .int i :: .ref (B + a) :: rest)) := by
  obtain ⟨hx, hb, hml, hown, hts, hK, hC, had⟩ := C0
  have hat := hP.2.2 a ha
  rw [am_ce_q hc] at hat
  have hat : H[B + a]? = some (arrV (dA (h.2.2.1 a).1) (h.2.2.1 a).2 (fun j => va_rf ((h.2.2.2.2.2 a j).map ad))) := hat
  refine va_WaastN hx hb hat ((am_qty hK hc).1 _ _) (fun h => by cases h) (by rw [arrV_size]; exact hin) rfl rfl hd fun H1 e z oq => ?_
  refine kk H1 _ (hP.upd rfl (fun b _ hne => am_ce_congr rfl rfl rfl (am_uF_ne hne)) ?_ z oq) (hS.put z oq (Nat.le_add_right B a))
  rw [am_ce_q (h := (h.1, h.2.1, h.2.2.1, h.2.2.2.1, h.2.2.2.2.1, am_uF h.2.2.2.2.2 a i.toNatClampNeg none)) hc]
  show H1[B + a]? = some (arrV (dA (h.2.2.1 a).1) (h.2.2.1 a).2 (fun j => va_rf ((am_uF h.2.2.2.2.2 a i.toNatClampNeg none a j).map ad)))
  rw [e, arrV_store, am_uF_eq, ← am_upd_F]
  rfl
end AMH
