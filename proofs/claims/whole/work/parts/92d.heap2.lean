/-! reads, new cells, constants, the library's own -/
section AMI
variable {p : Program} {l : Launch} {e : Env} {R : Room} {s : State} {m : MethodId} {args : Array Value} {below : List Frame} {meth : Method} {c : Code} {H : Heap} {locs : List Loc} {cells slots : Nat} {Q : State → Prop}
variable {cc : ByteArray} {pc : Nat} {ls : Array Slot} {rest : List Value} {X : am_X} {D : va_G} {dA : Nat → ClassId} {B : Nat} {ad : Nat → Nat} {o nL : Nat} {h : am_H}
theorem am_hild (C0 : am_Cx X D dA B ad o cc nL p s m args c) (hP : am_P D dA B ad h H) {a : Nat} {i : Int32} (ha : a < h.1) (hc : (h.2.2.1 a).1 = 20) (hin : ¬ (i < 0 ∨ (h.2.2.1 a).2 ≤ i.toNatClampNeg)) (hd : decode cc pc = .ok (.iaload, 1))
    (kk : W p l e R s m args below meth c H locs cells slots Q (F0 m (pc + 1) ls (.int (h.2.2.2.1 a i.toNatClampNeg) :: rest))) : W p l e R s m args below meth c H locs cells slots Q (F0 m pc ls (.int i :: .ref (B + a) :: rest)) := by
  obtain ⟨hx, hb, hml, hown, hts, hK, hC, had⟩ := C0
  exact va_iald hx hb hK (hP.one ha (am_ce_i hc (Or.inl rfl))) 0 0 rfl rfl hin hd kk
theorem am_hbld (C0 : am_Cx X D dA B ad o cc nL p s m args c) (hP : am_P D dA B ad h H) {a : Nat} {i : Int32} (ha : a < h.1) (hc : (h.2.2.1 a).1 = 21 ∨ (h.2.2.1 a).1 = 22) (hin : ¬ (i < 0 ∨ (h.2.2.1 a).2 ≤ i.toNatClampNeg)) (hd : decode cc pc = .ok (.baload, 1))
    (kk : W p l e R s m args below meth c H locs cells slots Q (F0 m (pc + 1) ls (.int (h.2.2.2.1 a i.toNatClampNeg) :: rest))) : W p l e R s m args below meth c H locs cells slots Q (F0 m pc ls (.int i :: .ref (B + a) :: rest)) := by
  obtain ⟨hx, hb, hml, hown, hts, hK, hC, had⟩ := C0
  rcases hc with hc | hc
  · exact va_bald hx hb hK (hP.one ha (am_ce_i hc (Or.inr (Or.inl rfl)))) 0 1 rfl rfl hin hd kk
  · exact va_zald hx hb hK (hP.one ha (am_ce_i hc (Or.inr (Or.inr rfl)))) 0 2 rfl rfl hin hd kk
theorem am_hlld (C0 : am_Cx X D dA B ad o cc nL p s m args c) (hP : am_P D dA B ad h H) {a : Nat} {i : Int32} (ha : a < h.1) (hc : (h.2.2.1 a).1 = 23) (hin : ¬ (i < 0 ∨ (h.2.2.1 a).2 ≤ i.toNatClampNeg)) (hd : decode cc pc = .ok (.laload, 1))
    (kk : W p l e R s m args below meth c H locs cells slots Q (F0 m (pc + 1) ls (.long (h.2.2.2.2.1 a i.toNatClampNeg) :: rest))) : W p l e R s m args below meth c H locs cells slots Q (F0 m pc ls (.int i :: .ref (B + a) :: rest)) := by
  obtain ⟨hx, hb, hml, hown, hts, hK, hC, had⟩ := C0
  exact va_lald hx hb hK (hP.one ha (am_ce_j hc)) 0 3 rfl rfl hin hd kk
theorem am_hqld (C0 : am_Cx X D dA B ad o cc nL p s m args c) (hP : am_P D dA B ad h H) {a : Nat} {i : Int32} (ha : a < h.1) (hc : (h.2.2.1 a).1 = 24 ∨ (h.2.2.1 a).1 = 25) (hin : ¬ (i < 0 ∨ (h.2.2.1 a).2 ≤ i.toNatClampNeg)) (hd : decode cc pc = .ok (.aaload, 1))
    (kk : W p l e R s m args below meth c H locs cells slots Q (F0 m (pc + 1) ls (va_rf ((h.2.2.2.2.2 a i.toNatClampNeg).map ad) :: rest))) : W p l e R s m args below meth c H locs cells slots Q (F0 m pc ls (.int i :: .ref (B + a) :: rest)) := by
  obtain ⟨hx, hb, hml, hown, hts, hK, hC, had⟩ := C0
  have hone := hP.one ha (am_ce_q hc)
  rcases hc with hc | hc
  · rw [hc] at hone
    exact va_aldq (f := fun j => (h.2.2.2.2.2 a j).map ad) hx hb hK hone 0 4 rfl rfl hin hd kk
  · rw [hc] at hone
    exact va_aldq (f := fun j => (h.2.2.2.2.2 a j).map ad) hx hb hK hone 0 5 rfl rfl hin hd kk
theorem am_hlen (C0 : am_Cx X D dA B ad o cc nL p s m args c) (hP : am_P D dA B ad h H) {a : Nat} (ha : a < h.1) (h1 : 20 ≤ (h.2.2.1 a).1) (h2 : (h.2.2.1 a).1 ≤ 25) (hd : decode cc pc = .ok (.arraylength, 1))
    (kk : W p l e R s m args below meth c H locs cells slots Q (F0 m (pc + 1) ls (.int (Int32.ofNat (h.2.2.1 a).2) :: rest))) : W p l e R s m args below meth c H locs cells slots Q (F0 m pc ls (.ref (B + a) :: rest)) := by
  obtain ⟨hx, hb, hml, hown, hts, hK, hC, had⟩ := C0
  rcases (show (h.2.2.1 a).1 = 20 ∨ (h.2.2.1 a).1 = 21 ∨ (h.2.2.1 a).1 = 22 ∨ (h.2.2.1 a).1 = 23 ∨ (h.2.2.1 a).1 = 24 ∨ (h.2.2.1 a).1 = 25 by omega) with hc | hc | hc | hc | hc | hc
  · exact va_alen hx hb hK (hP.one ha (am_ce_i hc (Or.inl rfl))) 0 0 rfl rfl rfl hd kk
  · exact va_alen hx hb hK (hP.one ha (am_ce_i hc (Or.inr (Or.inl rfl)))) 0 1 rfl rfl rfl hd kk
  · exact va_alen hx hb hK (hP.one ha (am_ce_i hc (Or.inr (Or.inr rfl)))) 0 2 rfl rfl rfl hd kk
  · exact va_alen hx hb hK (hP.one ha (am_ce_j hc)) 0 3 rfl rfl rfl hd kk
  · have hone := hP.one ha (am_ce_q (Or.inl hc))
    rw [hc] at hone
    exact va_alen hx hb hK hone 0 4 rfl rfl rfl hd kk
  · have hone := hP.one ha (am_ce_q (Or.inr hc))
    rw [hc] at hone
    exact va_alen hx hb hK hone 0 5 rfl rfl rfl hd kk
theorem am_nwt (h : am_H) (kd len : Nat) (f : Nat → Int32) : (am_nw h kd len f).2.2.1 h.1 = (kd, len) := am_ro_eq
theorem am_nw_I (h : am_H) (kd len : Nat) (f : Nat → Int32) : (am_nw h kd len f).2.2.2.1 h.1 = f := am_ro_eq
theorem am_nw_J (h : am_H) (kd len : Nat) (f : Nat → Int32) : (am_nw h kd len f).2.2.2.2.1 h.1 = fun _ => 0 := am_ro_eq
theorem am_nw_F (h : am_H) (kd len : Nat) (f : Nat → Int32) : (am_nw h kd len f).2.2.2.2.2 h.1 = fun _ => none := am_ro_eq
theorem am_hnew (C0 : am_Cx X D dA B ad o cc nL p s m args c) (hP : am_P D dA B ad h H) (hS : va_S (fun q => B ≤ q) s.heap H locs) {ci idx : Nat} (hl : am_clt.lookup (o, idx) = some ci) (hn : h.1 < 600000) (hcells : cells + 1 ≤ R.cells) (hslots : slots + am_nf ci ≤ R.slots) (hd : decode cc pc = .ok (.new idx, 3))
    (kk : ∀ (H1 : Heap) (locs1 : List Loc), am_P D dA B ad (am_nw h ci (am_nf ci) (fun _ => 0)) H1 → va_S (fun q => B ≤ q) s.heap H1 locs1 → W p l e R s m args below meth c H1 locs1 (cells + 1) (slots + am_nf ci) Q (F0 m (pc + 3) ls (.ref (B + h.1) :: rest))) : W p l e R s m args below meth c H locs cells slots Q (F0 m pc ls rest) := by
  obtain ⟨hx, hb, hml, hown, hts, hK, hC, had⟩ := C0
  obtain ⟨h13, hcl, hinst, hini⟩ := am_cl_ok hl
  have hKn := hK.1 ci _ (am_cl_at ci h13)
  refine W.newcK hx hb hown (hts _ hcl) (hts _ hinst) (hts _ hini) rfl hd hcells hslots hKn.2.1 hP.1 fun H1 kC hkC e1 z1 o1 => ?_
  rw [← hP.1] at z1
  have o2 : ∀ q : Nat, q < H.size → H1[q]? = H[q]? := fun q hq => o1 q (by rw [← hP.1]; exact hq)
  refine kk H1 locs (hP.new rfl hn (fun b hb => am_nw_old hb) ?_ z1 o2) (am_S_new hS z1 o2)
  rw [am_ce_o (h := am_nw h ci (am_nf ci) (fun _ => 0)) (c := ci) (by rw [am_nwt]) h13]
  refine ⟨_, am_cl_at ci h13, (u_born (am_ty ci) hts (am_lay ci h13) hKn hkC e1 (am_ty_ok ci h13)).to (fun j hj => ?_)⟩
  rw [am_fv_new (ad := ad) (h := h) (len := am_nf ci) (f := fun _ => 0) h13 hj (fun _ => rfl) ci]
  unfold vp_V
  rw [List.getD_eq_getElem?_getD, List.getElem?_map, List.getElem?_range hj]
  rfl
/-- a new row of numbers -/
theorem am_Pnew (hP : am_P D dA B ad h H) (hS : va_S (fun q => B ≤ q) s.heap H locs) (hn : h.1 < 600000) {H1 : Heap} {kd N : Nat} {f : Nat → Int32} (hk : kd = 20 ∨ kd = 21 ∨ kd = 22) (e1 : H1[B + h.1]? = some (arrV (dA kd) N (fun j => .int (f j)))) (z1 : H1.size = H.size + 1) (o2 : ∀ q : Nat, q < H.size → H1[q]? = H[q]?) :
    am_P D dA B ad (am_nw h kd N f) H1 ∧ va_S (fun q => B ≤ q) s.heap H1 locs := by
  refine ⟨hP.new rfl hn (fun b hb => am_nw_old hb) ?_ z1 o2, am_S_new hS z1 o2⟩
  rw [am_ce_i (h := am_nw h kd N f) (c := kd) (by rw [am_nwt]) hk]
  rw [am_nwt, am_nw_I]
  exact e1
theorem am_hnwa (C0 : am_Cx X D dA B ad o cc nL p s m args c) (hP : am_P D dA B ad h H) (hS : va_S (fun q => B ≤ q) s.heap H locs) {at' : ArrayType} {kd : Nat} {x : Int32} (hk : am_ak at' = some kd) (hn : h.1 < 600000) (hx0 : ¬ x < 0) (hx1 : x.toNatClampNeg ≤ 1000000) (hcells : cells + 1 ≤ R.cells) (hslots : slots + x.toNatClampNeg ≤ R.slots) (hd : decode cc pc = .ok (.newarray at', 2))
    (kk : ∀ (H1 : Heap) (locs1 : List Loc), am_P D dA B ad (am_nw h kd x.toNatClampNeg (fun _ => 0)) H1 → va_S (fun q => B ≤ q) s.heap H1 locs1 → W p l e R s m args below meth c H1 locs1 (cells + 1) (slots + x.toNatClampNeg) Q (F0 m (pc + 2) ls (.ref (B + h.1) :: rest))) : W p l e R s m args below meth c H locs cells slots Q (F0 m pc ls (.int x :: rest)) := by
  obtain ⟨hx, hb, hml, hown, hts, hK, hC, had⟩ := C0
  cases at' <;> first | (cases hk; done) | skip
  · have harr : (Cond.arrayClass (newarray.typeOf .boolean)) ∈ am_TB := am_in (by decide +kernel) rfl
    refine va_newaK (atype := .boolean) hx hb (hts _ harr) rfl hd rfl hx0 rfl (by show _ * 1 ≤ _; omega) hcells hslots hP.1 fun H1 cA e1 z1 o1 hAr hNm => ?_
    cases hk
    rw [← hP.1] at z1
    have hcA : cA = dA 22 := Option.some.inj (hNm.symm.trans (hK.2 2 _ rfl).2)
    subst hcA
    obtain ⟨g1, g2⟩ := am_Pnew hP hS hn (kd := 22) (f := fun _ => 0) (Or.inr (Or.inr rfl)) e1 z1 (fun q hq => o1 q (by rw [← hP.1]; exact hq))
    exact kk H1 locs g1 g2
  · have harr : (Cond.arrayClass (newarray.typeOf .byte)) ∈ am_TB := am_in (by decide +kernel) rfl
    refine va_newaK (atype := .byte) hx hb (hts _ harr) rfl hd rfl hx0 rfl (by show _ * 1 ≤ _; omega) hcells hslots hP.1 fun H1 cA e1 z1 o1 hAr hNm => ?_
    cases hk
    rw [← hP.1] at z1
    have hcA : cA = dA 21 := Option.some.inj (hNm.symm.trans (hK.2 1 _ rfl).2)
    subst hcA
    obtain ⟨g1, g2⟩ := am_Pnew hP hS hn (kd := 21) (f := fun _ => 0) (Or.inr (Or.inl rfl)) e1 z1 (fun q hq => o1 q (by rw [← hP.1]; exact hq))
    exact kk H1 locs g1 g2
  · have harr : (Cond.arrayClass (newarray.typeOf .int)) ∈ am_TB := am_in (by decide +kernel) rfl
    refine va_newaK (atype := .int) hx hb (hts _ harr) rfl hd rfl hx0 rfl (by show _ * 4 ≤ _; omega) hcells hslots hP.1 fun H1 cA e1 z1 o1 hAr hNm => ?_
    cases hk
    rw [← hP.1] at z1
    have hcA : cA = dA 20 := Option.some.inj (hNm.symm.trans (hK.2 0 _ rfl).2)
    subst hcA
    obtain ⟨g1, g2⟩ := am_Pnew hP hS hn (kd := 20) (f := fun _ => 0) (Or.inl rfl) e1 z1 (fun q hq => o1 q (by rw [← hP.1]; exact hq))
    exact kk H1 locs g1 g2
  · have harr : (Cond.arrayClass (newarray.typeOf .long)) ∈ am_TB := am_in (by decide +kernel) rfl
    refine va_newaK (atype := .long) hx hb (hts _ harr) rfl hd rfl hx0 rfl (by show _ * 8 ≤ _; omega) hcells hslots hP.1 fun H1 cA e1 z1 o1 hAr hNm => ?_
    cases hk
    rw [← hP.1] at z1
    have hcA : cA = dA 23 := Option.some.inj (hNm.symm.trans (hK.2 3 _ rfl).2)
    subst hcA
    have o2 : ∀ q : Nat, q < H.size → H1[q]? = H[q]? := fun q hq => o1 q (by rw [← hP.1]; exact hq)
    refine kk H1 locs (hP.new rfl hn (fun b hb => am_nw_old hb) ?_ z1 o2) (am_S_new hS z1 o2)
    rw [am_ce_j (h := am_nw h 23 x.toNatClampNeg (fun _ => 0)) (by rw [am_nwt])]
    rw [am_nwt, am_nw_J]
    exact e1
theorem am_hnwq (C0 : am_Cx X D dA B ad o cc nL p s m args c) (hP : am_P D dA B ad h H) (hS : va_S (fun q => B ≤ q) s.heap H locs) {idx kd : Nat} {x : Int32} (hk : kd = 24 ∨ kd = 25) (hl : am_clt.lookup (o, idx) = some (am_qc kd)) (hn : h.1 < 600000) (hx0 : ¬ x < 0) (hx1 : x.toNatClampNeg ≤ 1000000) (hcells : cells + 1 ≤ R.cells) (hslots : slots + x.toNatClampNeg ≤ R.slots) (hd : decode cc pc = .ok (.anewarray idx, 3))
    (kk : ∀ (H1 : Heap) (locs1 : List Loc), am_P D dA B ad (am_nw h kd x.toNatClampNeg (fun _ => 0)) H1 → va_S (fun q => B ≤ q) s.heap H1 locs1 → W p l e R s m args below meth c H1 locs1 (cells + 1) (slots + x.toNatClampNeg) Q (F0 m (pc + 3) ls (.ref (B + h.1) :: rest))) : W p l e R s m args below meth c H locs cells slots Q (F0 m pc ls (.int x :: rest)) := by
  obtain ⟨hx, hb, hml, hown, hts, hK, hC, had⟩ := C0
  obtain ⟨h13, hcl, hinst, hini⟩ := am_cl_ok hl
  have hover : (Cond.arrayOver (.object (am_R (am_qc kd)))).before args s = true := by
    rcases hk with rfl | rfl
    · exact va_AO.use hC.2.2.2.2.2.2.2.2.1.1
    · exact va_AO.use hC.2.2.2.2.2.2.2.2.1.2
  refine W.anew hx hb hown (hts _ hcl) hover rfl hd rfl hx0 (by omega) hcells hslots fun cA kA comp f1 f2 f3 f4 => ?_
  generalize hH1 : H.push ({ cls := cA, slots := Array.replicate x.toNatClampNeg .null, vm := .none } : Cell) = H1
  have z1 : H1.size = H.size + 1 := by rw [← hH1, Array.size_push]
  have e1 : H1[H.size]? = some (arrV cA x.toNatClampNeg (fun _ => .null)) := by rw [← hH1, Array.getElem?_push_size, ← arrV_new]
  have o1 : ∀ q : Nat, q < H.size → H1[q]? = H[q]? := fun q hq => by rw [← hH1, Array.getElem?_push, if_neg (Nat.ne_of_lt hq)]
  obtain ⟨kA', comp', k1, k2, k3, k4⟩ := (am_qty hK hk).2
  have hcA : cA = dA kd := Option.some.inj (f1.symm.trans k4)
  subst hcA
  rw [hP.1] at e1 ⊢
  refine kk H1 locs (hP.new rfl hn (fun b hb => am_nw_old hb) ?_ z1 o1) (am_S_new hS z1 o1)
  rw [am_ce_q (h := am_nw h kd x.toNatClampNeg (fun _ => 0)) (by rw [am_nwt]; exact hk), am_nwt, am_nw_F]
  exact e1
theorem am_hcpy (C0 : am_Cx X D dA B ad o cc nL p s m args c) (hP : am_P D dA B ad h H) (hS : va_S (fun q => B ≤ q) s.heap H locs) (hls : ls.size = nL) {idx a b : Nat} {n sp dp : Int32} (hl : Cond.methodLink (am_R o) idx arraycopyName ∈ am_TB) (ha : a < h.1) (hca : (h.2.2.1 a).1 = 20) (hb0 : b < h.1) (hcb : (h.2.2.1 b).1 = 20)
    (h1 : ¬ sp < 0) (h2 : ¬ dp < 0) (h3 : ¬ n < 0) (h4 : sp.toNatClampNeg + n.toNatClampNeg ≤ (h.2.2.1 a).2) (h5 : dp.toNatClampNeg + n.toNatClampNeg ≤ (h.2.2.1 b).2) (hframes : 1 ≤ R.frames) (hlocals : (rest.map fun v => v.category).sum + (nativeFrameWords "java/lang/System" "arraycopy" 5 + 11) ≤ R.locals) (hd : decode cc pc = .ok (.invokestatic idx, 3))
    (kk : ∀ (H1 : Heap) (locs1 : List Loc), am_P D dA B ad (h.1, h.2.1, h.2.2.1, am_ro h.2.2.2.1 b (va_cpy (h.2.2.2.1 a) (h.2.2.2.1 b) sp.toNatClampNeg dp.toNatClampNeg n.toNatClampNeg), h.2.2.2.2) H1 → va_S (fun q => B ≤ q) s.heap H1 locs1 → W p l e R s m args below meth c H1 locs1 cells slots Q (F0 m (pc + 3) ls rest)) : W p l e R s m args below meth c H locs cells slots Q (F0 m pc ls (.int n :: .int dp :: .ref (B + b) :: .int sp :: .ref (B + a) :: rest)) := by
  obtain ⟨hx, hb, hml, hown, hts, hK, hC, had⟩ := C0
  have nn : ∀ z : Int32, ¬ z < 0 → z.toInt = (z.toNatClampNeg : Int) := by
    intro z hz
    have hz0 : (0 : Int) ≤ z.toInt := by
      have := Int32.not_lt.mp hz
      simpa using Int32.le_iff_toInt_le.mp this
    show z.toInt = ((z.toInt.toNat : Nat) : Int)
    omega
  have hca0 := hP.2.2 a ha
  rw [am_ce_i hca (Or.inl rfl)] at hca0
  have hc0 : H[B + a]? = some (arrV (dA 20) (h.2.2.1 a).2 (fun j => .int (h.2.2.2.1 a j))) := hca0
  have hcb0 := hP.2.2 b hb0
  rw [am_ce_i hcb (Or.inl rfl)] at hcb0
  have hc1 : H[B + b]? = some (arrV (dA 20) (h.2.2.1 b).2 (fun j => .int (h.2.2.2.1 b j))) := hcb0
  intro T hT X
  obtain ⟨-, k0, hk0, cm0, hkk0⟩ := (hK.2 0 _ rfl).1 (h.2.2.1 a).2 (fun j => .int (h.2.2.2.1 a j))
  obtain ⟨-, k1, hk1, cm1, hkk1⟩ := (hK.2 0 _ rfl).1 (h.2.2.1 b).2 (fun j => .int (h.2.2.2.1 b j))
  have hnat : Cond.native arraycopyName ∈ am_TB := am_in (by decide +kernel) rfl
  have hstat : Cond.static arraycopyName ∈ am_TB := am_in (by decide +kernel) rfl
  have hini : Cond.initialized "java/lang/System" ∈ am_TB := am_in (by decide +kernel) rfl
  obtain ⟨vm', X', step⟩ := X.arraycopy hx hown (hts _ hl) (hts _ hnat) (hts _ hstat) (hts _ hini) (src := B + a) (dst := B + b) (cs := arrV (dA 20) (h.2.2.1 a).2 (fun j => .int (h.2.2.2.1 a j))) (cd := arrV (dA 20) (h.2.2.1 b).2 (fun j => .int (h.2.2.2.1 b j))) (srcPos := sp) (destPos := dp) (n := n) (by rw [hT]; exact hc0) (by rw [hT]; exact hc1)
    (fun _ h => by cases h) (fun _ h => by cases h) (fun h => by cases h) (fun h => by cases h) hk0 hk1 hkk0 hkk1 (by simp [refKind]) h1 h2 h3
    (by rw [nn sp h1, nn n h3, arrV_size]; omega)
    (by rw [nn dp h2, nn n h3, arrV_size]; omega)
    (fun vm₁ _ i hi => by
      have e : (arrV (dA 20) (h.2.2.1 a).2 (fun j => .int (h.2.2.2.1 a j))).slots.getD (sp.toNatClampNeg + i) .null = .int (h.2.2.2.1 a (sp.toNatClampNeg + i)) := by
        rw [Array.getD_eq_getD_getElem?, arrV_read _ _ (by omega)]
        rfl
      refine ⟨?_, ?_⟩
      · rw [e]
        rfl
      · rw [e]
        exact trivial)
    (g := F0 m pc ls (.int n :: .int dp :: .ref (B + b) :: .int sp :: .ref (B + a) :: rest)) rfl (by rw [hml]; exact hls) (rest := rest) rfl (by rw [hb]; exact hd) hframes (by show 2 * 0 + _ + _ ≤ _; omega)
  have e1 : copied (arrV (dA 20) (h.2.2.1 a).2 (fun j => .int (h.2.2.2.1 a j))) (arrV (dA 20) (h.2.2.1 b).2 (fun j => .int (h.2.2.2.1 b j))) sp dp n = arrV (dA 20) (h.2.2.1 b).2 (fun j => .int (va_cpy (h.2.2.2.1 a) (h.2.2.2.1 b) sp.toNatClampNeg dp.toNatClampNeg n.toNatClampNeg j)) := va_copied (fun z => .int z) (dA 20) (dA 20) (h.2.2.2.1 a) (h.2.2.2.1 b) h4
  rw [e1] at X' step
  have hl2 : B + b < H.size := (Array.getElem?_eq_some_iff.mp hc1).1
  generalize hnc : arrV (dA 20) (h.2.2.1 b).2 (fun j => .int (va_cpy (h.2.2.2.1 a) (h.2.2.2.1 b) sp.toNatClampNeg dp.toNatClampNeg n.toNatClampNeg j)) = nc at X' step
  have hheap : ((T.setVm vm').setCell (B + b) nc).heap = H.setIfInBounds (B + b) nc := by rw [← hT]; rfl
  have oq : ∀ q : Nat, q ≠ B + b → (H.setIfInBounds (B + b) nc)[q]? = H[q]? := fun q hq => by simp [Array.getElem?_setIfInBounds, Ne.symm hq]
  obtain ⟨t, a1, b1⟩ := kk (H.setIfInBounds (B + b) nc) _ (hP.upd (a := b) rfl (fun b' _ hne => am_ce_congr rfl (am_ro_ne hne) rfl rfl) (by
      rw [am_ce_i (h := (h.1, h.2.1, h.2.2.1, am_ro h.2.2.2.1 b (va_cpy (h.2.2.2.1 a) (h.2.2.2.1 b) sp.toNatClampNeg dp.toNatClampNeg n.toNatClampNeg), h.2.2.2.2)) hcb (Or.inl rfl)]
      show (H.setIfInBounds (B + b) nc)[B + b]? = some (arrV (dA 20) (h.2.2.1 b).2 (fun j => .int (am_ro h.2.2.2.1 b (va_cpy (h.2.2.2.1 a) (h.2.2.2.1 b) sp.toNatClampNeg dp.toNatClampNeg n.toNatClampNeg) b j)))
      rw [am_ro_eq, hnc]
      simp [Array.getElem?_setIfInBounds, hl2]) (by simp) oq) ⟨by simp; exact hS.1, fun q g1 g2 => by
      rw [oq q (fun e => g2 (by rw [e]; exact Nat.le_add_right B b))]
      exact hS.2.1 q g1 g2, fun q hq => by
      rcases List.mem_append.mp hq with h | h
      · exact hS.2.2 q h
      · obtain ⟨z, -, hz⟩ := List.mem_map.mp h
        rw [← hz]
        exact Nat.le_add_right B b⟩ _ hheap X'
  exact ⟨t, step t a1, b1⟩
theorem am_hcln (C0 : am_Cx X D dA B ad o cc nL p s m args c) (hP : am_P D dA B ad h H) (hS : va_S (fun q => B ≤ q) s.heap H locs) (hls : ls.size = nL) {idx a : Nat} (hl : Cond.methodLink (am_R o) idx ⟨"[I", "clone", "()Ljava/lang/Object;"⟩ ∈ am_TB) (ha : a < h.1) (hca : (h.2.2.1 a).1 = 20) (hn : h.1 < 600000)
    (hframes : 1 ≤ R.frames) (hlocals : (rest.map fun v => v.category).sum + 14 ≤ R.locals) (hcells : cells + 1 ≤ R.cells) (hslots : slots + (h.2.2.1 a).2 ≤ R.slots) (hd : decode cc pc = .ok (.invokevirtual idx, 3))
    (kk : ∀ (H1 : Heap) (locs1 : List Loc), am_P D dA B ad (am_nw h 20 (h.2.2.1 a).2 (h.2.2.2.1 a)) H1 → va_S (fun q => B ≤ q) s.heap H1 locs1 → W p l e R s m args below meth c H1 locs1 (cells + 1) (slots + (h.2.2.1 a).2) Q (F0 m (pc + 3) ls (.ref (B + h.1) :: rest))) : W p l e R s m args below meth c H locs cells slots Q (F0 m pc ls (.ref (B + a) :: rest)) := by
  obtain ⟨hx, hb, hml, hown, hts, hK, hC, had⟩ := C0
  have hca0 := hP.2.2 a ha
  rw [am_ce_i hca (Or.inl rfl)] at hca0
  generalize hcell : arrV (dA 20) (h.2.2.1 a).2 (fun j => .int (h.2.2.2.1 a j)) = cell
  have hc0 : H[B + a]? = some cell := by rw [← hcell]; exact hca0
  have hsz : cell.slots.size = (h.2.2.1 a).2 := by rw [← hcell]; exact arrV_size _ _ _
  have hvm0 : cell.vm = .none := by rw [← hcell]; rfl
  have hcl0 : cell.cls = dA 20 := by rw [← hcell]; rfl
  have hcellE : ({ cls := cell.cls, slots := cell.slots } : Cell) = cell := by rw [← hcell]; rfl
  have hnm : s.vm.findClass "[I" = some (dA 20) := (hK.2 0 _ rfl).2
  have hsame : Cond.sameMethod "[I" "java/lang/Object" "clone" "()Ljava/lang/Object;" ∈ am_TB := am_in (by decide +kernel) rfl
  have hnat : Cond.native ⟨"java/lang/Object", "clone", "()Ljava/lang/Object;"⟩ ∈ am_TB := am_in (by decide +kernel) rfl
  have hinst : Cond.instanceMethod ⟨"java/lang/Object", "clone", "()Ljava/lang/Object;"⟩ ∈ am_TB := am_in (by decide +kernel) rfl
  have hsel : Cond.selects "[I" ⟨"[I", "clone", "()Ljava/lang/Object;"⟩ ⟨"java/lang/Object", "clone", "()Ljava/lang/Object;"⟩ ∈ am_TB := am_in (by decide +kernel) rfl
  obtain ⟨c0, t0', f1, f2, f3⟩ := Cond.castable_spec (va_Nw.use (A := args) rfl hC.2.2.2.1)
  cases hnm.symm.trans f1
  intro T hT X
  have hcellT : T.heap[B + a]? = some cell := by rw [hT]; exact hc0
  obtain ⟨-, kA, hkA, comp, hkind⟩ := State.isArrayOf_alike X.warmed.alike ((hK.2 0 _ rfl).1 0 (fun _ => .null))
  obtain ⟨-, kS, hkS, compS, hkindS⟩ := (hK.2 0 _ rfl).1 0 (fun _ => .null)
  obtain ⟨vm', X', st⟩ := X.cloneArray hx hown (hts _ hl) (hts _ hsame) (hts _ hnat) (hts _ hinst) (hts _ hsel) (a := B + a) (cell := cell) hcellT (fun k h => by rw [hvm0] at h; cases h) (by rw [hvm0]; exact fun h => by cases h) (by rw [hcl0]; exact hnm) f2 (by rw [hcl0]; exact f3)
    (fun i v hv => by
      rw [hcl0]
      have hk' : T.vm.classes[dA 20]? = some kA := hkA
      have hfit : fits .int v = true := by
        rw [← hcell] at hv
        by_cases hi : i < (h.2.2.1 a).2
        · rw [arrV_read _ _ hi] at hv
          cases hv
          rfl
        · have := (Array.getElem?_eq_some_iff.mp hv).1
          rw [arrV_size] at this
          exact absurd this hi
      simpa [State.fitsSlot, State.slotType?, hk', hkind] using hfit)
    (g := F0 m pc ls (.ref (B + a) :: rest)) rfl (by rw [hml]; exact hls) rfl (by rw [hb]; exact hd) hframes (by show 2 * 0 + _ + 14 ≤ _; omega) hcells (by rw [hsz]; exact hslots) (hloader := by rw [hcl0]; exact Vm.clonesLoader_of_array hkS hkindS)
  rw [hcellE, hsz] at X'
  generalize hH1 : H.push cell = H1
  have z1 : H1.size = H.size + 1 := by rw [← hH1, Array.size_push]
  have e1 : H1[B + h.1]? = some cell := by rw [← hH1, ← hP.1, Array.getElem?_push_size]
  have o1 : ∀ q : Nat, q < H.size → H1[q]? = H[q]? := fun q hq => by rw [← hH1, Array.getElem?_push, if_neg (Nat.ne_of_lt hq)]
  obtain ⟨g1, g2⟩ := am_Pnew hP hS hn (kd := 20) (f := h.2.2.2.1 a) (Or.inl rfl) (by rw [hcell]; exact e1) z1 o1
  obtain ⟨t, b1, b2⟩ := kk H1 locs g1 g2 ((T.setVm vm').pushCell cell) (by rw [← hH1, ← hT]; rfl) X'
  refine ⟨t, st t ?_, b2⟩
  rw [hcellE, hT, hP.1]
  exact b1
end AMI
