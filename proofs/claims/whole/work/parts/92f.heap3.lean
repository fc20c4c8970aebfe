/-! what touches cells: all of am_opH -/
theorem am_sz_map (ad : Nat → Nat) (st : List Value) : ((st.map (am_cv ad)).map fun v => v.category).sum = am_sz st := by
  unfold am_sz
  rw [List.map_map]
  congr 1
  apply List.map_congr_left
  intro v _
  exact am_cv_cat ad v
def am_stP (e : (Nat × Nat) × Nat) : Prop := e.1.1 = 7 ∧ e.1.2 = am_sidx e.2 ∧ e.2 < 19
theorem am_st_all : ∀ e ∈ am_stt, e.1.1 = 7 ∧ e.1.2 = am_sidx e.2 ∧ e.2 < 19 := by decide +kernel
theorem am_st_ok {o idx j : Nat} (h : am_stt.lookup (o, idx) = some j) : o = 7 ∧ idx = am_sidx j ∧ j < 19 := am_st_all _ (am_lk h)
def am_saP (e : (Nat × Nat) × Nat) : Prop := e.2 < 5 ∧ 1 ≤ e.2 ∧ Cond.fieldLink (am_R e.1.1) e.1.2 (am_sC e.2) (am_sN e.2) "[I" ∈ am_TB
theorem am_sa_all : ∀ e ∈ am_sat, am_saP e :=
  List.forall_mem_cons.mpr ⟨⟨by decide, by decide, am_in (List.mem_of_getElem? (i := 349) (by decide +kernel)) rfl⟩, List.forall_mem_cons.mpr ⟨⟨by decide, by decide, am_in (List.mem_of_getElem? (i := 422) (by decide +kernel)) rfl⟩, List.forall_mem_cons.mpr ⟨⟨by decide, by decide, am_in (List.mem_of_getElem? (i := 424) (by decide +kernel)) rfl⟩, List.forall_mem_cons.mpr ⟨⟨by decide, by decide, am_in (List.mem_of_getElem? (i := 818) (by decide +kernel)) rfl⟩, fun _ h => absurd h List.not_mem_nil⟩⟩⟩⟩
theorem am_sa_ok {o idx j : Nat} (h : am_sat.lookup (o, idx) = some j) : j < 5 ∧ 1 ≤ j ∧ Cond.fieldLink (am_R o) idx (am_sC j) (am_sN j) "[I" ∈ am_TB := am_sa_all _ (am_lk h)
theorem am_nw_1 (h : am_H) (kd len : Nat) (f : Nat → Int32) : (am_nw h kd len f).1 - h.1 = 1 := by show h.1 + 1 - h.1 = 1; omega
theorem am_nw_2 (h : am_H) (kd len : Nat) (f : Nat → Int32) : (am_nw h kd len f).2.1 - h.2.1 = len := by show h.2.1 + len - h.2.1 = len; omega
theorem am_k5 (a : Nat) (h1 : am_K0 ≤ a) (h2 : a < am_K0 + 5) : a - am_K0 < 5 := by omega
theorem am_ka (a : Nat) (h1 : am_K0 ≤ a) : am_K0 + (a - am_K0) = a := by omega
theorem am_k19 (a : Nat) (h1 : am_K0 + 10 ≤ a) (h2 : a < am_K0 + 10 + 19) : a - (am_K0 + 10) < 19 := by omega
theorem am_kb (a : Nat) (h1 : am_K0 + 10 ≤ a) : am_K0 + 10 + (a - (am_K0 + 10)) = a := by omega
section AMJ
variable {p : Program} {l : Launch} {e : Env} {R : Room} {s : State} {m : MethodId} {args : Array Value} {below : List Frame} {meth : Method} {c : Code} {H : Heap} {locs : List Loc} {cells slots : Nat} {Q : State → Prop}
variable {cc : ByteArray} {pc : Nat} {ls : Array Slot} {rest : List Value} {X : am_X} {D : va_G} {dA : Nat → ClassId} {B : Nat} {ad : Nat → Nat} {o nL : Nat} {h : am_H}
set_option maxRecDepth 20000 in
theorem am_hsln (C0 : am_Cx X D dA B ad o cc nL p s m args c) (hS : va_S (fun q => B ≤ q) s.heap H locs) (hls : ls.size = nL) {idx j : Nat} (hj : j < 19) (hl : Cond.methodLink (am_R o) idx ⟨"java/lang/String", "length", "()I"⟩ ∈ am_TB) (hsz : (rest.map fun v => v.category).sum ≤ 8) (hframes : 5 ≤ R.frames) (hlocals : 200 ≤ R.locals) (hcells : cells ≤ R.cells) (hslots : slots ≤ R.slots) (hd : decode cc pc = .ok (.invokevirtual idx, 3))
    (kk : ∀ (H1 : Heap) (locs1 : List Loc), H1 = H → va_S (fun q => B ≤ q) s.heap H1 locs1 → W p l e R s m args below meth c H1 locs1 cells slots Q (F0 m (pc + 3) ls (.int (Int32.ofNat (am_tx j).length) :: rest))) : W p l e R s m args below meth c H locs cells slots Q (F0 m pc ls (.ref (ad (am_K0 + 10 + j)) :: rest)) := by
  obtain ⟨hx, hb, hml, hown, hts, hK, hC, had⟩ := id C0
  obtain ⟨v, hV⟩ := hC.2.2.2.2.2.1 j hj
  have h1 : Cond.instanceMethod ⟨"java/lang/String", "length", "()I"⟩ ∈ am_TB := am_in (by decide +kernel) rfl
  have h2 : Cond.selects "java/lang/String" ⟨"java/lang/String", "length", "()I"⟩ ⟨"java/lang/String", "length", "()I"⟩ ∈ am_TB := am_in (by decide +kernel) rfl
  have h3 : Cond.initialized "java/lang/String" ∈ am_TB := am_in (by decide +kernel) rfl
  refine am_contS (va_runV (As := []) (C := "java/lang/String") (rest := rest) ⟨hx, hb, hml, hown, hts⟩ (am_slenS l X B ad hj) (cwV 0 hts (am_good (fun w hw => ?_)) rfl rfl rfl (by decide +kernel) ⟨by show 1 + 1 ≤ _; omega, by show 8 + (1 + 11) + 20 ≤ _; omega⟩) ⟨am_Ps_blind _ _ _ _, vk_recv (i := 0) hV (by decide) hS, am_preS hC hS _⟩ rfl rfl hls rfl (by show 2 * 0 + _ ≤ 8; omega) hd ⟨hcells, hslots⟩) (kk H locs rfl hS)
  rcases List.mem_append.mp hw with hw | hw
  · simp only [List.mem_cons, List.not_mem_nil, or_false] at hw
    rcases hw with rfl | rfl | rfl | rfl
    · exact hl
    · exact h1
    · exact h2
    · exact h3
  · rcases List.mem_cons.mp hw with rfl | hw
    · exact am_in (List.mem_of_getElem? (i := 498) rfl) rfl
    · exact hw
set_option maxRecDepth 20000 in
theorem am_hsch (C0 : am_Cx X D dA B ad o cc nL p s m args c) (hS : va_S (fun q => B ≤ q) s.heap H locs) (hls : ls.size = nL) {idx j : Nat} {i : Int32} (hj : j < 19) (hi : ¬ (i < 0 ∨ (am_tx j).length ≤ i.toNatClampNeg)) (hl : Cond.methodLink (am_R o) idx ⟨"java/lang/String", "charAt", "(I)C"⟩ ∈ am_TB) (hsz : (rest.map fun v => v.category).sum ≤ 8) (hframes : 5 ≤ R.frames) (hlocals : 200 ≤ R.locals) (hcells : cells ≤ R.cells) (hslots : slots ≤ R.slots) (hd : decode cc pc = .ok (.invokevirtual idx, 3))
    (kk : ∀ (H1 : Heap) (locs1 : List Loc), H1 = H → va_S (fun q => B ≤ q) s.heap H1 locs1 → W p l e R s m args below meth c H1 locs1 cells slots Q (F0 m (pc + 3) ls (.int (Int32.ofNat ((am_tx j).getD i.toNatClampNeg 0)) :: rest))) : W p l e R s m args below meth c H locs cells slots Q (F0 m pc ls (.int i :: .ref (ad (am_K0 + 10 + j)) :: rest)) := by
  obtain ⟨hx, hb, hml, hown, hts, hK, hC, had⟩ := id C0
  obtain ⟨v, hV⟩ := hC.2.2.2.2.2.1 j hj
  have h1 : Cond.instanceMethod ⟨"java/lang/String", "charAt", "(I)C"⟩ ∈ am_TB := am_in (by decide +kernel) rfl
  have h2 : Cond.selects "java/lang/String" ⟨"java/lang/String", "charAt", "(I)C"⟩ ⟨"java/lang/String", "charAt", "(I)C"⟩ ∈ am_TB := am_in (by decide +kernel) rfl
  have h3 : Cond.initialized "java/lang/String" ∈ am_TB := am_in (by decide +kernel) rfl
  refine am_contS (va_runV (As := [.int i]) (C := "java/lang/String") (rest := rest) ⟨hx, hb, hml, hown, hts⟩ (am_sch l X B ad hj hi) (cwV 1 hts (am_good (fun w hw => ?_)) rfl rfl rfl (by decide +kernel) ⟨by show 3 + 1 ≤ _; omega, by show 8 + (2 + 11) + 64 ≤ _; omega⟩) ⟨am_Ps_blind _ _ _ _, vk_recv (i := 0) hV (by decide) hS, am_preS hC hS _⟩ rfl rfl hls rfl (by show 2 * 0 + _ ≤ 8; omega) hd ⟨hcells, hslots⟩) (kk H locs rfl hS)
  rcases List.mem_append.mp hw with hw | hw
  · simp only [List.mem_cons, List.not_mem_nil, or_false] at hw
    rcases hw with rfl | rfl | rfl | rfl
    · exact hl
    · exact h1
    · exact h2
    · exact h3
  · rcases List.mem_cons.mp hw with rfl | hw
    · exact am_in (List.mem_of_getElem? (i := 508) rfl) rfl
    · exact hw
set_option maxHeartbeats 4000000 in
set_option maxRecDepth 100000 in
theorem am_simH (C0 : am_Cx X D dA B ad o cc nL p s m args c) {ini : Bool} (hini : ini = true → meth.name = "<init>") {i : Instr} {len pc' : Nat} {st st' : List Value} {h' : am_H} (hop : am_opH X o ini i len pc st h = some (pc', st', h')) (hd : decode cc pc = .ok (i, len)) (hP : am_P D dA B ad h H) (hS : va_S (fun q => B ≤ q) s.heap H locs) (hls : ls.size = nL)
    (hRc : cells + (h'.1 - h.1) ≤ R.cells) (hRs : slots + (h'.2.1 - h.2.1) ≤ R.slots) (hRf : 5 ≤ R.frames) (hRl : 200 ≤ R.locals)
    (K : ∀ (H1 : Heap) (locs1 : List Loc), am_P D dA B ad h' H1 → va_S (fun q => B ≤ q) s.heap H1 locs1 → W p l e R s m args below meth c H1 locs1 (cells + (h'.1 - h.1)) (slots + (h'.2.1 - h.2.1)) Q (F0 m pc' ls (st'.map (am_cv ad)))) : W p l e R s m args below meth c H locs cells slots Q (F0 m pc ls (st.map (am_cv ad))) := by
  obtain ⟨hx, hb, hml, hown, hts, hK, hC, had⟩ := id C0
  have hn0 : h.1 ≤ 600000 := hP.2.1
  have hA : ∀ a, a < h.1 → am_cv ad (.ref a) = .ref (B + a) := fun a ha => congrArg Value.ref (had a (Nat.lt_of_lt_of_le ha (Nat.le_trans hn0 (by decide))))
  have hcl : cells ≤ R.cells := by omega
  have hsl : slots ≤ R.slots := by omega
  cases i <;> simp only [am_opH] at hop <;> try (cases hop; done)
  case aaload =>
    split at hop
    · split at hop
      · rename_i hc
        cases hop
        have K := K H locs hP hS
        simp only [Nat.sub_self, Nat.add_zero] at K
        rw [List.map_cons, am_cv_rf] at K
        simp only [List.map_cons]
        rw [hA _ hc.1]
        exact am_hqld C0 hP hc.1 hc.2.1 hc.2.2 hd K
      · cases hop
    · cases hop
  case aastore =>
    split at hop
    · split at hop
      · rename_i hc
        cases hop
        simp only [Nat.sub_self, Nat.add_zero] at K
        simp only [List.map_cons]
        rw [hA _ hc.1, hA _ hc.2.1]
        refine am_hqst C0 hP hS hc.1 hc.2.1 ?_ ?_ hc.2.2.2 hd K
        · rcases hc.2.2.1 with q | q
          · exact Or.inl q.1
          · exact Or.inr q.1
        · rcases hc.2.2.1 with q | q
          · rw [q.1, q.2]; rfl
          · rw [q.1, q.2]; rfl
      · cases hop
    · split at hop
      · rename_i hc
        cases hop
        simp only [Nat.sub_self, Nat.add_zero] at K
        simp only [List.map_cons]
        rw [hA _ hc.1]
        exact am_hqsn C0 hP hS hc.1 hc.2.1 hc.2.2 hd K
      · cases hop
    · cases hop
  case anewarray =>
    split at hop
    · rename_i hl
      split at hop
      · rename_i hc
        cases hop
        rw [am_nw_1] at hRc K
        rw [am_nw_2] at hRs K
        simp only [List.map_cons] at K ⊢
        have e9 : am_cv ad (.ref h.1) = .ref (B + h.1) := congrArg Value.ref (had _ (Nat.lt_of_lt_of_le hc.1 (by decide)))
        rw [e9] at K
        exact am_hnwq C0 hP hS (kd := 24) (Or.inl rfl) hl hc.1 hc.2.1 hc.2.2 hRc hRs hd K
      · cases hop
    · rename_i hl
      split at hop
      · rename_i hc
        cases hop
        rw [am_nw_1] at hRc K
        rw [am_nw_2] at hRs K
        simp only [List.map_cons] at K ⊢
        have e9 : am_cv ad (.ref h.1) = .ref (B + h.1) := congrArg Value.ref (had _ (Nat.lt_of_lt_of_le hc.1 (by decide)))
        rw [e9] at K
        exact am_hnwq C0 hP hS (kd := 25) (Or.inr rfl) hl hc.1 hc.2.1 hc.2.2 hRc hRs hd K
      · cases hop
    · cases hop
  case arraylength =>
    split at hop
    · split at hop
      · rename_i hc
        cases hop
        have K := K H locs hP hS
        simp only [Nat.sub_self, Nat.add_zero] at K
        simp only [List.map_cons] at K ⊢
        rw [hA _ hc.1]
        exact am_hlen C0 hP hc.1 hc.2.1 hc.2.2 hd K
      · split at hop
        · rename_i a _ _ hc
          cases hop
          have K := K H locs hP hS
          simp only [Nat.sub_self, Nat.add_zero] at K
          have hj := am_k5 a hc.1 hc.2
          have ha := am_ka a hc.1
          have g1 := hC.1 _ hj
          rw [ha] at g1
          exact va_tlen hx hb g1 hS rfl hd K
        · cases hop
    · cases hop
  case baload =>
    split at hop
    · split at hop
      · rename_i hc
        cases hop
        have K := K H locs hP hS
        simp only [Nat.sub_self, Nat.add_zero] at K
        simp only [List.map_cons] at K ⊢
        rw [hA _ hc.1]
        exact am_hbld C0 hP hc.1 hc.2.1 hc.2.2 hd K
      · cases hop
    · cases hop
  case bastore =>
    split at hop
    · split at hop
      · rename_i hc
        cases hop
        simp only [Nat.sub_self, Nat.add_zero] at K
        simp only [List.map_cons]
        rw [hA _ hc.1]
        exact am_hbst C0 hP hS hc.1 hc.2.1 hc.2.2 hd K
      · split at hop
        · rename_i hc
          cases hop
          simp only [Nat.sub_self, Nat.add_zero] at K
          simp only [List.map_cons]
          rw [hA _ hc.1]
          exact am_hzst C0 hP hS hc.1 hc.2.1 hc.2.2 hd K
        · cases hop
    · cases hop
  case checkcast =>
    split at hop
    · split at hop
      · rename_i hc
        cases hop
        obtain ⟨rfl, rfl, ha, hk⟩ := hc
        have K := K H locs hP hS
        simp only [Nat.sub_self, Nat.add_zero] at K
        simp only [List.map_cons] at K ⊢
        rw [hA _ ha] at K ⊢
        have hlink : Cond.classLink (am_R 16) 317 "[I" ∈ am_TB := am_in (List.mem_of_getElem? (i := 620) (by decide +kernel)) rfl
        exact va_castA hx hb hown (hts _ hlink) (hP.one ha (am_ce_i hk (Or.inl rfl))) 0 rfl (hK.2 0 _ rfl).2 hd K
      · cases hop
    · cases hop
  case getfield =>
    split at hop
    · rename_i a r ci k hl
      split at hop
      · rename_i hc
        cases hop
        have K := K H locs hP hS
        simp only [Nat.sub_self, Nat.add_zero] at K
        simp only [List.map_cons] at K ⊢
        rw [am_cv_rd] at K
        rw [hA _ hc.1]
        exact am_hget C0 hP hc.1 hc.2 hl hd K
      · cases hop
    · cases hop
  case getstatic =>
    split at hop
    · rename_i j hl
      cases hop
      have K := K H locs hP hS
      simp only [Nat.sub_self, Nat.add_zero] at K
      obtain ⟨g1, g2, g3⟩ := am_sa_ok hl
      exact va_gets hx hb (hC.2.1 j g1 g2) hS hown (hts _ g3) (fun _ h9 => h9) hd K
    · cases hop
  case iaload =>
    split at hop
    · split at hop
      · rename_i hc
        cases hop
        have K := K H locs hP hS
        simp only [Nat.sub_self, Nat.add_zero] at K
        simp only [List.map_cons] at K ⊢
        rw [hA _ hc.1]
        exact am_hild C0 hP hc.1 hc.2.1 hc.2.2 hd K
      · split at hop
        · rename_i i a _ _ hc
          cases hop
          have K := K H locs hP hS
          simp only [Nat.sub_self, Nat.add_zero] at K
          have hj := am_k5 a hc.1 hc.2.1
          have ha := am_ka a hc.1
          have g1 := hC.1 _ hj
          rw [ha] at g1
          exact va_ti hx hb g1 hS hc.2.2 rfl hd K
        · cases hop
    · cases hop
  case iastore =>
    split at hop
    · split at hop
      · rename_i hc
        cases hop
        simp only [Nat.sub_self, Nat.add_zero] at K
        simp only [List.map_cons]
        rw [hA _ hc.1]
        exact am_hist C0 hP hS hc.1 hc.2.1 hc.2.2 hd K
      · cases hop
    · cases hop
  case invokespecial =>
    split at hop
    · rename_i a r m9 hl
      split at hop
      · rename_i hc
        cases hop
        have K := K H locs hP hS
        simp only [Nat.sub_self, Nat.add_zero] at K
        have hlink : Cond.methodLink (am_R o) _ Lib.objectInit ∈ am_TB := am_ml_ok hl
        have hins : Cond.instanceMethod Lib.objectInit ∈ am_TB := am_in (by decide +kernel) rfl
        have hcode : Cond.code Lib.objectInit ⟨#[0xb1]⟩ 1 none ∈ am_TB := am_in (List.mem_of_getElem? (i := 29) rfl) rfl
        exact W.objInit hx hb hown (hts _ hlink) (hts _ hins) (hts _ hcode) rfl (hls.trans hml.symm) rfl hd (by omega) (by show 2 * 0 + (List.map _ (List.map _ _)).sum + 12 ≤ _; rw [am_sz_map]; omega) K
      · cases hop
    · cases hop
  case invokestatic =>
    split at hop
    · rename_i n dp b sp a r m9 hl
      split at hop
      · rename_i hc
        obtain ⟨q0, q1, q2, q3, q4, q5, q6, q7, q8, q9⟩ := hc
        cases hop
        simp only [Nat.sub_self, Nat.add_zero] at K
        simp only [List.map_cons]
        rw [hA _ q1, hA _ q3]
        exact am_hcpy C0 hP hS hls (am_ml_ok hl) q1 q2 q3 q4 q5 q6 q7 q8 q9 (by omega) (by have hw : nativeFrameWords "java/lang/System" "arraycopy" 5 ≤ 100 := (by decide +kernel); rw [am_sz_map]; omega) hd K
      · cases hop
    · rename_i y x r m9 hl
      split at hop
      · rename_i hc
        cases hop
        have K := K H locs hP hS
        simp only [Nat.sub_self, Nat.add_zero] at K
        have h1 : Cond.static Lib.Math.min.name ∈ am_TB := am_in (List.mem_of_getElem? (i := 476) (by decide +kernel)) rfl
        have h2 : Cond.initialized "java/lang/Math" ∈ am_TB := am_in (by decide +kernel) rfl
        have h3 : Cond.code Lib.Math.min.name Lib.Math.min.code 2 (some .int) ∈ am_TB := am_in (List.mem_of_getElem? (i := 477) (by decide +kernel)) rfl
        exact va_mmin hx hb (hml.trans hls.symm) hown (hts _ (am_ml_ok hl)) (hts _ h1) (hts _ h2) (hts _ h3) (by omega) (by rw [am_sz_map]; omega) hcl hsl hd K
      · cases hop
    · rename_i y x r m9 hl
      split at hop
      · rename_i hc
        cases hop
        have K := K H locs hP hS
        simp only [Nat.sub_self, Nat.add_zero] at K
        have h1 : Cond.static Lib.Math.max.name ∈ am_TB := am_in (List.mem_of_getElem? (i := 736) (by decide +kernel)) rfl
        have h2 : Cond.initialized "java/lang/Math" ∈ am_TB := am_in (by decide +kernel) rfl
        have h3 : Cond.code Lib.Math.max.name Lib.Math.max.code 2 (some .int) ∈ am_TB := am_in (List.mem_of_getElem? (i := 737) (by decide +kernel)) rfl
        exact va_mmax hx hb (hml.trans hls.symm) hown (hts _ (am_ml_ok hl)) (hts _ h1) (hts _ h2) (hts _ h3) (by omega) (by rw [am_sz_map]; omega) hcl hsl hd K
      · cases hop
    · rename_i x r m9 hl
      split at hop
      · rename_i hc
        cases hop
        have K := K H locs hP hS
        simp only [Nat.sub_self, Nat.add_zero] at K
        have h1 : Cond.static Lib.Math.abs.name ∈ am_TB := am_in (List.mem_of_getElem? (i := 821) (by decide +kernel)) rfl
        have h2 : Cond.initialized "java/lang/Math" ∈ am_TB := am_in (by decide +kernel) rfl
        have h3 : Cond.code Lib.Math.abs.name Lib.Math.abs.code 1 (some .int) ∈ am_TB := am_in (List.mem_of_getElem? (i := 822) (by decide +kernel)) rfl
        exact va_mabs hx hb (hml.trans hls.symm) hown (hts _ (am_ml_ok hl)) (hts _ h1) (hts _ h2) (hts _ h3) (by omega) (by rw [am_sz_map]; omega) hcl hsl hd K
      · cases hop
    · cases hop
  case invokevirtual =>
    split at hop
    · rename_i a r m9 hl
      split at hop
      · rename_i hc
        obtain ⟨q0, q1, q2, q3⟩ := hc
        cases hop
        rw [am_nw_1] at hRc K
        rw [am_nw_2] at hRs K
        simp only [List.map_cons] at K ⊢
        have e9 : am_cv ad (.ref h.1) = .ref (B + h.1) := congrArg Value.ref (had _ (Nat.lt_of_lt_of_le q1 (by decide)))
        rw [e9] at K
        rw [hA _ q2]
        exact am_hcln C0 hP hS hls (am_ml_ok hl) q2 q3 q1 (by omega) (by rw [am_sz_map]; omega) hRc hRs hd K
      · cases hop
    · rename_i a r m9 hl
      split at hop
      · rename_i hc
        obtain ⟨q0, q1, q2⟩ := hc
        cases hop
        simp only [Nat.sub_self, Nat.add_zero] at K
        simp only [List.map_cons] at K ⊢
        have hj := am_k19 a q1 q2
        have ha := am_kb a q1
        show W p l e R s m args below meth c H locs cells slots Q (F0 m pc ls (.ref (ad a) :: r.map (am_cv ad)))
        have key := am_hsln (rest := r.map (am_cv ad)) C0 hS hls hj (am_ml_ok hl) (by rw [am_sz_map]; exact q0) hRf hRl hcl hsl hd (fun H1 locs1 e1 hS1 => K H1 locs1 (by rw [e1]; exact hP) hS1)
        rw [ha] at key
        exact key
      · cases hop
    · rename_i i a r m9 hl
      split at hop
      · rename_i hc
        obtain ⟨q0, q1, q2, q3⟩ := hc
        cases hop
        simp only [Nat.sub_self, Nat.add_zero] at K
        simp only [List.map_cons] at K ⊢
        have hj := am_k19 a q1 q2
        have ha := am_kb a q1
        show W p l e R s m args below meth c H locs cells slots Q (F0 m pc ls (.int i :: .ref (ad a) :: r.map (am_cv ad)))
        have key := am_hsch (rest := r.map (am_cv ad)) C0 hS hls hj q3 (am_ml_ok hl) (by rw [am_sz_map]; exact q0) hRf hRl hcl hsl hd (fun H1 locs1 e1 hS1 => K H1 locs1 (by rw [e1]; exact hP) hS1)
        rw [ha] at key
        exact key
      · cases hop
    · cases hop
  case laload =>
    split at hop
    · split at hop
      · rename_i hc
        cases hop
        have K := K H locs hP hS
        simp only [Nat.sub_self, Nat.add_zero] at K
        simp only [List.map_cons] at K ⊢
        rw [hA _ hc.1]
        exact am_hlld C0 hP hc.1 hc.2.1 hc.2.2 hd K
      · cases hop
    · cases hop
  case lastore =>
    split at hop
    · split at hop
      · rename_i hc
        cases hop
        simp only [Nat.sub_self, Nat.add_zero] at K
        simp only [List.map_cons]
        rw [hA _ hc.1]
        exact am_hlst C0 hP hS hc.1 hc.2.1 hc.2.2 hd K
      · cases hop
    · cases hop
  case ldc =>
    split at hop
    · rename_i v hl
      cases hop
      have K := K H locs hP hS
      simp only [Nat.sub_self, Nat.add_zero] at K
      exact lv_ldc hx hb hown (hts _ (am_co_ok hl)) hd K
    · split at hop
      · rename_i j hl
        cases hop
        have K := K H locs hP hS
        simp only [Nat.sub_self, Nat.add_zero] at K
        obtain ⟨rfl, rfl, hj⟩ := am_st_ok hl
        exact va_ldcS hx hb hown (hC.2.2.2.2.1 j hj) hd K
      · cases hop
    · cases hop
  case ldc2_w =>
    split at hop
    · rename_i v hl
      cases hop
      have K := K H locs hP hS
      simp only [Nat.sub_self, Nat.add_zero] at K
      exact lv_ldc2 hx hb hown (hts _ (am_cj_ok hl)) hd K
    · cases hop
  case ldc_w =>
    split at hop
    · rename_i v hl
      cases hop
      have K := K H locs hP hS
      simp only [Nat.sub_self, Nat.add_zero] at K
      exact lv_ldcw hx hb hown (hts _ (am_co_ok hl)) hd K
    · cases hop
  case new =>
    split at hop
    · rename_i ci hl
      split at hop
      · rename_i hc
        cases hop
        rw [am_nw_1] at hRc K
        rw [am_nw_2] at hRs K
        simp only [List.map_cons] at K ⊢
        have e9 : am_cv ad (.ref h.1) = .ref (B + h.1) := congrArg Value.ref (had _ (Nat.lt_of_lt_of_le hc (by decide)))
        rw [e9] at K
        exact am_hnew C0 hP hS hl hc hRc hRs hd K
      · cases hop
    · cases hop
  case newarray =>
    split at hop
    · rename_i x r kd hl
      split at hop
      · rename_i hc
        cases hop
        rw [am_nw_1] at hRc K
        rw [am_nw_2] at hRs K
        simp only [List.map_cons] at K ⊢
        have e9 : am_cv ad (.ref h.1) = .ref (B + h.1) := congrArg Value.ref (had _ (Nat.lt_of_lt_of_le hc.1 (by decide)))
        rw [e9] at K
        exact am_hnwa C0 hP hS hl hc.1 hc.2.1 hc.2.2 hRc hRs hd K
      · cases hop
    · cases hop
  case putfield =>
    split at hop
    · rename_i v a r ci k hl
      split at hop
      · rename_i hc
        split at hop
        · rename_i h2 hw
          cases hop
          obtain ⟨w1, w2, -⟩ := am_wr_ok (ad := ad) hw (am_tok_ok ci (am_fl_ok hl).1 k (am_fl_ok hl).2.1)
          rw [w1, w2] at K
          simp only [Nat.sub_self, Nat.add_zero] at K
          simp only [List.map_cons]
          rw [hA _ hc.1]
          refine am_hput C0 hP hS hc.1 hc.2.1 hl hw ?_ hd K
          rcases hc.2.2 with q | q
          · exact Or.inl q
          · exact Or.inr ⟨hini q.1, q.2⟩
        · cases hop
      · cases hop
    · cases hop
end AMJ
