/-! TEXT CONSTANTS: length and charAt of the library -/
theorem am_good {ws : List Cond} (h : ∀ w ∈ ws, w ∈ am_TB) : GoodIn am_TB ws := fun w hw => ⟨h w hw, good_of_word (List.mem_filter.mp (h w hw)).2⟩
def am_Ps (X : am_X) (B : Nat) (ad : Nat → Nat) (as : List Value) : Array Value → State → Prop := va_Pc as (fun U => am_C X B ad U)
def am_Qs (v : Option Value) : Array Value → State → Outcome → State → Prop := fun _ st oc t => oc = .returned v ∧ t.heap = st.heap
theorem am_Ps_blind (X : am_X) (B : Nat) (ad : Nat → Nat) (as : List Value) : FrameBlind (am_Ps X B ad as) := by
  intro a U g mk q
  exact ⟨q.1, q.2.same rfl rfl⟩
def am_rs (f k : Nat) : Room := { frames := f, cells := 0, slots := 0, locals := k }
theorem am_metS {l : Launch} {X : am_X} {B : Nat} {ad : Nat → Nat} {y : MethodName} {cc : ByteArray} {mL f k : Nat} {ret : Option FieldType} {as : List Value} {v : Option Value} (hpl : plainName y.cls = true) (hfit : (lg_sl as).length ≤ mL)
    (body : ∀ (p : Program) (e : Env) (s : State) (m : MethodId) (below : List Frame) (meth : Method) (c : Code) (ls : Array Slot), p.tables.exec = Jvm.exec → c.code = cc → c.maxLocals = mL → s.vm.findClass y.cls = some m.cls → (∀ w ∈ am_TB, w.before as.toArray s = true) → meth.sig.returnType = ret → meth.locks = false → am_C X B ad s → lv_has ls mL (lv_args 0 as) →
      W p l e (am_rs f k) s m as.toArray below meth c s.heap [] 0 0 (MQ below (am_Qs v) as.toArray s 0 0 (fun _ => False)) (F0 m 0 ls [])) : Met l y (Cond.code y cc mL ret :: am_TB) (am_rs f k) (am_Ps X B ad as) (am_Qs v) 0 0 (fun _ => False) := by
  refine Met.ofW (cc := cc) (maxL := mL) (ret := ret) hpl rfl ?_
  intro p e s m args below meth c s₁ B0 hml hv
  obtain ⟨rfl, hC⟩ := hv
  have hts := atoms_spec (ws := Cond.code y cc mL ret :: am_TB) B0.pre
  rw [lg_entry_eq]
  exact body p e s m below meth c _ B0.exec B0.bytes hml (findClass_of_methodNamed B0.named) (fun w hw => hts w (List.mem_cons_of_mem _ hw)) B0.returns B0.notSynchronized hC (lv_entry as hfit)
section AMS
variable {p : Program} {l : Launch} {e : Env} {R : Room} {s : State} {m : MethodId} {args : Array Value} {below : List Frame} {meth : Method} {c : Code} {H : Heap} {locs : List Loc} {cells slots : Nat} {Q : State → Prop}
variable {cc : ByteArray} {pc : Nat} {ls : Array Slot} {rest : List Value} {X : am_X} {D : va_G} {dA : Nat → ClassId} {B : Nat} {ad : Nat → Nat} {o nL : Nat} {h : am_H}
theorem am_contS {v : Option Value} {a : Array Value} {st0 : List Value} (hr : va_Run p l e R s m args below meth c H locs cells slots 0 0 (F0 m pc ls st0) rest (am_Qs v a) (fun _ => False))
    (kk : W p l e R s m args below meth c H locs cells slots Q (F0 m (pc + 3) ls (v.toList ++ rest))) : W p l e R s m args below meth c H locs cells slots Q (F0 m pc ls st0) := by
  intro T hT X
  obtain ⟨w, st₀, t, T', L, h0, X', hL, e1, e2, ⟨hv, hh⟩, st⟩ := hr T hT X
  cases hv
  have hLn : L = [] := by
    cases L with
    | nil => rfl
    | cons q L => exact absurd (hL q List.mem_cons_self) id
  subst hLn
  rw [List.append_nil] at X'
  obtain ⟨t2, a1, b1⟩ := kk T' (by rw [e1, hh, h0]) X'
  exact ⟨t2, st t2 a1, b1⟩
theorem am_preS (hC : am_C X B ad s) (hS : va_S (fun q => B ≤ q) s.heap H locs) (as : List Value) : ∀ U : State, U.heap = H → s.WarmedH U.vm → am_Ps X B ad as as.toArray U := fun U hU hW => ⟨rfl, hC.to hS hU hW⟩
theorem am_coder (l : Launch) (X : am_X) (B : Nat) (ad : Nat → Nat) {j : Nat} (hj : j < 19) : Met l ⟨"java/lang/String", "coder", "()B"⟩ (Cond.code ⟨"java/lang/String", "coder", "()B"⟩ prog_18_method_152_code 1 (some .byte) :: am_TB) (am_rs 0 0) (am_Ps X B ad [.ref (ad (am_K0 + 10 + j))]) (am_Qs (some (.int 0))) 0 0 (fun _ => False) := by
  refine am_metS (by decide) (Nat.le_of_ble_eq_true rfl) ?_
  intro p e s m below meth c ls hx hb hml hown hts hr hlocks hC hl
  obtain ⟨v, hK⟩ := hC.2.2.2.2.2.1 j hj
  have hS : va_S (fun q => B ≤ q) s.heap s.heap [] := va_S.rf
  have l1 : Cond.fieldLink "java/lang/String" 38 "java/lang/String" "COMPACT_STRINGS" "Z" ∈ am_TB := am_in (List.mem_of_getElem? (i := 503) (by decide +kernel)) rfl
  have l2 : Cond.fieldLink "java/lang/String" 15 "java/lang/String" "coder" "B" ∈ am_TB := am_in (List.mem_of_getElem? (i := 1749) (by decide +kernel)) rfl
  refine va_gets hx hb hC.2.2.2.2.2.2.1 hS hown (hts _ l1) (fun _ h9 => h9) (pc := 0) (by decide +kernel) ?_
  refine lv_if_eq (tgt := 13) (off := 10) hx hb (pc := 3) (by decide +kernel) (by decide) (fun q => absurd q (by decide)) (fun _ => ?_)
  refine lv_aload_n (k := 0) hx hb (pc := 6) (by decide +kernel) rfl (lv_at hl 0 rfl) ?_
  refine vk_getf hx hb (hK.1 0 (by decide)).2.1 hS hown (hts _ l2) (fun _ h9 => h9) (pc := 7) (by decide +kernel) ?_
  refine lv_goto (tgt := 14) (off := 4) hx hb (pc := 10) (by decide +kernel) (by decide) ?_
  exact W.zret (ty := .byte) hx hb hr rfl (fun t ht _ => ⟨rfl, ht⟩) (fun q h => by cases h) (by decide +kernel)
theorem am_lat1 (l : Launch) (X : am_X) (B : Nat) (ad : Nat → Nat) {j : Nat} (hj : j < 19) : Met l ⟨"java/lang/String", "isLatin1", "()Z"⟩ (Cond.code ⟨"java/lang/String", "isLatin1", "()Z"⟩ prog_18_method_154_code 1 (some .boolean) :: am_TB) (am_rs 0 0) (am_Ps X B ad [.ref (ad (am_K0 + 10 + j))]) (am_Qs (some (.int 1))) 0 0 (fun _ => False) := by
  refine am_metS (by decide) (Nat.le_of_ble_eq_true rfl) ?_
  intro p e s m below meth c ls hx hb hml hown hts hr hlocks hC hl
  obtain ⟨v, hK⟩ := hC.2.2.2.2.2.1 j hj
  have hS : va_S (fun q => B ≤ q) s.heap s.heap [] := va_S.rf
  have l1 : Cond.fieldLink "java/lang/String" 38 "java/lang/String" "COMPACT_STRINGS" "Z" ∈ am_TB := am_in (List.mem_of_getElem? (i := 503) (by decide +kernel)) rfl
  have l2 : Cond.fieldLink "java/lang/String" 15 "java/lang/String" "coder" "B" ∈ am_TB := am_in (List.mem_of_getElem? (i := 1749) (by decide +kernel)) rfl
  refine va_gets hx hb hC.2.2.2.2.2.2.1 hS hown (hts _ l1) (fun _ h9 => h9) (pc := 0) (by decide +kernel) ?_
  refine lv_if_eq (tgt := 17) (off := 14) hx hb (pc := 3) (by decide +kernel) (by decide) (fun q => absurd q (by decide)) (fun _ => ?_)
  refine lv_aload_n (k := 0) hx hb (pc := 6) (by decide +kernel) rfl (lv_at hl 0 rfl) ?_
  refine vk_getf hx hb (hK.1 0 (by decide)).2.1 hS hown (hts _ l2) (fun _ h9 => h9) (pc := 7) (by decide +kernel) ?_
  refine lv_if_ne (tgt := 17) (off := 7) hx hb (pc := 10) (by decide +kernel) (by decide) (fun q => absurd rfl q) (fun _ => ?_)
  refine lv_iconst (n := 1) (v := 1) hx hb (pc := 13) (by decide +kernel) (by decide) ?_
  refine lv_goto (tgt := 18) (off := 4) hx hb (pc := 14) (by decide +kernel) (by decide) ?_
  exact W.zret (ty := .boolean) hx hb hr rfl (fun t ht _ => ⟨rfl, ht⟩) (fun q h => by cases h) (by decide +kernel)
set_option maxRecDepth 20000 in
theorem am_slenS (l : Launch) (X : am_X) (B : Nat) (ad : Nat → Nat) {j : Nat} (hj : j < 19) : Met l ⟨"java/lang/String", "length", "()I"⟩ (Cond.code ⟨"java/lang/String", "length", "()I"⟩ prog_18_method_54_code 1 (some .int) :: am_TB) (am_rs 1 20) (am_Ps X B ad [.ref (ad (am_K0 + 10 + j))]) (am_Qs (some (.int (Int32.ofNat (am_tx j).length)))) 0 0 (fun _ => False) := by
  refine am_metS (by decide) (Nat.le_of_ble_eq_true rfl) ?_
  intro p e s m below meth c ls hx hb hml hown hts hr hlocks hC hl
  obtain ⟨v, hK⟩ := hC.2.2.2.2.2.1 j hj
  have hS : va_S (fun q => B ≤ q) s.heap s.heap [] := va_S.rf
  have l2 : Cond.fieldLink "java/lang/String" 9 "java/lang/String" "value" "[B" ∈ am_TB := am_in (List.mem_of_getElem? (i := 1748) (by decide +kernel)) rfl
  have hT : va_T .byte v (am_tx j).length (fun k => .int (((am_tx j).map Int32.ofNat).getD k 0)) (fun q => B ≤ q) s s.heap := (hK.1 0 (by decide)).2.2.2
  refine lv_aload_n (k := 0) hx hb (pc := 0) (by decide +kernel) rfl (lv_at hl 0 rfl) ?_
  refine vk_getf hx hb (hK.1 0 (by decide)).2.2.1 hS hown (hts _ l2) (fun _ h9 => h9) (pc := 1) (by decide +kernel) ?_
  refine va_tlen hx hb hT hS rfl (pc := 4) (by decide +kernel) ?_
  refine lv_aload_n (k := 0) hx hb (pc := 5) (by decide +kernel) rfl (lv_at hl 0 rfl) ?_
  refine am_contS (va_runV (As := []) (C := "java/lang/String") (rest := [.int (Int32.ofNat (am_tx j).length)]) (index := 335) ⟨hx, hb, hml, hown, hts⟩ (am_coder l X B ad hj) (cwV 0 hts (am_good (fun w hw => ?_)) rfl rfl rfl (by decide +kernel) ⟨Nat.le_of_ble_eq_true rfl, Nat.le_of_ble_eq_true rfl⟩) ⟨am_Ps_blind _ _ _ _, vk_recv (i := 0) hK (by decide) hS, am_preS hC hS _⟩ rfl rfl hl.1 rfl (lv_room (Nat.le_of_ble_eq_true rfl)) (show decode prog_18_method_54_code 6 = .ok (.invokevirtual 335, 3) by decide +kernel) ⟨Nat.zero_le _, Nat.zero_le _⟩) ?_
  · rcases List.mem_append.mp hw with hw | hw
    · simp only [List.mem_cons, List.not_mem_nil, or_false] at hw
      rcases hw with rfl | rfl | rfl | rfl <;> exact am_in (by decide +kernel) rfl
    · rcases List.mem_cons.mp hw with rfl | hw
      · exact am_in (List.mem_of_getElem? (i := 502) rfl) rfl
      · exact hw
  refine lv_ishr hx hb (pc := 9) (by decide +kernel) ?_
  rw [sb_shr0]
  exact W.iret hx hb hr (fun t ht _ => ⟨rfl, ht⟩) (fun q h => by cases h) (by decide +kernel)
theorem am_prec (l : Launch) (X : am_X) (B : Nat) (ad : Nat → Nat) {i n : Int32} {w : Value} (hw : w.category = 1) (h0 : ¬ i < 0) (h1 : i < n) : Met l ⟨"jdk/internal/util/Preconditions", "checkIndex", "(IILjava/util/function/BiFunction;)I"⟩ (Cond.code ⟨"jdk/internal/util/Preconditions", "checkIndex", "(IILjava/util/function/BiFunction;)I"⟩ prog_23_method_11_code 3 (some .int) :: am_TB) (am_rs 0 0) (am_Ps X B ad [.int i, .int n, w]) (am_Qs (some (.int i))) 0 0 (fun _ => False) := by
  refine am_metS (by decide) (by cases w <;> first | exact Nat.le_of_ble_eq_true rfl | (exact absurd (show (2 : Nat) = 1 from hw) (by decide))) ?_
  intro p e s m below meth c ls hx hb hml hown hts hr hlocks hC hl
  refine lv_iload_n (k := 0) hx hb (pc := 0) (by decide +kernel) rfl (lv_at hl 0 rfl) ?_
  refine lv_if_lt (tgt := 9) (off := 8) hx hb (pc := 1) (by decide +kernel) (by decide) (fun q => absurd q h0) (fun _ => ?_)
  refine lv_iload_n (k := 0) hx hb (pc := 4) (by decide +kernel) rfl (lv_at hl 0 rfl) ?_
  refine lv_iload_n (k := 1) hx hb (pc := 5) (by decide +kernel) rfl (lv_at hl 1 rfl) ?_
  refine lv_icmp_lt (tgt := 16) (off := 10) hx hb (pc := 6) (by decide +kernel) (by decide) (fun _ => ?_) (fun q => absurd h1 q)
  refine lv_iload_n (k := 0) hx hb (pc := 16) (by decide +kernel) rfl (lv_at hl 0 rfl) ?_
  exact W.iret hx hb hr (fun t ht _ => ⟨rfl, ht⟩) (fun q h => by cases h) (by decide +kernel)
set_option maxRecDepth 20000 in
theorem am_sck (l : Launch) (X : am_X) (B : Nat) (ad : Nat → Nat) {i n : Int32} (h0 : ¬ i < 0) (h1 : i < n) : Met l ⟨"java/lang/String", "checkIndex", "(II)V"⟩ (Cond.code ⟨"java/lang/String", "checkIndex", "(II)V"⟩ prog_18_method_155_code 2 none :: am_TB) (am_rs 1 22) (am_Ps X B ad [.int i, .int n]) (am_Qs none) 0 0 (fun _ => False) := by
  refine am_metS (by decide) (Nat.le_of_ble_eq_true rfl) ?_
  intro p e s m below meth c ls hx hb hml hown hts hr hlocks hC hl
  have hS : va_S (fun q => B ≤ q) s.heap s.heap [] := va_S.rf
  have l1 : Cond.fieldLink "java/lang/String" 1053 "jdk/internal/util/Preconditions" "SIOOBE_FORMATTER" "Ljava/util/function/BiFunction;" ∈ am_TB := am_in (List.mem_of_getElem? (i := 519) (by decide +kernel)) rfl
  obtain ⟨w, hw, hZ⟩ : ∃ w : Value, w.category = 1 ∧ va_Z "jdk/internal/util/Preconditions" "SIOOBE_FORMATTER" "Ljava/util/function/BiFunction;" w (fun q => B ≤ q) s s.heap := by
    rcases hC.2.2.2.2.2.2.2.1 with h | ⟨t, h⟩
    · exact ⟨_, rfl, h⟩
    · exact ⟨_, rfl, h⟩
  refine lv_iload_n (k := 0) hx hb (pc := 0) (by decide +kernel) rfl (lv_at hl 0 rfl) ?_
  refine lv_iload_n (k := 1) hx hb (pc := 1) (by decide +kernel) rfl (lv_at hl 1 rfl) ?_
  refine va_gets hx hb hZ hS hown (hts _ l1) (fun _ h9 => h9) (pc := 2) (by decide +kernel) ?_
  have h3 : Cond.code ⟨"jdk/internal/util/Preconditions", "checkIndex", "(IILjava/util/function/BiFunction;)I"⟩ prog_23_method_11_code 3 (some .int) ∈ am_TB := am_in (List.mem_of_getElem? (i := 523) rfl) rfl
  have h4 : Cond.initialized "jdk/internal/util/Preconditions" ∈ am_TB := am_in (by decide +kernel) rfl
  have h5 : Cond.methodLink "java/lang/String" 1059 ⟨"jdk/internal/util/Preconditions", "checkIndex", "(IILjava/util/function/BiFunction;)I"⟩ ∈ am_TB := am_in (by decide +kernel) rfl
  have h6 : Cond.static ⟨"jdk/internal/util/Preconditions", "checkIndex", "(IILjava/util/function/BiFunction;)I"⟩ ∈ am_TB := am_in (by decide +kernel) rfl
  refine am_contS (va_runS (As := [.int i, .int n, w]) (rest := []) (index := 1059) ⟨hx, hb, hml, hown, hts⟩ (am_prec l X B ad hw h0 h1) ⟨callB_of 3 hts (am_good (fun w hw => ?_)) rfl rfl rfl (hts _ h4) (hts _ h5) (by decide +kernel) ⟨Nat.le_of_ble_eq_true rfl, Nat.le_of_ble_eq_true rfl⟩, hts _ h6⟩ ⟨am_Ps_blind _ _ _ _, am_preS hC hS _⟩ rfl rfl hl.1 rfl (lv_room (Nat.le_of_ble_eq_true rfl)) (show decode prog_18_method_155_code 5 = .ok (.invokestatic 1059, 3) by decide +kernel) ⟨Nat.zero_le _, Nat.zero_le _⟩) ?_
  · rcases List.mem_cons.mp hw with rfl | hw
    · exact h3
    · exact hw
  refine lv_pop hx hb (pc := 8) (by decide +kernel) rfl ?_
  exact W.vret hx hb hr (fun t ht _ => ⟨rfl, ht⟩) (fun q h => by cases h) (by decide +kernel)
theorem am_txlt : ∀ j, j < 19 → ∀ c ∈ am_tx j, c < 128 := by decide +kernel
theorem am_chr {c : Nat} (h : c < 128) : (((Int32.ofNat c) &&& 255).toUInt32 % 65536).toInt32 = Int32.ofNat c ∧ narrow .char (.int (Int32.ofNat c)) = .int (Int32.ofNat c) := by
  revert c
  decide +kernel
theorem am_sby (j k : Nat) : ((am_tx j).map Int32.ofNat).getD k 0 = Int32.ofNat ((am_tx j).getD k 0) := by
  rw [List.getD_eq_getElem?_getD, List.getD_eq_getElem?_getD, List.getElem?_map]
  cases (am_tx j)[k]? <;> rfl
def am_P1 (X : am_X) (B : Nat) (ad : Nat → Nat) (j v : Nat) (as : List Value) : Array Value → State → Prop := va_Pc as (fun U => am_C X B ad U ∧ vk_S 1 [(am_tx j).length] [(am_tx j).map Int32.ofNat] (fun _ => ad (am_K0 + 10 + j)) (fun _ => v) (fun q => B ≤ q) U U.heap)
set_option maxRecDepth 20000 in
theorem am_l1ch (l : Launch) (X : am_X) (B : Nat) (ad : Nat → Nat) (v : Nat) {j : Nat} (hj : j < 19) {i : Int32} (hi : ¬ (i < 0 ∨ (am_tx j).length ≤ i.toNatClampNeg)) : Met l ⟨"java/lang/StringLatin1", "charAt", "([BI)C"⟩ (Cond.code ⟨"java/lang/StringLatin1", "charAt", "([BI)C"⟩ prog_19_method_2_code 2 (some .char) :: am_TB) (am_rs 2 43) (am_P1 X B ad j v [.ref v, .int i]) (am_Qs (some (.int (Int32.ofNat ((am_tx j).getD i.toNatClampNeg 0))))) 0 0 (fun _ => False) := by
  refine Met.ofW (cc := prog_19_method_2_code) (maxL := 2) (ret := (some .char)) (by decide) rfl ?_
  intro p e s m args below meth c s₁ B0 hml hv
  obtain ⟨rfl, hC, hK⟩ := hv
  have hts0 := atoms_spec (ws := Cond.code ⟨"java/lang/StringLatin1", "charAt", "([BI)C"⟩ prog_19_method_2_code 2 (some .char) :: am_TB) B0.pre
  have hts : ∀ w ∈ am_TB, w.before #[.ref v, .int i] s = true := fun w hw => hts0 w (List.mem_cons_of_mem _ hw)
  have hx := B0.exec
  have hb := B0.bytes
  have hr := B0.returns
  have hlocks := B0.notSynchronized
  have hown : s.vm.findClass "java/lang/StringLatin1" = some m.cls := findClass_of_methodNamed B0.named
  rw [show (#[Value.ref v, Value.int i] : Array Value) = ([Value.ref v, Value.int i] : List Value).toArray from rfl, lg_entry_eq]
  have hl := lv_entry ([.ref v, .int i]) (n := 2) (Nat.le_of_ble_eq_true rfl)
  generalize (lg_sl ([.ref v, .int i]) ++ List.replicate (2 - (lg_sl ([.ref v, .int i])).length) Slot.unset).toArray = ls at hl ⊢
  have hS : va_S (fun q => B ≤ q) s.heap s.heap [] := va_S.rf
  have hT : va_T .byte v (am_tx j).length (fun k => .int (((am_tx j).map Int32.ofNat).getD k 0)) (fun q => B ≤ q) s s.heap := (hK.1 0 (by decide)).2.2.2
  have hlen : (am_tx j).length < 2 ^ 31 := by
    have : ∀ j, j < 19 → (am_tx j).length < 2 ^ 31 := by decide +kernel
    exact this j hj
  have h0 : ¬ i < 0 := fun q => hi (Or.inl q)
  have hlt : i.toNatClampNeg < (am_tx j).length := Nat.not_le.mp fun q => hi (Or.inr q)
  have hin : i < Int32.ofNat (am_tx j).length := by
    obtain ⟨k, hk, rfl⟩ := nI_of h0
    rw [nI_clamp hk] at hlt
    exact nI_lt hlt hlen
  have h3 : Cond.code ⟨"java/lang/String", "checkIndex", "(II)V"⟩ prog_18_method_155_code 2 none ∈ am_TB := am_in (List.mem_of_getElem? (i := 518) rfl) rfl
  have h4 : Cond.initialized "java/lang/String" ∈ am_TB := am_in (by decide +kernel) rfl
  have h5 : Cond.methodLink "java/lang/StringLatin1" 9 ⟨"java/lang/String", "checkIndex", "(II)V"⟩ ∈ am_TB := am_in (by decide +kernel) rfl
  have h6 : Cond.static ⟨"java/lang/String", "checkIndex", "(II)V"⟩ ∈ am_TB := am_in (by decide +kernel) rfl
  refine lv_iload_n (k := 1) hx hb (pc := 0) (by decide +kernel) rfl (lv_at hl 1 rfl) ?_
  refine lv_aload_n (k := 0) hx hb (pc := 1) (by decide +kernel) rfl (lv_at hl 0 rfl) ?_
  refine va_tlen hx hb hT hS rfl (pc := 2) (by decide +kernel) ?_
  refine am_contS (va_runS (As := [.int i, .int (Int32.ofNat (am_tx j).length)]) (rest := []) (index := 9) ⟨hx, hb, hml, hown, hts⟩ (am_sck l X B ad h0 hin) ⟨callB_of 2 hts (am_good (fun w hw => ?_)) rfl rfl rfl (hts _ h4) (hts _ h5) (by decide +kernel) ⟨Nat.le_of_ble_eq_true rfl, Nat.le_of_ble_eq_true rfl⟩, hts _ h6⟩ ⟨am_Ps_blind _ _ _ _, am_preS hC hS _⟩ rfl rfl hl.1 rfl (lv_room (Nat.le_of_ble_eq_true rfl)) (show decode prog_19_method_2_code 3 = .ok (.invokestatic 9, 3) by decide +kernel) ⟨Nat.zero_le _, Nat.zero_le _⟩) ?_
  · rcases List.mem_cons.mp hw with rfl | hw
    · exact h3
    · exact hw
  refine lv_aload_n (k := 0) hx hb (pc := 6) (by decide +kernel) rfl (lv_at hl 0 rfl) ?_
  refine lv_iload_n (k := 1) hx hb (pc := 7) (by decide +kernel) rfl (lv_at hl 1 rfl) ?_
  refine va_tb hx hb hT hS hi rfl (pc := 8) (by decide +kernel) ?_
  rw [am_sby]
  refine lv_sipush (n := 255) (v := 255) hx hb (pc := 9) (by decide +kernel) (by decide) ?_
  refine lv_iand hx hb (pc := 12) (by decide +kernel) ?_
  have hc := am_chr (am_txlt j hj ((am_tx j).getD i.toNatClampNeg 0) (by
    rw [List.getD_eq_getElem?_getD, List.getElem?_eq_getElem hlt]
    exact List.getElem_mem hlt))
  refine lv_i2c hx hb (pc := 13) (by decide +kernel) hc.1 ?_
  exact W.zret (ty := .char) hx hb hr hc.2 (fun t ht _ => ⟨rfl, ht⟩) (fun q h => by cases h) (by decide +kernel)
set_option maxRecDepth 20000 in
theorem am_sch (l : Launch) (X : am_X) (B : Nat) (ad : Nat → Nat) {j : Nat} (hj : j < 19) {i : Int32} (hi : ¬ (i < 0 ∨ (am_tx j).length ≤ i.toNatClampNeg)) : Met l ⟨"java/lang/String", "charAt", "(I)C"⟩ (Cond.code ⟨"java/lang/String", "charAt", "(I)C"⟩ prog_18_method_56_code 2 (some .char) :: am_TB) (am_rs 3 64) (am_Ps X B ad [.ref (ad (am_K0 + 10 + j)), .int i]) (am_Qs (some (.int (Int32.ofNat ((am_tx j).getD i.toNatClampNeg 0))))) 0 0 (fun _ => False) := by
  refine am_metS (by decide) (Nat.le_of_ble_eq_true rfl) ?_
  intro p e s m below meth c ls hx hb hml hown hts hr hlocks hC hl
  obtain ⟨v, hK⟩ := hC.2.2.2.2.2.1 j hj
  have hS : va_S (fun q => B ≤ q) s.heap s.heap [] := va_S.rf
  have l2 : Cond.fieldLink "java/lang/String" 9 "java/lang/String" "value" "[B" ∈ am_TB := am_in (List.mem_of_getElem? (i := 1748) (by decide +kernel)) rfl
  refine lv_aload_n (k := 0) hx hb (pc := 0) (by decide +kernel) rfl (lv_at hl 0 rfl) ?_
  refine am_contS (va_runV (As := []) (C := "java/lang/String") (rest := []) (index := 492) ⟨hx, hb, hml, hown, hts⟩ (am_lat1 l X B ad hj) (cwV 0 hts (am_good (fun w hw => ?_)) rfl rfl rfl (by decide +kernel) ⟨Nat.le_of_ble_eq_true rfl, Nat.le_of_ble_eq_true rfl⟩) ⟨am_Ps_blind _ _ _ _, vk_recv (i := 0) hK (by decide) hS, am_preS hC hS _⟩ rfl rfl hl.1 rfl (lv_room (Nat.le_of_ble_eq_true rfl)) (show decode prog_18_method_56_code 1 = .ok (.invokevirtual 492, 3) by decide +kernel) ⟨Nat.zero_le _, Nat.zero_le _⟩) ?_
  · rcases List.mem_append.mp hw with hw | hw
    · simp only [List.mem_cons, List.not_mem_nil, or_false] at hw
      rcases hw with rfl | rfl | rfl | rfl <;> exact am_in (by decide +kernel) rfl
    · rcases List.mem_cons.mp hw with rfl | hw
      · exact am_in (List.mem_of_getElem? (i := 512) rfl) rfl
      · exact hw
  refine lv_if_eq (tgt := 16) (off := 12) hx hb (pc := 4) (by decide +kernel) (by decide) (fun q => absurd q (by decide)) (fun _ => ?_)
  refine lv_aload_n (k := 0) hx hb (pc := 7) (by decide +kernel) rfl (lv_at hl 0 rfl) ?_
  refine vk_getf hx hb (hK.1 0 (by decide)).2.2.1 hS hown (hts _ l2) (fun _ h9 => h9) (pc := 8) (by decide +kernel) ?_
  refine lv_iload_n (k := 1) hx hb (pc := 11) (by decide +kernel) rfl (lv_at hl 1 rfl) ?_
  have h3 : Cond.code ⟨"java/lang/StringLatin1", "charAt", "([BI)C"⟩ prog_19_method_2_code 2 (some .char) ∈ am_TB := am_in (List.mem_of_getElem? (i := 515) rfl) rfl
  have h4 : Cond.initialized "java/lang/StringLatin1" ∈ am_TB := am_in (by decide +kernel) rfl
  have h5 : Cond.methodLink "java/lang/String" 495 ⟨"java/lang/StringLatin1", "charAt", "([BI)C"⟩ ∈ am_TB := am_in (by decide +kernel) rfl
  have h6 : Cond.static ⟨"java/lang/StringLatin1", "charAt", "([BI)C"⟩ ∈ am_TB := am_in (by decide +kernel) rfl
  refine am_contS (va_runS (As := [.ref v, .int i]) (rest := []) (index := 495) ⟨hx, hb, hml, hown, hts⟩ (am_l1ch l X B ad v hj hi) ⟨callB_of 2 hts (am_good (fun w hw => ?_)) rfl rfl rfl (hts _ h4) (hts _ h5) (by decide +kernel) ⟨Nat.le_of_ble_eq_true rfl, Nat.le_of_ble_eq_true rfl⟩, hts _ h6⟩ ⟨fun a U g mk q => ⟨q.1, q.2.1.same rfl rfl, vk_S.moved (Vm.Alike.refl U.vm) q.2.2⟩, fun U hU hW => ⟨rfl, hC.to hS hU hW, ?_⟩⟩ rfl rfl hl.1 rfl (lv_room (Nat.le_of_ble_eq_true rfl)) (show decode prog_18_method_56_code 12 = .ok (.invokestatic 495, 3) by decide +kernel) ⟨Nat.zero_le _, Nat.zero_le _⟩) ?_
  · rcases List.mem_cons.mp hw with rfl | hw
    · exact h3
    · exact hw
  · rw [hU]
    exact vk_S.moved hW.alike hK
  have hlt : i.toNatClampNeg < (am_tx j).length := Nat.not_le.mp fun q => hi (Or.inr q)
  have hc := am_chr (am_txlt j hj ((am_tx j).getD i.toNatClampNeg 0) (by
    rw [List.getD_eq_getElem?_getD, List.getElem?_eq_getElem hlt]
    exact List.getElem_mem hlt))
  exact W.zret (ty := .char) hx hb hr hc.2 (fun t ht _ => ⟨rfl, ht⟩) (fun q h => by cases h) (by decide +kernel)
end AMS
