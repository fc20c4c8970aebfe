/-! THE START: what the Statement gives is what the small machine asks for -/
def am_sL (j : Nat) : List Int32 := match j with
  | 1 => [5, 9, 9, 9, 7, 23, 9, 9]
  | 2 => [0, 0, 1]
  | 3 => [200, 3, 20]
  | _ => [0, 0, 1048576, 1661953, 2097152, 2434718, 2710529, 2943724, 3145728, 3323907, 3483294, 3627476, 3759105, 3880192, 3992300, 4096671, 4194304, 4286015, 4372483, 4454274, 4531870, 4605678, 4676052, 4743298, 4807681, 4869436, 4928768, 4985860, 5040876, 5093962, 5145247, 5194851, 5242880, 5289430, 5334591, 5378443, 5421059, 5462507, 5502850, 5542145, 5580446, 5617800, 5654254, 5689850, 5724628, 5758625, 5791874, 5824408, 5856257, 5887449, 5918012, 5947969, 5977344, 6006159, 6034436, 6062195, 6089452, 6116228, 6142538, 6168398, 6193823, 6218828, 6243427, 6267632, 6291456, 6314910, 6338006, 6360755, 6383167, 6405252, 6427019, 6448477, 6469635, 6490501, 6511083, 6531389, 6551426, 6571201, 6590721, 6609993, 6629022, 6647814, 6666376, 6684713, 6702830, 6720733, 6738426, 6755915, 6773204, 6790298, 6807201, 6823917, 6840450, 6856804, 6872984, 6888992, 6904833, 6920510, 6936025, 6951384]
/-- the constants: the script, the four static rows -/
def am_X0 (L : Nat) (xs : Nat → Int32) : am_X := fun j => if j = 0 then (L, xs) else ((am_sL j).length, fun i => (am_sL j).getD i 0)
def am_fl : List Cond := flatC (Jvm.Cond.and given_1 narrow_1)
set_option maxRecDepth 100000 in
theorem am_f1 : ∀ j, j < 5 → 1 ≤ j → Cond.arrayOf (.static (am_sC j) (am_sN j) "[I") .int ∈ am_fl ∧ Cond.eq (.length (.static (am_sC j) (am_sN j) "[I")) (.int (Int32.ofNat (am_sL j).length)) ∈ am_fl := by decide +kernel
set_option maxRecDepth 100000 in
theorem am_f2 : ∀ j, j < 5 → 1 ≤ j → ∀ i, i < (am_sL j).length → Cond.eq (.elem (.static (am_sC j) (am_sN j) "[I") (.int (Int32.ofNat i))) (.int ((am_sL j).getD i 0)) ∈ am_fl := by decide +kernel
theorem am_f3 : ∀ j, j < 5 → 1 ≤ j → Cond.laysStatic (am_sC j) (am_sN j) "[I" ∈ tables_1 ∧ Cond.initialized (am_sC j) ∈ tables_1 := by decide +kernel
def am_tm (i : Nat) : Term := .string "SweetWaits$Reader" (am_sidx i)
theorem am_g1 : ∀ i, i < 19 → Cond.exactly (am_tm i) "java/lang/String" ∈ am_fl := by decide +kernel
theorem am_g2 : ∀ i, i < 19 → Cond.eq (.field (am_tm i) "java/lang/String" "coder" "B") (.int 0) ∈ am_fl := by decide +kernel
theorem am_g3 : ∀ i, i < 19 → Cond.arrayOf (.field (am_tm i) "java/lang/String" "value" "[B") .byte ∈ am_fl := by decide +kernel
theorem am_g4 : ∀ i, i < 19 → Cond.eq (.length (.field (am_tm i) "java/lang/String" "value" "[B")) (.int (Int32.ofNat (am_tx i).length)) ∈ am_fl := by decide +kernel
theorem am_g5_0 : ∀ j, j < (am_tx 0).length → Cond.eq (.elem (.field (am_tm 0) "java/lang/String" "value" "[B") (.int (Int32.ofNat j))) (.int (((am_tx 0).map Int32.ofNat).getD j 0)) ∈ am_fl := by decide +kernel
theorem am_g5_1 : ∀ j, j < (am_tx 1).length → Cond.eq (.elem (.field (am_tm 1) "java/lang/String" "value" "[B") (.int (Int32.ofNat j))) (.int (((am_tx 1).map Int32.ofNat).getD j 0)) ∈ am_fl := by decide +kernel
theorem am_g5_2 : ∀ j, j < (am_tx 2).length → Cond.eq (.elem (.field (am_tm 2) "java/lang/String" "value" "[B") (.int (Int32.ofNat j))) (.int (((am_tx 2).map Int32.ofNat).getD j 0)) ∈ am_fl := by decide +kernel
theorem am_g5_3 : ∀ j, j < (am_tx 3).length → Cond.eq (.elem (.field (am_tm 3) "java/lang/String" "value" "[B") (.int (Int32.ofNat j))) (.int (((am_tx 3).map Int32.ofNat).getD j 0)) ∈ am_fl := by decide +kernel
theorem am_g5_4 : ∀ j, j < (am_tx 4).length → Cond.eq (.elem (.field (am_tm 4) "java/lang/String" "value" "[B") (.int (Int32.ofNat j))) (.int (((am_tx 4).map Int32.ofNat).getD j 0)) ∈ am_fl := by decide +kernel
theorem am_g5_5 : ∀ j, j < (am_tx 5).length → Cond.eq (.elem (.field (am_tm 5) "java/lang/String" "value" "[B") (.int (Int32.ofNat j))) (.int (((am_tx 5).map Int32.ofNat).getD j 0)) ∈ am_fl := by decide +kernel
theorem am_g5_6 : ∀ j, j < (am_tx 6).length → Cond.eq (.elem (.field (am_tm 6) "java/lang/String" "value" "[B") (.int (Int32.ofNat j))) (.int (((am_tx 6).map Int32.ofNat).getD j 0)) ∈ am_fl := by decide +kernel
theorem am_g5_7 : ∀ j, j < (am_tx 7).length → Cond.eq (.elem (.field (am_tm 7) "java/lang/String" "value" "[B") (.int (Int32.ofNat j))) (.int (((am_tx 7).map Int32.ofNat).getD j 0)) ∈ am_fl := by decide +kernel
theorem am_g5_8 : ∀ j, j < (am_tx 8).length → Cond.eq (.elem (.field (am_tm 8) "java/lang/String" "value" "[B") (.int (Int32.ofNat j))) (.int (((am_tx 8).map Int32.ofNat).getD j 0)) ∈ am_fl := by decide +kernel
theorem am_g5_9 : ∀ j, j < (am_tx 9).length → Cond.eq (.elem (.field (am_tm 9) "java/lang/String" "value" "[B") (.int (Int32.ofNat j))) (.int (((am_tx 9).map Int32.ofNat).getD j 0)) ∈ am_fl := by decide +kernel
theorem am_g5_10 : ∀ j, j < (am_tx 10).length → Cond.eq (.elem (.field (am_tm 10) "java/lang/String" "value" "[B") (.int (Int32.ofNat j))) (.int (((am_tx 10).map Int32.ofNat).getD j 0)) ∈ am_fl := by decide +kernel
theorem am_g5_11 : ∀ j, j < (am_tx 11).length → Cond.eq (.elem (.field (am_tm 11) "java/lang/String" "value" "[B") (.int (Int32.ofNat j))) (.int (((am_tx 11).map Int32.ofNat).getD j 0)) ∈ am_fl := by decide +kernel
theorem am_g5_12 : ∀ j, j < (am_tx 12).length → Cond.eq (.elem (.field (am_tm 12) "java/lang/String" "value" "[B") (.int (Int32.ofNat j))) (.int (((am_tx 12).map Int32.ofNat).getD j 0)) ∈ am_fl := by decide +kernel
theorem am_g5_13 : ∀ j, j < (am_tx 13).length → Cond.eq (.elem (.field (am_tm 13) "java/lang/String" "value" "[B") (.int (Int32.ofNat j))) (.int (((am_tx 13).map Int32.ofNat).getD j 0)) ∈ am_fl := by decide +kernel
theorem am_g5_14 : ∀ j, j < (am_tx 14).length → Cond.eq (.elem (.field (am_tm 14) "java/lang/String" "value" "[B") (.int (Int32.ofNat j))) (.int (((am_tx 14).map Int32.ofNat).getD j 0)) ∈ am_fl := by decide +kernel
theorem am_g5_15 : ∀ j, j < (am_tx 15).length → Cond.eq (.elem (.field (am_tm 15) "java/lang/String" "value" "[B") (.int (Int32.ofNat j))) (.int (((am_tx 15).map Int32.ofNat).getD j 0)) ∈ am_fl := by decide +kernel
theorem am_g5_16 : ∀ j, j < (am_tx 16).length → Cond.eq (.elem (.field (am_tm 16) "java/lang/String" "value" "[B") (.int (Int32.ofNat j))) (.int (((am_tx 16).map Int32.ofNat).getD j 0)) ∈ am_fl := by decide +kernel
theorem am_g5_17 : ∀ j, j < (am_tx 17).length → Cond.eq (.elem (.field (am_tm 17) "java/lang/String" "value" "[B") (.int (Int32.ofNat j))) (.int (((am_tx 17).map Int32.ofNat).getD j 0)) ∈ am_fl := by decide +kernel
theorem am_g5_18 : ∀ j, j < (am_tx 18).length → Cond.eq (.elem (.field (am_tm 18) "java/lang/String" "value" "[B") (.int (Int32.ofNat j))) (.int (((am_tx 18).map Int32.ofNat).getD j 0)) ∈ am_fl := by decide +kernel
theorem am_g5 : ∀ i, i < 19 → ∀ j, j < (am_tx i).length → Cond.eq (.elem (.field (am_tm i) "java/lang/String" "value" "[B") (.int (Int32.ofNat j))) (.int (((am_tx i).map Int32.ofNat).getD j 0)) ∈ am_fl := fun i hi => match i, hi with
  | 0, _ => am_g5_0
  | 1, _ => am_g5_1
  | 2, _ => am_g5_2
  | 3, _ => am_g5_3
  | 4, _ => am_g5_4
  | 5, _ => am_g5_5
  | 6, _ => am_g5_6
  | 7, _ => am_g5_7
  | 8, _ => am_g5_8
  | 9, _ => am_g5_9
  | 10, _ => am_g5_10
  | 11, _ => am_g5_11
  | 12, _ => am_g5_12
  | 13, _ => am_g5_13
  | 14, _ => am_g5_14
  | 15, _ => am_g5_15
  | 16, _ => am_g5_16
  | 17, _ => am_g5_17
  | 18, _ => am_g5_18
  | i + 19, hi => absurd hi (by omega)
theorem am_g7 : ∀ i, i < 19 → (am_tx i).length < 2 ^ 31 := by decide +kernel
theorem am_g8 : ∀ i, i < 19 → Cond.stringRef "SweetWaits$Reader" (am_sidx i) (am_stx.getD i "") ∈ tables_1 := by decide +kernel
theorem am_inst : ∀ c, c < 13 → Cond.instantiable (am_R c) (am_nf c) ∈ tables_1 := by decide +kernel
/-- the law, if the small machine runs it -/
theorem am_start {p : Program} {e : Env} {s : State} {m : MethodId} {below : List Frame} {meth : Method} {c : Code} (l : Launch) {b L : Nat} {xs : Nat → Int32} (C0 : lw_At p s m meth c b L xs)
    (hrun : ∃ (n : Nat) (hE : am_H), am_ex (am_X0 L xs) n 60 294 0 (am_en 4 [.ref am_K0]) [] am_h0 = some (some (.int 1), hE) ∧ hE.1 ≤ 600000 ∧ hE.2.1 ≤ 7302250) :
    W p l e room_1 s m #[Value.ref b] below meth c s.heap [] 0 0 (lw_Z below #[Value.ref b] s) (entryFrame m ([Value.ref b] : List Value).toArray 4) := by
  obtain ⟨hx, hb, hr, hml, hown, hts, hX, hbl, hlocks, hgv⟩ := id C0
  have htsT : ∀ w ∈ tables_1, w.before #[Value.ref b] s = true := fun w hw => hts w (List.mem_append_right _ hw)
  have htsB : ∀ w ∈ am_TB, w.before #[Value.ref b] s = true := fun w hw => hts w (List.mem_filter.mp hw).1
  have hfl : ∀ w ∈ am_fl, w.before #[Value.ref b] s = true := flat_of_before _ hgv
  have hA : ∀ a : Nat, a < s.heap.size → ¬ s.heap.size ≤ a := fun a h => Nat.not_le.mpr h
  -- classes
  have hcl : ∀ k : Nat, ∃ q : ClassId × (Nat → Nat), k < 13 → u_Kn s (am_R k) (am_T k) (am_nf k) q.1 q.2 := by
    intro k
    by_cases hk : k < 13
    · obtain ⟨c1, i1, h1⟩ := u_known htsB (am_lay k hk) (htsT _ (am_inst k hk))
      exact ⟨(c1, i1), fun _ => h1⟩
    · exact ⟨(0, fun _ => 0), fun h => absurd h hk⟩
  obtain ⟨cq, hcq⟩ := Classical.axiomOfChoice hcl
  -- array classes
  have hpr : ∀ ty : FieldType, Cond.arrayClass ty ∈ tables_1 → ∃ cA : ClassId, ArrOfT s cA ty ∧ s.vm.findClass ("[" ++ ty.toString) = some cA := by
    intro ty hty
    obtain ⟨cA, kA, comp, h1, h2, h3⟩ := Cond.arrayClass_spec (htsT _ hty)
    exact ⟨cA, fun n z => ⟨fun k h => (by cases h), kA, h2, comp, h3⟩, h1⟩
  have hqr : ∀ C : String, Cond.arrayOver (.object C) ∈ tables_1 → ∃ cA : ClassId, ArrOfT s cA (.object C) ∧ va_RA s cA (.object C) := by
    intro C hC
    obtain ⟨comp, cA, kA, h1, -, h3, h4, h5⟩ := Cond.arrayOver_spec (htsT _ hC)
    exact ⟨cA, fun n z => ⟨fun k h => (by cases h), kA, h3, comp, h4⟩, kA, comp, h3, h4, h1, h5⟩
  obtain ⟨a20, h20⟩ := hpr .int (by decide +kernel)
  obtain ⟨a21, h21⟩ := hpr .byte (by decide +kernel)
  obtain ⟨a22, h22⟩ := hpr .boolean (by decide +kernel)
  obtain ⟨a23, h23⟩ := hpr .long (by decide +kernel)
  obtain ⟨a24, h24⟩ := hqr "SweetWaits$Law" (by decide +kernel)
  obtain ⟨a25, h25⟩ := hqr "SweetWaits$Children" (by decide +kernel)
  generalize hdA : (fun k : Nat => if k = 20 then a20 else if k = 21 then a21 else if k = 22 then a22 else if k = 23 then a23 else if k = 24 then a24 else a25) = dA
  have hK : va_K ((fun k => (cq k).1), (fun k => (cq k).2)) vwCl (am_tys dA) s := by
    refine ⟨fun k q hq => ?_, fun k q hq => ?_⟩
    · have hk : k < 13 := (List.getElem?_eq_some_iff.mp hq).1
      rw [am_cl_at k hk] at hq
      cases hq
      exact hcq k hk
    · subst hdA
      match k, hq with
      | 0, hq => cases hq; exact h20
      | 1, hq => cases hq; exact h21
      | 2, hq => cases hq; exact h22
      | 3, hq => cases hq; exact h23
      | 4, hq => cases hq; exact h24
      | 5, hq => cases hq; exact h25
      | k + 6, hq => cases hq
  -- the static rows
  have hst : ∀ j : Nat, ∃ t : Nat, j < 5 → 1 ≤ j → (Term.static (am_sC j) (am_sN j) "[I").eval #[Value.ref b] s none [] s = some (.ref t) ∧ va_T .int t (am_sL j).length (fun i => .int ((am_sL j).getD i 0)) (fun q => s.heap.size ≤ q) s s.heap := by
    intro j
    by_cases hj : j < 5 ∧ 1 ≤ j
    · have hlen : (am_sL j).length < 2 ^ 31 := by
        have : ∀ j, j < 5 → (am_sL j).length < 2 ^ 31 := by decide +kernel
        exact this j hj.1
      obtain ⟨t, h1, h2⟩ := va_Tof (f := fun i => .int ((am_sL j).getD i 0)) (A := fun q => s.heap.size ≤ q) hlen (hfl _ (am_f1 j hj.1 hj.2).1) (va_eqt (hfl _ (am_f1 j hj.1 hj.2).2)) (fun i hi => va_eqt (hfl _ (am_f2 j hj.1 hj.2 i hi))) hA
      exact ⟨t, fun _ _ => ⟨h1, h2⟩⟩
    · exact ⟨0, fun h1 h2 => absurd ⟨h1, h2⟩ hj⟩
  obtain ⟨sa, hsa⟩ := Classical.axiomOfChoice hst
  -- the texts
  have htx : ∀ i : Nat, ∃ q : Nat × Nat, i < 19 → vk_S 1 [(am_tx i).length] [(am_tx i).map Int32.ofNat] (fun _ => q.1) (fun _ => q.2) (fun q => s.heap.size ≤ q) s s.heap ∧ (am_tm i).eval #[Value.ref b] s none [] s = some (.ref q.1) := by
    intro i
    by_cases hi : i < 19
    · obtain ⟨k1, v1, hV, hVe⟩ := vk_Sof (args := #[Value.ref b]) (s := s) (N := 1) (tm := fun _ => am_tm i) (len := [(am_tx i).length]) (byt := [(am_tx i).map Int32.ofNat]) (A := fun q => s.heap.size ≤ q) (fun k hk => by rcases (show k = 0 by omega) with rfl; exact am_g7 i hi) (fun k hk => hfl _ (am_g1 i hi)) (fun k hk => hfl _ (am_g2 i hi)) (fun k hk => hfl _ (am_g3 i hi)) (fun k hk => by rcases (show k = 0 by omega) with rfl; exact hfl _ (am_g4 i hi)) (fun k hk j hj => by rcases (show k = 0 by omega) with rfl; exact hfl _ (am_g5 i hi j hj)) (fun i j hi hj hij => absurd (show i = j by omega) hij) hA
      refine ⟨(k1 0, v1 0), fun _ => ⟨⟨fun k hk => ?_, fun i j hi hj _ => by omega⟩, hVe 0 (by decide)⟩⟩
      rcases (show k = 0 by omega) with rfl
      exact hV.1 0 (by decide)
    · exact ⟨(0, 0), fun h => absurd h hi⟩
  obtain ⟨aq, haq⟩ := Classical.axiomOfChoice htx
  generalize hade : (fun a : Nat => if a < am_K0 then s.heap.size + a else if a < am_K0 + 10 then (if a = am_K0 then b else sa (a - am_K0)) else (aq (a - (am_K0 + 10))).1) = ad
  have had : ∀ a, a < am_K0 → ad a = s.heap.size + a := fun a ha => by subst hade; show (if a < am_K0 then _ else _) = _; rw [if_pos ha]
  have had0 : ad am_K0 = b := by subst hade; simp
  have hadj : ∀ j, j < 5 → 1 ≤ j → ad (am_K0 + j) = sa j := fun j h1 h2 => by
    subst hade
    show (if am_K0 + j < am_K0 then _ else if am_K0 + j < am_K0 + 10 then (if am_K0 + j = am_K0 then b else sa (am_K0 + j - am_K0)) else _) = _
    rw [if_neg (by omega), if_pos (by omega), if_neg (by omega), Nat.add_sub_cancel_left]
  have hads : ∀ j, ad (am_K0 + 10 + j) = (aq j).1 := fun j => by
    subst hade
    show (if am_K0 + 10 + j < am_K0 then _ else if am_K0 + 10 + j < am_K0 + 10 then _ else (aq (am_K0 + 10 + j - (am_K0 + 10))).1) = _
    rw [if_neg (by omega), if_neg (by omega), Nat.add_sub_cancel_left]
  have hC : am_C (am_X0 L xs) s.heap.size ad s := by
    refine ⟨fun j hj => ?_, fun j hj h1 => ?_, fun w hw => ?_, ?_, fun j hj => ?_, fun j hj => ⟨(aq j).2, ?_⟩, ?_, ?_, ⟨?_, ?_⟩, Nat.le_refl _⟩
    · by_cases h0 : j = 0
      · subst h0
        rw [Nat.add_zero, had0]
        obtain ⟨scr, g1, g2, g3, g4, g5⟩ := hX
        exact ⟨scr, g1, g2, g3, Nat.le_of_eq g4.symm, by rw [g4]; rfl, g5, hA b hbl⟩
      · rw [hadj j hj (by omega)]
        have := (hsa j hj (by omega)).2
        unfold am_X0
        rw [if_neg h0]
        exact this
    · rw [hadj j hj h1]
      exact va_Zref (htsT _ (am_f3 j hj h1).1) (htsT _ (am_f3 j hj h1).2) (hsa j hj h1).1 hA
    · obtain ⟨a, i, x, g, rfl⟩ := am_nest_m hw
      exact va_Nw.of rfl (hts _ (List.mem_filter.mp hw).1)
    · exact va_Nw.of rfl (htsT _ (by decide +kernel))
    · rw [hads]
      exact vk_R.of (htsT _ (am_g8 j hj)) (haq j hj).2
    · rw [hads]
      exact (haq j hj).1
    · exact va_Zof (htsT (.laysStatic "java/lang/String" "COMPACT_STRINGS" "Z") (by decide +kernel)) (htsT _ (by decide +kernel)) (va_eqt (hfl _ (by decide +kernel))) hA
    · exact va_Zqof (htsT (.laysStatic "jdk/internal/util/Preconditions" "SIOOBE_FORMATTER" "Ljava/util/function/BiFunction;") (by decide +kernel)) (htsT _ (by decide +kernel)) (hfl _ (by decide +kernel)) hA
    · exact va_AO.of (htsT (.arrayOver (.object "SweetWaits$Law")) (by decide +kernel))
    · exact va_AO.of (htsT (.arrayOver (.object "SweetWaits$Children")) (by decide +kernel))
  obtain ⟨n, hE, hex, hE1, hE2⟩ := hrun
  have hent := am_entry ad m [.ref am_K0] 4 (by decide)
  obtain ⟨ls, hfr, hL⟩ := hent
  have e1 : ([Value.ref am_K0].map (am_cv ad)) = [Value.ref b] := by
    show [Value.ref (ad am_K0)] = _
    rw [had0]
  rw [e1] at hfr
  rw [hfr]
  have hP : am_P ((fun k => (cq k).1), (fun k => (cq k).2)) dA s.heap.size ad am_h0 s.heap := ⟨rfl, Nat.zero_le _, fun a ha => absurd ha (Nat.not_lt_zero a)⟩
  have key := am_sim (l := l) had n 60 294 0 _ [] am_h0 (some (.int 1)) hE hex p e room_1 s m #[Value.ref b] below meth c s.heap [] 0 0 (lw_Z below #[Value.ref b] s) ls ⟨hx, hb, hml, hown, htsB, hK, hC, had⟩ (fun h => absurd h (by decide +kernel)) hP va_S.rf hL (by show 0 + (hE.1 - 0) ≤ 600000; omega) (by show 0 + (hE.2.1 - 0) ≤ 7302250; omega) (by decide) (by decide)
  refine key (fun H1 locs1 pc1 ls1 i hP1 hS1 hd hop => ?_)
  have hi : i = .ireturn := by
    cases i <;> simp [am_opR] at hop <;> rfl
  subst hi
  refine va_forget (fun q hq => hS1.2.2 q hq) ?_
  refine W.widen (k := 600000) (n := 7302250) (by show 0 + (hE.1 - 0) ≤ 600000; omega) (by show 0 + (hE.2.1 - 0) ≤ 7302250; omega) ?_
  exact lw_ret hx hb hr hlocks hd
