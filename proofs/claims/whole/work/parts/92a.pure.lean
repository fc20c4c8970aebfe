/-! THE SMALL MACHINE AND THE MACHINE: values, locals, what touches no cell -/
def am_cv (ad : Nat → Nat) (v : Value) : Value := match v with
  | .ref a => .ref (ad a)
  | v => v
theorem am_cv_cat (ad : Nat → Nat) (v : Value) : (am_cv ad v).category = v.category := by cases v <;> rfl
/-- the locals that are known, as the kit lists them -/
def am_al (ad : Nat → Nat) (L : am_L) : List (Nat × Value) := (List.range L.length).filterMap (fun i => match L[i]? with
  | some (some v) => some (i, am_cv ad v)
  | _ => none)
theorem am_al_mem {ad : Nat → Nat} {L : am_L} {q : Nat × Value} (h : q ∈ am_al ad L) : ∃ v, L[q.1]? = some (some v) ∧ q.2 = am_cv ad v := by
  obtain ⟨i, -, hi⟩ := List.mem_filterMap.mp h
  revert hi
  split
  · rename_i v e
    intro hi
    cases hi
    exact ⟨v, e, rfl⟩
  · intro hi
    cases hi
theorem am_al_in {ad : Nat → Nat} {L : am_L} {i : Nat} {v : Value} (h : L[i]? = some (some v)) : (i, am_cv ad v) ∈ am_al ad L := by
  refine List.mem_filterMap.mpr ⟨i, List.mem_range.mpr (List.getElem?_eq_some_iff.mp h).1, ?_⟩
  rw [h]
def am_LR (ad : Nat → Nat) (ls : Array Slot) (nL : Nat) (L : am_L) : Prop := L.length = nL ∧ lv_has ls nL (am_al ad L)
theorem am_LR.at {ad : Nat → Nat} {ls : Array Slot} {nL : Nat} {L : am_L} (h : am_LR ad ls nL L) {i : Nat} {v : Value} (hi : L[i]? = some (some v)) : ls[i]? = some (.val (am_cv ad v)) := h.2.2.2 _ (am_al_in hi)
theorem am_kill_len (L : am_L) (i : Nat) : (am_kill L i).length = L.length := by
  unfold am_kill
  split
  · rfl
  · split
    · split
      · rw [List.length_set]
      · rfl
    · rfl
theorem am_kill_at {L : am_L} {i j : Nat} {v : Value} (h : (am_kill L i)[j]? = some (some v)) : L[j]? = some (some v) ∧ ¬ (j + 1 = i ∧ v.category = 2) := by
  unfold am_kill at h
  split at h
  · exact ⟨h, fun e => by omega⟩
  · rename_i k
    split at h
    · rename_i w hw
      split at h
      · by_cases e : j = k
        · subst e
          rw [List.getElem?_set_self (List.getElem?_eq_some_iff.mp hw).1] at h
          cases h
        · rw [List.getElem?_set_ne (Ne.symm e)] at h
          exact ⟨h, fun q => e (by omega)⟩
      · rename_i hc
        refine ⟨h, fun q => ?_⟩
        have : j = k := by omega
        subst this
        rw [h] at hw
        cases hw
        exact hc q.2
    · rename_i hn
      refine ⟨h, fun q => ?_⟩
      have : j = k := by omega
      subst this
      exact hn v h
theorem am_LR.s1 {ad : Nat → Nat} {ls' : Array Slot} {nL : Nat} {L : am_L} {i : Nat} {v w : Value} (hlen : L.length = nL) (hw : w = am_cv ad v) (h : lv_has ls' nL ((i, w) :: (am_al ad L).filter (fun q => !(q.1 == i) && !(q.1 + 1 == i && q.2.category == 2)))) : am_LR ad ls' nL (am_s1 L i v) := by
  refine ⟨by unfold am_s1; rw [List.length_set, am_kill_len]; exact hlen, h.1, h.2.1, fun q hq => h.2.2 q ?_⟩
  obtain ⟨u, h1, h2⟩ := am_al_mem hq
  obtain ⟨j, x⟩ := q
  dsimp only at h1 h2
  subst h2
  unfold am_s1 at h1
  by_cases e : j = i
  · subst e
    have hl : j < (am_kill L j).length := by
      have := (List.getElem?_eq_some_iff.mp h1).1
      rw [List.length_set] at this
      exact this
    rw [List.getElem?_set_self hl] at h1
    cases h1
    rw [hw]
    exact List.mem_cons_self
  · rw [List.getElem?_set_ne (Ne.symm e)] at h1
    obtain ⟨g1, g2⟩ := am_kill_at h1
    refine List.mem_cons_of_mem _ (List.mem_filter.mpr ⟨am_al_in g1, ?_⟩)
    have e1 : (j == i) = false := by simpa using e
    have e2 : (j + 1 == i && (am_cv ad u).category == 2) = false := by
      rw [am_cv_cat]
      cases hx : (j + 1 == i && u.category == 2) with
      | false => rfl
      | true =>
        exfalso
        simp only [Bool.and_eq_true, beq_iff_eq] at hx
        exact g2 hx
    simp only [e1, e2]
    rfl
theorem am_LR.s2 {ad : Nat → Nat} {ls' : Array Slot} {nL : Nat} {L : am_L} {i : Nat} {v w : Value} (hlen : L.length = nL) (hw : w = am_cv ad v) (h : lv_has ls' nL ((i, w) :: (am_al ad L).filter (fun q => !(q.1 == i) && (!(q.1 == i + 1) && !(q.1 + 1 == i && q.2.category == 2))))) : am_LR ad ls' nL (am_s2 L i v) := by
  refine ⟨by unfold am_s2; rw [List.length_set, List.length_set, am_kill_len]; exact hlen, h.1, h.2.1, fun q hq => h.2.2 q ?_⟩
  obtain ⟨u, h1, h2⟩ := am_al_mem hq
  obtain ⟨j, x⟩ := q
  dsimp only at h1 h2
  subst h2
  unfold am_s2 at h1
  by_cases e0 : j = i + 1
  · subst e0
    have hl : i + 1 < ((am_kill L i).set i (some v)).length := by
      have := (List.getElem?_eq_some_iff.mp h1).1
      rw [List.length_set] at this
      exact this
    rw [List.getElem?_set_self hl] at h1
    cases h1
  rw [List.getElem?_set_ne (Ne.symm e0)] at h1
  by_cases e : j = i
  · subst e
    have hl : j < (am_kill L j).length := by
      have := (List.getElem?_eq_some_iff.mp h1).1
      rw [List.length_set] at this
      exact this
    rw [List.getElem?_set_self hl] at h1
    cases h1
    rw [hw]
    exact List.mem_cons_self
  · rw [List.getElem?_set_ne (Ne.symm e)] at h1
    obtain ⟨g1, g2⟩ := am_kill_at h1
    refine List.mem_cons_of_mem _ (List.mem_filter.mpr ⟨am_al_in g1, ?_⟩)
    have e1 : (j == i) = false := by simpa using e
    have e3 : (j == i + 1) = false := by simpa using e0
    have e2 : (j + 1 == i && (am_cv ad u).category == 2) = false := by
      rw [am_cv_cat]
      cases hx : (j + 1 == i && u.category == 2) with
      | false => rfl
      | true =>
        exfalso
        simp only [Bool.and_eq_true, beq_iff_eq] at hx
        exact g2 hx
    simp only [e1, e2, e3]
    rfl
section AMP
variable {p : Program} {l : Launch} {e : Env} {R : Room} {s : State} {m : MethodId} {args : Array Value} {below : List Frame} {meth : Method} {c : Code} {H : Heap} {locs : List Loc} {cells slots : Nat} {Q : State → Prop}
variable {cc : ByteArray} {pc : Nat} {ls : Array Slot} {ad : Nat → Nat} {nL : Nat} {L : am_L} {st : List Value}
theorem am_br_ok {b : Bool} {off : Int} {r : List Value} {pc' : Nat} {L' : am_L} {st' : List Value} (h : am_br b pc off L r = some (pc', L', st')) : L' = L ∧ st' = r ∧ ∃ t : Nat, (pc : Int) + off = (t : Int) ∧ ((b = true ∧ pc' = t) ∨ (b = false ∧ pc' = pc + 3)) := by
  unfold am_br at h
  split at h
  · rename_i t ht
    cases b with
    | true =>
      simp only [if_true] at h
      cases h
      exact ⟨rfl, rfl, _, am_tg_ok ht, Or.inl ⟨rfl, rfl⟩⟩
    | false =>
      simp only [Bool.false_eq_true, if_false] at h
      cases h
      exact ⟨rfl, rfl, _, am_tg_ok ht, Or.inr ⟨rfl, rfl⟩⟩
  · cases h
set_option maxHeartbeats 4000000 in
set_option maxRecDepth 100000 in
theorem am_simP (hx : p.tables.exec = Jvm.exec) (hb : c.code = cc) {i : Instr} {len pc' : Nat} {L' : am_L} {st' : List Value} (hop : am_opP i len pc L st = some (pc', L', st')) (hd : decode cc pc = .ok (i, len)) (hL : am_LR ad ls nL L)
    (K : ∀ ls', am_LR ad ls' nL L' → W p l e R s m args below meth c H locs cells slots Q (F0 m pc' ls' (st'.map (am_cv ad)))) : W p l e R s m args below meth c H locs cells slots Q (F0 m pc ls (st.map (am_cv ad))) := by
  cases i <;> simp only [am_opP] at hop <;> try (cases hop; done)
  case aconst_null =>
    split at hop
    · cases hop
      exact lv_null hx hb hd (K ls hL)
    · cases hop
  case aload =>
    split at hop
    · rename_i x hk
      cases hop
      exact lv_aload hx hb hd (hL.at hk) (K ls hL)
    · rename_i hk
      cases hop
      exact lv_aloadN hx hb hd (hL.at hk) (K ls hL)
    · cases hop
  case aload_n =>
    split at hop
    · rename_i x hk
      cases hop
      exact lv_aload_n hx hb hd rfl (hL.at hk) (K ls hL)
    · rename_i hk
      cases hop
      exact lv_aload_nN hx hb hd rfl (hL.at hk) (K ls hL)
    · cases hop
  case iload =>
    split at hop
    · rename_i x hk
      cases hop
      exact lv_iload hx hb hd (hL.at hk) (K ls hL)
    · cases hop
  case iload_n =>
    split at hop
    · rename_i x hk
      cases hop
      exact lv_iload_n hx hb hd rfl (hL.at hk) (K ls hL)
    · cases hop
  case lload =>
    split at hop
    · rename_i x hk
      cases hop
      exact lv_lload hx hb hd (hL.at hk) (K ls hL)
    · cases hop
  case lload_n =>
    split at hop
    · rename_i x hk
      cases hop
      exact lv_lload_n hx hb hd rfl (hL.at hk) (K ls hL)
    · cases hop
  case istore =>
    split at hop
    · split at hop
      · rename_i hk
        cases hop
        exact lv_istore hx hb hd hL.2 (by rw [← hL.1]; exact hk) rfl (fun ls' hl => K ls' (am_LR.s1 hL.1 rfl hl))
      · cases hop
    · cases hop
  case istore_n =>
    split at hop
    · split at hop
      · rename_i hk
        cases hop
        exact lv_istore_n hx hb hd rfl hL.2 (by rw [← hL.1]; exact hk) rfl (fun ls' hl => K ls' (am_LR.s1 hL.1 rfl hl))
      · cases hop
    · cases hop
  case lstore =>
    split at hop
    · split at hop
      · rename_i hk
        cases hop
        exact lv_lstore hx hb hd hL.2 (by rw [← hL.1]; exact hk) rfl (fun ls' hl => K ls' (am_LR.s2 hL.1 rfl hl))
      · cases hop
    · cases hop
  case lstore_n =>
    split at hop
    · split at hop
      · rename_i hk
        cases hop
        exact lv_lstore_n hx hb hd rfl hL.2 (by rw [← hL.1]; exact hk) rfl (fun ls' hl => K ls' (am_LR.s2 hL.1 rfl hl))
      · cases hop
    · cases hop
  case astore =>
    split at hop
    · split at hop
      · rename_i hk
        cases hop
        exact lv_astore hx hb hd hL.2 (by rw [← hL.1]; exact hk) rfl (fun ls' hl => K ls' (am_LR.s1 hL.1 rfl hl))
      · cases hop
    · split at hop
      · rename_i hk
        cases hop
        exact lv_astoreN hx hb hd hL.2 (by rw [← hL.1]; exact hk) rfl (fun ls' hl => K ls' (am_LR.s1 hL.1 rfl hl))
      · cases hop
    · cases hop
  case astore_n =>
    split at hop
    · split at hop
      · rename_i hk
        cases hop
        exact lv_astore_n hx hb hd rfl hL.2 (by rw [← hL.1]; exact hk) rfl (fun ls' hl => K ls' (am_LR.s1 hL.1 rfl hl))
      · cases hop
    · split at hop
      · rename_i hk
        cases hop
        exact lv_astore_nN hx hb hd rfl hL.2 (by rw [← hL.1]; exact hk) rfl (fun ls' hl => K ls' (am_LR.s1 hL.1 rfl hl))
      · cases hop
    · cases hop
  case bipush =>
    split at hop
    · cases hop
      exact lv_bipush hx hb hd rfl (K ls hL)
    · cases hop
  case sipush =>
    split at hop
    · cases hop
      exact lv_sipush hx hb hd rfl (K ls hL)
    · cases hop
  case iconst =>
    split at hop
    · cases hop
      exact lv_iconst hx hb hd rfl (K ls hL)
    · cases hop
  case lconst =>
    split at hop
    · cases hop
      exact lv_lconst hx hb hd rfl (K ls hL)
    · cases hop
  case iadd =>
    split at hop
    · cases hop
      exact lv_iadd hx hb hd (K ls hL)
    · cases hop
  case isub =>
    split at hop
    · cases hop
      exact lv_isub hx hb hd (K ls hL)
    · cases hop
  case imul =>
    split at hop
    · cases hop
      exact lv_imul hx hb hd (K ls hL)
    · cases hop
  case iand =>
    split at hop
    · cases hop
      exact lv_iand hx hb hd (K ls hL)
    · cases hop
  case ior =>
    split at hop
    · cases hop
      exact lv_ior hx hb hd (K ls hL)
    · cases hop
  case ixor =>
    split at hop
    · cases hop
      exact lv_ixor hx hb hd (K ls hL)
    · cases hop
  case ishl =>
    split at hop
    · cases hop
      exact lv_ishl hx hb hd (K ls hL)
    · cases hop
  case ishr =>
    split at hop
    · cases hop
      exact lv_ishr hx hb hd (K ls hL)
    · cases hop
  case ineg =>
    split at hop
    · cases hop
      exact lv_ineg hx hb hd (K ls hL)
    · cases hop
  case ladd =>
    split at hop
    · cases hop
      exact lv_ladd hx hb hd (K ls hL)
    · cases hop
  case lsub =>
    split at hop
    · cases hop
      exact lv_lsub hx hb hd (K ls hL)
    · cases hop
  case lmul =>
    split at hop
    · cases hop
      exact lv_lmul hx hb hd (K ls hL)
    · cases hop
  case land =>
    split at hop
    · cases hop
      exact lv_land hx hb hd (K ls hL)
    · cases hop
  case lneg =>
    split at hop
    · cases hop
      exact lv_lneg hx hb hd (K ls hL)
    · cases hop
  case iushr =>
    split at hop
    · cases hop
      exact lv_iushr hx hb hd rfl (K ls hL)
    · cases hop
  case lshr =>
    split at hop
    · cases hop
      exact lv_lshr hx hb hd rfl (K ls hL)
    · cases hop
  case i2l =>
    split at hop
    · cases hop
      exact lv_i2l hx hb hd rfl (K ls hL)
    · cases hop
  case l2i =>
    split at hop
    · cases hop
      exact lv_l2i hx hb hd rfl (K ls hL)
    · cases hop
  case i2b =>
    split at hop
    · cases hop
      exact lv_i2b hx hb hd rfl (K ls hL)
    · cases hop
  case lcmp =>
    split at hop
    · cases hop
      exact W.lcmp hx hb hd (K ls hL)
    · cases hop
  case idiv =>
    split at hop
    · split at hop
      · cases hop
      · rename_i hn
        cases hop
        exact lv_idiv hx hb hd hn (K ls hL)
    · cases hop
  case irem =>
    split at hop
    · split at hop
      · cases hop
      · rename_i hn
        cases hop
        exact lv_irem hx hb hd hn (K ls hL)
    · cases hop
  case ldiv =>
    split at hop
    · split at hop
      · cases hop
      · rename_i hn
        cases hop
        exact lv_ldiv hx hb hd hn (K ls hL)
    · cases hop
  case lrem =>
    split at hop
    · split at hop
      · cases hop
      · rename_i hn
        cases hop
        exact lv_lrem hx hb hd hn (K ls hL)
    · cases hop
  case dup =>
    split at hop
    · split at hop
      · rename_i hn
        cases hop
        exact lv_dup hx hb hd (by rw [am_cv_cat]; exact hn) (K ls hL)
      · cases hop
    · cases hop
  case pop =>
    split at hop
    · split at hop
      · rename_i hn
        cases hop
        exact lv_pop hx hb hd (by rw [am_cv_cat]; exact hn) (K ls hL)
      · cases hop
    · cases hop
  case dup2 =>
    split at hop
    · split at hop
      · rename_i hn
        cases hop
        exact lv_dup2_11 hx hb hd (by rw [am_cv_cat]; exact hn.1) (by rw [am_cv_cat]; exact hn.2) (K ls hL)
      · cases hop
    · cases hop
  case goto =>
    split at hop
    · rename_i t ht
      cases hop
      exact lv_goto hx hb hd (am_tg_ok ht) (K ls hL)
    · cases hop
  case ifCond =>
    split at hop
    · split at hop
      · obtain ⟨rfl, rfl, t, ht, hh⟩ := am_br_ok hop
        refine lv_if_eq hx hb hd ht (fun hc => ?_) (fun hc => ?_)
        · rcases hh with ⟨-, rfl⟩ | ⟨hf, -⟩
          · exact K ls hL
          · exact absurd hc (of_decide_eq_false hf)
        · rcases hh with ⟨hf, -⟩ | ⟨-, rfl⟩
          · exact absurd (of_decide_eq_true hf) hc
          · exact K ls hL
      · obtain ⟨rfl, rfl, t, ht, hh⟩ := am_br_ok hop
        refine lv_if_ne hx hb hd ht (fun hc => ?_) (fun hc => ?_)
        · rcases hh with ⟨-, rfl⟩ | ⟨hf, -⟩
          · exact K ls hL
          · exact absurd hc (of_decide_eq_false hf)
        · rcases hh with ⟨hf, -⟩ | ⟨-, rfl⟩
          · exact absurd hc (of_decide_eq_true hf)
          · exact K ls hL
      · obtain ⟨rfl, rfl, t, ht, hh⟩ := am_br_ok hop
        refine lv_if_lt hx hb hd ht (fun hc => ?_) (fun hc => ?_)
        · rcases hh with ⟨-, rfl⟩ | ⟨hf, -⟩
          · exact K ls hL
          · exact absurd hc (of_decide_eq_false hf)
        · rcases hh with ⟨hf, -⟩ | ⟨-, rfl⟩
          · exact absurd (of_decide_eq_true hf) hc
          · exact K ls hL
      · obtain ⟨rfl, rfl, t, ht, hh⟩ := am_br_ok hop
        refine lv_if_ge hx hb hd ht (fun hc => ?_) (fun hc => ?_)
        · rcases hh with ⟨-, rfl⟩ | ⟨hf, -⟩
          · exact K ls hL
          · exact absurd hc (of_decide_eq_false hf)
        · rcases hh with ⟨hf, -⟩ | ⟨-, rfl⟩
          · exact absurd (of_decide_eq_true hf) hc
          · exact K ls hL
      · obtain ⟨rfl, rfl, t, ht, hh⟩ := am_br_ok hop
        refine lv_if_gt hx hb hd ht (fun hc => ?_) (fun hc => ?_)
        · rcases hh with ⟨-, rfl⟩ | ⟨hf, -⟩
          · exact K ls hL
          · exact absurd hc (of_decide_eq_false hf)
        · rcases hh with ⟨hf, -⟩ | ⟨-, rfl⟩
          · exact absurd (of_decide_eq_true hf) hc
          · exact K ls hL
      · obtain ⟨rfl, rfl, t, ht, hh⟩ := am_br_ok hop
        refine lv_if_le hx hb hd ht (fun hc => ?_) (fun hc => ?_)
        · rcases hh with ⟨-, rfl⟩ | ⟨hf, -⟩
          · exact K ls hL
          · exact absurd hc (of_decide_eq_false hf)
        · rcases hh with ⟨hf, -⟩ | ⟨-, rfl⟩
          · exact absurd (of_decide_eq_true hf) hc
          · exact K ls hL
    · cases hop
  case if_icmp =>
    split at hop
    · split at hop
      · obtain ⟨rfl, rfl, t, ht, hh⟩ := am_br_ok hop
        refine lv_icmp_eq hx hb hd ht (fun hc => ?_) (fun hc => ?_)
        · rcases hh with ⟨-, rfl⟩ | ⟨hf, -⟩
          · exact K ls hL
          · exact absurd hc (of_decide_eq_false hf)
        · rcases hh with ⟨hf, -⟩ | ⟨-, rfl⟩
          · exact absurd (of_decide_eq_true hf) hc
          · exact K ls hL
      · obtain ⟨rfl, rfl, t, ht, hh⟩ := am_br_ok hop
        refine lv_icmp_ne hx hb hd ht (fun hc => ?_) (fun hc => ?_)
        · rcases hh with ⟨-, rfl⟩ | ⟨hf, -⟩
          · exact K ls hL
          · exact absurd hc (of_decide_eq_false hf)
        · rcases hh with ⟨hf, -⟩ | ⟨-, rfl⟩
          · exact absurd hc (of_decide_eq_true hf)
          · exact K ls hL
      · obtain ⟨rfl, rfl, t, ht, hh⟩ := am_br_ok hop
        refine lv_icmp_lt hx hb hd ht (fun hc => ?_) (fun hc => ?_)
        · rcases hh with ⟨-, rfl⟩ | ⟨hf, -⟩
          · exact K ls hL
          · exact absurd hc (of_decide_eq_false hf)
        · rcases hh with ⟨hf, -⟩ | ⟨-, rfl⟩
          · exact absurd (of_decide_eq_true hf) hc
          · exact K ls hL
      · obtain ⟨rfl, rfl, t, ht, hh⟩ := am_br_ok hop
        refine lv_icmp_ge hx hb hd ht (fun hc => ?_) (fun hc => ?_)
        · rcases hh with ⟨-, rfl⟩ | ⟨hf, -⟩
          · exact K ls hL
          · exact absurd hc (of_decide_eq_false hf)
        · rcases hh with ⟨hf, -⟩ | ⟨-, rfl⟩
          · exact absurd (of_decide_eq_true hf) hc
          · exact K ls hL
      · obtain ⟨rfl, rfl, t, ht, hh⟩ := am_br_ok hop
        refine lv_icmp_gt hx hb hd ht (fun hc => ?_) (fun hc => ?_)
        · rcases hh with ⟨-, rfl⟩ | ⟨hf, -⟩
          · exact K ls hL
          · exact absurd hc (of_decide_eq_false hf)
        · rcases hh with ⟨hf, -⟩ | ⟨-, rfl⟩
          · exact absurd (of_decide_eq_true hf) hc
          · exact K ls hL
      · obtain ⟨rfl, rfl, t, ht, hh⟩ := am_br_ok hop
        refine lv_icmp_le hx hb hd ht (fun hc => ?_) (fun hc => ?_)
        · rcases hh with ⟨-, rfl⟩ | ⟨hf, -⟩
          · exact K ls hL
          · exact absurd hc (of_decide_eq_false hf)
        · rcases hh with ⟨hf, -⟩ | ⟨-, rfl⟩
          · exact absurd (of_decide_eq_true hf) hc
          · exact K ls hL
    · cases hop
  case ifnull =>
    split at hop
    · cases hop
      exact lv_ifnull hx hb hd (K ls hL)
    · split at hop
      · rename_i t ht
        cases hop
        exact lv_ifnullN hx hb hd (am_tg_ok ht) (K ls hL)
      · cases hop
    · cases hop
  case ifnonnull =>
    split at hop
    · cases hop
      exact lv_ifnonnullN hx hb hd (K ls hL)
    · split at hop
      · rename_i t ht
        cases hop
        exact lv_ifnonnull hx hb hd (am_tg_ok ht) (K ls hL)
      · cases hop
    · cases hop
  case iinc =>
    split at hop
    · rename_i x hk
      cases hop
      have hlt := (List.getElem?_eq_some_iff.mp hk).1
      rw [hL.1] at hlt
      obtain ⟨q, hq⟩ := List.getElem?_of_mem (am_al_in (ad := ad) hk)
      exact lv_iinc hx hb hd hL.2 (k := q) hq rfl hlt rfl (fun ls' hl => K ls' (am_LR.s1 hL.1 rfl hl))
    · cases hop
  case tableswitch =>
    split at hop
    · split at hop
      · rename_i hc
        split at hop
        · rename_i t ht
          cases hop
          exact lv_tableOut hx hb hd hc (am_tg_ok ht) (K ls hL)
        · cases hop
      · rename_i hc
        split at hop
        · rename_i off ho
          split at hop
          · rename_i t ht
            cases hop
            exact lv_tableIn hx hb hd (fun q => hc (Or.inl q)) (fun q => hc (Or.inr q)) ho (am_tg_ok ht) (K ls hL)
          · cases hop
        · cases hop
    · cases hop
end AMP
