/-! a method of the small machine is a method of the machine -/
theorem am_wr_n {h h' : am_H} {c a k : Nat} {v : Value} (hw : am_wr h c a k v = some h') : h'.1 = h.1 ∧ h'.2.1 = h.2.1 := by
  unfold am_wr at hw
  split at hw <;> first | (cases hw; exact ⟨rfl, rfl⟩) | (split at hw <;> first | (cases hw; exact ⟨rfl, rfl⟩) | cases hw) | cases hw
set_option maxHeartbeats 4000000 in
theorem am_opH_mono {X : am_X} {o : Nat} {ini : Bool} {i : Instr} {len pc pc' : Nat} {st st' : List Value} {h h' : am_H} (hop : am_opH X o ini i len pc st h = some (pc', st', h')) : h.1 ≤ h'.1 ∧ h.2.1 ≤ h'.2.1 := by
  have hnw : ∀ kd len f, h.1 ≤ (am_nw h kd len f).1 ∧ h.2.1 ≤ (am_nw h kd len f).2.1 := fun kd len f => ⟨Nat.le_succ _, Nat.le_add_right _ _⟩
  cases i <;> simp only [am_opH] at hop <;> try (cases hop; done)
  all_goals
    repeat' split at hop
  all_goals first
    | (cases hop; exact ⟨Nat.le_refl _, Nat.le_refl _⟩)
    | (cases hop; exact hnw _ _ _)
    | (cases hop; rename_i hw; obtain ⟨e1, e2⟩ := am_wr_n hw; exact ⟨Nat.le_of_eq e1.symm, Nat.le_of_eq e2.symm⟩)
    | (cases hop; done)
theorem am_mono (X : am_X) : ∀ (n d m pc : Nat) (L : am_L) (st : List Value) (h : am_H) (v : Option Value) (hE : am_H), am_ex X n d m pc L st h = some (v, hE) → h.1 ≤ hE.1 ∧ h.2.1 ≤ hE.2.1 := by
  intro n
  induction n with
  | zero => intro d m pc L st h v hE hex; cases hex
  | succ n ih =>
    intro d m pc L st h v hE hex
    rw [am_ex] at hex
    split at hex
    · split at hex
      · exact ih _ _ _ _ _ _ _ _ hex
      · split at hex
        · rename_i hop
          have h1 := am_opH_mono hop
          have h2 := ih _ _ _ _ _ _ _ _ hex
          exact ⟨Nat.le_trans h1.1 h2.1, Nat.le_trans h1.2 h2.2⟩
        · split at hex
          · cases hex
            exact ⟨Nat.le_refl _, Nat.le_refl _⟩
          · split at hex
            · split at hex
              · split at hex
                · rename_i hcall
                  have h1 := ih _ _ _ _ _ _ _ _ hcall
                  have h2 := ih _ _ _ _ _ _ _ _ hex
                  exact ⟨Nat.le_trans h1.1 h2.1, Nat.le_trans h1.2 h2.2⟩
                · cases hex
              · cases hex
            · cases hex
    · cases hex
def am_Pc (X : am_X) (D : va_G) (dA : Nat → ClassId) (B : Nat) (ad : Nat → Nat) (h : am_H) (as : List Value) : Array Value → State → Prop := va_Pc (as.map (am_cv ad)) (fun U => am_P D dA B ad h U.heap ∧ va_K D vwCl (am_tys dA) U ∧ am_C X B ad U)
def am_Qc (D : va_G) (dA : Nat → ClassId) (B : Nat) (ad : Nat → Nat) (v : Option Value) (h' : am_H) : Array Value → State → Outcome → State → Prop := fun _ st oc t => oc = .returned (v.map (am_cv ad)) ∧ am_P D dA B ad h' t.heap ∧ va_F (fun q => B ≤ q) st t
theorem am_Pc_blind (X : am_X) (D : va_G) (dA : Nat → ClassId) (B : Nat) (ad : Nat → Nat) (h : am_H) (as : List Value) : FrameBlind (am_Pc X D dA B ad h as) := by
  intro a U g mk q
  obtain ⟨q0, qP, qK, qC⟩ := q
  exact ⟨q0, qP, va_K.moved (u := U) (U := U.calling g mk a) (Vm.Alike.refl U.vm) qK, qC.same rfl rfl⟩
def am_ws (m : Nat) : List Cond := Cond.code (am_me m).1 (am_me m).2.1 (am_me m).2.2.1 (am_me m).2.2.2.1 :: am_TB
theorem am_ws_in {m : Nat} (hm : m < 294) : ∀ w ∈ am_ws m, w ∈ am_TB := fun w hw => by
  rcases List.mem_cons.mp hw with e | e
  · rw [e]; exact (am_me_ok hm).1
  · exact e
def am_rm (d mc ms : Nat) : Room := { frames := d + 5, cells := mc, slots := ms, locals := (d + 1) * 64 + 200 }
theorem am_ar_lg (ad : Nat → Nat) : ∀ vs : List Value, (lg_sl (vs.map (am_cv ad))).length = (am_ar vs).length := by
  intro vs
  induction vs with
  | nil => rfl
  | cons v vs ih =>
    simp only [List.map_cons, lg_sl, List.flatMap_cons, am_ar, List.length_append] at ih ⊢
    rw [am_cv_cat]
    by_cases hc : v.category = 2
    · simp only [hc, if_true, List.length_cons, List.length_nil]
      omega
    · simp only [hc, if_false, List.length_cons, List.length_nil]
      omega
theorem am_ar_args (ad : Nat → Nat) : ∀ (vs : List Value) (k i : Nat) (v : Value), (am_ar vs)[i]? = some (some v) → (k + i, am_cv ad v) ∈ lv_args k (vs.map (am_cv ad)) := by
  intro vs
  induction vs with
  | nil => intro k i v h; simp [am_ar] at h
  | cons w vs ih =>
    intro k i v h
    simp only [List.map_cons, lv_args]
    rw [am_cv_cat]
    unfold am_ar at h
    by_cases hc : w.category = 2
    · rw [if_pos hc] at h ⊢
      match i, h with
      | 0, h => cases h; exact List.mem_cons_self
      | 1, h => cases h
      | i + 2, h =>
        have := ih (k + 2) i v h
        rw [show k + (i + 2) = k + 2 + i by omega]
        exact List.mem_cons_of_mem _ this
    · rw [if_neg hc] at h ⊢
      match i, h with
      | 0, h => cases h; exact List.mem_cons_self
      | i + 1, h =>
        have := ih (k + 1) i v h
        rw [show k + (i + 1) = k + 1 + i by omega]
        exact List.mem_cons_of_mem _ this
theorem am_entry (ad : Nat → Nat) (m : MethodId) (vs : List Value) (n : Nat) (h : (am_ar vs).length ≤ n) : ∃ ls, entryFrame m (vs.map (am_cv ad)).toArray n = F0 m 0 ls [] ∧ am_LR ad ls n (am_en n vs) := by
  refine ⟨_, lg_entry_eq m (vs.map (am_cv ad)) n, ?_⟩
  have hl := lv_entry (vs.map (am_cv ad)) (n := n) (by rw [am_ar_lg]; exact h)
  refine ⟨?_, hl.1, hl.2.1, fun q hq => hl.2.2 q ?_⟩
  · unfold am_en
    rw [List.length_append, List.length_replicate]
    omega
  · obtain ⟨v, h1, h2⟩ := am_al_mem hq
    obtain ⟨i, x⟩ := q
    dsimp only at h1 h2
    subst h2
    unfold am_en at h1
    by_cases hi : i < (am_ar vs).length
    · rw [List.getElem?_append_left hi] at h1
      have := am_ar_args ad vs 0 i v h1
      rw [Nat.zero_add] at this
      exact this
    · rw [List.getElem?_append_right (by omega)] at h1
      have := List.mem_of_getElem? h1
      have := List.eq_of_mem_replicate this
      cases this
section AMK
variable {p : Program} {l : Launch} {e : Env} {R : Room} {s : State} {m : MethodId} {args : Array Value} {below : List Frame} {meth : Method} {c : Code} {H : Heap} {locs : List Loc} {cells slots : Nat} {Q : State → Prop}
variable {cc : ByteArray} {pc : Nat} {ls : Array Slot} {rest : List Value} {X : am_X} {D : va_G} {dA : Nat → ClassId} {B : Nat} {ad : Nat → Nat} {o nL : Nat} {h : am_H}
theorem am_simR {rt : Option FieldType} {i : Instr} {v : Option Value} {Qc : Array Value → State → Outcome → State → Prop} {free : Addr → Prop} (hx : p.tables.exec = Jvm.exec) (hb : c.code = cc) (hr : meth.sig.returnType = rt) (hlocks : meth.locks = false) (hop : am_opR rt i 1 v.toList = some v) (hd : decode cc pc = .ok (i, 1))
    (hq : ∀ t : State, t.heap = H → s.WarmedH t.vm → Qc args s (.returned (v.map (am_cv ad))) t) (hf : ∀ q ∈ locs, free q.base) : W p l e R s m args below meth c H locs cells slots (MQ below Qc args s cells slots free) (F0 m pc ls (v.toList.map (am_cv ad))) := by
  cases i <;> simp only [am_opR] at hop <;> try (cases hop; done)
  case ireturn =>
    split at hop
    · rename_i x hst
      cases hop
      exact W.iret hx hb hr hq hf hd
    · rename_i x hst
      split at hop
      · rename_i hc
        cases hop
        exact W.zret hx hb hr (by rcases hc with rfl | rfl <;> rfl) hq hf hd
      · cases hop
    · cases hop
  case lreturn =>
    split at hop
    · rename_i x hst
      cases hop
      exact W.lret hx hb hr hq hf hd
    · cases hop
  case areturn =>
    split at hop
    · cases hop
      exact W.aret hx hb hr (Or.inl ⟨_, rfl⟩) (Or.inr ⟨_, rfl⟩) hq hf hd
    · cases hop
      exact W.aret hx hb hr (Or.inl ⟨_, rfl⟩) (Or.inl rfl) hq hf hd
    · cases hop
      exact W.aret hx hb hr (Or.inr ⟨_, rfl⟩) (Or.inr ⟨_, rfl⟩) hq hf hd
    · cases hop
  case return_ =>
    split at hop
    · cases hop
      exact W.vret hx hb hr hq hf hd
    · cases hop
theorem am_opR_st {rt : Option FieldType} {i : Instr} {len : Nat} {st : List Value} {v : Option Value} (hop : am_opR rt i len st = some v) : st = v.toList ∧ len = 1 := by
  cases i <;> simp only [am_opR] at hop <;> try (cases hop; done)
  all_goals
    repeat' split at hop
  all_goals first
    | (cases hop; exact ⟨rfl, rfl⟩)
    | (cases hop; done)
theorem am_cont {v : Option Value} {h' : am_H} {a : Array Value} {mc ms : Nat} {st0 : List Value} (hr : va_Run p l e R s m args below meth c H locs cells slots mc ms (F0 m pc ls st0) rest (am_Qc D dA B ad v h' a) (fun q => B ≤ q)) (hS : va_S (fun q => B ≤ q) s.heap H locs)
    (kk : ∀ (H1 : Heap) (locs1 : List Loc), am_P D dA B ad h' H1 → va_S (fun q => B ≤ q) s.heap H1 locs1 → W p l e R s m args below meth c H1 locs1 (cells + mc) (slots + ms) Q (F0 m (pc + 3) ls ((v.map (am_cv ad)).toList ++ rest))) : W p l e R s m args below meth c H locs cells slots Q (F0 m pc ls st0) := by
  intro T hT X
  obtain ⟨w, st₀, t, T', L, h0, X', hL, e1, e2, ⟨hv, hp, hz, hk⟩, st⟩ := hr T hT X
  cases hv
  rw [h0] at hz hk
  obtain ⟨t2, a1, b1⟩ := kk T'.heap (locs ++ L) (by rw [e1]; exact hp) ⟨Nat.le_trans hS.1 (by rw [e1]; exact hz), fun q h1 h2 => by rw [e1, hk q (Nat.lt_of_lt_of_le h1 hS.1) h2]; exact hS.2.1 q h1 h2, fun q hq => by
      rcases List.mem_append.mp hq with h | h
      · exact hS.2.2 q h
      · exact hL q h⟩ T' rfl X'
  exact ⟨t2, st t2 a1, b1⟩
end AMK
/-- n turns of the small machine, on the machine -/
def am_Sim (l : Launch) (X : am_X) (D : va_G) (dA : Nat → ClassId) (B : Nat) (ad : Nat → Nat) (n : Nat) : Prop :=
  ∀ (d mid pc : Nat) (L : am_L) (st : List Value) (h : am_H) (v : Option Value) (hE : am_H), am_ex X n d mid pc L st h = some (v, hE) →
  ∀ (p : Program) (e : Env) (R : Room) (s : State) (m : MethodId) (args : Array Value) (below : List Frame) (meth : Method) (c : Code) (H : Heap) (locs : List Loc) (cells slots : Nat) (Q : State → Prop) (ls : Array Slot),
  am_Cx X D dA B ad (am_me mid).2.2.2.2.1 (am_me mid).2.1 (am_me mid).2.2.1 p s m args c → ((am_me mid).1.name = "<init>" → meth.name = "<init>") → am_P D dA B ad h H → va_S (fun q => B ≤ q) s.heap H locs → am_LR ad ls (am_me mid).2.2.1 L →
  cells + (hE.1 - h.1) ≤ R.cells → slots + (hE.2.1 - h.2.1) ≤ R.slots → d + 5 ≤ R.frames → (d + 1) * 64 + 200 ≤ R.locals →
  (∀ (H1 : Heap) (locs1 : List Loc) (pc1 : Nat) (ls1 : Array Slot) (i : Instr), am_P D dA B ad hE H1 → va_S (fun q => B ≤ q) s.heap H1 locs1 → decode (am_me mid).2.1 pc1 = .ok (i, 1) → am_opR (am_me mid).2.2.2.1 i 1 v.toList = some v → W p l e R s m args below meth c H1 locs1 (cells + (hE.1 - h.1)) (slots + (hE.2.1 - h.2.1)) Q (F0 m pc1 ls1 (v.toList.map (am_cv ad)))) →
  W p l e R s m args below meth c H locs cells slots Q (F0 m pc ls (st.map (am_cv ad)))
theorem am_met {l : Launch} {X : am_X} {D : va_G} {dA : Nat → ClassId} {B : Nat} {ad : Nat → Nat} (had : ∀ a, a < am_K0 → ad a = B + a) {n : Nat} (hs : am_Sim l X D dA B ad n) {d mid : Nat} (hm : mid < 294) {as : List Value} (ha : (am_ar as).length ≤ (am_me mid).2.2.1) {h h' : am_H} {v : Option Value} (hex : am_ex X n d mid 0 (am_en (am_me mid).2.2.1 as) [] h = some (v, h')) :
    Met l (am_me mid).1 (am_ws mid) (am_rm d (h'.1 - h.1) (h'.2.1 - h.2.1)) (am_Pc X D dA B ad h as) (am_Qc D dA B ad v h') (h'.1 - h.1) (h'.2.1 - h.2.1) (fun q => B ≤ q) := by
  obtain ⟨hcode, hini, hsi, hcls, hmh, hpl, hml40⟩ := am_me_ok hm
  refine Met.ofW (cc := (am_me mid).2.1) (maxL := (am_me mid).2.2.1) (ret := (am_me mid).2.2.2.1) hpl rfl ?_
  intro p e s m args below meth c s₁ B0 hml hv
  obtain ⟨rfl, hP, hK, hC⟩ := hv
  have hts := atoms_spec (ws := am_ws mid) B0.pre
  have hown : s.vm.findClass (am_me mid).1.cls = some m.cls := findClass_of_methodNamed B0.named
  rw [hcls] at hown
  obtain ⟨ls, hfr, hL⟩ := am_entry ad m as (am_me mid).2.2.1 ha
  rw [hfr]
  have key := hs d mid 0 _ [] h v h' hex p e (headSpec (am_ws mid) (am_rm d (h'.1 - h.1) (h'.2.1 - h.2.1))).room s m (as.map (am_cv ad)).toArray below meth c s.heap [] 0 0 (MQ below (am_Qc D dA B ad v h') (as.map (am_cv ad)).toArray s (h'.1 - h.1) (h'.2.1 - h.2.1) (fun q => B ≤ q)) ls
    ⟨B0.exec, B0.bytes, hml, hown, fun w hw => hts w (List.mem_cons_of_mem _ hw), hK, hC, had⟩ (fun e => ((name_of_methodNamed B0.named B0.method).1).trans e) hP va_S.rf hL (by show 0 + _ ≤ _; rw [Nat.zero_add]; exact Nat.le_refl _) (by show 0 + _ ≤ _; rw [Nat.zero_add]; exact Nat.le_refl _) (Nat.le_refl _) (Nat.le_refl _)
  refine key (fun H1 locs1 pc1 ls1 i hP1 hS1 hd hop => ?_)
  rw [Nat.zero_add, Nat.zero_add]
  exact am_simR B0.exec B0.bytes B0.returns B0.notSynchronized hop hd (fun t ht _ => ⟨rfl, by rw [ht]; exact hP1, hS1.F ht⟩) hS1.2.2
