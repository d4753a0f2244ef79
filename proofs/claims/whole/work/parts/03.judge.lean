def pd_nw (q : String × Nat × MethodName × String) : Cond := .methodLinkNest q.1 q.2.1 q.2.2.1 q.2.2.2
def pd_cast : List (String × String) := [("PantryDoors$Sugar", "PantryDoors$Good"), ("PantryDoors$Ham", "PantryDoors$Good"), ("PantryDoors$Cone", "PantryDoors$Good"), ("PantryDoors$Jelly", "PantryDoors$Good"), ("PantryDoors$Candle", "PantryDoors$Good")]
def pd_K (G : pd_G) (U : State) : Prop := va_K G.2.1 pd_cl (pd_ty G) U ∧ (∀ q ∈ pd_nest, va_Nw (pd_nw q) U) ∧ va_AO "PantryDoors$Life" U ∧ va_AO "PantryDoors$State" U ∧ va_AO "PantryDoors$Good" U ∧ ∀ q ∈ pd_cast, va_Nw (.castable q.1 q.2) U
theorem pd_K.warm {G : pd_G} {s U : State} (hW : s.WarmedH U.vm) (h : pd_K G s) : pd_K G U :=
  ⟨va_K.moved hW.alike h.1, fun q hq => va_Nw.warmM hW (h.2.1 q hq), va_AO.moved hW.alike h.2.2.1, va_AO.moved hW.alike h.2.2.2.1, va_AO.moved hW.alike h.2.2.2.2.1, fun q hq => va_Nw.warmC hW (h.2.2.2.2.2 q hq)⟩
theorem pd_K.same {G : pd_G} {s U : State} (hv : s.vm = U.vm) (h : pd_K G s) : pd_K G U := by
  have ha : s.vm.Alike U.vm := by rw [hv]; exact Vm.Alike.refl _
  exact ⟨va_K.moved ha h.1, fun q hq => va_Nw.same rfl hv (h.2.1 q hq), va_AO.moved ha h.2.2.1, va_AO.moved ha h.2.2.2.1, va_AO.moved ha h.2.2.2.2.1, fun q hq => va_Nw.same rfl hv (h.2.2.2.2.2 q hq)⟩
def pd_X (G : pd_G) (X : Option (Nat × (Nat → Int))) (s : State) : Prop := match X with
  | none => True
  | some (L, xs) => va_X G.2.2.2.2 L (fun j => jI (xs j)) s s.heap ∧ G.2.2.2.2 < s.heap.size ∧ G.2.2.2.2 < G.2.2.2.1
/-- what a walk knows of its machine -/
def pd_cx (G : pd_G) (M : pd_M) (d mc ms : Nat) (X : Option (Nat × (Nat → Int))) (p : Program) (Rm : Room) (s : State) (m : MethodId) (args : Array Value) (meth : Method) (c : Code) : Prop :=
  p.tables.exec = Jvm.exec ∧ c.code = M.2.1 ∧ c.maxLocals = M.2.2.1 ∧ s.vm.findClass M.1.cls = some m.cls ∧ (∀ w ∈ pd_tbl, w.before args s = true) ∧ pd_K G s ∧ (d ≤ Rm.frames ∧ 64 * d ≤ Rm.locals ∧ mc ≤ Rm.cells ∧ ms ≤ Rm.slots) ∧ (M.1.name = "<init>" → meth.name = "<init>") ∧ G.2.2.2.1 ≤ s.heap.size ∧ pd_X G X s
/-! locals -/
def pd_nth : List (Option pv) → Nat → Option pv
  | [], _ => none
  | a :: _, 0 => a
  | _ :: l, n + 1 => pd_nth l n
def pd_put : List (Option pv) → Nat → Option pv → List (Option pv)
  | [], _, _ => []
  | _ :: l, 0, v => v :: l
  | a :: l, n + 1, v => a :: pd_put l n v
theorem pd_nth_put : ∀ (l : List (Option pv)) (i j : Nat) (v : Option pv) {w : pv}, pd_nth (pd_put l i v) j = some w → (j = i ∧ v = some w) ∨ (j ≠ i ∧ pd_nth l j = some w)
  | [], _, _, _, _, h => by simp [pd_put, pd_nth] at h
  | a :: l, 0, 0, v, w, h => Or.inl ⟨rfl, h⟩
  | a :: l, 0, j + 1, v, w, h => Or.inr ⟨by omega, h⟩
  | a :: l, i + 1, 0, v, w, h => Or.inr ⟨by omega, h⟩
  | a :: l, i + 1, j + 1, v, w, h => by
    rcases pd_nth_put l i j v h with ⟨h1, h2⟩ | ⟨h1, h2⟩
    · exact Or.inl ⟨by omega, h2⟩
    · exact Or.inr ⟨by omega, h2⟩
def pd_lv (G : pd_G) (ls : Array Slot) (nL : Nat) (lv : List (Option pv)) : Prop := ls.size = nL ∧ lv_wf ls ∧ ∀ (i : Nat) (v : pv), pd_nth lv i = some v → ls[i]? = some (.val (pd_up G v))
/-- the place before i holds no long -/
def pd_o1 (lv : List (Option pv)) : Nat → Bool
  | 0 => true
  | i + 1 => match pd_nth lv i with
    | some (.inr (.inl _)) => false
    | _ => true
def pd_ll (G : pd_G) (lv : List (Option pv)) : List (Nat × Value) := (List.range lv.length).filterMap (fun j => (pd_nth lv j).map (fun v => (j, pd_up G v)))
theorem pd_nth_lt : ∀ (l : List (Option pv)) (i : Nat) {w : pv}, pd_nth l i = some w → i < l.length
  | [], _, _, h => by simp [pd_nth] at h
  | _ :: _, 0, _, _ => by simp
  | _ :: l, i + 1, _, h => by
    have := pd_nth_lt l i h
    simp only [List.length_cons]
    omega
theorem pd_ll_mem {G : pd_G} {lv : List (Option pv)} {j : Nat} {w : pv} (h : pd_nth lv j = some w) : (j, pd_up G w) ∈ pd_ll G lv :=
  List.mem_filterMap.mpr ⟨j, List.mem_range.mpr (pd_nth_lt lv j h), by rw [h]; rfl⟩
theorem pd_lv.has {G : pd_G} {ls : Array Slot} {nL : Nat} {lv : List (Option pv)} (h : pd_lv G ls nL lv) : lv_has ls nL (pd_ll G lv) := by
  refine ⟨h.1, h.2.1, fun q hq => ?_⟩
  obtain ⟨j, -, hj⟩ := List.mem_filterMap.mp hq
  cases hn : pd_nth lv j with
  | none => rw [hn] at hj; cases hj
  | some w =>
    rw [hn] at hj
    cases hj
    exact h.2.2 j w hn
theorem pd_cat (G : pd_G) (v : pv) : (pd_up G v).category = 2 ↔ ∃ z, v = vl z := by
  rcases v with z | z | r
  · simp [pd_up, Value.category]
  · simp [pd_up, Value.category]
  · cases r <;> simp [pd_up, Value.category, va_rf]
theorem pd_lv.st1 {G : pd_G} {ls' : Array Slot} {nL : Nat} {lv : List (Option pv)} {i : Nat} {v : pv} (ho : pd_o1 lv i = true)
    (h : lv_has ls' nL ((i, pd_up G v) :: (pd_ll G lv).filter (fun q => !(q.1 == i) && !(q.1 + 1 == i && q.2.category == 2)))) : pd_lv G ls' nL (pd_put lv i (some v)) := by
  refine ⟨h.1, h.2.1, fun j w hj => ?_⟩
  rcases pd_nth_put lv i j (some v) hj with ⟨rfl, h2⟩ | ⟨h1, h2⟩
  · cases h2
    exact h.2.2 _ List.mem_cons_self
  · refine h.2.2 (j, pd_up G w) (List.mem_cons_of_mem _ (List.mem_filter.mpr ⟨pd_ll_mem h2, ?_⟩))
    simp only [Bool.and_eq_true, Bool.not_eq_true', beq_eq_false_iff_ne, ne_eq, Bool.and_eq_false_iff, h1, not_false_eq_true, true_and]
    by_cases hji : j + 1 = i
    · right
      intro hc
      obtain ⟨z, rfl⟩ := (pd_cat G w).mp hc
      subst hji
      rw [pd_o1, h2] at ho
      cases ho
    · exact Or.inl hji
theorem pd_lv.st2 {G : pd_G} {ls' : Array Slot} {nL : Nat} {lv : List (Option pv)} {i : Nat} {v : pv} (ho : pd_o1 lv i = true)
    (h : lv_has ls' nL ((i, pd_up G v) :: (pd_ll G lv).filter (fun q => !(q.1 == i) && (!(q.1 == i + 1) && !(q.1 + 1 == i && q.2.category == 2))))) : pd_lv G ls' nL (pd_put (pd_put lv (i + 1) none) i (some v)) := by
  refine ⟨h.1, h.2.1, fun j w hj => ?_⟩
  rcases pd_nth_put _ i j (some v) hj with ⟨rfl, h2⟩ | ⟨h1, h2⟩
  · cases h2
    exact h.2.2 _ List.mem_cons_self
  · rcases pd_nth_put lv (i + 1) j none h2 with ⟨-, h3⟩ | ⟨h3, h4⟩
    · cases h3
    · refine h.2.2 (j, pd_up G w) (List.mem_cons_of_mem _ (List.mem_filter.mpr ⟨pd_ll_mem h4, ?_⟩))
      simp only [Bool.and_eq_true, Bool.not_eq_true', beq_eq_false_iff_ne, ne_eq, Bool.and_eq_false_iff, h1, h3, not_false_eq_true, true_and]
      by_cases hji : j + 1 = i
      · right
        intro hc
        obtain ⟨z, rfl⟩ := (pd_cat G w).mp hc
        subst hji
        rw [pd_o1, h4] at ho
        cases ho
      · exact Or.inl hji
/-! the judgement -/
def pd_rd (M : pd_M) (pc : Nat) (v : Option pv) : Prop := match M.2.2.2, v with
  | none, none => decode M.2.1 pc = .ok (.return_, 1)
  | some .int, some (.inl _) => decode M.2.1 pc = .ok (.ireturn, 1)
  | some .boolean, some (.inl z) => decode M.2.1 pc = .ok (.ireturn, 1) ∧ (z = 0 ∨ z = 1)
  | some .long, some (.inr (.inl _)) => decode M.2.1 pc = .ok (.lreturn, 1)
  | _, _ => False
abbrev pd_R : Type := Option pv → Nat → pd_P → Prop
def pd_T (G : pd_G) (M : pd_M) (d mc ms : Nat) (X : Option (Nat × (Nat → Int))) (R : pd_R) (pc : Nat) (lv : List (Option pv)) (st : List pv) (sz ce sl : Nat) (hp : pd_P) : Prop :=
  ∀ (p : Program) (e : Env) (Rm : Room) (s : State) (m : MethodId) (args : Array Value) (below : List Frame) (meth : Method) (c : Code) (Q : State → Prop),
    pd_cx G M d mc ms X p Rm s m args meth c →
    (∀ (pc' : Nat) (H' : Heap) (locs' : List Loc) (ls' : Array Slot) (v : Option pv) (sz' : Nat) (hp' : pd_P), pd_rd M pc' v → R v sz' hp' → pd_H G sz' hp' H' → va_S (pd_A G) s.heap H' locs' →
      W p G.1 e Rm s m args below meth c H' locs' mc ms Q (F0 m pc' ls' (v.toList.map (pd_up G)))) →
    ∀ (H : Heap) (locs : List Loc) (ls : Array Slot), pd_H G sz hp H → va_S (pd_A G) s.heap H locs → pd_lv G ls M.2.2.1 lv →
      W p G.1 e Rm s m args below meth c H locs ce sl Q (F0 m pc ls (st.map (pd_up G)))
def pd_rm (d mc ms : Nat) : Room := { frames := d, cells := mc, slots := ms, locals := 64 * d }
def pd_Pc (G : pd_G) (sz : Nat) (hp : pd_P) (U : State) : Prop := pd_H G sz hp U.heap ∧ pd_K G U
def pd_Qc (G : pd_G) (R : pd_R) : Array Value → State → Outcome → State → Prop := fun _ st o t => (∃ (v : Option pv) (sz' : Nat) (hp' : pd_P), o = .returned (v.map (pd_up G)) ∧ R v sz' hp' ∧ pd_H G sz' hp' t.heap) ∧ va_F (pd_A G) st t
/-- a method's contract: with these arguments, over this world, it returns, and R holds of its answer and of the world then -/
def pd_C (G : pd_G) (M : pd_M) (d mc ms : Nat) (av : List pv) (sz : Nat) (hp : pd_P) (R : pd_R) : Prop :=
  Met G.1 M.1 (pd_ws M) (pd_rm d mc ms) (va_Pc (av.map (pd_up G)) (pd_Pc G sz hp)) (pd_Qc G R) mc ms (pd_A G)
theorem pd_one (G : pd_G) (v : pv) (h : ∀ z, v ≠ vl z) : (pd_up G v).category = 1 := by
  rcases lv_cat (pd_up G v) with h1 | h1
  · exact h1
  · obtain ⟨z, hz⟩ := (pd_cat G v).mp h1
    exact absurd hz (h z)
def pd_sm (av : List pv) : Bool := av.all (fun v => match v with | .inr (.inl _) => false | _ => true)
theorem pd_entry (G : pd_G) : ∀ (av : List pv), pd_sm av = true → lg_sl (av.map (pd_up G)) = (av.map (fun v => Slot.val (pd_up G v)))
  | [], _ => rfl
  | v :: av, h => by
    have h1 : pd_sm av = true := by
      simp only [pd_sm, List.all_cons, Bool.and_eq_true] at h
      exact h.2
    have h0 : ∀ z, v ≠ vl z := by
      intro z hz
      subst hz
      simp [pd_sm] at h
    have hc := pd_one G v h0
    have ih := pd_entry G av h1
    simp only [lg_sl, List.map_cons, List.flatMap_cons] at ih ⊢
    rw [hc, ih]
    rfl
theorem pd_nth_app : ∀ (av : List pv) (k i : Nat) {w : pv}, pd_nth (av.map some ++ List.replicate k none) i = some w → av[i]? = some w
  | [], 0, i, w, h => by simp [pd_nth] at h
  | [], k + 1, 0, w, h => by simp [pd_nth, List.replicate_succ] at h
  | [], k + 1, i + 1, w, h => by
    have h2 : pd_nth (([] : List pv).map some ++ List.replicate k none) i = some w := by simpa [pd_nth, List.replicate_succ] using h
    have := pd_nth_app [] k i h2
    simp at this
  | a :: av, k, 0, w, h => by simpa [pd_nth] using h
  | a :: av, k, i + 1, w, h => by
    have h2 : pd_nth (av.map some ++ List.replicate k none) i = some w := by simpa [pd_nth] using h
    simpa using pd_nth_app av k i h2
/-- a contract out of a walk -/
theorem pd_con {G : pd_G} {M : pd_M} {d mc ms n : Nat} {av : List pv} {sz : Nat} {hp : pd_P} {R : pd_R} (hM : pd_ok M n) (lv : List (Option pv)) (hlv : av.map some ++ List.replicate (M.2.2.1 - av.length) none = lv) (hs : pd_sm av = true) (hle : av.length ≤ M.2.2.1)
    (h : pd_T G M d mc ms none R 0 lv [] sz 0 0 hp) : pd_C G M d mc ms av sz hp R := by
  refine Met.ofW (cc := M.2.1) (maxL := M.2.2.1) (ret := M.2.2.2) hM.2.2.1 rfl ?_
  intro p e s m args below meth c s₁ B hml hv
  obtain ⟨rfl, hH, hK⟩ := hv
  have hts := atoms_spec (ws := pd_ws M) B.pre
  have hlocks := B.notSynchronized
  have hbs : G.2.2.2.1 ≤ s.heap.size := by rw [hH.1]; exact Nat.le_add_right _ _
  have hcx : pd_cx G M d mc ms none p (headSpec (pd_ws M) (pd_rm d mc ms)).room s m (av.map (pd_up G)).toArray meth c :=
    ⟨B.exec, B.bytes, hml, findClass_of_methodNamed B.named, fun w hw => hts w (List.mem_cons_of_mem _ hw), hK, ⟨Nat.le_refl _, Nat.le_refl _, Nat.le_refl _, Nat.le_refl _⟩, fun hn => by rw [← hn]; exact (name_of_methodNamed B.named B.method).1, hbs, trivial⟩
  rw [lg_entry_eq]
  have hlv2 : pd_lv G ((lg_sl (av.map (pd_up G)) ++ List.replicate (M.2.2.1 - (lg_sl (av.map (pd_up G))).length) Slot.unset).toArray) M.2.2.1 lv := by
    have e0 := pd_entry G av hs
    have he := lv_entry (av.map (pd_up G)) (n := M.2.2.1) (by rw [e0]; simpa using hle)
    refine ⟨he.1, he.2.1, fun i w hw => ?_⟩
    rw [← hlv] at hw
    have h1 := pd_nth_app av _ i hw
    have hi : i < av.length := (List.getElem?_eq_some_iff.mp h1).1
    rw [List.getElem?_toArray, e0, List.getElem?_append_left (by simpa using hi), List.getElem?_map, h1]
    rfl
  refine h p e _ s m _ below meth c _ hcx ?_ s.heap [] _ hH va_S.rf hlv2
  intro pc' H' locs' ls' v sz' hp' hrd hR hH' hS'
  have hr := B.returns
  revert hrd
  unfold pd_rd
  split
  · rename_i h1
    intro hd
    exact W.vret B.exec B.bytes (hr.trans h1) (fun t ht hW => ⟨⟨none, sz', hp', rfl, hR, by rw [ht]; exact hH'⟩, hS'.F ht⟩) hS'.2.2 hd
  · rename_i z h1
    intro hd
    exact W.iret (v := jI z) B.exec B.bytes (hr.trans h1) (fun t ht hW => ⟨⟨some (vi z), sz', hp', rfl, hR, by rw [ht]; exact hH'⟩, hS'.F ht⟩) hS'.2.2 hd
  · rename_i z h1
    intro hd
    exact W.zret (v := jI z) B.exec B.bytes (hr.trans h1) (by rcases hd.2 with rfl | rfl <;> rfl) (fun t ht hW => ⟨⟨some (vi z), sz', hp', rfl, hR, by rw [ht]; exact hH'⟩, hS'.F ht⟩) hS'.2.2 hd.1
  · rename_i z h1
    intro hd
    exact W.lret (v := jL z) B.exec B.bytes (hr.trans h1) (fun t ht hW => ⟨⟨some (vl z), sz', hp', rfl, hR, by rw [ht]; exact hH'⟩, hS'.F ht⟩) hS'.2.2 hd
  · intro hd
    exact hd.elim
