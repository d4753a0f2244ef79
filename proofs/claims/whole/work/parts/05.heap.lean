/-! rows of the heap -/
theorem pd_lt {G : pd_G} {sz : Nat} {hp : pd_P} {H : Heap} {a : Nat} (hH : pd_H G sz hp H) (h : hp a ≠ ob 99 []) : ∃ k, a = k + 1 ∧ k < sz := by
  cases a with
  | zero => exact absurd (hH.2.2 0 (Or.inl rfl)) h
  | succ k =>
    refine ⟨k, rfl, ?_⟩
    rcases Nat.lt_or_ge k sz with h1 | h1
    · exact h1
    · exact absurd (hH.2.2 (k + 1) (Or.inr (by omega))) h
theorem pd_H.set {G : pd_G} {sz : Nat} {hp : pd_P} {H H1 : Heap} {k : Nat} {e : pd_E} (hH : pd_H G sz hp H) (hk : k < sz) (hz : H1.size = H.size) (hP : va_P G.2.1 pd_cl ((pd_w G sz hp).set k (G.2.2.2.1 + k, pd_e G e)) H1) : pd_H G sz (va_up hp (k + 1) e) H1 := by
  refine ⟨hz.trans hH.1, by rw [← pd_w_set hk]; exact hP, fun j hj => ?_⟩
  rw [va_up_ne _ _ (by omega)]
  exact hH.2.2 j hj
/-- an old cell's change keeps the size: what is said of the cells that were there, and no more, bounds it from below; the rows of the kit say 'va_S' alone -/
def pd_fit (ty : FieldType) (v : pv) : Prop := match ty, v with
  | .int, .inl _ => True
  | .boolean, .inl z => z = 0 ∨ z = 1
  | .long, .inr (.inl _) => True
  | .object _, .inr (.inr (some _)) => True
  | .array _, .inr (.inr (some _)) => True
  | _, _ => False
theorem pd_fit.nar {G : pd_G} {ty : FieldType} {v : pv} (h : pd_fit ty v) : narrow ty (pd_up G v) = pd_up G v ∧ fits ty (pd_up G v) = true := by
  unfold pd_fit at h
  split at h
  · exact ⟨rfl, rfl⟩
  · rcases h with rfl | rfl <;> exact ⟨rfl, rfl⟩
  · exact ⟨rfl, rfl⟩
  · exact ⟨rfl, rfl⟩
  · exact ⟨rfl, rfl⟩
  · exact h.elim
/-- a field by its place in a class's pool: of objects of the ci-th class it is the k-th -/
def pd_fl (own : String) (idx ci k : Nat) (ty : FieldType) : Prop := ∃ (C : String) (T : u_T) (N : Nat) (ref : String) (ty0 : Nat → FieldType), pd_cl[ci]? = some (C, T, N) ∧ k < N ∧ (∀ w ∈ u_ws C T N, w ∈ pd_tbl) ∧ Cond.fieldLink own idx ref (T k).2.1 (T k).2.2.1 ∈ pd_tbl ∧ ((T k).1 = ref ∨ Cond.sameField ref (T k).1 (T k).2.1 (T k).2.2.1 ∈ pd_tbl) ∧ (∀ k, k < N → parseFieldDescriptor (T k).2.2.1 = some (ty0 k)) ∧ (∀ a, a < N → ∀ b, b < N → a ≠ b → (T a).2.1 ≠ (T b).2.1) ∧ ty0 k = ty
def pd_fin (ci k : Nat) : Option (Bool × String) := (pd_cl[ci]?).map (fun q => ((q.2.1 k).2.2.2, (q.2.1 k).1))
def pd_gf (M : pd_M) (pc ci k n : Nat) : Prop := ∃ (idx : Nat) (ty : FieldType), pd_i M pc (.getfield idx) 3 n ∧ pd_fl M.1.cls idx ci k ty
def pd_pf (M : pd_M) (pc ci k : Nat) (ty : FieldType) (n : Nat) : Prop := ∃ idx : Nat, pd_i M pc (.putfield idx) 3 n ∧ pd_fl M.1.cls idx ci k ty ∧ ((∃ o, pd_fin ci k = some (false, o)) ∨ (pd_fin ci k = some (true, M.1.cls) ∧ M.1.name = "<init>"))
theorem pd_same {s : State} {args : Array Value} {ref O nm ds : String} (hts : ∀ w ∈ pd_tbl, w.before args s = true) (h : O = ref ∨ Cond.sameField ref O nm ds ∈ pd_tbl) (x : ClassId × Class × Nat × Field) (hx : s.fieldFound? O nm ds = some x) : s.fieldFound? ref nm ds = some x := by
  rcases h with rfl | h
  · exact hx
  · exact u_same (hts _ h) x hx
section PDHEAP
variable {G : pd_G} {M : pd_M} {d mc ms : Nat} {X : Option (Nat × (Nat → Int))} {R : pd_R} {pc n t : Nat} {lv : List (Option pv)} {st : List pv} {sz ce sl : Nat} {hp : pd_P}
theorem pt_get {a ci kf : Nat} {fs : List pv} {v : pv} (h : pd_gf M pc ci kf n) (hc : hp a = ob ci fs) (hv : fs[kf]? = some v) (k : pd_T G M d mc ms X R n lv (v :: st) sz ce sl hp) : pd_T G M d mc ms X R pc lv (vr a :: st) sz ce sl hp := by
  intro p e Rm s m args below meth c Q hx hq H locs ls hH hS hl
  obtain ⟨idx, ty, ⟨h1, rfl⟩, C, T, N, ref, ty0, g1, g2, g3, g4, g5, g6, g7, g8⟩ := h
  have hne : ci ≠ 99 := by rintro rfl; simp at g1
  obtain ⟨k0, rfl, hk0⟩ := pd_lt hH (a := a) (by rw [hc]; intro q; exact hne (congrArg Prod.fst (Sum.inr.inj q)))
  have hw := pd_w_get (G := G) (hp := hp) hk0
  rw [hc] at hw
  refine va_get (ws := pd_w G sz hp) hx.1 hx.2.1 hx.2.2.2.2.1 g3 hx.2.2.2.1 hx.2.2.2.2.2.1.1 hH.2.1 k0 hw g1 kf g2 (hx.2.2.2.2.1 _ g4) (pd_same hx.2.2.2.2.1 g5) (v := pd_up G v) (by rw [List.getElem?_map, hv]; rfl) h1 ?_
  exact k p e Rm s m args below meth c Q hx hq H locs ls hH hS hl
theorem pd_sz {G : pd_G} {sz : Nat} {hp : pd_P} {H : Heap} (h : pd_H G sz hp H) : H.size = G.2.2.2.1 + sz := h.1
theorem pt_put {a ci kf : Nat} {ty : FieldType} {fs : List pv} {v : pv} (h : pd_pf M pc ci kf ty n) (hc : hp a = ob ci fs) (hlen : kf < fs.length) (hf : pd_fit ty v) (k : pd_T G M d mc ms X R n lv st sz ce sl (va_up hp a (ob ci (fs.set kf v)))) : pd_T G M d mc ms X R pc lv (v :: vr a :: st) sz ce sl hp := by
  intro p e Rm s m args below meth c Q hx hq H locs ls hH hS hl
  obtain ⟨idx, ⟨h1, rfl⟩, ⟨C, T, N, ref, ty0, g1, g2, g3, g4, g5, g6, g7, g8⟩, hfin⟩ := h
  have hne : ci ≠ 99 := by rintro rfl; simp at g1
  obtain ⟨k0, rfl, hk0⟩ := pd_lt hH (a := a) (by rw [hc]; intro q; exact hne (congrArg Prod.fst (Sum.inr.inj q)))
  have hw := pd_w_get (G := G) (hp := hp) hk0
  rw [hc] at hw
  have hts := hx.2.2.2.2.1
  have hK := hx.2.2.2.2.2.1.1
  have hP := hH.2.1
  have hap := va_apart (own := M.1.cls) hts g3 ty0 g6 g7 hK g1
  obtain ⟨r, q0, cell, q1, q2, q3, q4⟩ := hP k0 _ hw
  have hr : r = (C, T, N) := Option.some.inj (q0.symm.trans g1)
  subst hr
  obtain ⟨hSl, hfc, kC, hkC, hkind⟩ := hK.1 ci _ g1
  obtain ⟨cf, kf', fi, f, hi, hsl⟩ := hSl kf g2
  have hlay := hts _ (g3 _ (u_in_lay g2))
  have hd : parseFieldDescriptor (T kf).2.2.1 = some ty := by rw [← g8]; exact g6 kf g2
  obtain ⟨n1, n2⟩ := pd_fit.nar (G := G) hf
  have hst := (u_facts hfc hkC (u_lays hts g3 g2) hi).1
  have fine : ∀ H' : Heap, H'[G.2.2.2.1 + k0]? = some (cell.setSlot f.slot (pd_up G v)) → H'.size = H.size → (∀ q, q ≠ G.2.2.2.1 + k0 → H'[q]? = H[q]?) → pd_H G sz (va_up hp (k0 + 1) (ob ci (fs.set kf v))) H' := by
    intro H' e1 e2 e3
    rw [hsl] at e1
    refine pd_H.set hH hk0 e2 (hP.set (pd_w_D G sz hp) hw ?_ e3)
    refine ⟨_, g1, t_OB.to (V := updV (vp_V (fs.map (pd_up G))) kf (pd_up G v)) ⟨_, e1, q2, q3, t_set q4 hap g2 (pd_up G v)⟩ (fun j _ => ?_)⟩
    rw [vp_updV_set (by simpa using hlen) (pd_up G v) j, List.map_set]
  have fineS : ∀ H' : Heap, H'.size = H.size → (∀ q, q ≠ G.2.2.2.1 + k0 → H'[q]? = H[q]?) → va_S (pd_A G) s.heap H' (locs ++ [⟨G.2.2.2.1 + k0, f.slot⟩]) := fun H' e2 e3 => hS.put e2 e3 (Nat.le_add_right _ _)
  unfold u_lay at hlay
  rcases hfin with ⟨o, ho⟩ | ⟨ho, hin⟩
  · have hfn : (T kf).2.2.2 = false := by
      simp only [pd_fin, g1, Option.map_some, Option.some.injEq, Prod.mk.injEq] at ho
      exact ho.1
    rw [if_neg (by rw [hfn]; decide)] at hlay
    have h6 := u_store hfc hkC hkind hlay hi hd n1 n2
    refine W.putK hx.1 hx.2.1 (f := f) ⟨hx.2.2.2.1, hts _ g4, ⟨_, _, _, pd_same hts g5 _ hi⟩, hst⟩ (by rw [q2]; exact h6) q1 q3 (by rw [hsl]; exact k2_hasslot (q4 kf g2)) rfl rfl h1 fun H' e1 e2 e3 => ?_
    exact k p e Rm s m args below meth c Q hx hq H' _ ls (fine H' e1 e2 e3) (fineS H' e2 e3) hl
  · have hfn : (T kf).2.2.2 = true ∧ (T kf).1 = M.1.cls := by
      simp only [pd_fin, g1, Option.map_some, Option.some.injEq, Prod.mk.injEq] at ho
      exact ho
    rw [if_pos hfn.1] at hlay
    have hcf : m.cls = cf := by
      obtain ⟨_, _, c', _, _, _, -, -, hf', -, -, -, hown2, -⟩ := Cond.laysFinal_spec hlay
      have e1 : c' = cf := by have := hi.symm.trans hf'; simp at this; exact this.1.symm
      rw [hfn.2] at hown2
      rw [← e1]; exact Option.some.inj (hx.2.2.2.1.symm.trans hown2)
    have h6 := u_fits hfc hkC hkind (Or.inr hlay) hi hd n1 n2
    refine W.putFinK hx.1 hx.2.1 hx.2.2.2.1 (hts _ g4) (pd_same hts g5 _ hi) hst hcf (hx.2.2.2.2.2.2.2.1 hin) (by rw [q2]; exact h6) q1 q3 (by rw [hsl]; exact k2_hasslot (q4 kf g2)) rfl rfl h1 fun H' e1 e2 e3 => ?_
    exact k p e Rm s m args below meth c Q hx hq H' _ ls (fine H' e1 e2 e3) (fineS H' e2 e3) hl
theorem pt_put0 {a ci : Nat} {ty : FieldType} {a0 : pv} {r : List pv} {v : pv} (h : pd_pf M pc ci 0 ty n) (hc : hp a = ob ci (a0 :: r)) (hf : pd_fit ty v) (k : pd_T G M d mc ms X R n lv st sz ce sl (va_up hp a (ob ci (v :: r)))) : pd_T G M d mc ms X R pc lv (v :: vr a :: st) sz ce sl hp := pt_put h hc (by simp) hf k
theorem pt_put1 {a ci : Nat} {ty : FieldType} {a0 a1 : pv} {r : List pv} {v : pv} (h : pd_pf M pc ci 1 ty n) (hc : hp a = ob ci (a0 :: a1 :: r)) (hf : pd_fit ty v) (k : pd_T G M d mc ms X R n lv st sz ce sl (va_up hp a (ob ci (a0 :: v :: r)))) : pd_T G M d mc ms X R pc lv (v :: vr a :: st) sz ce sl hp := pt_put h hc (by simp) hf k
theorem pt_put2 {a ci : Nat} {ty : FieldType} {a0 a1 a2 : pv} {r : List pv} {v : pv} (h : pd_pf M pc ci 2 ty n) (hc : hp a = ob ci (a0 :: a1 :: a2 :: r)) (hf : pd_fit ty v) (k : pd_T G M d mc ms X R n lv st sz ce sl (va_up hp a (ob ci (a0 :: a1 :: v :: r)))) : pd_T G M d mc ms X R pc lv (v :: vr a :: st) sz ce sl hp := pt_put h hc (by simp) hf k
theorem pt_put3 {a ci : Nat} {ty : FieldType} {a0 a1 a2 a3 : pv} {r : List pv} {v : pv} (h : pd_pf M pc ci 3 ty n) (hc : hp a = ob ci (a0 :: a1 :: a2 :: a3 :: r)) (hf : pd_fit ty v) (k : pd_T G M d mc ms X R n lv st sz ce sl (va_up hp a (ob ci (a0 :: a1 :: a2 :: v :: r)))) : pd_T G M d mc ms X R pc lv (v :: vr a :: st) sz ce sl hp := pt_put h hc (by simp) hf k
theorem pt_put4 {a ci : Nat} {ty : FieldType} {a0 a1 a2 a3 a4 : pv} {r : List pv} {v : pv} (h : pd_pf M pc ci 4 ty n) (hc : hp a = ob ci (a0 :: a1 :: a2 :: a3 :: a4 :: r)) (hf : pd_fit ty v) (k : pd_T G M d mc ms X R n lv st sz ce sl (va_up hp a (ob ci (a0 :: a1 :: a2 :: a3 :: v :: r)))) : pd_T G M d mc ms X R pc lv (v :: vr a :: st) sz ce sl hp := pt_put h hc (by simp) hf k
theorem pt_put5 {a ci : Nat} {ty : FieldType} {a0 a1 a2 a3 a4 a5 : pv} {r : List pv} {v : pv} (h : pd_pf M pc ci 5 ty n) (hc : hp a = ob ci (a0 :: a1 :: a2 :: a3 :: a4 :: a5 :: r)) (hf : pd_fit ty v) (k : pd_T G M d mc ms X R n lv st sz ce sl (va_up hp a (ob ci (a0 :: a1 :: a2 :: a3 :: a4 :: v :: r)))) : pd_T G M d mc ms X R pc lv (v :: vr a :: st) sz ce sl hp := pt_put h hc (by simp) hf k
theorem pt_put6 {a ci : Nat} {ty : FieldType} {a0 a1 a2 a3 a4 a5 a6 : pv} {r : List pv} {v : pv} (h : pd_pf M pc ci 6 ty n) (hc : hp a = ob ci (a0 :: a1 :: a2 :: a3 :: a4 :: a5 :: a6 :: r)) (hf : pd_fit ty v) (k : pd_T G M d mc ms X R n lv st sz ce sl (va_up hp a (ob ci (a0 :: a1 :: a2 :: a3 :: a4 :: a5 :: v :: r)))) : pd_T G M d mc ms X R pc lv (v :: vr a :: st) sz ce sl hp := pt_put h hc (by simp) hf k
theorem pt_put7 {a ci : Nat} {ty : FieldType} {a0 a1 a2 a3 a4 a5 a6 a7 : pv} {r : List pv} {v : pv} (h : pd_pf M pc ci 7 ty n) (hc : hp a = ob ci (a0 :: a1 :: a2 :: a3 :: a4 :: a5 :: a6 :: a7 :: r)) (hf : pd_fit ty v) (k : pd_T G M d mc ms X R n lv st sz ce sl (va_up hp a (ob ci (a0 :: a1 :: a2 :: a3 :: a4 :: a5 :: a6 :: v :: r)))) : pd_T G M d mc ms X R pc lv (v :: vr a :: st) sz ce sl hp := pt_put h hc (by simp) hf k
theorem pt_put8 {a ci : Nat} {ty : FieldType} {a0 a1 a2 a3 a4 a5 a6 a7 a8 : pv} {r : List pv} {v : pv} (h : pd_pf M pc ci 8 ty n) (hc : hp a = ob ci (a0 :: a1 :: a2 :: a3 :: a4 :: a5 :: a6 :: a7 :: a8 :: r)) (hf : pd_fit ty v) (k : pd_T G M d mc ms X R n lv st sz ce sl (va_up hp a (ob ci (a0 :: a1 :: a2 :: a3 :: a4 :: a5 :: a6 :: a7 :: v :: r)))) : pd_T G M d mc ms X R pc lv (v :: vr a :: st) sz ce sl hp := pt_put h hc (by simp) hf k
theorem pt_put9 {a ci : Nat} {ty : FieldType} {a0 a1 a2 a3 a4 a5 a6 a7 a8 a9 : pv} {r : List pv} {v : pv} (h : pd_pf M pc ci 9 ty n) (hc : hp a = ob ci (a0 :: a1 :: a2 :: a3 :: a4 :: a5 :: a6 :: a7 :: a8 :: a9 :: r)) (hf : pd_fit ty v) (k : pd_T G M d mc ms X R n lv st sz ce sl (va_up hp a (ob ci (a0 :: a1 :: a2 :: a3 :: a4 :: a5 :: a6 :: a7 :: a8 :: v :: r)))) : pd_T G M d mc ms X R pc lv (v :: vr a :: st) sz ce sl hp := pt_put h hc (by simp) hf k
theorem pt_put10 {a ci : Nat} {ty : FieldType} {a0 a1 a2 a3 a4 a5 a6 a7 a8 a9 a10 : pv} {r : List pv} {v : pv} (h : pd_pf M pc ci 10 ty n) (hc : hp a = ob ci (a0 :: a1 :: a2 :: a3 :: a4 :: a5 :: a6 :: a7 :: a8 :: a9 :: a10 :: r)) (hf : pd_fit ty v) (k : pd_T G M d mc ms X R n lv st sz ce sl (va_up hp a (ob ci (a0 :: a1 :: a2 :: a3 :: a4 :: a5 :: a6 :: a7 :: a8 :: a9 :: v :: r)))) : pd_T G M d mc ms X R pc lv (v :: vr a :: st) sz ce sl hp := pt_put h hc (by simp) hf k
theorem pt_put11 {a ci : Nat} {ty : FieldType} {a0 a1 a2 a3 a4 a5 a6 a7 a8 a9 a10 a11 : pv} {r : List pv} {v : pv} (h : pd_pf M pc ci 11 ty n) (hc : hp a = ob ci (a0 :: a1 :: a2 :: a3 :: a4 :: a5 :: a6 :: a7 :: a8 :: a9 :: a10 :: a11 :: r)) (hf : pd_fit ty v) (k : pd_T G M d mc ms X R n lv st sz ce sl (va_up hp a (ob ci (a0 :: a1 :: a2 :: a3 :: a4 :: a5 :: a6 :: a7 :: a8 :: a9 :: a10 :: v :: r)))) : pd_T G M d mc ms X R pc lv (v :: vr a :: st) sz ce sl hp := pt_put h hc (by simp) hf k
theorem pt_put12 {a ci : Nat} {ty : FieldType} {a0 a1 a2 a3 a4 a5 a6 a7 a8 a9 a10 a11 a12 : pv} {r : List pv} {v : pv} (h : pd_pf M pc ci 12 ty n) (hc : hp a = ob ci (a0 :: a1 :: a2 :: a3 :: a4 :: a5 :: a6 :: a7 :: a8 :: a9 :: a10 :: a11 :: a12 :: r)) (hf : pd_fit ty v) (k : pd_T G M d mc ms X R n lv st sz ce sl (va_up hp a (ob ci (a0 :: a1 :: a2 :: a3 :: a4 :: a5 :: a6 :: a7 :: a8 :: a9 :: a10 :: a11 :: v :: r)))) : pd_T G M d mc ms X R pc lv (v :: vr a :: st) sz ce sl hp := pt_put h hc (by simp) hf k
theorem pt_put13 {a ci : Nat} {ty : FieldType} {a0 a1 a2 a3 a4 a5 a6 a7 a8 a9 a10 a11 a12 a13 : pv} {r : List pv} {v : pv} (h : pd_pf M pc ci 13 ty n) (hc : hp a = ob ci (a0 :: a1 :: a2 :: a3 :: a4 :: a5 :: a6 :: a7 :: a8 :: a9 :: a10 :: a11 :: a12 :: a13 :: r)) (hf : pd_fit ty v) (k : pd_T G M d mc ms X R n lv st sz ce sl (va_up hp a (ob ci (a0 :: a1 :: a2 :: a3 :: a4 :: a5 :: a6 :: a7 :: a8 :: a9 :: a10 :: a11 :: a12 :: v :: r)))) : pd_T G M d mc ms X R pc lv (v :: vr a :: st) sz ce sl hp := pt_put h hc (by simp) hf k
theorem pt_put14 {a ci : Nat} {ty : FieldType} {a0 a1 a2 a3 a4 a5 a6 a7 a8 a9 a10 a11 a12 a13 a14 : pv} {r : List pv} {v : pv} (h : pd_pf M pc ci 14 ty n) (hc : hp a = ob ci (a0 :: a1 :: a2 :: a3 :: a4 :: a5 :: a6 :: a7 :: a8 :: a9 :: a10 :: a11 :: a12 :: a13 :: a14 :: r)) (hf : pd_fit ty v) (k : pd_T G M d mc ms X R n lv st sz ce sl (va_up hp a (ob ci (a0 :: a1 :: a2 :: a3 :: a4 :: a5 :: a6 :: a7 :: a8 :: a9 :: a10 :: a11 :: a12 :: a13 :: v :: r)))) : pd_T G M d mc ms X R pc lv (v :: vr a :: st) sz ce sl hp := pt_put h hc (by simp) hf k
theorem pt_put15 {a ci : Nat} {ty : FieldType} {a0 a1 a2 a3 a4 a5 a6 a7 a8 a9 a10 a11 a12 a13 a14 a15 : pv} {r : List pv} {v : pv} (h : pd_pf M pc ci 15 ty n) (hc : hp a = ob ci (a0 :: a1 :: a2 :: a3 :: a4 :: a5 :: a6 :: a7 :: a8 :: a9 :: a10 :: a11 :: a12 :: a13 :: a14 :: a15 :: r)) (hf : pd_fit ty v) (k : pd_T G M d mc ms X R n lv st sz ce sl (va_up hp a (ob ci (a0 :: a1 :: a2 :: a3 :: a4 :: a5 :: a6 :: a7 :: a8 :: a9 :: a10 :: a11 :: a12 :: a13 :: a14 :: v :: r)))) : pd_T G M d mc ms X R pc lv (v :: vr a :: st) sz ce sl hp := pt_put h hc (by simp) hf k
theorem pt_put16 {a ci : Nat} {ty : FieldType} {a0 a1 a2 a3 a4 a5 a6 a7 a8 a9 a10 a11 a12 a13 a14 a15 a16 : pv} {r : List pv} {v : pv} (h : pd_pf M pc ci 16 ty n) (hc : hp a = ob ci (a0 :: a1 :: a2 :: a3 :: a4 :: a5 :: a6 :: a7 :: a8 :: a9 :: a10 :: a11 :: a12 :: a13 :: a14 :: a15 :: a16 :: r)) (hf : pd_fit ty v) (k : pd_T G M d mc ms X R n lv st sz ce sl (va_up hp a (ob ci (a0 :: a1 :: a2 :: a3 :: a4 :: a5 :: a6 :: a7 :: a8 :: a9 :: a10 :: a11 :: a12 :: a13 :: a14 :: a15 :: v :: r)))) : pd_T G M d mc ms X R pc lv (v :: vr a :: st) sz ce sl hp := pt_put h hc (by simp) hf k
theorem pt_put17 {a ci : Nat} {ty : FieldType} {a0 a1 a2 a3 a4 a5 a6 a7 a8 a9 a10 a11 a12 a13 a14 a15 a16 a17 : pv} {r : List pv} {v : pv} (h : pd_pf M pc ci 17 ty n) (hc : hp a = ob ci (a0 :: a1 :: a2 :: a3 :: a4 :: a5 :: a6 :: a7 :: a8 :: a9 :: a10 :: a11 :: a12 :: a13 :: a14 :: a15 :: a16 :: a17 :: r)) (hf : pd_fit ty v) (k : pd_T G M d mc ms X R n lv st sz ce sl (va_up hp a (ob ci (a0 :: a1 :: a2 :: a3 :: a4 :: a5 :: a6 :: a7 :: a8 :: a9 :: a10 :: a11 :: a12 :: a13 :: a14 :: a15 :: a16 :: v :: r)))) : pd_T G M d mc ms X R pc lv (v :: vr a :: st) sz ce sl hp := pt_put h hc (by simp) hf k
theorem pt_put18 {a ci : Nat} {ty : FieldType} {a0 a1 a2 a3 a4 a5 a6 a7 a8 a9 a10 a11 a12 a13 a14 a15 a16 a17 a18 : pv} {r : List pv} {v : pv} (h : pd_pf M pc ci 18 ty n) (hc : hp a = ob ci (a0 :: a1 :: a2 :: a3 :: a4 :: a5 :: a6 :: a7 :: a8 :: a9 :: a10 :: a11 :: a12 :: a13 :: a14 :: a15 :: a16 :: a17 :: a18 :: r)) (hf : pd_fit ty v) (k : pd_T G M d mc ms X R n lv st sz ce sl (va_up hp a (ob ci (a0 :: a1 :: a2 :: a3 :: a4 :: a5 :: a6 :: a7 :: a8 :: a9 :: a10 :: a11 :: a12 :: a13 :: a14 :: a15 :: a16 :: a17 :: v :: r)))) : pd_T G M d mc ms X R pc lv (v :: vr a :: st) sz ce sl hp := pt_put h hc (by simp) hf k
theorem pt_put19 {a ci : Nat} {ty : FieldType} {a0 a1 a2 a3 a4 a5 a6 a7 a8 a9 a10 a11 a12 a13 a14 a15 a16 a17 a18 a19 : pv} {r : List pv} {v : pv} (h : pd_pf M pc ci 19 ty n) (hc : hp a = ob ci (a0 :: a1 :: a2 :: a3 :: a4 :: a5 :: a6 :: a7 :: a8 :: a9 :: a10 :: a11 :: a12 :: a13 :: a14 :: a15 :: a16 :: a17 :: a18 :: a19 :: r)) (hf : pd_fit ty v) (k : pd_T G M d mc ms X R n lv st sz ce sl (va_up hp a (ob ci (a0 :: a1 :: a2 :: a3 :: a4 :: a5 :: a6 :: a7 :: a8 :: a9 :: a10 :: a11 :: a12 :: a13 :: a14 :: a15 :: a16 :: a17 :: a18 :: v :: r)))) : pd_T G M d mc ms X R pc lv (v :: vr a :: st) sz ce sl hp := pt_put h hc (by simp) hf k
theorem pt_put20 {a ci : Nat} {ty : FieldType} {a0 a1 a2 a3 a4 a5 a6 a7 a8 a9 a10 a11 a12 a13 a14 a15 a16 a17 a18 a19 a20 : pv} {r : List pv} {v : pv} (h : pd_pf M pc ci 20 ty n) (hc : hp a = ob ci (a0 :: a1 :: a2 :: a3 :: a4 :: a5 :: a6 :: a7 :: a8 :: a9 :: a10 :: a11 :: a12 :: a13 :: a14 :: a15 :: a16 :: a17 :: a18 :: a19 :: a20 :: r)) (hf : pd_fit ty v) (k : pd_T G M d mc ms X R n lv st sz ce sl (va_up hp a (ob ci (a0 :: a1 :: a2 :: a3 :: a4 :: a5 :: a6 :: a7 :: a8 :: a9 :: a10 :: a11 :: a12 :: a13 :: a14 :: a15 :: a16 :: a17 :: a18 :: a19 :: v :: r)))) : pd_T G M d mc ms X R pc lv (v :: vr a :: st) sz ce sl hp := pt_put h hc (by simp) hf k
theorem pt_put21 {a ci : Nat} {ty : FieldType} {a0 a1 a2 a3 a4 a5 a6 a7 a8 a9 a10 a11 a12 a13 a14 a15 a16 a17 a18 a19 a20 a21 : pv} {r : List pv} {v : pv} (h : pd_pf M pc ci 21 ty n) (hc : hp a = ob ci (a0 :: a1 :: a2 :: a3 :: a4 :: a5 :: a6 :: a7 :: a8 :: a9 :: a10 :: a11 :: a12 :: a13 :: a14 :: a15 :: a16 :: a17 :: a18 :: a19 :: a20 :: a21 :: r)) (hf : pd_fit ty v) (k : pd_T G M d mc ms X R n lv st sz ce sl (va_up hp a (ob ci (a0 :: a1 :: a2 :: a3 :: a4 :: a5 :: a6 :: a7 :: a8 :: a9 :: a10 :: a11 :: a12 :: a13 :: a14 :: a15 :: a16 :: a17 :: a18 :: a19 :: a20 :: v :: r)))) : pd_T G M d mc ms X R pc lv (v :: vr a :: st) sz ce sl hp := pt_put h hc (by simp) hf k
theorem pt_put22 {a ci : Nat} {ty : FieldType} {a0 a1 a2 a3 a4 a5 a6 a7 a8 a9 a10 a11 a12 a13 a14 a15 a16 a17 a18 a19 a20 a21 a22 : pv} {r : List pv} {v : pv} (h : pd_pf M pc ci 22 ty n) (hc : hp a = ob ci (a0 :: a1 :: a2 :: a3 :: a4 :: a5 :: a6 :: a7 :: a8 :: a9 :: a10 :: a11 :: a12 :: a13 :: a14 :: a15 :: a16 :: a17 :: a18 :: a19 :: a20 :: a21 :: a22 :: r)) (hf : pd_fit ty v) (k : pd_T G M d mc ms X R n lv st sz ce sl (va_up hp a (ob ci (a0 :: a1 :: a2 :: a3 :: a4 :: a5 :: a6 :: a7 :: a8 :: a9 :: a10 :: a11 :: a12 :: a13 :: a14 :: a15 :: a16 :: a17 :: a18 :: a19 :: a20 :: a21 :: v :: r)))) : pd_T G M d mc ms X R pc lv (v :: vr a :: st) sz ce sl hp := pt_put h hc (by simp) hf k
theorem pt_put23 {a ci : Nat} {ty : FieldType} {a0 a1 a2 a3 a4 a5 a6 a7 a8 a9 a10 a11 a12 a13 a14 a15 a16 a17 a18 a19 a20 a21 a22 a23 : pv} {r : List pv} {v : pv} (h : pd_pf M pc ci 23 ty n) (hc : hp a = ob ci (a0 :: a1 :: a2 :: a3 :: a4 :: a5 :: a6 :: a7 :: a8 :: a9 :: a10 :: a11 :: a12 :: a13 :: a14 :: a15 :: a16 :: a17 :: a18 :: a19 :: a20 :: a21 :: a22 :: a23 :: r)) (hf : pd_fit ty v) (k : pd_T G M d mc ms X R n lv st sz ce sl (va_up hp a (ob ci (a0 :: a1 :: a2 :: a3 :: a4 :: a5 :: a6 :: a7 :: a8 :: a9 :: a10 :: a11 :: a12 :: a13 :: a14 :: a15 :: a16 :: a17 :: a18 :: a19 :: a20 :: a21 :: a22 :: v :: r)))) : pd_T G M d mc ms X R pc lv (v :: vr a :: st) sz ce sl hp := pt_put h hc (by simp) hf k
theorem pt_put24 {a ci : Nat} {ty : FieldType} {a0 a1 a2 a3 a4 a5 a6 a7 a8 a9 a10 a11 a12 a13 a14 a15 a16 a17 a18 a19 a20 a21 a22 a23 a24 : pv} {r : List pv} {v : pv} (h : pd_pf M pc ci 24 ty n) (hc : hp a = ob ci (a0 :: a1 :: a2 :: a3 :: a4 :: a5 :: a6 :: a7 :: a8 :: a9 :: a10 :: a11 :: a12 :: a13 :: a14 :: a15 :: a16 :: a17 :: a18 :: a19 :: a20 :: a21 :: a22 :: a23 :: a24 :: r)) (hf : pd_fit ty v) (k : pd_T G M d mc ms X R n lv st sz ce sl (va_up hp a (ob ci (a0 :: a1 :: a2 :: a3 :: a4 :: a5 :: a6 :: a7 :: a8 :: a9 :: a10 :: a11 :: a12 :: a13 :: a14 :: a15 :: a16 :: a17 :: a18 :: a19 :: a20 :: a21 :: a22 :: a23 :: v :: r)))) : pd_T G M d mc ms X R pc lv (v :: vr a :: st) sz ce sl hp := pt_put h hc (by simp) hf k
theorem pt_put25 {a ci : Nat} {ty : FieldType} {a0 a1 a2 a3 a4 a5 a6 a7 a8 a9 a10 a11 a12 a13 a14 a15 a16 a17 a18 a19 a20 a21 a22 a23 a24 a25 : pv} {r : List pv} {v : pv} (h : pd_pf M pc ci 25 ty n) (hc : hp a = ob ci (a0 :: a1 :: a2 :: a3 :: a4 :: a5 :: a6 :: a7 :: a8 :: a9 :: a10 :: a11 :: a12 :: a13 :: a14 :: a15 :: a16 :: a17 :: a18 :: a19 :: a20 :: a21 :: a22 :: a23 :: a24 :: a25 :: r)) (hf : pd_fit ty v) (k : pd_T G M d mc ms X R n lv st sz ce sl (va_up hp a (ob ci (a0 :: a1 :: a2 :: a3 :: a4 :: a5 :: a6 :: a7 :: a8 :: a9 :: a10 :: a11 :: a12 :: a13 :: a14 :: a15 :: a16 :: a17 :: a18 :: a19 :: a20 :: a21 :: a22 :: a23 :: a24 :: v :: r)))) : pd_T G M d mc ms X R pc lv (v :: vr a :: st) sz ce sl hp := pt_put h hc (by simp) hf k
theorem pt_put26 {a ci : Nat} {ty : FieldType} {a0 a1 a2 a3 a4 a5 a6 a7 a8 a9 a10 a11 a12 a13 a14 a15 a16 a17 a18 a19 a20 a21 a22 a23 a24 a25 a26 : pv} {r : List pv} {v : pv} (h : pd_pf M pc ci 26 ty n) (hc : hp a = ob ci (a0 :: a1 :: a2 :: a3 :: a4 :: a5 :: a6 :: a7 :: a8 :: a9 :: a10 :: a11 :: a12 :: a13 :: a14 :: a15 :: a16 :: a17 :: a18 :: a19 :: a20 :: a21 :: a22 :: a23 :: a24 :: a25 :: a26 :: r)) (hf : pd_fit ty v) (k : pd_T G M d mc ms X R n lv st sz ce sl (va_up hp a (ob ci (a0 :: a1 :: a2 :: a3 :: a4 :: a5 :: a6 :: a7 :: a8 :: a9 :: a10 :: a11 :: a12 :: a13 :: a14 :: a15 :: a16 :: a17 :: a18 :: a19 :: a20 :: a21 :: a22 :: a23 :: a24 :: a25 :: v :: r)))) : pd_T G M d mc ms X R pc lv (v :: vr a :: st) sz ce sl hp := pt_put h hc (by simp) hf k
theorem pt_put27 {a ci : Nat} {ty : FieldType} {a0 a1 a2 a3 a4 a5 a6 a7 a8 a9 a10 a11 a12 a13 a14 a15 a16 a17 a18 a19 a20 a21 a22 a23 a24 a25 a26 a27 : pv} {r : List pv} {v : pv} (h : pd_pf M pc ci 27 ty n) (hc : hp a = ob ci (a0 :: a1 :: a2 :: a3 :: a4 :: a5 :: a6 :: a7 :: a8 :: a9 :: a10 :: a11 :: a12 :: a13 :: a14 :: a15 :: a16 :: a17 :: a18 :: a19 :: a20 :: a21 :: a22 :: a23 :: a24 :: a25 :: a26 :: a27 :: r)) (hf : pd_fit ty v) (k : pd_T G M d mc ms X R n lv st sz ce sl (va_up hp a (ob ci (a0 :: a1 :: a2 :: a3 :: a4 :: a5 :: a6 :: a7 :: a8 :: a9 :: a10 :: a11 :: a12 :: a13 :: a14 :: a15 :: a16 :: a17 :: a18 :: a19 :: a20 :: a21 :: a22 :: a23 :: a24 :: a25 :: a26 :: v :: r)))) : pd_T G M d mc ms X R pc lv (v :: vr a :: st) sz ce sl hp := pt_put h hc (by simp) hf k
theorem pt_put28 {a ci : Nat} {ty : FieldType} {a0 a1 a2 a3 a4 a5 a6 a7 a8 a9 a10 a11 a12 a13 a14 a15 a16 a17 a18 a19 a20 a21 a22 a23 a24 a25 a26 a27 a28 : pv} {r : List pv} {v : pv} (h : pd_pf M pc ci 28 ty n) (hc : hp a = ob ci (a0 :: a1 :: a2 :: a3 :: a4 :: a5 :: a6 :: a7 :: a8 :: a9 :: a10 :: a11 :: a12 :: a13 :: a14 :: a15 :: a16 :: a17 :: a18 :: a19 :: a20 :: a21 :: a22 :: a23 :: a24 :: a25 :: a26 :: a27 :: a28 :: r)) (hf : pd_fit ty v) (k : pd_T G M d mc ms X R n lv st sz ce sl (va_up hp a (ob ci (a0 :: a1 :: a2 :: a3 :: a4 :: a5 :: a6 :: a7 :: a8 :: a9 :: a10 :: a11 :: a12 :: a13 :: a14 :: a15 :: a16 :: a17 :: a18 :: a19 :: a20 :: a21 :: a22 :: a23 :: a24 :: a25 :: a26 :: a27 :: v :: r)))) : pd_T G M d mc ms X R pc lv (v :: vr a :: st) sz ce sl hp := pt_put h hc (by simp) hf k
theorem pt_put29 {a ci : Nat} {ty : FieldType} {a0 a1 a2 a3 a4 a5 a6 a7 a8 a9 a10 a11 a12 a13 a14 a15 a16 a17 a18 a19 a20 a21 a22 a23 a24 a25 a26 a27 a28 a29 : pv} {r : List pv} {v : pv} (h : pd_pf M pc ci 29 ty n) (hc : hp a = ob ci (a0 :: a1 :: a2 :: a3 :: a4 :: a5 :: a6 :: a7 :: a8 :: a9 :: a10 :: a11 :: a12 :: a13 :: a14 :: a15 :: a16 :: a17 :: a18 :: a19 :: a20 :: a21 :: a22 :: a23 :: a24 :: a25 :: a26 :: a27 :: a28 :: a29 :: r)) (hf : pd_fit ty v) (k : pd_T G M d mc ms X R n lv st sz ce sl (va_up hp a (ob ci (a0 :: a1 :: a2 :: a3 :: a4 :: a5 :: a6 :: a7 :: a8 :: a9 :: a10 :: a11 :: a12 :: a13 :: a14 :: a15 :: a16 :: a17 :: a18 :: a19 :: a20 :: a21 :: a22 :: a23 :: a24 :: a25 :: a26 :: a27 :: a28 :: v :: r)))) : pd_T G M d mc ms X R pc lv (v :: vr a :: st) sz ce sl hp := pt_put h hc (by simp) hf k
theorem pt_put30 {a ci : Nat} {ty : FieldType} {a0 a1 a2 a3 a4 a5 a6 a7 a8 a9 a10 a11 a12 a13 a14 a15 a16 a17 a18 a19 a20 a21 a22 a23 a24 a25 a26 a27 a28 a29 a30 : pv} {r : List pv} {v : pv} (h : pd_pf M pc ci 30 ty n) (hc : hp a = ob ci (a0 :: a1 :: a2 :: a3 :: a4 :: a5 :: a6 :: a7 :: a8 :: a9 :: a10 :: a11 :: a12 :: a13 :: a14 :: a15 :: a16 :: a17 :: a18 :: a19 :: a20 :: a21 :: a22 :: a23 :: a24 :: a25 :: a26 :: a27 :: a28 :: a29 :: a30 :: r)) (hf : pd_fit ty v) (k : pd_T G M d mc ms X R n lv st sz ce sl (va_up hp a (ob ci (a0 :: a1 :: a2 :: a3 :: a4 :: a5 :: a6 :: a7 :: a8 :: a9 :: a10 :: a11 :: a12 :: a13 :: a14 :: a15 :: a16 :: a17 :: a18 :: a19 :: a20 :: a21 :: a22 :: a23 :: a24 :: a25 :: a26 :: a27 :: a28 :: a29 :: v :: r)))) : pd_T G M d mc ms X R pc lv (v :: vr a :: st) sz ce sl hp := pt_put h hc (by simp) hf k
theorem pt_put31 {a ci : Nat} {ty : FieldType} {a0 a1 a2 a3 a4 a5 a6 a7 a8 a9 a10 a11 a12 a13 a14 a15 a16 a17 a18 a19 a20 a21 a22 a23 a24 a25 a26 a27 a28 a29 a30 a31 : pv} {r : List pv} {v : pv} (h : pd_pf M pc ci 31 ty n) (hc : hp a = ob ci (a0 :: a1 :: a2 :: a3 :: a4 :: a5 :: a6 :: a7 :: a8 :: a9 :: a10 :: a11 :: a12 :: a13 :: a14 :: a15 :: a16 :: a17 :: a18 :: a19 :: a20 :: a21 :: a22 :: a23 :: a24 :: a25 :: a26 :: a27 :: a28 :: a29 :: a30 :: a31 :: r)) (hf : pd_fit ty v) (k : pd_T G M d mc ms X R n lv st sz ce sl (va_up hp a (ob ci (a0 :: a1 :: a2 :: a3 :: a4 :: a5 :: a6 :: a7 :: a8 :: a9 :: a10 :: a11 :: a12 :: a13 :: a14 :: a15 :: a16 :: a17 :: a18 :: a19 :: a20 :: a21 :: a22 :: a23 :: a24 :: a25 :: a26 :: a27 :: a28 :: a29 :: a30 :: v :: r)))) : pd_T G M d mc ms X R pc lv (v :: vr a :: st) sz ce sl hp := pt_put h hc (by simp) hf k
theorem pt_iald {a N : Nat} {f : Int → Int} {z : Int} (h : pd_i M pc .iaload 1 n) (hc : hp a = ia N f) (h0 : 0 ≤ z) (hz : z < N) (hN : (N : Int) ≤ 2147483648) (k : pd_T G M d mc ms X R n lv (vi (f z) :: st) sz ce sl hp) : pd_T G M d mc ms X R pc lv (vi z :: vr a :: st) sz ce sl hp := by
  intro p e Rm s m args below meth c Q hx hq H locs ls hH hS hl
  obtain ⟨h1, rfl⟩ := h
  obtain ⟨k0, rfl, hk0⟩ := pd_lt hH (a := a) (by rw [hc]; intro q; cases q)
  have hw := pd_w_get (G := G) (hp := hp) hk0
  rw [hc] at hw
  have hcl := jI_cl h0 hz hN
  refine va_iald (ws := pd_w G sz hp) hx.1 hx.2.1 hx.2.2.2.2.2.1.1 hH.2.1 k0 0 hw rfl (jI_in h0 hz hN) h1 ?_
  have e0 : jI (f ((jI z).toNatClampNeg : Int)) = jI (f z) := by rw [hcl, Int.toNat_of_nonneg h0]
  rw [e0]
  exact k p e Rm s m args below meth c Q hx hq H locs ls hH hS hl
theorem pt_bald {a N : Nat} {f : Int → Int} {z : Int} (h : pd_i M pc .baload 1 n) (hc : hp a = ba N f) (h0 : 0 ≤ z) (hz : z < N) (hN : (N : Int) ≤ 2147483648) (k : pd_T G M d mc ms X R n lv (vi (f z) :: st) sz ce sl hp) : pd_T G M d mc ms X R pc lv (vi z :: vr a :: st) sz ce sl hp := by
  intro p e Rm s m args below meth c Q hx hq H locs ls hH hS hl
  obtain ⟨h1, rfl⟩ := h
  obtain ⟨k0, rfl, hk0⟩ := pd_lt hH (a := a) (by rw [hc]; intro q; cases q)
  have hw := pd_w_get (G := G) (hp := hp) hk0
  rw [hc] at hw
  have hcl := jI_cl h0 hz hN
  refine va_bald (ws := pd_w G sz hp) hx.1 hx.2.1 hx.2.2.2.2.2.1.1 hH.2.1 k0 1 hw rfl (jI_in h0 hz hN) h1 ?_
  have e0 : jI (f ((jI z).toNatClampNeg : Int)) = jI (f z) := by rw [hcl, Int.toNat_of_nonneg h0]
  rw [e0]
  exact k p e Rm s m args below meth c Q hx hq H locs ls hH hS hl
theorem pt_zald {a N : Nat} {f : Int → Int} {z : Int} (h : pd_i M pc .baload 1 n) (hc : hp a = za N f) (h0 : 0 ≤ z) (hz : z < N) (hN : (N : Int) ≤ 2147483648) (k : pd_T G M d mc ms X R n lv (vi (f z) :: st) sz ce sl hp) : pd_T G M d mc ms X R pc lv (vi z :: vr a :: st) sz ce sl hp := by
  intro p e Rm s m args below meth c Q hx hq H locs ls hH hS hl
  obtain ⟨h1, rfl⟩ := h
  obtain ⟨k0, rfl, hk0⟩ := pd_lt hH (a := a) (by rw [hc]; intro q; cases q)
  have hw := pd_w_get (G := G) (hp := hp) hk0
  rw [hc] at hw
  have hcl := jI_cl h0 hz hN
  refine va_zald (ws := pd_w G sz hp) hx.1 hx.2.1 hx.2.2.2.2.2.1.1 hH.2.1 k0 2 hw rfl (jI_in h0 hz hN) h1 ?_
  have e0 : jI (f ((jI z).toNatClampNeg : Int)) = jI (f z) := by rw [hcl, Int.toNat_of_nonneg h0]
  rw [e0]
  exact k p e Rm s m args below meth c Q hx hq H locs ls hH hS hl
theorem pt_iast {a N : Nat} {f : Int → Int} {z x : Int} (h : pd_i M pc .iastore 1 n) (hc : hp a = ia N f) (h0 : 0 ≤ z) (hz : z < N) (hN : (N : Int) ≤ 2147483648)  (k : pd_T G M d mc ms X R n lv st sz ce sl (va_up hp a (ia N (uI f z x)))) : pd_T G M d mc ms X R pc lv (vi x :: vi z :: vr a :: st) sz ce sl hp := by
  intro p e Rm s m args below meth c Q hx hq H locs ls hH hS hl
  obtain ⟨h1, rfl⟩ := h
  obtain ⟨k0, rfl, hk0⟩ := pd_lt hH (a := a) (by rw [hc]; intro q; cases q)
  have hw := pd_w_get (G := G) (hp := hp) hk0
  rw [hc] at hw
  have hcl := jI_cl h0 hz hN
  have hin := jI_in h0 hz hN
  refine W.iast hx.1 hx.2.1 (hH.2.1 k0 _ hw) ((hx.2.2.2.2.2.1.1.2 0 _ rfl).1 N (fun j => .int (jI (f j)))) (fun q => by cases q) (by show ¬ (jI z < 0 ∨ (arrV _ _ _).slots.size ≤ _); rw [arrV_size]; exact hin) rfl rfl h1 fun H1 e1 z1 oq => ?_
  refine k p e Rm s m args below meth c Q hx hq H1 _ ls (pd_H.set hH hk0 z1 (hH.2.1.set (pd_w_D G sz hp) hw ?_ oq)) (hS.put z1 oq (Nat.le_add_right _ _)) hl
  show H1[_]? = some (vp_cell _ _)
  rw [e1]
  rw [vp_cell_i, vp_cell_i, arrV_store]
  congr 2
  funext q
  by_cases hqz : q = (jI z).toNatClampNeg
  · subst hqz
    · simp [updV, uI, hcl, Int.toNat_of_nonneg h0]
  · have hq2 : ¬ (q : Int) = z := fun w => hqz (by rw [hcl]; omega)
    simp [updV, uI, hqz, hq2]
theorem pd_byte {x : Int} (h1 : -128 ≤ x) (h2 : x < 128) : (jI x).toInt8.toInt32 = jI x := by
  apply Int32.toInt_inj.mp
  rw [jI_toInt ⟨by omega, by omega⟩, Int8.toInt_toInt32, Int32.toInt_toInt8, jI_toInt ⟨by omega, by omega⟩]
  exact Int.bmod_eq_of_le (by omega) (by omega)
theorem pt_bast {a N : Nat} {f : Int → Int} {z x : Int} (h : pd_i M pc .bastore 1 n) (hc : hp a = ba N f) (h0 : 0 ≤ z) (hz : z < N) (hN : (N : Int) ≤ 2147483648) (hb : -128 ≤ x ∧ x < 128)  (k : pd_T G M d mc ms X R n lv st sz ce sl (va_up hp a (ba N (uI f z x)))) : pd_T G M d mc ms X R pc lv (vi x :: vi z :: vr a :: st) sz ce sl hp := by
  intro p e Rm s m args below meth c Q hx hq H locs ls hH hS hl
  obtain ⟨h1, rfl⟩ := h
  obtain ⟨k0, rfl, hk0⟩ := pd_lt hH (a := a) (by rw [hc]; intro q; cases q)
  have hw := pd_w_get (G := G) (hp := hp) hk0
  rw [hc] at hw
  have hcl := jI_cl h0 hz hN
  have hin := jI_in h0 hz hN
  refine W.bast hx.1 hx.2.1 (hH.2.1 k0 _ hw) ((hx.2.2.2.2.2.1.1.2 1 _ rfl).1 N (fun j => .int (jI (f j)))) (fun q => by cases q) (by show ¬ (jI z < 0 ∨ (arrV _ _ _).slots.size ≤ _); rw [arrV_size]; exact hin) rfl rfl h1 fun H1 e1 z1 oq => ?_
  refine k p e Rm s m args below meth c Q hx hq H1 _ ls (pd_H.set hH hk0 z1 (hH.2.1.set (pd_w_D G sz hp) hw ?_ oq)) (hS.put z1 oq (Nat.le_add_right _ _)) hl
  show H1[_]? = some (vp_cell _ _)
  rw [e1]
  rw [vp_cell_i, vp_cell_i, arrV_store]
  congr 2
  funext q
  by_cases hqz : q = (jI z).toNatClampNeg
  · subst hqz
    · have e9 : (jI x).toInt8.toInt32 = jI x := pd_byte hb.1 hb.2
      simp [updV, uI, hcl, Int.toNat_of_nonneg h0]
      exact congrArg Value.int e9
  · have hq2 : ¬ (q : Int) = z := fun w => hqz (by rw [hcl]; omega)
    simp [updV, uI, hqz, hq2]
theorem pt_zast {a N : Nat} {f : Int → Int} {z x : Int} (h : pd_i M pc .bastore 1 n) (hc : hp a = za N f) (h0 : 0 ≤ z) (hz : z < N) (hN : (N : Int) ≤ 2147483648) (hb : x = 0 ∨ x = 1)  (k : pd_T G M d mc ms X R n lv st sz ce sl (va_up hp a (za N (uI f z x)))) : pd_T G M d mc ms X R pc lv (vi x :: vi z :: vr a :: st) sz ce sl hp := by
  intro p e Rm s m args below meth c Q hx hq H locs ls hH hS hl
  obtain ⟨h1, rfl⟩ := h
  obtain ⟨k0, rfl, hk0⟩ := pd_lt hH (a := a) (by rw [hc]; intro q; cases q)
  have hw := pd_w_get (G := G) (hp := hp) hk0
  rw [hc] at hw
  have hcl := jI_cl h0 hz hN
  have hin := jI_in h0 hz hN
  refine W.zast hx.1 hx.2.1 (hH.2.1 k0 _ hw) ((hx.2.2.2.2.2.1.1.2 2 _ rfl).1 N (fun j => .int (jI (f j)))) (fun q => by cases q) (by show ¬ (jI z < 0 ∨ (arrV _ _ _).slots.size ≤ _); rw [arrV_size]; exact hin) rfl rfl h1 fun H1 e1 z1 oq => ?_
  refine k p e Rm s m args below meth c Q hx hq H1 _ ls (pd_H.set hH hk0 z1 (hH.2.1.set (pd_w_D G sz hp) hw ?_ oq)) (hS.put z1 oq (Nat.le_add_right _ _)) hl
  show H1[_]? = some (vp_cell _ _)
  rw [e1]
  rw [vp_cell_i, vp_cell_i, arrV_store]
  congr 2
  funext q
  by_cases hqz : q = (jI z).toNatClampNeg
  · subst hqz
    · simp [updV, uI, hcl, Int.toNat_of_nonneg h0]
      rcases hb with rfl | rfl <;> rfl
  · have hq2 : ¬ (q : Int) = z := fun w => hqz (by rw [hcl]; omega)
    simp [updV, uI, hqz, hq2]
theorem pt_alen {a kd N : Nat} {x : (Int → Int) ⊕ (Int → Option Nat)} {ty : FieldType} (h : pd_i M pc .arraylength 1 n) (hc : hp a = .inl (kd, N, x)) (hty : (pd_ty G)[kd]? = some (G.2.2.1 kd, ty)) (k : pd_T G M d mc ms X R n lv (vi N :: st) sz ce sl hp) : pd_T G M d mc ms X R pc lv (vr a :: st) sz ce sl hp := by
  intro p e Rm s m args below meth c Q hx hq H locs ls hH hS hl
  obtain ⟨h1, rfl⟩ := h
  obtain ⟨k0, rfl, hk0⟩ := pd_lt hH (a := a) (by rw [hc]; intro q; cases q)
  have hw := pd_w_get (G := G) (hp := hp) hk0
  rw [hc] at hw
  rcases x with f | f
  · exact va_alen (ws := pd_w G sz hp) hx.1 hx.2.1 hx.2.2.2.2.2.1.1 hH.2.1 k0 kd hw hty (v := jI N) Int32.ofInt_eq_ofNat.symm h1 (k p e Rm s m args below meth c Q hx hq H locs ls hH hS hl)
  · exact va_alen (ws := pd_w G sz hp) hx.1 hx.2.1 hx.2.2.2.2.2.1.1 hH.2.1 k0 kd hw hty (v := jI N) Int32.ofInt_eq_ofNat.symm h1 (k p e Rm s m args below meth c Q hx hq H locs ls hH hS hl)
theorem pt_aald {a kd N q : Nat} {C : String} {f : Int → Option Nat} {z : Int} (h : pd_i M pc .aaload 1 n) (hc : hp a = ra kd N f) (hty : (pd_ty G)[kd]? = some (G.2.2.1 kd, .object C)) (h0 : 0 ≤ z) (hz : z < N) (hN : (N : Int) ≤ 2147483648) (hv : f z = some q) (k : pd_T G M d mc ms X R n lv (vr q :: st) sz ce sl hp) : pd_T G M d mc ms X R pc lv (vi z :: vr a :: st) sz ce sl hp := by
  intro p e Rm s m args below meth c Q hx hq H locs ls hH hS hl
  obtain ⟨h1, rfl⟩ := h
  obtain ⟨k0, rfl, hk0⟩ := pd_lt hH (a := a) (by rw [hc]; intro q; cases q)
  have hw := pd_w_get (G := G) (hp := hp) hk0
  rw [hc] at hw
  have hcl := jI_cl h0 hz hN
  refine va_aldq (ws := pd_w G sz hp) hx.1 hx.2.1 hx.2.2.2.2.2.1.1 hH.2.1 k0 kd hw hty (jI_in h0 hz hN) h1 ?_
  have e0 : f ((jI z).toNatClampNeg : Int) = some q := by rw [hcl, Int.toNat_of_nonneg h0]; exact hv
  rw [e0]
  exact k p e Rm s m args below meth c Q hx hq H locs ls hH hS hl
theorem pt_sld {L : Nat} {xs : Nat → Int} {z : Int} (hX : X = some (L, xs)) (h : pd_i M pc .iaload 1 n) (h0 : 0 ≤ z) (hz : z < L) (hN : (L : Int) ≤ 2147483648) (k : pd_T G M d mc ms X R n lv (vi (xs z.toNat) :: st) sz ce sl hp) : pd_T G M d mc ms X R pc lv (vi z :: vr 0 :: st) sz ce sl hp := by
  intro p e Rm s m args below meth c Q hx hq H locs ls hH hS hl
  obtain ⟨h1, rfl⟩ := h
  have hX2 := hx.2.2.2.2.2.2.2.2.2
  rw [hX] at hX2
  have hcl := jI_cl h0 hz hN
  refine va_sld hx.1 hx.2.1 hX2.1 hX2.2.1 (Nat.not_le.mpr hX2.2.2) hS (jI_in h0 hz hN) h1 ?_
  rw [hcl]
  exact k p e Rm s m args below meth c Q hx hq H locs ls hH hS hl
theorem pt_slen {L : Nat} {xs : Nat → Int} (hX : X = some (L, xs)) (h : pd_i M pc .arraylength 1 n) (k : pd_T G M d mc ms X R n lv (vi L :: st) sz ce sl hp) : pd_T G M d mc ms X R pc lv (vr 0 :: st) sz ce sl hp := by
  intro p e Rm s m args below meth c Q hx hq H locs ls hH hS hl
  obtain ⟨h1, rfl⟩ := h
  have hX2 := hx.2.2.2.2.2.2.2.2.2
  rw [hX] at hX2
  refine va_slen hx.1 hx.2.1 hX2.1 hX2.2.1 (Nat.not_le.mpr hX2.2.2) hS h1 ?_
  rw [← Int32.ofInt_eq_ofNat]
  exact k p e Rm s m args below meth c Q hx hq H locs ls hH hS hl
end PDHEAP
