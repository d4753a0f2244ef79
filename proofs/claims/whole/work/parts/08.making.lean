theorem ac_int : Cond.arrayClass .int ∈ pd_tbl := pd_m 102 (by decide +kernel) (by decide +kernel)
theorem ac_byte : Cond.arrayClass .byte ∈ pd_tbl := pd_m 822 (by decide +kernel) (by decide +kernel)
theorem ac_bool : Cond.arrayClass .boolean ∈ pd_tbl := pd_m 182 (by decide +kernel) (by decide +kernel)
theorem oi_inst : Cond.instanceMethod objectInit ∈ pd_tbl := pd_m 67 (by decide +kernel) (by decide +kernel)
theorem oi_code : Cond.code objectInit ⟨#[0xb1]⟩ 1 none ∈ pd_tbl := pd_m 68 (by decide +kernel) (by decide +kernel)
/-! making, copying, references into rows -/
def pd_df (ci : Nat) (fs : List pv) : Prop := ∃ (C : String) (T : u_T) (N : Nat) (ty0 : Nat → FieldType), pd_cl[ci]? = some (C, T, N) ∧ (∀ w ∈ u_ws C T N, w ∈ pd_tbl) ∧ (∀ k, k < N → parseFieldDescriptor (T k).2.2.1 = some (ty0 k)) ∧ fs.length = N ∧ (∀ (G : pd_G) (j : Nat), j < N → defaultValue (ty0 j) = vp_V (fs.map (pd_up G)) j) ∧ Cond.instantiable C N ∈ pd_tbl ∧ Cond.initialized C ∈ pd_tbl
def pd_nwi (M : pd_M) (pc ci n : Nat) : Prop := ∃ idx, pd_i M pc (.new idx) 3 n ∧ ∃ C, pd_cn ci = some C ∧ Cond.classLink M.1.cls idx C ∈ pd_tbl
theorem pd_H.push {G : pd_G} {sz : Nat} {hp : pd_P} {H H1 : Heap} {e : pd_E} (hH : pd_H G sz hp H) (hz : H1.size = H.size + 1) (ho : ∀ q : Nat, q < H.size → H1[q]? = H[q]?) (he : va_at G.2.1 pd_cl (G.2.2.2.1 + sz, pd_e G e) H1) : pd_H G (sz + 1) (va_up hp (sz + 1) e) H1 := by
  refine ⟨by rw [hz, hH.1]; omega, ?_, fun j hj => ?_⟩
  · rw [← pd_w_push]
    refine va_P.app (hH.2.1.kept fun k q hk => ho q.1 ((hH.2.1 k q hk).lt)) (fun k q hk => ?_)
    have hz : k < 1 := (List.getElem?_eq_some_iff.mp hk).1
    rw [show k = 0 by omega] at hk
    cases hk
    exact he
  · rw [va_up_ne _ _ (by omega)]
    exact hH.2.2 j (by omega)
theorem pd_S.push {G : pd_G} {s : State} {H H1 : Heap} {locs : List Loc} (hS : va_S (pd_A G) s.heap H locs) (hz : H1.size = H.size + 1) (ho : ∀ q : Nat, q < H.size → H1[q]? = H[q]?) : va_S (pd_A G) s.heap H1 locs :=
  ⟨Nat.le_trans hS.1 (by omega), fun x h1 h2 => (ho x (Nat.lt_of_lt_of_le h1 hS.1)).trans (hS.2.1 x h1 h2), hS.2.2⟩
section PDNEW
variable {G : pd_G} {M : pd_M} {d mc ms : Nat} {X : Option (Nat × (Nat → Int))} {R : pd_R} {pc n t : Nat} {lv : List (Option pv)} {st : List pv} {sz ce sl : Nat} {hp : pd_P}
theorem pt_new {ci : Nat} {fs : List pv} (h : pd_nwi M pc ci n) (hd0 : pd_df ci fs) (hce : ce + 1 ≤ mc) (hsl : sl + fs.length ≤ ms) (k : pd_T G M d mc ms X R n lv (vr (sz + 1) :: st) (sz + 1) (ce + 1) (sl + fs.length) (va_up hp (sz + 1) (ob ci fs))) : pd_T G M d mc ms X R pc lv st sz ce sl hp := by
  intro p e Rm s m args below meth c Q hx hq H locs ls hH hS hl
  obtain ⟨idx, ⟨g1, rfl⟩, C0, g2, g3⟩ := h
  obtain ⟨C, T, N, ty0, f1, f2, f3, f4, f5, f6, f7⟩ := hd0
  have hC : C0 = C := by
    unfold pd_cn at g2
    rw [f1] at g2
    exact (Option.some.inj g2).symm
  subst hC
  have hts := hx.2.2.2.2.1
  obtain ⟨r1, r2, r3, r4⟩ := hx.2.2.2.2.2.2.1
  have hKn := hx.2.2.2.2.2.1.1.1 ci _ f1
  rw [f4] at hsl k
  refine W.newcK hx.1 hx.2.1 hx.2.2.2.1 (hts _ g3) (hts _ f6) (hts _ f7) rfl g1 (by omega) (by omega) hKn.2.1 hH.1 fun H1 kC hkC e1 z1 o1 => ?_
  have ho : ∀ q : Nat, q < H.size → H1[q]? = H[q]? := fun q hq2 => o1 q (by rw [← hH.1]; exact hq2)
  have hz : H1.size = H.size + 1 := by rw [z1, hH.1]
  refine k p e Rm s m args below meth c Q hx hq H1 locs ls (pd_H.push hH hz ho ?_) (pd_S.push hS hz ho) hl
  exact ⟨_, f1, (u_born ty0 hts f2 hKn hkC e1 f3).to (f5 G)⟩
theorem pt_newa {at0 : ArrayType} {kd N : Nat} {z : Int} (h : pd_i M pc (.newarray at0) 2 n) (hk : (at0 = .int ∧ kd = 0) ∨ (at0 = .byte ∧ kd = 1) ∨ (at0 = .boolean ∧ kd = 2)) (hz : z = (N : Int)) (hN : N ≤ 65536) (hce : ce + 1 ≤ mc) (hsl : sl + N ≤ ms) (k : pd_T G M d mc ms X R n lv (vr (sz + 1) :: st) (sz + 1) (ce + 1) (sl + N) (va_up hp (sz + 1) (.inl (kd, N, .inl (fun _ => 0))))) : pd_T G M d mc ms X R pc lv (vi z :: st) sz ce sl hp := by
  intro p e Rm s m args below meth c Q hx hq H locs ls hH hS hl
  obtain ⟨g1, rfl⟩ := h
  subst hz
  have hts := hx.2.2.2.2.1
  obtain ⟨r1, r2, r3, r4⟩ := hx.2.2.2.2.2.2.1
  have hcl : (jI (N : Int)).toNatClampNeg = N := by
    rw [jI_cl (n := 65537) (by omega) (by omega) (by decide)]
    simp
  have hneg : ¬ jI (N : Int) < 0 := by
    intro hh
    have hh2 : jI (N : Int) < jI 0 := hh
    rw [jI_lt ⟨by omega, by omega⟩ jR_0] at hh2
    omega
  have hcases : (Cond.arrayClass (newarray.typeOf at0)).before args s = true ∧ (pd_ty G)[kd]? = some (G.2.2.1 kd, newarray.typeOf at0) ∧ N * componentBytes (newarray.typeOf at0) ≤ 536870912 ∧ defaultValue (newarray.typeOf at0) = .int (jI 0) := by
    rcases hk with ⟨rfl, rfl⟩ | ⟨rfl, rfl⟩ | ⟨rfl, rfl⟩
    · exact ⟨hts _ ac_int, rfl, by show N * 4 ≤ _; omega, rfl⟩
    · exact ⟨hts _ ac_byte, rfl, by show N * 1 ≤ _; omega, rfl⟩
    · exact ⟨hts _ ac_bool, rfl, by show N * 1 ≤ _; omega, rfl⟩
  obtain ⟨k1, k2, k3, k4⟩ := hcases
  refine va_newaK hx.1 hx.2.1 k1 rfl g1 rfl hneg hcl k3 (by omega) (by omega) hH.1 fun H1 cA e1 z1 o1 hAr hNm => ?_
  have hRA := (hx.2.2.2.2.2.1.1.2 kd _ k2).2
  have hcA : cA = G.2.2.1 kd := by
    rcases hk with ⟨rfl, rfl⟩ | ⟨rfl, rfl⟩ | ⟨rfl, rfl⟩ <;> exact Option.some.inj (hNm.symm.trans hRA)
  subst hcA
  have ho : ∀ q : Nat, q < H.size → H1[q]? = H[q]? := fun q hq2 => o1 q (by rw [← hH.1]; exact hq2)
  have hz : H1.size = H.size + 1 := by rw [z1, hH.1]
  refine k p e Rm s m args below meth c Q hx hq H1 locs ls (pd_H.push hH hz ho ?_) (pd_S.push hS hz ho) hl
  show H1[_]? = some (vp_cell _ _)
  rw [vp_cell_i]
  rw [k4] at e1
  exact e1
theorem pt_newq {kd N : Nat} {C : String} {z : Int} (h : ∃ idx, pd_i M pc (.anewarray idx) 3 n ∧ Cond.classLink M.1.cls idx C ∈ pd_tbl) (hk : (kd = 3 ∧ C = "PantryDoors$Life") ∨ (kd = 4 ∧ C = "PantryDoors$State") ∨ (kd = 5 ∧ C = "PantryDoors$Good")) (hz : z = (N : Int)) (hN : N ≤ 65536) (hce : ce + 1 ≤ mc) (hsl : sl + N ≤ ms) (k : pd_T G M d mc ms X R n lv (vr (sz + 1) :: st) (sz + 1) (ce + 1) (sl + N) (va_up hp (sz + 1) (ra kd N (fun _ => none)))) : pd_T G M d mc ms X R pc lv (vi z :: st) sz ce sl hp := by
  intro p e Rm s m args below meth c Q hx hq H locs ls hH hS hl
  obtain ⟨idx, ⟨g1, rfl⟩, g2⟩ := h
  subst hz
  have hts := hx.2.2.2.2.1
  obtain ⟨r1, r2, r3, r4⟩ := hx.2.2.2.2.2.2.1
  have hcl : (jI (N : Int)).toNatClampNeg = N := by
    rw [jI_cl (n := 65537) (by omega) (by omega) (by decide)]
    simp
  have hneg : ¬ jI (N : Int) < 0 := by
    intro hh
    have hh2 : jI (N : Int) < jI 0 := hh
    rw [jI_lt ⟨by omega, by omega⟩ jR_0] at hh2
    omega
  have hcases : va_AO C s ∧ (pd_ty G)[kd]? = some (G.2.2.1 kd, .object C) := by
    rcases hk with ⟨rfl, rfl⟩ | ⟨rfl, rfl⟩ | ⟨rfl, rfl⟩
    · exact ⟨hx.2.2.2.2.2.1.2.2.1, rfl⟩
    · exact ⟨hx.2.2.2.2.2.1.2.2.2.1, rfl⟩
    · exact ⟨hx.2.2.2.2.2.1.2.2.2.2.1, rfl⟩
  obtain ⟨k1, k2⟩ := hcases
  refine W.anew hx.1 hx.2.1 hx.2.2.2.1 (hts _ g2) (va_AO.use k1) rfl g1 rfl hneg (by rw [hcl]; omega) (by omega) (by rw [hcl]; omega) fun cA kA comp f1 f2 f3 f4 => ?_
  obtain ⟨kA2, comp2, m1, m2, m3, m4⟩ := (hx.2.2.2.2.2.1.1.2 kd _ k2).2
  have hcA : cA = G.2.2.1 kd := Option.some.inj (f1.symm.trans m4)
  subst hcA
  rw [hcl]
  generalize hH1 : H.push ({ cls := G.2.2.1 kd, slots := Array.replicate N .null, vm := .none } : Cell) = H1
  have z1 : H1.size = H.size + 1 := by rw [← hH1, Array.size_push]
  have e1 : H1[H.size]? = some (arrV (G.2.2.1 kd) N (fun _ => .null)) := by rw [← hH1, Array.getElem?_push_size, ← arrV_new]
  have o1 : ∀ q : Nat, q < H.size → H1[q]? = H[q]? := fun q hq => by rw [← hH1, Array.getElem?_push, if_neg (Nat.ne_of_lt hq)]
  have hadr : (Value.ref H.size : Value) = pd_up G (vr (sz + 1)) := by rw [hH.1]; rfl
  rw [hadr]
  refine k p e Rm s m args below meth c Q hx hq H1 locs ls (pd_H.push hH z1 o1 ?_) (pd_S.push hS z1 o1) hl
  show H1[_]? = some (vp_cell _ _)
  rw [vp_cell_q, ← hH.1]
  exact e1
theorem pt_aast {a kd N v ci : Nat} {C : String} {f : Int → Option Nat} {fs : List pv} {z : Int} (h : pd_i M pc .aastore 1 n) (hc : hp a = ra kd N f) (hty : (pd_ty G)[kd]? = some (G.2.2.1 kd, .object C)) (h0 : 0 ≤ z) (hz : z < N) (hN : (N : Int) ≤ 2147483648) (hv : hp v = ob ci fs) (hcn : ∃ D, pd_cn ci = some D ∧ (D = C ∨ (D, C) ∈ pd_cast)) (k : pd_T G M d mc ms X R n lv st sz ce sl (va_up hp a (ra kd N (uI f z (some v))))) : pd_T G M d mc ms X R pc lv (vr v :: vi z :: vr a :: st) sz ce sl hp := by
  intro p e Rm s m args below meth c Q hx hq H locs ls hH hS hl
  obtain ⟨h1, rfl⟩ := h
  obtain ⟨k0, rfl, hk0⟩ := pd_lt hH (a := a) (by rw [hc]; intro q; cases q)
  have hw := pd_w_get (G := G) (hp := hp) hk0
  rw [hc] at hw
  obtain ⟨DD, hD1, hD2⟩ := hcn
  have hne : ci ≠ 99 := by rintro rfl; simp [pd_cn] at hD1
  obtain ⟨kv, rfl, hkv⟩ := pd_lt hH (a := v) (by rw [hv]; intro q; exact hne (congrArg Prod.fst (Sum.inr.inj q)))
  have hwv := pd_w_get (G := G) (hp := hp) hkv
  rw [hv] at hwv
  have hcl := jI_cl h0 hz hN
  have hin := jI_in h0 hz hN
  obtain ⟨r', hr', cellV, q1, q2, q3, -⟩ := hH.2.1 kv _ hwv
  have hrn : r'.1 = DD := by
    unfold pd_cn at hD1
    rw [hr'] at hD1
    exact Option.some.inj hD1
  have hcls := (hx.2.2.2.2.2.1.1.1 ci r' hr').2
  rw [hrn] at hcls
  obtain ⟨kA, comp, k1, k2, k3, -⟩ := (hx.2.2.2.2.2.1.1.2 kd _ hty).2
  obtain ⟨kE, hkE, -⟩ := Vm.findClass_spec k3
  have hasg : s.vm.assignable (G.2.1.1 ci) comp = true := by
    rcases hD2 with rfl | hD2
    · have : comp = G.2.1.1 ci := Option.some.inj (k3.symm.trans hcls.1)
      rw [this]
      exact va_assign hcls
    · obtain ⟨c0, t1, f1, f2, f3⟩ := Cond.castable_spec (va_Nw.use (A := args) rfl (hx.2.2.2.2.2.1.2.2.2.2.2 _ hD2))
      cases hcls.1.symm.trans f1
      cases k3.symm.trans f2
      exact f3
  obtain ⟨kC, hkC, -⟩ := hcls.2
  refine W.aast hx.1 hx.2.1 (hH.2.1 k0 _ hw) (fun q h => by cases h) (fun h => by cases h) k1 k2 rfl hkE ⟨fun q => hin (Or.inl q), by show _ < (arrV _ _ _).slots.size; rw [arrV_size]; exact Nat.not_le.mp fun q => hin (Or.inr q)⟩ q1 (fun q h => by rw [q3] at h; cases h) (by rw [q2]; exact hkC) (by rw [q2]; exact hasg) rfl rfl h1 fun H1 e1 z1 oq => ?_
  refine k p e Rm s m args below meth c Q hx hq H1 _ ls (pd_H.set hH hk0 z1 (hH.2.1.set (pd_w_D G sz hp) hw ?_ oq)) (hS.put z1 oq (Nat.le_add_right _ _)) hl
  show H1[_]? = some (vp_cell _ _)
  rw [e1]
  rw [vp_cell_q, vp_cell_q, arrV_store]
  congr 2
  funext q
  by_cases hqz : q = (jI z).toNatClampNeg
  · subst hqz
    simp [updV, uI, hcl, Int.toNat_of_nonneg h0, va_rf, pd_ad]
  · have hq2 : ¬ (q : Int) = z := fun w => hqz (by rw [hcl]; omega)
    simp [updV, uI, hqz, hq2]
theorem pt_oinit {a : Nat} (h : ∃ idx, pd_i M pc (.invokespecial idx) 3 n ∧ Cond.methodLink M.1.cls idx objectInit ∈ pd_tbl) (hd : 1 ≤ d) (hr : st.length ≤ 8) (k : pd_T G M d mc ms X R n lv st sz ce sl hp) : pd_T G M d mc ms X R pc lv (vr (a + 1) :: st) sz ce sl hp := by
  intro p e Rm s m args below meth c Q hx hq H locs ls hH hS hl
  obtain ⟨idx, ⟨g1, rfl⟩, g2⟩ := h
  have hts := hx.2.2.2.2.1
  obtain ⟨r1, r2, r3, r4⟩ := hx.2.2.2.2.2.2.1
  have hcat := pd_words G st
  exact W.objInit hx.1 hx.2.1 hx.2.2.2.1 (hts _ g2) (hts _ oi_inst) (hts _ oi_code) rfl (by rw [hx.2.2.1]; exact hl.1) rfl g1 (by omega) (by show 2 * 0 + _ + 12 ≤ _; omega) (k p e Rm s m args below meth c Q hx hq H locs ls hH hS hl)
end PDNEW
