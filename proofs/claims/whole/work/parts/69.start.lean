/-! the start -/
theorem w_K {s : State} {args : Array Value} (l : Launch) (base b : Nat) (hts : ∀ w ∈ lw_tbl, w.before args s = true) : ∃ (D : va_G) (cA : Nat → ClassId), pd_K (l, D, cA, base, b) s := by
  have htp : ∀ w ∈ pd_tbl, w.before args s = true := fun w hw => hts w (List.mem_filter.mp hw).1
  obtain ⟨c0, i0, h0⟩ := u_known (C := RX0) (T := TX0) (N := 1) (n := 1) htp iw0 (hts (.instantiable RX0 1) (List.mem_of_getElem? (i := 238) (by decide +kernel)))
  obtain ⟨c1, i1, h1⟩ := u_known (C := RX1) (T := TX1) (N := 1) (n := 1) htp iw1 (hts (.instantiable RX1 1) (List.mem_of_getElem? (i := 222) (by decide +kernel)))
  obtain ⟨c2, i2, h2⟩ := u_known (C := RX2) (T := TX2) (N := 1) (n := 1) htp iw2 (hts (.instantiable RX2 1) (List.mem_of_getElem? (i := 185) (by decide +kernel)))
  obtain ⟨c3, i3, h3⟩ := u_known (C := RX3) (T := TX3) (N := 1) (n := 1) htp iw3 (hts (.instantiable RX3 1) (List.mem_of_getElem? (i := 214) (by decide +kernel)))
  obtain ⟨c4, i4, h4⟩ := u_known (C := RX4) (T := TX4) (N := 10) (n := 10) htp iw4 (hts (.instantiable RX4 10) (List.mem_of_getElem? (i := 246) (by decide +kernel)))
  obtain ⟨c5, i5, h5⟩ := u_known (C := RX5) (T := TX5) (N := 1) (n := 1) htp iw5 (hts (.instantiable RX5 1) (List.mem_of_getElem? (i := 230) (by decide +kernel)))
  obtain ⟨c6, i6, h6⟩ := u_known (C := RX6) (T := TX6) (N := 3) (n := 3) htp iw6 (hts (.instantiable RX6 3) (List.mem_of_getElem? (i := 104) (by decide +kernel)))
  obtain ⟨c7, i7, h7⟩ := u_known (C := RX7) (T := TX7) (N := 6) (n := 6) htp iw7 (hts (.instantiable RX7 6) (List.mem_of_getElem? (i := 156) (by decide +kernel)))
  obtain ⟨c8, i8, h8⟩ := u_known (C := RX8) (T := TX8) (N := 5) (n := 5) htp iw8 (hts (.instantiable RX8 5) (List.mem_of_getElem? (i := 110) (by decide +kernel)))
  obtain ⟨c9, i9, h9⟩ := u_known (C := RX9) (T := TX9) (N := 1) (n := 1) htp iw9 (hts (.instantiable RX9 1) (List.mem_of_getElem? (i := 206) (by decide +kernel)))
  obtain ⟨c10, i10, h10⟩ := u_known (C := RX10) (T := TX10) (N := 8) (n := 8) htp iw10 (hts (.instantiable RX10 8) (List.mem_of_getElem? (i := 70) (by decide +kernel)))
  obtain ⟨c11, i11, h11⟩ := u_known (C := RX11) (T := TX11) (N := 15) (n := 15) htp iw11 (hts (.instantiable RX11 15) (List.mem_of_getElem? (i := 62) (by decide +kernel)))
  obtain ⟨c12, i12, h12⟩ := u_known (C := RX12) (T := TX12) (N := 32) (n := 32) htp iw12 (hts (.instantiable RX12 32) (List.mem_of_getElem? (i := 720) (by decide +kernel)))
  obtain ⟨a0, ka0, co0, fa0, fb0, fc0⟩ := Cond.arrayClass_spec (hts (.arrayClass .int) (List.mem_of_getElem? (i := 102) (by decide +kernel)))
  obtain ⟨a1, ka1, co1, fa1, fb1, fc1⟩ := Cond.arrayClass_spec (hts (.arrayClass .byte) (List.mem_of_getElem? (i := 822) (by decide +kernel)))
  obtain ⟨a2, ka2, co2, fa2, fb2, fc2⟩ := Cond.arrayClass_spec (hts (.arrayClass .boolean) (List.mem_of_getElem? (i := 182) (by decide +kernel)))
  have ho3 := hts (.arrayOver (.object "PantryDoors$Life")) (List.mem_of_getElem? (i := 154) (by decide +kernel))
  obtain ⟨co3, a3, ka3, fa3, fx3, fb3, fc3, fd3⟩ := Cond.arrayOver_spec ho3
  have ho4 := hts (.arrayOver (.object "PantryDoors$State")) (List.mem_of_getElem? (i := 141) (by decide +kernel))
  obtain ⟨co4, a4, ka4, fa4, fx4, fb4, fc4, fd4⟩ := Cond.arrayOver_spec ho4
  have ho5 := hts (.arrayOver (.object "PantryDoors$Good")) (List.mem_of_getElem? (i := 184) (by decide +kernel))
  obtain ⟨co5, a5, ka5, fa5, fx5, fb5, fc5, fd5⟩ := Cond.arrayOver_spec ho5
  refine ⟨(fun k : Nat => match k with | 0 => c0 | 1 => c1 | 2 => c2 | 3 => c3 | 4 => c4 | 5 => c5 | 6 => c6 | 7 => c7 | 8 => c8 | 9 => c9 | 10 => c10 | 11 => c11 | _ => c12, fun k : Nat => match k with | 0 => i0 | 1 => i1 | 2 => i2 | 3 => i3 | 4 => i4 | 5 => i5 | 6 => i6 | 7 => i7 | 8 => i8 | 9 => i9 | 10 => i10 | 11 => i11 | _ => i12), fun k : Nat => match k with | 0 => a0 | 1 => a1 | 2 => a2 | 3 => a3 | 4 => a4 | _ => a5, ⟨⟨?_, ?_⟩, ?_, va_AO.of ho3, va_AO.of ho4, va_AO.of ho5, ?_⟩⟩
  · intro k q hq
    match k, hq with
    | 0, hq => cases hq; exact h0
    | 1, hq => cases hq; exact h1
    | 2, hq => cases hq; exact h2
    | 3, hq => cases hq; exact h3
    | 4, hq => cases hq; exact h4
    | 5, hq => cases hq; exact h5
    | 6, hq => cases hq; exact h6
    | 7, hq => cases hq; exact h7
    | 8, hq => cases hq; exact h8
    | 9, hq => cases hq; exact h9
    | 10, hq => cases hq; exact h10
    | 11, hq => cases hq; exact h11
    | 12, hq => cases hq; exact h12
    | k + 13, hq => simp [pd_cl] at hq
  · intro k q hq
    match k, hq with
    | 0, hq => cases hq; exact ⟨fun n z => ⟨(fun k h => by cases h), ka0, fb0, co0, fc0⟩, fa0⟩
    | 1, hq => cases hq; exact ⟨fun n z => ⟨(fun k h => by cases h), ka1, fb1, co1, fc1⟩, fa1⟩
    | 2, hq => cases hq; exact ⟨fun n z => ⟨(fun k h => by cases h), ka2, fb2, co2, fc2⟩, fa2⟩
    | 3, hq => cases hq; exact ⟨fun n z => ⟨(fun k h => by cases h), ka3, fb3, co3, fc3⟩, ⟨ka3, co3, fb3, fc3, fa3, fd3⟩⟩
    | 4, hq => cases hq; exact ⟨fun n z => ⟨(fun k h => by cases h), ka4, fb4, co4, fc4⟩, ⟨ka4, co4, fb4, fc4, fa4, fd4⟩⟩
    | 5, hq => cases hq; exact ⟨fun n z => ⟨(fun k h => by cases h), ka5, fb5, co5, fc5⟩, ⟨ka5, co5, fb5, fc5, fa5, fd5⟩⟩
    | k + 6, hq => simp [pd_ty] at hq
  · exact List.forall_mem_cons.mpr ⟨va_Nw.of rfl (hts _ (List.mem_of_getElem? (i := 71) (by decide +kernel))), List.forall_mem_cons.mpr ⟨va_Nw.of rfl (hts _ (List.mem_of_getElem? (i := 111) (by decide +kernel))), List.forall_mem_cons.mpr ⟨va_Nw.of rfl (hts _ (List.mem_of_getElem? (i := 157) (by decide +kernel))), List.forall_mem_cons.mpr ⟨va_Nw.of rfl (hts _ (List.mem_of_getElem? (i := 186) (by decide +kernel))), List.forall_mem_cons.mpr ⟨va_Nw.of rfl (hts _ (List.mem_of_getElem? (i := 207) (by decide +kernel))), List.forall_mem_cons.mpr ⟨va_Nw.of rfl (hts _ (List.mem_of_getElem? (i := 210) (by decide +kernel))), List.forall_mem_cons.mpr ⟨va_Nw.of rfl (hts _ (List.mem_of_getElem? (i := 215) (by decide +kernel))), List.forall_mem_cons.mpr ⟨va_Nw.of rfl (hts _ (List.mem_of_getElem? (i := 218) (by decide +kernel))), List.forall_mem_cons.mpr ⟨va_Nw.of rfl (hts _ (List.mem_of_getElem? (i := 223) (by decide +kernel))), List.forall_mem_cons.mpr ⟨va_Nw.of rfl (hts _ (List.mem_of_getElem? (i := 226) (by decide +kernel))), List.forall_mem_cons.mpr ⟨va_Nw.of rfl (hts _ (List.mem_of_getElem? (i := 231) (by decide +kernel))), List.forall_mem_cons.mpr ⟨va_Nw.of rfl (hts _ (List.mem_of_getElem? (i := 234) (by decide +kernel))), List.forall_mem_cons.mpr ⟨va_Nw.of rfl (hts _ (List.mem_of_getElem? (i := 239) (by decide +kernel))), List.forall_mem_cons.mpr ⟨va_Nw.of rfl (hts _ (List.mem_of_getElem? (i := 242) (by decide +kernel))), List.forall_mem_cons.mpr ⟨va_Nw.of rfl (hts _ (List.mem_of_getElem? (i := 247) (by decide +kernel))), List.forall_mem_cons.mpr ⟨va_Nw.of rfl (hts _ (List.mem_of_getElem? (i := 382) (by decide +kernel))), List.forall_mem_cons.mpr ⟨va_Nw.of rfl (hts _ (List.mem_of_getElem? (i := 450) (by decide +kernel))), List.forall_mem_cons.mpr ⟨va_Nw.of rfl (hts _ (List.mem_of_getElem? (i := 468) (by decide +kernel))), fun _ h => absurd h List.not_mem_nil⟩⟩⟩⟩⟩⟩⟩⟩⟩⟩⟩⟩⟩⟩⟩⟩⟩⟩
  · exact List.forall_mem_cons.mpr ⟨va_Nw.of rfl (hts _ (List.mem_of_getElem? (i := 1042) (by decide +kernel))), List.forall_mem_cons.mpr ⟨va_Nw.of rfl (hts _ (List.mem_of_getElem? (i := 1043) (by decide +kernel))), List.forall_mem_cons.mpr ⟨va_Nw.of rfl (hts _ (List.mem_of_getElem? (i := 1044) (by decide +kernel))), List.forall_mem_cons.mpr ⟨va_Nw.of rfl (hts _ (List.mem_of_getElem? (i := 1045) (by decide +kernel))), List.forall_mem_cons.mpr ⟨va_Nw.of rfl (hts _ (List.mem_of_getElem? (i := 1046) (by decide +kernel))), fun _ h => absurd h List.not_mem_nil⟩⟩⟩⟩⟩
theorem lW_start (G : pd_G) {L : Nat} {xs : Nat → Int} (hL : L ≤ 2048) (hxs : ∀ j, jR (xs j)) : pd_T G mW_law 10 199 8765 (some (L, xs)) rW 0 [some (vr 0), none, none, none] [] 0 0 0 (fun _ => ob 99 []) := by
  refine mk_new (sz2 := 1) (ce2 := 1) (sl2 := 15) eW_law_0 df11 rfl rfl rfl (Nat.le_of_ble_eq_true rfl) (Nat.le_of_ble_eq_true rfl) ?_
  refine pt_gen ?_
  intro hp1 ev1
  have h_N1 := pg_s ev1
  refine pt_dupr eW_law_3 ?_
  refine mk_kI (a := 0) (ce2 := 177) (sl2 := 4818) eW_law_4 (cD_init G _ h_N1) rfl (Nat.le_of_ble_eq_true rfl) (Nat.le_of_ble_eq_true rfl) rfl rfl (Nat.le_of_ble_eq_true rfl) (Nat.le_of_ble_eq_true rfl) ?_
  rintro v2 sz2 hp2 ⟨rfl, hz9, hC, hf2⟩
  obtain rfl : sz2 = 177 := hz9
  refine pt_astore1 eW_law_7 rfl ?_
  refine mk_new (sz2 := 178) (ce2 := 178) (sl2 := 4850) eW_law_8 df12 rfl rfl rfl (Nat.le_of_ble_eq_true rfl) (Nat.le_of_ble_eq_true rfl) ?_
  refine pt_gen ?_
  intro hp3 ev3
  have h_N178 := pg_s ev3
  have hC := hC.keep (fr.wr ev3) (by omega)
  refine pt_dupr eW_law_11 ?_
  refine mk_kI (a := 177) (ce2 := 199) (sl2 := 8765) eW_law_12 (cR_init G _ h_N178) rfl (Nat.le_of_ble_eq_true rfl) (Nat.le_of_ble_eq_true rfl) rfl rfl (Nat.le_of_ble_eq_true rfl) (Nat.le_of_ble_eq_true rfl) ?_
  rintro v2 sz2 hp4 ⟨rfl, hz9, hM, hf4⟩
  obtain rfl : sz2 = 199 := hz9
  have hC := hC.keep hf4 (by omega)
  refine pt_astore2 eW_law_15 rfl ?_
  refine pt_ic eW_law_16 ?_
  refine pt_istore3 eW_law_17 rfl ?_
  exact lW_loop G hL hxs (L + 1) 0 hp4 (Nat.zero_le _) (by omega) ⟨70, 78, q00, v00, hC, hM, IN00⟩
/-! THE CLAIM OUT OF ONE WALK OF THE LAW'S BODY. Your part is whole_start (and what it stands on); all else here is the same for every law, but numbers. -/
def R_law : String := "PantryDoorsLaw"
def lw_P (b : Addr) (xs : List Int32) (args : Array Value) (s : State) : Prop := args = #[.ref b] ∧ s.IntsAt b xs ∧ xs.length ≤ 2048 ∧ (Jvm.Cond.and given_1 narrow_1).before args s = true
def lw_Q (_ : Array Value) (s : State) (o : Outcome) (t : State) : Prop := o = .returned (some (.int 1)) ∧ Framed s o t [] 600000 7302250
def lw_Z (below : List Frame) (a : Array Value) (s : State) : State → Prop := fun t => ∃ o, t.status = .running ∧ Ended t below o ∧ lw_Q a s o t
/-- the law's own end, with 1 on the stack, nothing written that was there before, its room as the claim has it -/
theorem lw_ret {p : Program} {l : Launch} {e : Env} {s : State} {m : MethodId} {below : List Frame} {meth : Method} {c : Code} {b : Nat} (hx : p.tables.exec = Jvm.exec) (hb : c.code = code) (hr : meth.sig.returnType = ret) (hlocks : meth.locks = false) {pc : Nat} {H : Heap} {ls : Array Slot} (hdg : decode code pc = .ok (.ireturn, 1)) : W p l e room_1 s m #[Value.ref b] below meth c H [] 600000 7302250 (lw_Z below #[Value.ref b] s) (F0 m pc ls [.int 1]) := by
  intro T hT X
  obtain ⟨fs, hret, hrun, hended, hW, hframe⟩ := X.leave (v := some (.int 1)) (hlocks := hlocks) (fun h => by rw [hr] at h; cases h)
  have hmeth' : T.vm.method? m = some meth := X.method'
  refine ⟨T.setFrames fs, ?_, .returned (some (.int 1)), hrun, hended, rfl, ⟨_, rfl⟩, hW, hframe⟩
  jvm_step X.here [X.here.top, hx, hb, hdg, hmeth', hr, ret, narrow_b1]
  (try refine ⟨rfl, ?_⟩); (try refine ⟨rfl, ?_⟩)
  first | (intro acts; rw [hret _ acts rfl rfl rfl]) | rw [hret _ _ rfl rfl rfl]
  exact Steps.refl _
/-- what holds at the law's entry: the machine, the code, the tables' words (any of lw_tbl by 'hts w (by decide +kernel)'), the script of L ints xs at the cell b, what the Statement gives of the start (any of its parts by flat_of_before) -/
def lw_At (p : Program) (s : State) (m : MethodId) (meth : Method) (c : Code) (b L : Nat) (xs : Nat → Int32) : Prop :=
  p.tables.exec = Jvm.exec ∧ c.code = code ∧ meth.sig.returnType = ret ∧ c.maxLocals = 4 ∧ s.vm.findClass R_law = some m.cls ∧ (∀ w ∈ lw_tbl, w.before #[Value.ref b] s = true) ∧ va_X b L xs s s.heap ∧ b < s.heap.size ∧ meth.locks = false ∧ (Jvm.Cond.and given_1 narrow_1).before #[Value.ref b] s = true
theorem whole_start {p : Program} {e : Env} {s : State} {m : MethodId} {below : List Frame} {meth : Method} {c : Code} (l : Launch) {b L : Nat} {xs : Nat → Int32} (hL : L ≤ 2048) (C0 : lw_At p s m meth c b L xs) : W p l e room_1 s m #[Value.ref b] below meth c s.heap [] 0 0 (lw_Z below #[Value.ref b] s) (entryFrame m ([Value.ref b] : List Value).toArray 4) := by
  obtain ⟨hx, hb, hr, hml, hown, hts, hX, hbl, hlocks, hgv⟩ := C0
  obtain ⟨D, cA, hK⟩ := w_K l s.heap.size b hts
  obtain ⟨xz, hxz, hxe⟩ : ∃ xz : Nat → Int, (∀ j, jR (xz j)) ∧ xs = fun j => jI (xz j) := ⟨fun j => (xs j).toInt, fun j => ⟨Int32.le_toInt _, Int32.toInt_lt _⟩, funext fun j => (Int32.ofInt_toInt _).symm⟩
  subst hxe
  have hcx : pd_cx (l, D, cA, s.heap.size, b) mW_law 10 199 8765 (some (L, xz)) p room_1 s m #[Value.ref b] meth c := ⟨hx, hb, hml, hown, fun w hw => hts w (List.mem_filter.mp hw).1, hK, ⟨by decide, by decide, by decide, by decide⟩, fun h => absurd h (by decide), Nat.le_refl _, ⟨hX, hbl, hbl⟩⟩
  rw [lg_entry_eq]
  have hlv : pd_lv (l, D, cA, s.heap.size, b) ((lg_sl [Value.ref b] ++ List.replicate (4 - (lg_sl [Value.ref b]).length) Slot.unset).toArray) 4 [some (vr 0), none, none, none] := by
    have he := lv_entry [Value.ref b] (n := 4) (Nat.le_of_ble_eq_true rfl)
    refine ⟨he.1, he.2.1, fun i w hw => ?_⟩
    match i, hw with
    | 0, hw => cases hw; rfl
    | 1, hw => cases hw
    | 2, hw => cases hw
    | 3, hw => cases hw
    | i + 4, hw => cases hw
  refine lW_start (l, D, cA, s.heap.size, b) hL hxz p e room_1 s m #[Value.ref b] below meth c _ hcx ?_ s.heap [] _ ⟨rfl, fun k q h => by simp [pd_w] at h, fun k _ => rfl⟩ va_S.rf hlv
  intro pc' H' locs' ls' v sz' hp' hrd hR hH' hS'
  cases hR
  refine va_forget (fun q hq => hS'.2.2 q hq) ?_
  refine W.widen (k := 600000) (n := 7302250) (by decide) (by decide) ?_
  exact lw_ret hx hb hr hlocks hrd.1
