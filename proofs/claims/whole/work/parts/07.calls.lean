/-! calls -/
theorem pd_goodin {N : pd_M} {ar : Nat} (h : pd_ok N ar) : GoodIn pd_tbl (pd_ws N) := by
  intro w hw
  have key : ∀ w ∈ pd_tbl, w ∈ pd_tbl ∧ ((w.onTables && w.keeps) = true ∨ ∃ ty, w = .arrayClass ty) := fun w hw => ⟨hw, good_of_word (List.mem_filter.mp hw).2⟩
  rcases List.mem_cons.mp hw with rfl | hw
  · exact key _ h.1
  · exact key w hw
theorem pd_blind (G : pd_G) (sz : Nat) (hp : pd_P) (av : List Value) : FrameBlind (va_Pc av (pd_Pc G sz hp)) := fun a U g mk h => ⟨h.1, h.2.1, h.2.2.same rfl⟩
theorem pd_len {N : pd_M} {ar : Nat} (h : pd_ok N ar) (sig : MethodDescriptor) (hs : parseMethodDescriptor N.1.desc = some sig) : ar = sig.parameters.length := by
  have h2 := h.2.2.2.2.2.1
  rw [hs] at h2
  exact (Option.some.inj h2).symm
section PDCALL
variable {p : Program} {l : Launch} {e : Env} {Rm : Room} {s : State} {m : MethodId} {args : Array Value} {below : List Frame} {meth : Method} {c : Code} {H : Heap} {locs : List Loc} {cells slots mc1 ms1 : Nat} {Q : State → Prop} {G : pd_G} {pc : Nat} {ls : Array Slot} {rest st0 : List Value} {a : Array Value} {Rc : pd_R}
theorem pd_call (hr : va_Run p l e Rm s m args below meth c H locs cells slots mc1 ms1 (F0 m pc ls st0) rest (pd_Qc G Rc a) (pd_A G)) (hS : va_S (pd_A G) s.heap H locs)
    (kk : ∀ (v : Option pv) (sz' : Nat) (hp' : pd_P) (H1 : Heap) (locs1 : List Loc), Rc v sz' hp' → pd_H G sz' hp' H1 → va_S (pd_A G) s.heap H1 locs1 → W p l e Rm s m args below meth c H1 locs1 (cells + mc1) (slots + ms1) Q (F0 m (pc + 3) ls ((v.map (pd_up G)).toList ++ rest))) : W p l e Rm s m args below meth c H locs cells slots Q (F0 m pc ls st0) := by
  intro T hT X
  obtain ⟨v, st₀, t, T', L, h0, X', hL, e1, e2, ⟨⟨v', sz', hp', hv, hR, hH'⟩, hz, hk⟩, st⟩ := hr T hT X
  cases hv
  rw [h0] at hz hk
  obtain ⟨t2, a1, b1⟩ := kk v' sz' hp' T'.heap (locs ++ L) hR (by rw [e1]; exact hH')
    ⟨Nat.le_trans hS.1 (by rw [e1]; exact hz), fun q h1 h2 => by rw [e1, hk q (Nat.lt_of_lt_of_le h1 hS.1) h2]; exact hS.2.1 q h1 h2, fun q hq => by
      rcases List.mem_append.mp hq with h | h
      · exact hS.2.2 q h
      · exact hL q h⟩ T' rfl X'
  exact ⟨t2, st t2 a1, b1⟩
end PDCALL
def pd_kv (M : pd_M) (pc : Nat) (N : pd_M) (ar n : Nat) : Prop := ∃ idx, pd_i M pc (.invokevirtual idx) 3 n ∧ Cond.methodLink M.1.cls idx N.1 ∈ pd_tbl ∧ Cond.instanceMethod N.1 ∈ pd_tbl ∧ Cond.selects N.1.cls N.1 N.1 ∈ pd_tbl ∧ pd_ok N ar
/-- a virtual call of N0 on an object of N's class, which has N in its place -/
def pd_ku (M : pd_M) (pc : Nat) (N0 N : pd_M) (ar n : Nat) : Prop := ∃ idx, pd_i M pc (.invokevirtual idx) 3 n ∧ Cond.methodLink M.1.cls idx N0.1 ∈ pd_tbl ∧ Cond.sameMethod N0.1.cls N0.1.cls N0.1.name N0.1.desc ∈ pd_tbl ∧ Cond.instanceMethod N0.1 ∈ pd_tbl ∧ Cond.selects N.1.cls N0.1 N.1 ∈ pd_tbl ∧ Cond.instanceMethod N.1 ∈ pd_tbl ∧ pd_ok N0 ar ∧ pd_ok N ar ∧ N0.1.desc = N.1.desc
def pd_ks (M : pd_M) (pc : Nat) (N : pd_M) (ar n : Nat) : Prop := ∃ idx, pd_i M pc (.invokestatic idx) 3 n ∧ (Cond.methodLink M.1.cls idx N.1 ∈ pd_tbl ∨ ∃ host, (M.1.cls, idx, N.1, host) ∈ pd_nest) ∧ Cond.static N.1 ∈ pd_tbl ∧ pd_ok N ar
def pd_kI (M : pd_M) (pc : Nat) (N : pd_M) (ar n : Nat) : Prop := ∃ idx, pd_i M pc (.invokespecial idx) 3 n ∧ (Cond.methodLink M.1.cls idx N.1 ∈ pd_tbl ∨ ∃ host, (M.1.cls, idx, N.1, host) ∈ pd_nest) ∧ Cond.instanceMethod N.1 ∈ pd_tbl ∧ N.1.name = "<init>" ∧ N.2.2.2 = none ∧ pd_ok N ar
/-- a call of the method of the class above -/
def pd_kU (M : pd_M) (pc : Nat) (N : pd_M) (ar n : Nat) : Prop := ∃ idx, pd_i M pc (.invokespecial idx) 3 n ∧ Cond.methodLink M.1.cls idx N.1 ∈ pd_tbl ∧ Cond.sameMethod N.1.cls N.1.cls N.1.name N.1.desc ∈ pd_tbl ∧ Cond.superclass M.1.cls N.1.cls ∈ pd_tbl ∧ Cond.instanceMethod N.1 ∈ pd_tbl ∧ N.1.name ≠ "<init>" ∧ pd_ok N ar
def pd_cn (ci : Nat) : Option String := (pd_cl[ci]?).map (fun q => q.1)
section PDK
variable {G : pd_G} {M : pd_M} {d mc ms : Nat} {X : Option (Nat × (Nat → Int))} {R : pd_R} {pc n t : Nat} {lv : List (Option pv)} {st : List pv} {sz ce sl : Nat} {hp : pd_P} {N : pd_M} {d1 mc1 ms1 : Nat} {Rc : pd_R} {As rest : List pv}
theorem pd_back (G : pd_G) {p : Program} {Rm : Room} {s : State} {m : MethodId} {args : Array Value} {meth : Method} {c : Code} (hx : pd_cx G M d mc ms X p Rm s m args meth c) {ar : Nat} (hok : pd_ok N ar) (hd : d1 + 1 ≤ d) :
    (pd_rm d1 mc1 ms1).cells = mc1 ∧ (pd_rm d1 mc1 ms1).slots = ms1 ∧ (pd_rm d1 mc1 ms1).frames + 1 ≤ Rm.frames ∧ 8 + (N.2.2.1 + 11) + (pd_rm d1 mc1 ms1).locals ≤ Rm.locals ∧ (∀ w ∈ pd_ws N, ∀ (a' : Array Value) (U : State), s.WarmedH U.vm → w.before a' U = true) ∧ Cond.code N.1 N.2.1 N.2.2.1 N.2.2.2 ∈ pd_ws N := by
  obtain ⟨r1, r2, r3, r4⟩ := hx.2.2.2.2.2.2.1
  have h45 := hok.2.2.2.2.2.2
  refine ⟨rfl, rfl, by show d1 + 1 ≤ _; omega, by show 8 + (N.2.2.1 + 11) + 64 * d1 ≤ _; omega, pay_in hx.2.2.2.2.1 (pd_goodin hok), List.mem_cons_self⟩
theorem pd_pre (G : pd_G) {s : State} {H : Heap} (hK : pd_K G s) (hH : pd_H G sz hp H) (av : List pv) (U : State) (hU : U.heap = H) (hW : s.WarmedH U.vm) : va_Pc (av.map (pd_up G)) (pd_Pc G sz hp) (av.map (pd_up G)).toArray U := ⟨rfl, by rw [hU]; exact hH, hK.warm hW⟩
theorem pt_kv {a ci : Nat} {fs : List pv} (h : pd_kv M pc N As.length n) (hcon : pd_C G N d1 mc1 ms1 (vr a :: As) sz hp Rc) (hob : hp a = ob ci fs) (hcl : pd_cn ci = some N.1.cls) (hst : st = As.reverse ++ vr a :: rest) (hr : rest.length ≤ 4) (hd : d1 + 1 ≤ d) (hce : ce + mc1 ≤ mc) (hsl : sl + ms1 ≤ ms) (k : ∀ (v : Option pv) (sz' : Nat) (hp' : pd_P), Rc v sz' hp' → pd_T G M d mc ms X R n lv (v.toList ++ rest) sz' (ce + mc1) (sl + ms1) hp') : pd_T G M d mc ms X R pc lv st sz ce sl hp := by
  intro p e Rm s m args below meth c Q hx hq H locs ls hH hS hl
  have hts := hx.2.2.2.2.1
  have hcat := pd_words G rest
  obtain ⟨r1, r2, r3, r4⟩ := hx.2.2.2.2.2.2.1
  obtain ⟨idx, ⟨g1, rfl⟩, g2, g3, g4, g5⟩ := h
  have hne : ci ≠ 99 := by rintro rfl; simp [pd_cn] at hcl
  obtain ⟨k0, rfl, hk0⟩ := pd_lt hH (a := a) (by rw [hob]; intro q; exact hne (congrArg Prod.fst (Sum.inr.inj q)))
  have hw := pd_w_get (G := G) (hp := hp) hk0
  rw [hob] at hw
  obtain ⟨q, hq1, hq2⟩ : ∃ q : vw_C, pd_cl[ci]? = some q ∧ q.1 = N.1.cls := by
    unfold pd_cn at hcl
    cases hz : pd_cl[ci]? with
    | none => rw [hz] at hcl; cases hcl
    | some q => rw [hz] at hcl; exact ⟨q, rfl, Option.some.inj hcl⟩
  have hrec := va_recv (q0 := k0) hx.2.2.2.2.2.1.1 hH.2.1 hq1 hw
  rw [hq2] at hrec
  have hb := pd_back (d1 := d1) (mc1 := mc1) (ms1 := ms1) G hx g5 hd
  have hrun : va_Run p G.1 e Rm s m args below meth c H locs ce sl mc1 ms1 (F0 m pc ls (st.map (pd_up G))) (rest.map (pd_up G)) (pd_Qc G Rc ((vr (k0 + 1) :: As).map (pd_up G)).toArray) (pd_A G) := va_runV (g := F0 m pc ls (st.map (pd_up G))) (b := pd_ad G (k0 + 1)) (As := As.map (pd_up G)) (rest := rest.map (pd_up G)) ⟨hx.1, hx.2.1, hx.2.2.1, hx.2.2.2.1, hts⟩ hcon
    (show CallW Rm s args M.1.cls N.1.cls idx N.1 N.2.1 N.2.2.1 N.2.2.2 (pd_ws N) (pd_rm d1 mc1 ms1) mc1 ms1 As.length from ⟨⟨hb.1, hb.2.1, hb.2.2.1, hb.2.2.2.1, hb.2.2.2.2.1, hb.2.2.2.2.2, hts _ g5.1, hts _ g5.2.1, ⟨g5.2.2.2.1, g5.2.2.2.2.1⟩, pd_len g5, hts _ g2⟩, hts _ g3, hts _ g4⟩)
    ⟨pd_blind G sz hp _, hrec, fun U hU hW => pd_pre G hx.2.2.2.2.2.1 hH (vr (k0 + 1) :: As) U hU hW⟩ rfl (by simp) hl.1 (by
    rw [show (F0 m pc ls (st.map (pd_up G))).stack = st.map (pd_up G) from rfl, hst]; simp [pd_up, va_rf, pd_ad]) (lv_room (by omega)) g1 ⟨by omega, by omega⟩
  refine pd_call hrun hS ?_
  intro v sz' hp' H1 locs1 hR hH1 hS1
  have := k v sz' hp' hR p e Rm s m args below meth c Q hx hq H1 locs1 ls hH1 hS1 hl
  rw [List.map_append] at this
  cases v <;> exact this
theorem pt_ku {N0 : pd_M} {a ci : Nat} {fs : List pv} (h : pd_ku M pc N0 N As.length n) (hcon : pd_C G N d1 mc1 ms1 (vr a :: As) sz hp Rc) (hob : hp a = ob ci fs) (hcl : pd_cn ci = some N.1.cls) (hst : st = As.reverse ++ vr a :: rest) (hr : rest.length ≤ 4) (hd : d1 + 1 ≤ d) (hce : ce + mc1 ≤ mc) (hsl : sl + ms1 ≤ ms) (k : ∀ (v : Option pv) (sz' : Nat) (hp' : pd_P), Rc v sz' hp' → pd_T G M d mc ms X R n lv (v.toList ++ rest) sz' (ce + mc1) (sl + ms1) hp') : pd_T G M d mc ms X R pc lv st sz ce sl hp := by
  intro p e Rm s m args below meth c Q hx hq H locs ls hH hS hl
  have hts := hx.2.2.2.2.1
  have hcat := pd_words G rest
  obtain ⟨r1, r2, r3, r4⟩ := hx.2.2.2.2.2.2.1
  obtain ⟨idx, ⟨g1, rfl⟩, g2, g3, g4, g6, g7, g0, g5, g8⟩ := h
  have hne : ci ≠ 99 := by rintro rfl; simp [pd_cn] at hcl
  obtain ⟨k0, rfl, hk0⟩ := pd_lt hH (a := a) (by rw [hob]; intro q; exact hne (congrArg Prod.fst (Sum.inr.inj q)))
  have hw := pd_w_get (G := G) (hp := hp) hk0
  rw [hob] at hw
  obtain ⟨q, hq1, hq2⟩ : ∃ q : vw_C, pd_cl[ci]? = some q ∧ q.1 = N.1.cls := by
    unfold pd_cn at hcl
    cases hz : pd_cl[ci]? with
    | none => rw [hz] at hcl; cases hcl
    | some q => rw [hz] at hcl; exact ⟨q, rfl, Option.some.inj hcl⟩
  have hrec := va_recv (q0 := k0) hx.2.2.2.2.2.1.1 hH.2.1 hq1 hw
  rw [hq2] at hrec
  have hb := pd_back (d1 := d1) (mc1 := mc1) (ms1 := ms1) G hx g5 hd
  have hrun : va_Run p G.1 e Rm s m args below meth c H locs ce sl mc1 ms1 (F0 m pc ls (st.map (pd_up G))) (rest.map (pd_up G)) (pd_Qc G Rc ((vr (k0 + 1) :: As).map (pd_up G)).toArray) (pd_A G) := va_runU (g := F0 m pc ls (st.map (pd_up G))) (b := pd_ad G (k0 + 1)) (As := As.map (pd_up G)) (rest := rest.map (pd_up G)) ⟨hx.1, hx.2.1, hx.2.2.1, hx.2.2.2.1, hts⟩ hcon
    (show va_CU Rm s args M.1.cls N.1.cls N0.1.cls idx N0.1 N.1 N.2.1 N.2.2.1 N.2.2.2 (pd_ws N) (pd_rm d1 mc1 ms1) mc1 ms1 As.length from ⟨hb, hts _ g5.1, hts _ g5.2.1, ⟨g0.2.2.2.1, g0.2.2.2.2.1⟩, pd_len g0, hts _ g2, hts _ g3, va_Decl.of (hts _ g4) (hts _ g0.1), hts _ g6, hts _ g7⟩)
    ⟨pd_blind G sz hp _, hrec, fun U hU hW => pd_pre G hx.2.2.2.2.2.1 hH (vr (k0 + 1) :: As) U hU hW⟩ rfl (by simp) hl.1 (by
    rw [show (F0 m pc ls (st.map (pd_up G))).stack = st.map (pd_up G) from rfl, hst]; simp [pd_up, va_rf, pd_ad]) (lv_room (by omega)) g1 ⟨by omega, by omega⟩
  refine pd_call hrun hS ?_
  intro v sz' hp' H1 locs1 hR hH1 hS1
  have := k v sz' hp' hR p e Rm s m args below meth c Q hx hq H1 locs1 ls hH1 hS1 hl
  rw [List.map_append] at this
  cases v <;> exact this
theorem pt_ks (h : pd_ks M pc N As.length n) (hcon : pd_C G N d1 mc1 ms1 As sz hp Rc) (hst : st = As.reverse ++ rest) (hr : rest.length ≤ 4) (hd : d1 + 1 ≤ d) (hce : ce + mc1 ≤ mc) (hsl : sl + ms1 ≤ ms) (k : ∀ (v : Option pv) (sz' : Nat) (hp' : pd_P), Rc v sz' hp' → pd_T G M d mc ms X R n lv (v.toList ++ rest) sz' (ce + mc1) (sl + ms1) hp') : pd_T G M d mc ms X R pc lv st sz ce sl hp := by
  intro p e Rm s m args below meth c Q hx hq H locs ls hH hS hl
  have hts := hx.2.2.2.2.1
  have hcat := pd_words G rest
  obtain ⟨r1, r2, r3, r4⟩ := hx.2.2.2.2.2.2.1
  obtain ⟨idx, ⟨g1, rfl⟩, g2, g3, g5⟩ := h
  have hb := pd_back (d1 := d1) (mc1 := mc1) (ms1 := ms1) G hx g5 hd
  have hrun : va_Run p G.1 e Rm s m args below meth c H locs ce sl mc1 ms1 (F0 m pc ls (st.map (pd_up G))) (rest.map (pd_up G)) (pd_Qc G Rc (As.map (pd_up G)).toArray) (pd_A G) := by
    rcases g2 with g2 | ⟨host, g2⟩
    · exact va_runS (g := F0 m pc ls (st.map (pd_up G))) (As := As.map (pd_up G)) (rest := rest.map (pd_up G)) ⟨hx.1, hx.2.1, hx.2.2.1, hx.2.2.2.1, hts⟩ hcon
        (show CallB Rm s args M.1.cls idx N.1 N.2.1 N.2.2.1 N.2.2.2 (pd_ws N) (pd_rm d1 mc1 ms1) mc1 ms1 As.length ∧ (Cond.static N.1).before args s = true from ⟨⟨hb.1, hb.2.1, hb.2.2.1, hb.2.2.2.1, hb.2.2.2.2.1, hb.2.2.2.2.2, hts _ g5.1, hts _ g5.2.1, ⟨g5.2.2.2.1, g5.2.2.2.2.1⟩, pd_len g5, hts _ g2⟩, hts _ g3⟩)
        ⟨pd_blind G sz hp _, fun U hU hW => pd_pre G hx.2.2.2.2.2.1 hH As U hU hW⟩ rfl (by simp) hl.1 (by
        rw [show (F0 m pc ls (st.map (pd_up G))).stack = st.map (pd_up G) from rfl, hst]; simp) (lv_room (by omega)) g1 ⟨by omega, by omega⟩
    · exact va_runSN (g := F0 m pc ls (st.map (pd_up G))) (As := As.map (pd_up G)) (rest := rest.map (pd_up G)) ⟨hx.1, hx.2.1, hx.2.2.1, hx.2.2.2.1, hts⟩ hcon
        (show va_CN Rm s args M.1.cls idx N.1 host N.2.1 N.2.2.1 N.2.2.2 (pd_ws N) (pd_rm d1 mc1 ms1) mc1 ms1 As.length ∧ (Cond.static N.1).before args s = true ∧ True from ⟨⟨hb, hts _ g5.1, hts _ g5.2.1, ⟨g5.2.2.2.1, g5.2.2.2.2.1⟩, pd_len g5, va_Nw.use rfl (hx.2.2.2.2.2.1.2.1 _ g2)⟩, hts _ g3, trivial⟩)
        ⟨pd_blind G sz hp _, fun U hU hW => pd_pre G hx.2.2.2.2.2.1 hH As U hU hW⟩ rfl (by simp) hl.1 (by
        rw [show (F0 m pc ls (st.map (pd_up G))).stack = st.map (pd_up G) from rfl, hst]; simp) (lv_room (by omega)) g1 ⟨by omega, by omega⟩
  refine pd_call hrun hS ?_
  intro v sz' hp' H1 locs1 hR hH1 hS1
  have := k v sz' hp' hR p e Rm s m args below meth c Q hx hq H1 locs1 ls hH1 hS1 hl
  rw [List.map_append] at this
  cases v <;> exact this
theorem pt_kI {a : Nat} (h : pd_kI M pc N As.length n) (hcon : pd_C G N d1 mc1 ms1 (vr (a + 1) :: As) sz hp Rc) (hst : st = As.reverse ++ vr (a + 1) :: rest) (hr : rest.length ≤ 4) (hd : d1 + 1 ≤ d) (hce : ce + mc1 ≤ mc) (hsl : sl + ms1 ≤ ms) (k : ∀ (v : Option pv) (sz' : Nat) (hp' : pd_P), Rc v sz' hp' → pd_T G M d mc ms X R n lv (v.toList ++ rest) sz' (ce + mc1) (sl + ms1) hp') : pd_T G M d mc ms X R pc lv st sz ce sl hp := by
  intro p e Rm s m args below meth c Q hx hq H locs ls hH hS hl
  have hts := hx.2.2.2.2.1
  have hcat := pd_words G rest
  obtain ⟨r1, r2, r3, r4⟩ := hx.2.2.2.2.2.2.1
  obtain ⟨idx, ⟨g1, rfl⟩, g2, g3, g4, g6, g5⟩ := h
  have hb := pd_back (d1 := d1) (mc1 := mc1) (ms1 := ms1) G hx g5 hd
  have hrun : va_Run p G.1 e Rm s m args below meth c H locs ce sl mc1 ms1 (F0 m pc ls (st.map (pd_up G))) (rest.map (pd_up G)) (pd_Qc G Rc ((vr (a + 1) :: As).map (pd_up G)).toArray) (pd_A G) := by
    have hcd : Cond.code N.1 N.2.1 N.2.2.1 none = Cond.code N.1 N.2.1 N.2.2.1 N.2.2.2 := by rw [g6]
    rcases g2 with g2 | ⟨host, g2⟩
    · exact va_runI (g := F0 m pc ls (st.map (pd_up G))) (b := pd_ad G (a + 1)) (As := As.map (pd_up G)) (rest := rest.map (pd_up G)) ⟨hx.1, hx.2.1, hx.2.2.1, hx.2.2.2.1, hts⟩ hcon
        (show CallB Rm s args M.1.cls idx N.1 N.2.1 N.2.2.1 none (pd_ws N) (pd_rm d1 mc1 ms1) mc1 ms1 As.length ∧ N.1.name = "<init>" ∧ (Cond.instanceMethod N.1).before args s = true from ⟨⟨hb.1, hb.2.1, hb.2.2.1, hb.2.2.2.1, hb.2.2.2.2.1, by rw [hcd]; exact hb.2.2.2.2.2, by rw [hcd]; exact hts _ g5.1, hts _ g5.2.1, ⟨g5.2.2.2.1, g5.2.2.2.2.1⟩, pd_len g5, hts _ g2⟩, g4, hts _ g3⟩)
        ⟨pd_blind G sz hp _, fun U hU hW => pd_pre G hx.2.2.2.2.2.1 hH (vr (a + 1) :: As) U hU hW⟩ rfl (by simp) hl.1 (by
        rw [show (F0 m pc ls (st.map (pd_up G))).stack = st.map (pd_up G) from rfl, hst]; simp [pd_up, va_rf, pd_ad]) (lv_room (by omega)) g1 ⟨by omega, by omega⟩
    · exact va_runIN (g := F0 m pc ls (st.map (pd_up G))) (b := pd_ad G (a + 1)) (As := As.map (pd_up G)) (rest := rest.map (pd_up G)) ⟨hx.1, hx.2.1, hx.2.2.1, hx.2.2.2.1, hts⟩ hcon
        (show va_CN Rm s args M.1.cls idx N.1 host N.2.1 N.2.2.1 none (pd_ws N) (pd_rm d1 mc1 ms1) mc1 ms1 As.length ∧ N.1.name = "<init>" ∧ (Cond.instanceMethod N.1).before args s = true from ⟨⟨⟨hb.1, hb.2.1, hb.2.2.1, hb.2.2.2.1, hb.2.2.2.2.1, by rw [hcd]; exact hb.2.2.2.2.2⟩, by rw [hcd]; exact hts _ g5.1, hts _ g5.2.1, ⟨g5.2.2.2.1, g5.2.2.2.2.1⟩, pd_len g5, va_Nw.use rfl (hx.2.2.2.2.2.1.2.1 _ g2)⟩, g4, hts _ g3⟩)
        ⟨pd_blind G sz hp _, fun U hU hW => pd_pre G hx.2.2.2.2.2.1 hH (vr (a + 1) :: As) U hU hW⟩ rfl (by simp) hl.1 (by
        rw [show (F0 m pc ls (st.map (pd_up G))).stack = st.map (pd_up G) from rfl, hst]; simp [pd_up, va_rf, pd_ad]) (lv_room (by omega)) g1 ⟨by omega, by omega⟩
  refine pd_call hrun hS ?_
  intro v sz' hp' H1 locs1 hR hH1 hS1
  have := k v sz' hp' hR p e Rm s m args below meth c Q hx hq H1 locs1 ls hH1 hS1 hl
  rw [List.map_append] at this
  cases v <;> exact this
theorem pt_kU {a ci : Nat} {fs : List pv} {C : String} (h : pd_kU M pc N As.length n) (hcon : pd_C G N d1 mc1 ms1 (vr a :: As) sz hp Rc) (hob : hp a = ob ci fs) (hcl : pd_cn ci = some C) (hst : st = As.reverse ++ vr a :: rest) (hr : rest.length ≤ 4) (hd : d1 + 1 ≤ d) (hce : ce + mc1 ≤ mc) (hsl : sl + ms1 ≤ ms) (k : ∀ (v : Option pv) (sz' : Nat) (hp' : pd_P), Rc v sz' hp' → pd_T G M d mc ms X R n lv (v.toList ++ rest) sz' (ce + mc1) (sl + ms1) hp') : pd_T G M d mc ms X R pc lv st sz ce sl hp := by
  intro p e Rm s m args below meth c Q hx hq H locs ls hH hS hl
  have hts := hx.2.2.2.2.1
  have hcat := pd_words G rest
  obtain ⟨r1, r2, r3, r4⟩ := hx.2.2.2.2.2.2.1
  obtain ⟨idx, ⟨g1, rfl⟩, g2, g3, g4, g6, g7, g5⟩ := h
  have hne : ci ≠ 99 := by rintro rfl; simp [pd_cn] at hcl
  obtain ⟨k0, rfl, hk0⟩ := pd_lt hH (a := a) (by rw [hob]; intro q; exact hne (congrArg Prod.fst (Sum.inr.inj q)))
  have hw := pd_w_get (G := G) (hp := hp) hk0
  rw [hob] at hw
  obtain ⟨q, hq1, hq2⟩ : ∃ q : vw_C, pd_cl[ci]? = some q ∧ q.1 = C := by
    unfold pd_cn at hcl
    cases hz : pd_cl[ci]? with
    | none => rw [hz] at hcl; cases hcl
    | some q => rw [hz] at hcl; exact ⟨q, rfl, Option.some.inj hcl⟩
  have hrec := va_recv (q0 := k0) hx.2.2.2.2.2.1.1 hH.2.1 hq1 hw
  rw [hq2] at hrec
  have hb := pd_back (d1 := d1) (mc1 := mc1) (ms1 := ms1) G hx g5 hd
  have hat := (hx.2.2.2.2.2.1.1.1 ci q hq1).2
  rw [hq2] at hat
  have hrun : va_Run p G.1 e Rm s m args below meth c H locs ce sl mc1 ms1 (F0 m pc ls (st.map (pd_up G))) (rest.map (pd_up G)) (pd_Qc G Rc ((vr (k0 + 1) :: As).map (pd_up G)).toArray) (pd_A G) := va_runSU (g := F0 m pc ls (st.map (pd_up G))) (b := pd_ad G (k0 + 1)) (As := As.map (pd_up G)) (rest := rest.map (pd_up G)) hat ⟨hx.1, hx.2.1, hx.2.2.1, hx.2.2.2.1, hts⟩ hcon
    (show va_CS Rm s args M.1.cls idx N.1 N.2.1 N.2.2.1 N.2.2.2 (pd_ws N) (pd_rm d1 mc1 ms1) mc1 ms1 As.length from ⟨hb, hts _ g2, hts _ g3, hts _ g4, hts _ g6, hts _ g5.2.1, hts _ g5.1, g7, pd_len g5⟩)
    ⟨pd_blind G sz hp _, hrec, fun U hU hW => pd_pre G hx.2.2.2.2.2.1 hH (vr (k0 + 1) :: As) U hU hW⟩ rfl (by simp) hl.1 (by
    rw [show (F0 m pc ls (st.map (pd_up G))).stack = st.map (pd_up G) from rfl, hst]; simp [pd_up, va_rf, pd_ad]) (lv_room (by omega)) g1 ⟨by omega, by omega⟩
  refine pd_call hrun hS ?_
  intro v sz' hp' H1 locs1 hR hH1 hS1
  have := k v sz' hp' hR p e Rm s m args below meth c Q hx hq H1 locs1 ls hH1 hS1 hl
  rw [List.map_append] at this
  cases v <;> exact this
end PDK
