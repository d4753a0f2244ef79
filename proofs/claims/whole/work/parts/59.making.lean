/-! constructors -/
theorem mk_words (G : pd_G) : ∀ st : List pv, pd_sm st = true → ((st.map (pd_up G)).map fun v => v.category).sum = st.length
  | [], _ => rfl
  | v :: st, h => by
    have h1 : pd_sm st = true := by
      simp only [pd_sm, List.all_cons, Bool.and_eq_true] at h
      exact h.2
    have h0 : ∀ z, v ≠ vl z := by
      intro z hz
      subst hz
      simp [pd_sm] at h
    have ih := mk_words G st h1
    have hc := pd_one G v h0
    simp only [List.map_cons, List.sum_cons, List.length_cons]
    omega
section PDMK
variable {G : pd_G} {M : pd_M} {d mc ms : Nat} {X : Option (Nat × (Nat → Int))} {R : pd_R} {pc n t : Nat} {lv : List (Option pv)} {st : List pv} {sz ce sl : Nat} {hp : pd_P} {N : pd_M} {d1 mc1 ms1 : Nat} {Rc : pd_R} {rest : List pv} {sz2 ce2 sl2 : Nat}
theorem mk_new {ci : Nat} {fs : List pv} (h : pd_nwi M pc ci n) (hd0 : pd_df ci fs) (e1 : sz + 1 = sz2) (e2 : ce + 1 = ce2) (e3 : sl + fs.length = sl2) (hce : ce2 ≤ mc) (hsl : sl2 ≤ ms) (k : pd_T G M d mc ms X R n lv (vr sz2 :: st) sz2 ce2 sl2 (va_up hp sz2 (ob ci fs))) : pd_T G M d mc ms X R pc lv st sz ce sl hp := by
  subst e1; subst e2; subst e3
  exact pt_new h hd0 hce hsl k
theorem mk_newa {at0 : ArrayType} {kd A : Nat} {z : Int} (h : pd_i M pc (.newarray at0) 2 n) (hk : (at0 = .int ∧ kd = 0) ∨ (at0 = .byte ∧ kd = 1) ∨ (at0 = .boolean ∧ kd = 2)) (hz : z = (A : Int)) (hN : A ≤ 65536) (e1 : sz + 1 = sz2) (e2 : ce + 1 = ce2) (e3 : sl + A = sl2) (hce : ce2 ≤ mc) (hsl : sl2 ≤ ms) (k : pd_T G M d mc ms X R n lv (vr sz2 :: st) sz2 ce2 sl2 (va_up hp sz2 (.inl (kd, A, .inl (fun _ => 0))))) : pd_T G M d mc ms X R pc lv (vi z :: st) sz ce sl hp := by
  subst e1; subst e2; subst e3
  exact pt_newa h hk hz hN hce hsl k
theorem mk_newq {kd A : Nat} {C : String} {z : Int} (h : ∃ idx, pd_i M pc (.anewarray idx) 3 n ∧ Cond.classLink M.1.cls idx C ∈ pd_tbl) (hk : (kd = 3 ∧ C = "PantryDoors$Life") ∨ (kd = 4 ∧ C = "PantryDoors$State") ∨ (kd = 5 ∧ C = "PantryDoors$Good")) (hz : z = (A : Int)) (hN : A ≤ 65536) (e1 : sz + 1 = sz2) (e2 : ce + 1 = ce2) (e3 : sl + A = sl2) (hce : ce2 ≤ mc) (hsl : sl2 ≤ ms) (k : pd_T G M d mc ms X R n lv (vr sz2 :: st) sz2 ce2 sl2 (va_up hp sz2 (ra kd A (fun _ => none)))) : pd_T G M d mc ms X R pc lv (vi z :: st) sz ce sl hp := by
  subst e1; subst e2; subst e3
  exact pt_newq h hk hz hN hce hsl k
theorem mk_kI {a : Nat} (h : pd_kI M pc N 0 n) (hcon : pd_C G N d1 mc1 ms1 [vr (a + 1)] sz hp Rc) (hs : pd_sm rest = true) (hr : rest.length ≤ 8) (hd : d1 + 1 ≤ d) (e2 : ce + mc1 = ce2) (e3 : sl + ms1 = sl2) (hce : ce2 ≤ mc) (hsl : sl2 ≤ ms) (k : ∀ (v : Option pv) (sz' : Nat) (hp' : pd_P), Rc v sz' hp' → pd_T G M d mc ms X R n lv (v.toList ++ rest) sz' ce2 sl2 hp') : pd_T G M d mc ms X R pc lv (vr (a + 1) :: rest) sz ce sl hp := by
  subst e2; subst e3
  intro p e Rm s m args below meth c Q hx hq H locs ls hH hS hl
  have hts := hx.2.2.2.2.1
  have hcat := mk_words G rest hs
  obtain ⟨r1, r2, r3, r4⟩ := hx.2.2.2.2.2.2.1
  obtain ⟨idx, ⟨g1, rfl⟩, g2, g3, g4, g6, g5⟩ := h
  have hb := pd_back (d1 := d1) (mc1 := mc1) (ms1 := ms1) G hx g5 hd
  have hrun : va_Run p G.1 e Rm s m args below meth c H locs ce sl mc1 ms1 (F0 m pc ls ((vr (a + 1) :: rest).map (pd_up G))) (rest.map (pd_up G)) (pd_Qc G Rc (([vr (a + 1)] : List pv).map (pd_up G)).toArray) (pd_A G) := by
    have hcd : Cond.code N.1 N.2.1 N.2.2.1 none = Cond.code N.1 N.2.1 N.2.2.1 N.2.2.2 := by rw [g6]
    rcases g2 with g2 | ⟨host, g2⟩
    · exact va_runI (g := F0 m pc ls ((vr (a + 1) :: rest).map (pd_up G))) (b := pd_ad G (a + 1)) (As := ([] : List pv).map (pd_up G)) (rest := rest.map (pd_up G)) ⟨hx.1, hx.2.1, hx.2.2.1, hx.2.2.2.1, hts⟩ hcon
        (show CallB Rm s args M.1.cls idx N.1 N.2.1 N.2.2.1 none (pd_ws N) (pd_rm d1 mc1 ms1) mc1 ms1 0 ∧ N.1.name = "<init>" ∧ (Cond.instanceMethod N.1).before args s = true from ⟨⟨hb.1, hb.2.1, hb.2.2.1, hb.2.2.2.1, hb.2.2.2.2.1, by rw [hcd]; exact hb.2.2.2.2.2, by rw [hcd]; exact hts _ g5.1, hts _ g5.2.1, ⟨g5.2.2.2.1, g5.2.2.2.2.1⟩, pd_len g5, hts _ g2⟩, g4, hts _ g3⟩)
        ⟨pd_blind G sz hp _, fun U hU hW => pd_pre G hx.2.2.2.2.2.1 hH [vr (a + 1)] U hU hW⟩ rfl (by simp) hl.1 (by
        rw [show (F0 m pc ls ((vr (a + 1) :: rest).map (pd_up G))).stack = (vr (a + 1) :: rest).map (pd_up G) from rfl]; simp [pd_up, va_rf, pd_ad]) (lv_room (by omega)) g1 ⟨by omega, by omega⟩
    · exact va_runIN (g := F0 m pc ls ((vr (a + 1) :: rest).map (pd_up G))) (b := pd_ad G (a + 1)) (As := ([] : List pv).map (pd_up G)) (rest := rest.map (pd_up G)) ⟨hx.1, hx.2.1, hx.2.2.1, hx.2.2.2.1, hts⟩ hcon
        (show va_CN Rm s args M.1.cls idx N.1 host N.2.1 N.2.2.1 none (pd_ws N) (pd_rm d1 mc1 ms1) mc1 ms1 0 ∧ N.1.name = "<init>" ∧ (Cond.instanceMethod N.1).before args s = true from ⟨⟨⟨hb.1, hb.2.1, hb.2.2.1, hb.2.2.2.1, hb.2.2.2.2.1, by rw [hcd]; exact hb.2.2.2.2.2⟩, by rw [hcd]; exact hts _ g5.1, hts _ g5.2.1, ⟨g5.2.2.2.1, g5.2.2.2.2.1⟩, pd_len g5, va_Nw.use rfl (hx.2.2.2.2.2.1.2.1 _ g2)⟩, g4, hts _ g3⟩)
        ⟨pd_blind G sz hp _, fun U hU hW => pd_pre G hx.2.2.2.2.2.1 hH [vr (a + 1)] U hU hW⟩ rfl (by simp) hl.1 (by
        rw [show (F0 m pc ls ((vr (a + 1) :: rest).map (pd_up G))).stack = (vr (a + 1) :: rest).map (pd_up G) from rfl]; simp [pd_up, va_rf, pd_ad]) (lv_room (by omega)) g1 ⟨by omega, by omega⟩
  refine pd_call hrun hS ?_
  intro v sz' hp' H1 locs1 hR hH1 hS1
  have := k v sz' hp' hR p e Rm s m args below meth c Q hx hq H1 locs1 ls hH1 hS1 hl
  rw [List.map_append] at this
  cases v <;> exact this
end PDMK
theorem fr.wr {hp hp1 : pd_P} {a : Nat} {e : pd_E} (h : hp1 = va_up hp a e) : fr hp hp1 a (a + 1) := fr.rf.up h (Nat.le_refl _) (Nat.lt_succ_self _)
theorem fr.wid {hp hp1 : pd_P} {lo hi lo1 hi1 : Nat} (h : fr hp hp1 lo hi) (h1 : lo1 ≤ lo) (h2 : hi ≤ hi1) : fr hp hp1 lo1 hi1 := fun k hk => h k (by omega)
def pc_none (M : pd_M) : Prop := M.2.2.2 = none
theorem cS_init (G : pd_G) (k : Nat) (hp : pd_P) (h_me : hp (k + 1) = ob 8 [vn, vn, vn, vi 0, vi 0]) : pd_C G mS_init 1 3 88 [vr (k + 1)] (k + 1) hp (fun v' sz' hp' => v' = none ∧ sz' = k + 4 ∧ (StA hp' (k + 1) (fun _ => 0)) ∧ fr hp hp' (k + 1) (k + 5)) := by
  refine pd_con kS_init [some (vr (k + 1))] rfl rfl (Nat.le_of_ble_eq_true rfl) ?_
  refine pt_aload eS_init_0 rfl ?_
  refine pt_oinit eS_init_1 (by decide) (Nat.le_of_ble_eq_true rfl) ?_
  refine pt_aload eS_init_4 rfl ?_
  refine pt_ic eS_init_5 ?_
  refine mk_newa (kd := 0) (A := 4) (sz2 := k + 2) (ce2 := 1) (sl2 := 4) eS_init_6 (Or.inl ⟨rfl, rfl⟩) rfl (by decide) rfl rfl rfl (Nat.le_of_ble_eq_true rfl) (Nat.le_of_ble_eq_true rfl) ?_
  refine pt_gen ?_
  intro hp1 ev1
  have h_me := pg_n ev1 (by omega) h_me
  have h_N2 := pg_s ev1
  refine pt_put0 eS_init_8 h_me trivial ?_
  refine pt_gen ?_
  intro hp2 ev2
  have h_me := pg_s ev2
  have h_N2 := pg_n ev2 (by omega) h_N2
  refine pt_aload eS_init_11 rfl ?_
  refine pt_ic eS_init_12 ?_
  refine mk_newa (kd := 0) (A := 4) (sz2 := k + 3) (ce2 := 2) (sl2 := 8) eS_init_13 (Or.inl ⟨rfl, rfl⟩) rfl (by decide) rfl rfl rfl (Nat.le_of_ble_eq_true rfl) (Nat.le_of_ble_eq_true rfl) ?_
  refine pt_gen ?_
  intro hp3 ev3
  have h_me := pg_n ev3 (by omega) h_me
  have h_N2 := pg_n ev3 (by omega) h_N2
  have h_N3 := pg_s ev3
  refine pt_put1 eS_init_15 h_me trivial ?_
  refine pt_gen ?_
  intro hp4 ev4
  have h_me := pg_s ev4
  have h_N2 := pg_n ev4 (by omega) h_N2
  have h_N3 := pg_n ev4 (by omega) h_N3
  refine pt_aload eS_init_18 rfl ?_
  refine pt_ic eS_init_19 ?_
  refine mk_newa (kd := 0) (A := 80) (sz2 := k + 4) (ce2 := 3) (sl2 := 88) eS_init_21 (Or.inl ⟨rfl, rfl⟩) rfl (by decide) rfl rfl rfl (Nat.le_of_ble_eq_true rfl) (Nat.le_of_ble_eq_true rfl) ?_
  refine pt_gen ?_
  intro hp5 ev5
  have h_me := pg_n ev5 (by omega) h_me
  have h_N2 := pg_n ev5 (by omega) h_N2
  have h_N3 := pg_n ev5 (by omega) h_N3
  have h_N4 := pg_s ev5
  refine pt_put2 eS_init_23 h_me trivial ?_
  refine pt_gen ?_
  intro hp6 ev6
  have h_me := pg_s ev6
  have h_N2 := pg_n ev6 (by omega) h_N2
  have h_N3 := pg_n ev6 (by omega) h_N3
  have h_N4 := pg_n ev6 (by omega) h_N4
  refine pt_vret eS_init_26 (Nat.le_refl _) (Nat.le_refl _) ?_
  exact ⟨rfl, rfl, ⟨h_me, h_N2, h_N3, h_N4⟩, ((((((fr.rf.up ev1 (by omega) (by omega)).up ev2 (by omega) (by omega)).up ev3 (by omega) (by omega)).up ev4 (by omega) (by omega)).up ev5 (by omega) (by omega)).up ev6 (by omega) (by omega))⟩
theorem cT_init (G : pd_G) (k : Nat) (hp : pd_P) (h_me : hp (k + 1) = ob 10 [vn, vi 0, vn, vi 0, vi 0, vi 0, vi 0, vi 0]) : pd_C G mT_init 1 2 154 [vr (k + 1)] (k + 1) hp (fun v' sz' hp' => v' = none ∧ sz' = k + 3 ∧ (hp' (k + 1) = ob 10 [vr (k + 2), vi 0, vr (k + 3), vi 0, vi 0, vi 0, vi 0, vi 0] ∧ hp' (k + 2) = ia 150 (fun _ => 0) ∧ hp' (k + 3) = ia 4 (fun _ => 0)) ∧ fr hp hp' (k + 1) (k + 4)) := by
  refine pd_con kT_init [some (vr (k + 1))] rfl rfl (Nat.le_of_ble_eq_true rfl) ?_
  refine pt_aload eT_init_0 rfl ?_
  refine pt_oinit eT_init_1 (by decide) (Nat.le_of_ble_eq_true rfl) ?_
  refine pt_aload eT_init_4 rfl ?_
  refine pt_ic eT_init_5 ?_
  refine mk_newa (kd := 0) (A := 150) (sz2 := k + 2) (ce2 := 1) (sl2 := 150) eT_init_8 (Or.inl ⟨rfl, rfl⟩) rfl (by decide) rfl rfl rfl (Nat.le_of_ble_eq_true rfl) (Nat.le_of_ble_eq_true rfl) ?_
  refine pt_gen ?_
  intro hp1 ev1
  have h_me := pg_n ev1 (by omega) h_me
  have h_N2 := pg_s ev1
  refine pt_put0 eT_init_10 h_me trivial ?_
  refine pt_gen ?_
  intro hp2 ev2
  have h_me := pg_s ev2
  have h_N2 := pg_n ev2 (by omega) h_N2
  refine pt_aload eT_init_13 rfl ?_
  refine pt_ic eT_init_14 ?_
  refine mk_newa (kd := 0) (A := 4) (sz2 := k + 3) (ce2 := 2) (sl2 := 154) eT_init_15 (Or.inl ⟨rfl, rfl⟩) rfl (by decide) rfl rfl rfl (Nat.le_of_ble_eq_true rfl) (Nat.le_of_ble_eq_true rfl) ?_
  refine pt_gen ?_
  intro hp3 ev3
  have h_me := pg_n ev3 (by omega) h_me
  have h_N2 := pg_n ev3 (by omega) h_N2
  have h_N3 := pg_s ev3
  refine pt_put2 eT_init_17 h_me trivial ?_
  refine pt_gen ?_
  intro hp4 ev4
  have h_me := pg_s ev4
  have h_N2 := pg_n ev4 (by omega) h_N2
  have h_N3 := pg_n ev4 (by omega) h_N3
  refine pt_vret eT_init_20 (Nat.le_refl _) (Nat.le_refl _) ?_
  exact ⟨rfl, rfl, ⟨h_me, h_N2, h_N3⟩, ((((fr.rf.up ev1 (by omega) (by omega)).up ev2 (by omega) (by omega)).up ev3 (by omega) (by omega)).up ev4 (by omega) (by omega))⟩
theorem cH_init (G : pd_G) (k : Nat) (hp : pd_P) (h_me : hp (k + 1) = ob 4 [vn, vn, vn, vn, vn, vn, vn, vi 0, vi 0, vi 0]) : pd_C G mH_init 1 7 260 [vr (k + 1)] (k + 1) hp (fun v' sz' hp' => v' = none ∧ sz' = k + 8 ∧ (HoA hp' (k + 1) 0 2 3 (fun _ => 0) (fun _ => 0) (fun _ => 0) (fun _ => 0) (fun _ => 0) (fun _ => 0) (fun _ => 0)) ∧ fr hp hp' (k + 1) (k + 9)) := by
  refine pd_con kH_init [some (vr (k + 1))] rfl rfl (Nat.le_of_ble_eq_true rfl) ?_
  refine pt_aload eH_init_0 rfl ?_
  refine pt_oinit eH_init_1 (by decide) (Nat.le_of_ble_eq_true rfl) ?_
  refine pt_aload eH_init_4 rfl ?_
  refine pt_ic eH_init_5 ?_
  refine mk_newa (kd := 0) (A := 4) (sz2 := k + 2) (ce2 := 1) (sl2 := 4) eH_init_6 (Or.inl ⟨rfl, rfl⟩) rfl (by decide) rfl rfl rfl (Nat.le_of_ble_eq_true rfl) (Nat.le_of_ble_eq_true rfl) ?_
  refine pt_gen ?_
  intro hp1 ev1
  have h_me := pg_n ev1 (by omega) h_me
  have h_N2 := pg_s ev1
  refine pt_put0 eH_init_8 h_me trivial ?_
  refine pt_gen ?_
  intro hp2 ev2
  have h_me := pg_s ev2
  have h_N2 := pg_n ev2 (by omega) h_N2
  refine pt_aload eH_init_11 rfl ?_
  refine pt_ic eH_init_12 ?_
  refine mk_newa (kd := 0) (A := 4) (sz2 := k + 3) (ce2 := 2) (sl2 := 8) eH_init_13 (Or.inl ⟨rfl, rfl⟩) rfl (by decide) rfl rfl rfl (Nat.le_of_ble_eq_true rfl) (Nat.le_of_ble_eq_true rfl) ?_
  refine pt_gen ?_
  intro hp3 ev3
  have h_me := pg_n ev3 (by omega) h_me
  have h_N2 := pg_n ev3 (by omega) h_N2
  have h_N3 := pg_s ev3
  refine pt_put1 eH_init_15 h_me trivial ?_
  refine pt_gen ?_
  intro hp4 ev4
  have h_me := pg_s ev4
  have h_N2 := pg_n ev4 (by omega) h_N2
  have h_N3 := pg_n ev4 (by omega) h_N3
  refine pt_aload eH_init_18 rfl ?_
  refine pt_ic eH_init_19 ?_
  refine mk_newa (kd := 0) (A := 4) (sz2 := k + 4) (ce2 := 3) (sl2 := 12) eH_init_20 (Or.inl ⟨rfl, rfl⟩) rfl (by decide) rfl rfl rfl (Nat.le_of_ble_eq_true rfl) (Nat.le_of_ble_eq_true rfl) ?_
  refine pt_gen ?_
  intro hp5 ev5
  have h_me := pg_n ev5 (by omega) h_me
  have h_N2 := pg_n ev5 (by omega) h_N2
  have h_N3 := pg_n ev5 (by omega) h_N3
  have h_N4 := pg_s ev5
  refine pt_put2 eH_init_22 h_me trivial ?_
  refine pt_gen ?_
  intro hp6 ev6
  have h_me := pg_s ev6
  have h_N2 := pg_n ev6 (by omega) h_N2
  have h_N3 := pg_n ev6 (by omega) h_N3
  have h_N4 := pg_n ev6 (by omega) h_N4
  refine pt_aload eH_init_25 rfl ?_
  refine pt_ic eH_init_26 ?_
  refine mk_newa (kd := 0) (A := 4) (sz2 := k + 5) (ce2 := 4) (sl2 := 16) eH_init_27 (Or.inl ⟨rfl, rfl⟩) rfl (by decide) rfl rfl rfl (Nat.le_of_ble_eq_true rfl) (Nat.le_of_ble_eq_true rfl) ?_
  refine pt_gen ?_
  intro hp7 ev7
  have h_me := pg_n ev7 (by omega) h_me
  have h_N2 := pg_n ev7 (by omega) h_N2
  have h_N3 := pg_n ev7 (by omega) h_N3
  have h_N4 := pg_n ev7 (by omega) h_N4
  have h_N5 := pg_s ev7
  refine pt_put3 eH_init_29 h_me trivial ?_
  refine pt_gen ?_
  intro hp8 ev8
  have h_me := pg_s ev8
  have h_N2 := pg_n ev8 (by omega) h_N2
  have h_N3 := pg_n ev8 (by omega) h_N3
  have h_N4 := pg_n ev8 (by omega) h_N4
  have h_N5 := pg_n ev8 (by omega) h_N5
  refine pt_aload eH_init_32 rfl ?_
  refine pt_ic eH_init_33 ?_
  refine mk_newa (kd := 0) (A := 80) (sz2 := k + 6) (ce2 := 5) (sl2 := 96) eH_init_35 (Or.inl ⟨rfl, rfl⟩) rfl (by decide) rfl rfl rfl (Nat.le_of_ble_eq_true rfl) (Nat.le_of_ble_eq_true rfl) ?_
  refine pt_gen ?_
  intro hp9 ev9
  have h_me := pg_n ev9 (by omega) h_me
  have h_N2 := pg_n ev9 (by omega) h_N2
  have h_N3 := pg_n ev9 (by omega) h_N3
  have h_N4 := pg_n ev9 (by omega) h_N4
  have h_N5 := pg_n ev9 (by omega) h_N5
  have h_N6 := pg_s ev9
  refine pt_put4 eH_init_37 h_me trivial ?_
  refine pt_gen ?_
  intro hp10 ev10
  have h_me := pg_s ev10
  have h_N2 := pg_n ev10 (by omega) h_N2
  have h_N3 := pg_n ev10 (by omega) h_N3
  have h_N4 := pg_n ev10 (by omega) h_N4
  have h_N5 := pg_n ev10 (by omega) h_N5
  have h_N6 := pg_n ev10 (by omega) h_N6
  refine pt_aload eH_init_40 rfl ?_
  refine pt_ic eH_init_41 ?_
  refine mk_newa (kd := 0) (A := 80) (sz2 := k + 7) (ce2 := 6) (sl2 := 176) eH_init_43 (Or.inl ⟨rfl, rfl⟩) rfl (by decide) rfl rfl rfl (Nat.le_of_ble_eq_true rfl) (Nat.le_of_ble_eq_true rfl) ?_
  refine pt_gen ?_
  intro hp11 ev11
  have h_me := pg_n ev11 (by omega) h_me
  have h_N2 := pg_n ev11 (by omega) h_N2
  have h_N3 := pg_n ev11 (by omega) h_N3
  have h_N4 := pg_n ev11 (by omega) h_N4
  have h_N5 := pg_n ev11 (by omega) h_N5
  have h_N6 := pg_n ev11 (by omega) h_N6
  have h_N7 := pg_s ev11
  refine pt_put5 eH_init_45 h_me trivial ?_
  refine pt_gen ?_
  intro hp12 ev12
  have h_me := pg_s ev12
  have h_N2 := pg_n ev12 (by omega) h_N2
  have h_N3 := pg_n ev12 (by omega) h_N3
  have h_N4 := pg_n ev12 (by omega) h_N4
  have h_N5 := pg_n ev12 (by omega) h_N5
  have h_N6 := pg_n ev12 (by omega) h_N6
  have h_N7 := pg_n ev12 (by omega) h_N7
  refine pt_aload eH_init_48 rfl ?_
  refine pt_ic eH_init_49 ?_
  refine mk_newa (kd := 0) (A := 84) (sz2 := k + 8) (ce2 := 7) (sl2 := 260) eH_init_51 (Or.inl ⟨rfl, rfl⟩) rfl (by decide) rfl rfl rfl (Nat.le_of_ble_eq_true rfl) (Nat.le_of_ble_eq_true rfl) ?_
  refine pt_gen ?_
  intro hp13 ev13
  have h_me := pg_n ev13 (by omega) h_me
  have h_N2 := pg_n ev13 (by omega) h_N2
  have h_N3 := pg_n ev13 (by omega) h_N3
  have h_N4 := pg_n ev13 (by omega) h_N4
  have h_N5 := pg_n ev13 (by omega) h_N5
  have h_N6 := pg_n ev13 (by omega) h_N6
  have h_N7 := pg_n ev13 (by omega) h_N7
  have h_N8 := pg_s ev13
  refine pt_put6 eH_init_53 h_me trivial ?_
  refine pt_gen ?_
  intro hp14 ev14
  have h_me := pg_s ev14
  have h_N2 := pg_n ev14 (by omega) h_N2
  have h_N3 := pg_n ev14 (by omega) h_N3
  have h_N4 := pg_n ev14 (by omega) h_N4
  have h_N5 := pg_n ev14 (by omega) h_N5
  have h_N6 := pg_n ev14 (by omega) h_N6
  have h_N7 := pg_n ev14 (by omega) h_N7
  have h_N8 := pg_n ev14 (by omega) h_N8
  refine pt_aload eH_init_56 rfl ?_
  refine pt_ic eH_init_57 ?_
  refine pt_put7 eH_init_58 h_me trivial ?_
  refine pt_gen ?_
  intro hp15 ev15
  have h_me := pg_s ev15
  have h_N2 := pg_n ev15 (by omega) h_N2
  have h_N3 := pg_n ev15 (by omega) h_N3
  have h_N4 := pg_n ev15 (by omega) h_N4
  have h_N5 := pg_n ev15 (by omega) h_N5
  have h_N6 := pg_n ev15 (by omega) h_N6
  have h_N7 := pg_n ev15 (by omega) h_N7
  have h_N8 := pg_n ev15 (by omega) h_N8
  refine pt_aload eH_init_61 rfl ?_
  refine pt_ic eH_init_62 ?_
  refine pt_put8 eH_init_63 h_me trivial ?_
  refine pt_gen ?_
  intro hp16 ev16
  have h_me := pg_s ev16
  have h_N2 := pg_n ev16 (by omega) h_N2
  have h_N3 := pg_n ev16 (by omega) h_N3
  have h_N4 := pg_n ev16 (by omega) h_N4
  have h_N5 := pg_n ev16 (by omega) h_N5
  have h_N6 := pg_n ev16 (by omega) h_N6
  have h_N7 := pg_n ev16 (by omega) h_N7
  have h_N8 := pg_n ev16 (by omega) h_N8
  refine pt_aload eH_init_66 rfl ?_
  refine pt_ic eH_init_67 ?_
  refine pt_put9 eH_init_68 h_me trivial ?_
  refine pt_gen ?_
  intro hp17 ev17
  have h_me := pg_s ev17
  have h_N2 := pg_n ev17 (by omega) h_N2
  have h_N3 := pg_n ev17 (by omega) h_N3
  have h_N4 := pg_n ev17 (by omega) h_N4
  have h_N5 := pg_n ev17 (by omega) h_N5
  have h_N6 := pg_n ev17 (by omega) h_N6
  have h_N7 := pg_n ev17 (by omega) h_N7
  have h_N8 := pg_n ev17 (by omega) h_N8
  refine pt_vret eH_init_71 (Nat.le_refl _) (Nat.le_refl _) ?_
  exact ⟨rfl, rfl, ⟨h_me, h_N2, h_N3, h_N4, h_N5, h_N6, h_N7, h_N8⟩, (((((((((((((((((fr.rf.up ev1 (by omega) (by omega)).up ev2 (by omega) (by omega)).up ev3 (by omega) (by omega)).up ev4 (by omega) (by omega)).up ev5 (by omega) (by omega)).up ev6 (by omega) (by omega)).up ev7 (by omega) (by omega)).up ev8 (by omega) (by omega)).up ev9 (by omega) (by omega)).up ev10 (by omega) (by omega)).up ev11 (by omega) (by omega)).up ev12 (by omega) (by omega)).up ev13 (by omega) (by omega)).up ev14 (by omega) (by omega)).up ev15 (by omega) (by omega)).up ev16 (by omega) (by omega)).up ev17 (by omega) (by omega))⟩
theorem cP_init (G : pd_G) (k : Nat) (hp : pd_P) (h_me : hp (k + 1) = ob 7 [vn, vi 0, vn, vn, vn, vi 0]) : pd_C G mP_init 1 4 650 [vr (k + 1)] (k + 1) hp (fun v' sz' hp' => v' = none ∧ sz' = k + 5 ∧ (hp' (k + 1) = ob 7 [vr (k + 2), vi 0, vr (k + 3), vr (k + 4), vr (k + 5), vi 0] ∧ hp' (k + 2) = ia 6 (fun _ => 0) ∧ hp' (k + 3) = ia 128 (fun _ => 0) ∧ hp' (k + 4) = ia 512 (fun _ => 0) ∧ hp' (k + 5) = ia 4 (fun _ => 0)) ∧ fr hp hp' (k + 1) (k + 6)) := by
  refine pd_con kP_init [some (vr (k + 1))] rfl rfl (Nat.le_of_ble_eq_true rfl) ?_
  refine pt_aload eP_init_0 rfl ?_
  refine pt_oinit eP_init_1 (by decide) (Nat.le_of_ble_eq_true rfl) ?_
  refine pt_aload eP_init_4 rfl ?_
  refine pt_ic eP_init_5 ?_
  refine mk_newa (kd := 0) (A := 6) (sz2 := k + 2) (ce2 := 1) (sl2 := 6) eP_init_7 (Or.inl ⟨rfl, rfl⟩) rfl (by decide) rfl rfl rfl (Nat.le_of_ble_eq_true rfl) (Nat.le_of_ble_eq_true rfl) ?_
  refine pt_gen ?_
  intro hp1 ev1
  have h_me := pg_n ev1 (by omega) h_me
  have h_N2 := pg_s ev1
  refine pt_put0 eP_init_9 h_me trivial ?_
  refine pt_gen ?_
  intro hp2 ev2
  have h_me := pg_s ev2
  have h_N2 := pg_n ev2 (by omega) h_N2
  refine pt_aload eP_init_12 rfl ?_
  refine pt_ic eP_init_13 ?_
  refine mk_newa (kd := 0) (A := 128) (sz2 := k + 3) (ce2 := 2) (sl2 := 134) eP_init_16 (Or.inl ⟨rfl, rfl⟩) rfl (by decide) rfl rfl rfl (Nat.le_of_ble_eq_true rfl) (Nat.le_of_ble_eq_true rfl) ?_
  refine pt_gen ?_
  intro hp3 ev3
  have h_me := pg_n ev3 (by omega) h_me
  have h_N2 := pg_n ev3 (by omega) h_N2
  have h_N3 := pg_s ev3
  refine pt_put2 eP_init_18 h_me trivial ?_
  refine pt_gen ?_
  intro hp4 ev4
  have h_me := pg_s ev4
  have h_N2 := pg_n ev4 (by omega) h_N2
  have h_N3 := pg_n ev4 (by omega) h_N3
  refine pt_aload eP_init_21 rfl ?_
  refine pt_ic eP_init_22 ?_
  refine mk_newa (kd := 0) (A := 512) (sz2 := k + 4) (ce2 := 3) (sl2 := 646) eP_init_25 (Or.inl ⟨rfl, rfl⟩) rfl (by decide) rfl rfl rfl (Nat.le_of_ble_eq_true rfl) (Nat.le_of_ble_eq_true rfl) ?_
  refine pt_gen ?_
  intro hp5 ev5
  have h_me := pg_n ev5 (by omega) h_me
  have h_N2 := pg_n ev5 (by omega) h_N2
  have h_N3 := pg_n ev5 (by omega) h_N3
  have h_N4 := pg_s ev5
  refine pt_put3 eP_init_27 h_me trivial ?_
  refine pt_gen ?_
  intro hp6 ev6
  have h_me := pg_s ev6
  have h_N2 := pg_n ev6 (by omega) h_N2
  have h_N3 := pg_n ev6 (by omega) h_N3
  have h_N4 := pg_n ev6 (by omega) h_N4
  refine pt_aload eP_init_30 rfl ?_
  refine pt_ic eP_init_31 ?_
  refine mk_newa (kd := 0) (A := 4) (sz2 := k + 5) (ce2 := 4) (sl2 := 650) eP_init_32 (Or.inl ⟨rfl, rfl⟩) rfl (by decide) rfl rfl rfl (Nat.le_of_ble_eq_true rfl) (Nat.le_of_ble_eq_true rfl) ?_
  refine pt_gen ?_
  intro hp7 ev7
  have h_me := pg_n ev7 (by omega) h_me
  have h_N2 := pg_n ev7 (by omega) h_N2
  have h_N3 := pg_n ev7 (by omega) h_N3
  have h_N4 := pg_n ev7 (by omega) h_N4
  have h_N5 := pg_s ev7
  refine pt_put4 eP_init_34 h_me trivial ?_
  refine pt_gen ?_
  intro hp8 ev8
  have h_me := pg_s ev8
  have h_N2 := pg_n ev8 (by omega) h_N2
  have h_N3 := pg_n ev8 (by omega) h_N3
  have h_N4 := pg_n ev8 (by omega) h_N4
  have h_N5 := pg_n ev8 (by omega) h_N5
  refine pt_vret eP_init_37 (Nat.le_refl _) (Nat.le_refl _) ?_
  exact ⟨rfl, rfl, ⟨h_me, h_N2, h_N3, h_N4, h_N5⟩, ((((((((fr.rf.up ev1 (by omega) (by omega)).up ev2 (by omega) (by omega)).up ev3 (by omega) (by omega)).up ev4 (by omega) (by omega)).up ev5 (by omega) (by omega)).up ev6 (by omega) (by omega)).up ev7 (by omega) (by omega)).up ev8 (by omega) (by omega))⟩
theorem cG_init (G : pd_G) (sz k : Nat) (hp : pd_P) : pd_C G mG_init 1 0 0 [vr (k + 1)] sz hp (fun v' sz' hp' => v' = none ∧ sz' = sz ∧ hp' = hp) := by
  refine pd_con kG_init [some (vr (k + 1))] rfl rfl (Nat.le_of_ble_eq_true rfl) ?_
  refine pt_aload eG_init_0 rfl ?_
  refine pt_oinit eG_init_1 (by decide) (Nat.le_of_ble_eq_true rfl) ?_
  refine pt_vret eG_init_4 (Nat.le_refl _) (Nat.le_refl _) ?_
  exact ⟨rfl, rfl, rfl⟩
theorem cSu_init (G : pd_G) (sz k : Nat) (hp : pd_P) : pd_C G mSu_init 2 0 0 [vr (k + 1)] sz hp (fun v' sz' hp' => v' = none ∧ sz' = sz ∧ hp' = hp) := by
  refine pd_con kSu_init [some (vr (k + 1))] rfl rfl (Nat.le_of_ble_eq_true rfl) ?_
  refine pt_aload eSu_init_0 rfl ?_
  refine mk_kI (a := k) (ce2 := 0) (sl2 := 0) eSu_init_1 (cG_init G sz k hp) rfl (by decide) (by decide) rfl rfl (Nat.le_refl _) (Nat.le_refl _) ?_
  rintro v2 sz2 hp2 ⟨rfl, rfl, rfl⟩
  refine pt_vret eSu_init_4 (Nat.le_refl _) (Nat.le_refl _) ?_
  exact ⟨rfl, rfl, rfl⟩
theorem cHa_init (G : pd_G) (sz k : Nat) (hp : pd_P) : pd_C G mHa_init 2 0 0 [vr (k + 1)] sz hp (fun v' sz' hp' => v' = none ∧ sz' = sz ∧ hp' = hp) := by
  refine pd_con kHa_init [some (vr (k + 1))] rfl rfl (Nat.le_of_ble_eq_true rfl) ?_
  refine pt_aload eHa_init_0 rfl ?_
  refine mk_kI (a := k) (ce2 := 0) (sl2 := 0) eHa_init_1 (cG_init G sz k hp) rfl (by decide) (by decide) rfl rfl (Nat.le_refl _) (Nat.le_refl _) ?_
  rintro v2 sz2 hp2 ⟨rfl, rfl, rfl⟩
  refine pt_vret eHa_init_4 (Nat.le_refl _) (Nat.le_refl _) ?_
  exact ⟨rfl, rfl, rfl⟩
theorem cCa_init (G : pd_G) (sz k : Nat) (hp : pd_P) : pd_C G mCa_init 2 0 0 [vr (k + 1)] sz hp (fun v' sz' hp' => v' = none ∧ sz' = sz ∧ hp' = hp) := by
  refine pd_con kCa_init [some (vr (k + 1))] rfl rfl (Nat.le_of_ble_eq_true rfl) ?_
  refine pt_aload eCa_init_0 rfl ?_
  refine mk_kI (a := k) (ce2 := 0) (sl2 := 0) eCa_init_1 (cG_init G sz k hp) rfl (by decide) (by decide) rfl rfl (Nat.le_refl _) (Nat.le_refl _) ?_
  rintro v2 sz2 hp2 ⟨rfl, rfl, rfl⟩
  refine pt_vret eCa_init_4 (Nat.le_refl _) (Nat.le_refl _) ?_
  exact ⟨rfl, rfl, rfl⟩
theorem cCo_init (G : pd_G) (sz k : Nat) (hp : pd_P) : pd_C G mCo_init 3 0 0 [vr (k + 1)] sz hp (fun v' sz' hp' => v' = none ∧ sz' = sz ∧ hp' = hp) := by
  refine pd_con kCo_init [some (vr (k + 1))] rfl rfl (Nat.le_of_ble_eq_true rfl) ?_
  refine pt_aload eCo_init_0 rfl ?_
  refine mk_kI (a := k) (ce2 := 0) (sl2 := 0) eCo_init_1 (cSu_init G sz k hp) rfl (by decide) (by decide) rfl rfl (Nat.le_refl _) (Nat.le_refl _) ?_
  rintro v2 sz2 hp2 ⟨rfl, rfl, rfl⟩
  refine pt_vret eCo_init_4 (Nat.le_refl _) (Nat.le_refl _) ?_
  exact ⟨rfl, rfl, rfl⟩
theorem cJe_init (G : pd_G) (sz k : Nat) (hp : pd_P) : pd_C G mJe_init 3 0 0 [vr (k + 1)] sz hp (fun v' sz' hp' => v' = none ∧ sz' = sz ∧ hp' = hp) := by
  refine pd_con kJe_init [some (vr (k + 1))] rfl rfl (Nat.le_of_ble_eq_true rfl) ?_
  refine pt_aload eJe_init_0 rfl ?_
  refine mk_kI (a := k) (ce2 := 0) (sl2 := 0) eJe_init_1 (cHa_init G sz k hp) rfl (by decide) (by decide) rfl rfl (Nat.le_refl _) (Nat.le_refl _) ?_
  rintro v2 sz2 hp2 ⟨rfl, rfl, rfl⟩
  refine pt_vret eJe_init_4 (Nat.le_refl _) (Nat.le_refl _) ?_
  exact ⟨rfl, rfl, rfl⟩
