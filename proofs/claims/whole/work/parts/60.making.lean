/-! constructors: Life, the class, the reference -/
theorem mk_at {G : pd_G} {M : pd_M} {d mc ms : Nat} {X : Option (Nat × (Nat → Int))} {R : pd_R} {pc : Nat} {lv : List (Option pv)} {st : List pv} {sz ce sl sz2 ce2 sl2 : Nat} {hp : pd_P} (e1 : sz = sz2) (e2 : ce = ce2) (e3 : sl = sl2) (k : pd_T G M d mc ms X R pc lv st sz2 ce2 sl2 hp) : pd_T G M d mc ms X R pc lv st sz ce sl hp := by
  subst e1; subst e2; subst e3
  exact k
theorem lL_in (G : pd_G) (k : Nat) (hp : pd_P) {R : pd_R} (hx : ∀ (pf : Int → Option Nat) (hp0 : pd_P), hp0 (k + 1) = ob 6 [vr (k + 2), vr (k + 6), vi 0] → StA hp0 (k + 2) (fun _ => 0) → hp0 (k + 6) = ra 4 10 pf → (∀ j : Nat, j < 10 → pf j = some (k + 7 + 4 * j) ∧ StA hp0 (k + 7 + 4 * j) (fun _ => 0)) → fr hp hp0 (k + 1) (k + 47) → pd_T G mL_init 2 45 1033 none R 51 [some (vr (k + 1)), some (vi ((10 : Nat) : Int))] [] (k + 46) (45) (1033) hp0) : ∀ (f i : Nat) (pf : Int → Option Nat) (hp0 : pd_P), i + f = 10 → hp0 (k + 1) = ob 6 [vr (k + 2), vr (k + 6), vi 0] → StA hp0 (k + 2) (fun _ => 0) → hp0 (k + 6) = ra 4 10 pf → (∀ j : Nat, j < i → pf j = some (k + 7 + 4 * j) ∧ StA hp0 (k + 7 + 4 * j) (fun _ => 0)) → fr hp hp0 (k + 1) (k + 47) → pd_T G mL_init 2 45 1033 none R 26 [some (vr (k + 1)), some (vi (i : Int))] [] (k + 4 * i + 6) (4 * i + 5) (93 * i + 103) hp0 := by
  intro f
  induction f with
  | zero =>
    intro i pf hp0 hif h_me h_now h_Pa hst hfr
    have hi : i = 10 := by omega
    subst hi
    refine pt_iload eL_init_26 rfl ?_
    refine pt_ic eL_init_27 ?_
    refine pt_cge eL_init_29 ⟨by omega, by omega⟩ ⟨by omega, by omega⟩ (fun c29 => ?_) (fun c29 => ?_)
    · exact hx pf hp0 h_me h_now h_Pa hst hfr
    · exfalso; omega
  | succ f ih =>
    intro i pf hp0 hif h_me h_now h_Pa hst hfr
    refine pt_iload eL_init_26 rfl ?_
    refine pt_ic eL_init_27 ?_
    refine pt_cge eL_init_29 ⟨by omega, by omega⟩ ⟨by omega, by omega⟩ (fun c29 => ?_) (fun c29 => ?_)
    · exfalso; omega
    · refine pt_aload eL_init_32 rfl ?_
      refine pt_get eL_init_33 h_me rfl ?_
      refine pt_iload eL_init_36 rfl ?_
      refine mk_new (sz2 := k + 4 * i + 7) (ce2 := 4 * i + 6) (sl2 := 93 * i + 108) eL_init_37 df8 rfl rfl rfl (by omega) (by omega) ?_
      refine pt_gen ?_
      intro hp1 ev1
      have h_me := pg_n ev1 (by omega) h_me
      have h_Pa := pg_n ev1 (by omega) h_Pa
      have h_now := h_now.fr (fr.wr ev1) (by omega)
      have h_N7 := pg_s ev1
      refine pt_dupr eL_init_40 ?_
      refine mk_kI (ce2 := 4 * i + 9) (sl2 := 93 * i + 196) eL_init_41 (cS_init G (k + 4 * i + 6) _ h_N7) rfl (Nat.le_of_ble_eq_true rfl) (Nat.le_of_ble_eq_true rfl) rfl rfl (by omega) (by omega) ?_
      rintro v2 sz2 hp2 ⟨rfl, hz9, h_St, hf2⟩
      obtain rfl : sz2 = k + 4 * i + 10 := hz9
      have h_me := hf2.at (by omega) h_me
      have h_Pa := hf2.at (by omega) h_Pa
      have h_now := h_now.fr hf2 (by omega)
      have h_St : StA hp2 (k + 4 * i + 7) (fun _ => 0) := h_St
      refine pt_aast eL_init_44 h_Pa rfl (by omega) (by omega) (by decide) h_St.1 ⟨_, rfl, Or.inl rfl⟩ ?_
      refine pt_gen ?_
      intro hp3 ev3
      have h_me := pg_n ev3 (by omega) h_me
      have h_Pa := pg_s ev3
      have h_now := h_now.fr (fr.wr ev3) (by omega)
      have h_St := h_St.fr (fr.wr ev3) (by omega)
      refine pt_inc1 eL_init_45 rfl ?_
      refine pt_goto eL_init_48 ?_
      refine mk_at (sz2 := k + 4 * (i + 1) + 6) (ce2 := 4 * (i + 1) + 5) (sl2 := 93 * (i + 1) + 103) (by omega) (by omega) (by omega) ?_
      refine ih (i + 1) _ hp3 (by omega) h_me h_now h_Pa (fun j hj => ?_) (((hfr.up ev1 (by omega) (by omega)).tr hf2 (by omega) (by omega)).up ev3 (by omega) (by omega))
      by_cases hji : j = i
      · subst hji
        exact ⟨by rw [uI_s]; congr 1; omega, by rw [show k + 7 + 4 * j = k + 4 * j + 7 by omega]; exact h_St⟩
      · refine ⟨by rw [uI_n _ _ (by omega)]; exact (hst j (by omega)).1, ?_⟩
        exact ((((hst j (by omega)).2.fr (fr.wr ev1) (by omega)).fr hf2 (by omega)).fr (fr.wr ev3) (by omega))
theorem cL_init (G : pd_G) (k : Nat) (hp : pd_P) (h_me : hp (k + 1) = ob 6 [vn, vn, vi 0]) : pd_C G mL_init 2 45 1033 [vr (k + 1)] (k + 1) hp (fun v' sz' hp' => v' = none ∧ sz' = k + 46 ∧ LiA hp' (k + 1) (fun _ => 0) 0 (fun _ _ => 0) ∧ fr hp hp' (k + 1) (k + 47)) := by
  refine pd_con kL_init [some (vr (k + 1)), none] rfl rfl (Nat.le_of_ble_eq_true rfl) ?_
  refine pt_aload eL_init_0 rfl ?_
  refine pt_oinit eL_init_1 (by decide) (Nat.le_of_ble_eq_true rfl) ?_
  refine pt_aload eL_init_4 rfl ?_
  refine mk_new (sz2 := k + 2) (ce2 := 1) (sl2 := 5) eL_init_5 df8 rfl rfl rfl (Nat.le_of_ble_eq_true rfl) (Nat.le_of_ble_eq_true rfl) ?_
  refine pt_gen ?_
  intro hp1 ev1
  have h_me := pg_n ev1 (by omega) h_me
  have h_N2 := pg_s ev1
  refine pt_dupr eL_init_8 ?_
  refine mk_kI (ce2 := 4) (sl2 := 93) eL_init_9 (cS_init G (k + 1) _ h_N2) rfl (Nat.le_of_ble_eq_true rfl) (Nat.le_of_ble_eq_true rfl) rfl rfl (Nat.le_of_ble_eq_true rfl) (Nat.le_of_ble_eq_true rfl) ?_
  rintro v2 sz2 hp2 ⟨rfl, hz9, h_St, hf2⟩
  obtain rfl : sz2 = k + 5 := hz9
  have h_me := hf2.at (by omega) h_me
  have h_St : StA hp2 (k + 2) (fun _ => 0) := h_St
  refine pt_put0 eL_init_12 h_me trivial ?_
  refine pt_gen ?_
  intro hp3 ev3
  have h_me := pg_s ev3
  have h_St := h_St.fr (fr.wr ev3) (by omega)
  refine pt_aload eL_init_15 rfl ?_
  refine pt_ic eL_init_16 ?_
  refine mk_newq (kd := 4) (A := 10) (sz2 := k + 6) (ce2 := 5) (sl2 := 103) eL_init_18 (Or.inr (Or.inl ⟨rfl, rfl⟩)) rfl (by decide) rfl rfl rfl (Nat.le_of_ble_eq_true rfl) (Nat.le_of_ble_eq_true rfl) ?_
  refine pt_gen ?_
  intro hp4 ev4
  have h_me := pg_n ev4 (by omega) h_me
  have h_St := h_St.fr (fr.wr ev4) (by omega)
  have h_N6 := pg_s ev4
  refine pt_put1 eL_init_21 h_me trivial ?_
  refine pt_gen ?_
  intro hp5 ev5
  have h_me := pg_s ev5
  have h_N6 := pg_n ev5 (by omega) h_N6
  have h_St := h_St.fr (fr.wr ev5) (by omega)
  refine pt_ic eL_init_24 ?_
  refine pt_istore1 eL_init_25 rfl ?_
  refine mk_at (sz2 := k + 4 * 0 + 6) (ce2 := 4 * 0 + 5) (sl2 := 93 * 0 + 103) rfl rfl rfl ?_
  refine lL_in G k hp ?_ 10 0 _ hp5 (by omega) h_me h_St h_N6 (fun j hj => absurd hj (by omega)) (((((fr.rf.up ev1 (by omega) (by omega)).tr hf2 (by omega) (by omega)).up ev3 (by omega) (by omega)).up ev4 (by omega) (by omega)).up ev5 (by omega) (by omega))
  intro pf hp0 h_me h_now h_Pa hst hfr
  refine pt_vret eL_init_51 (Nat.le_refl _) (Nat.le_refl _) ?_
  refine ⟨rfl, rfl, ⟨h_me, h_now, pf, fun i => i.toNat, h_Pa, fun i i0 i1 => ?_, fun i j i0 i1 j0 j1 hij => ?_, fun i i0 i1 => ?_⟩, hfr⟩
  · have := (hst i.toNat (by omega)).1
    rw [show ((i.toNat : Nat) : Int) = i by omega] at this
    refine ⟨?_, by show i.toNat < 10; omega⟩
    exact this.trans (congrArg some (show k + 7 + 4 * i.toNat = k + 1 + 6 + 4 * i.toNat by omega))
  · have h1 : i.toNat = j.toNat := hij
    omega
  · have := (hst i.toNat (by omega)).2
    show StA hp0 (k + 1 + 6 + 4 * i.toNat) (fun _ => 0)
    rw [show k + 1 + 6 + 4 * i.toNat = k + 7 + 4 * i.toNat by omega]
    exact this
def q00 : Nat → Int → Int := fun j => if j = 2 then uI (uI (fun _ => 0) 0 2) 1 3 else fun _ => 0
def v00 : Nat → Int := fun _ => 0
theorem cR_init (G : pd_G) (hp : pd_P) (h_me : hp 178 = ob 12 [vn, vi 0, vn, vn, vn, vn, vn, vn, vn, vn, vi 0, vi 0, vi 0, vi 0, vi 0, vi 0, vi 0, vn, vn, vn, vn, vn, vn, vn, vn, vn, vi 0, vn, vn, vi 0, vn, vl 0]) : pd_C G mR_init 1 21 3915 [vr 178] 178 hp (fun v' sz' hp' => v' = none ∧ sz' = 199 ∧ MW hp' q00 v00 ∧ fr hp hp' 178 200) := by
  refine pd_con kR_init [some (vr 178)] rfl rfl (Nat.le_of_ble_eq_true rfl) ?_
  refine pt_aload eR_init_0 rfl ?_
  refine pt_oinit eR_init_1 (by decide) (Nat.le_of_ble_eq_true rfl) ?_
  refine pt_aload eR_init_4 rfl ?_
  refine pt_ic eR_init_5 ?_
  refine mk_newa (kd := 1) (A := 150) (sz2 := 179) (ce2 := 1) (sl2 := 150) eR_init_8 (Or.inr (Or.inl ⟨rfl, rfl⟩)) rfl (by decide) rfl rfl rfl (Nat.le_of_ble_eq_true rfl) (Nat.le_of_ble_eq_true rfl) ?_
  refine pt_gen ?_
  intro hp1 ev1
  have h_me := pg_n ev1 (by omega) h_me
  have h_N179 := pg_s ev1
  refine pt_put0 eR_init_10 h_me trivial ?_
  refine pt_gen ?_
  intro hp2 ev2
  have h_me := pg_s ev2
  have h_N179 := pg_n ev2 (by omega) h_N179
  refine pt_aload eR_init_13 rfl ?_
  refine pt_ic eR_init_14 ?_
  refine mk_newa (kd := 0) (A := 4) (sz2 := 180) (ce2 := 2) (sl2 := 154) eR_init_15 (Or.inl ⟨rfl, rfl⟩) rfl (by decide) rfl rfl rfl (Nat.le_of_ble_eq_true rfl) (Nat.le_of_ble_eq_true rfl) ?_
  refine pt_gen ?_
  intro hp3 ev3
  have h_me := pg_n ev3 (by omega) h_me
  have h_N179 := pg_n ev3 (by omega) h_N179
  have h_N180 := pg_s ev3
  refine pt_put2 eR_init_17 h_me trivial ?_
  refine pt_gen ?_
  intro hp4 ev4
  have h_me := pg_s ev4
  have h_N179 := pg_n ev4 (by omega) h_N179
  have h_N180 := pg_n ev4 (by omega) h_N180
  refine pt_aload eR_init_20 rfl ?_
  refine pt_ic eR_init_21 ?_
  refine mk_newa (kd := 0) (A := 2) (sz2 := 181) (ce2 := 3) (sl2 := 156) eR_init_22 (Or.inl ⟨rfl, rfl⟩) rfl (by decide) rfl rfl rfl (Nat.le_of_ble_eq_true rfl) (Nat.le_of_ble_eq_true rfl) ?_
  refine pt_gen ?_
  intro hp5 ev5
  have h_me := pg_n ev5 (by omega) h_me
  have h_N179 := pg_n ev5 (by omega) h_N179
  have h_N180 := pg_n ev5 (by omega) h_N180
  have h_N181 := pg_s ev5
  refine pt_put3 eR_init_24 h_me trivial ?_
  refine pt_gen ?_
  intro hp6 ev6
  have h_me := pg_s ev6
  have h_N179 := pg_n ev6 (by omega) h_N179
  have h_N180 := pg_n ev6 (by omega) h_N180
  have h_N181 := pg_n ev6 (by omega) h_N181
  refine pt_aload eR_init_27 rfl ?_
  refine pt_ic eR_init_28 ?_
  refine mk_newa (kd := 0) (A := 8) (sz2 := 182) (ce2 := 4) (sl2 := 164) eR_init_30 (Or.inl ⟨rfl, rfl⟩) rfl (by decide) rfl rfl rfl (Nat.le_of_ble_eq_true rfl) (Nat.le_of_ble_eq_true rfl) ?_
  refine pt_gen ?_
  intro hp7 ev7
  have h_me := pg_n ev7 (by omega) h_me
  have h_N179 := pg_n ev7 (by omega) h_N179
  have h_N180 := pg_n ev7 (by omega) h_N180
  have h_N181 := pg_n ev7 (by omega) h_N181
  have h_N182 := pg_s ev7
  refine pt_put4 eR_init_32 h_me trivial ?_
  refine pt_gen ?_
  intro hp8 ev8
  have h_me := pg_s ev8
  have h_N179 := pg_n ev8 (by omega) h_N179
  have h_N180 := pg_n ev8 (by omega) h_N180
  have h_N181 := pg_n ev8 (by omega) h_N181
  have h_N182 := pg_n ev8 (by omega) h_N182
  refine pt_aload eR_init_35 rfl ?_
  refine pt_ic eR_init_36 ?_
  refine mk_newa (kd := 0) (A := 8) (sz2 := 183) (ce2 := 5) (sl2 := 172) eR_init_38 (Or.inl ⟨rfl, rfl⟩) rfl (by decide) rfl rfl rfl (Nat.le_of_ble_eq_true rfl) (Nat.le_of_ble_eq_true rfl) ?_
  refine pt_gen ?_
  intro hp9 ev9
  have h_me := pg_n ev9 (by omega) h_me
  have h_N179 := pg_n ev9 (by omega) h_N179
  have h_N180 := pg_n ev9 (by omega) h_N180
  have h_N181 := pg_n ev9 (by omega) h_N181
  have h_N182 := pg_n ev9 (by omega) h_N182
  have h_N183 := pg_s ev9
  refine pt_put5 eR_init_40 h_me trivial ?_
  refine pt_gen ?_
  intro hp10 ev10
  have h_me := pg_s ev10
  have h_N179 := pg_n ev10 (by omega) h_N179
  have h_N180 := pg_n ev10 (by omega) h_N180
  have h_N181 := pg_n ev10 (by omega) h_N181
  have h_N182 := pg_n ev10 (by omega) h_N182
  have h_N183 := pg_n ev10 (by omega) h_N183
  refine pt_aload eR_init_43 rfl ?_
  refine pt_ic eR_init_44 ?_
  refine mk_newa (kd := 0) (A := 8) (sz2 := 184) (ce2 := 6) (sl2 := 180) eR_init_46 (Or.inl ⟨rfl, rfl⟩) rfl (by decide) rfl rfl rfl (Nat.le_of_ble_eq_true rfl) (Nat.le_of_ble_eq_true rfl) ?_
  refine pt_gen ?_
  intro hp11 ev11
  have h_me := pg_n ev11 (by omega) h_me
  have h_N179 := pg_n ev11 (by omega) h_N179
  have h_N180 := pg_n ev11 (by omega) h_N180
  have h_N181 := pg_n ev11 (by omega) h_N181
  have h_N182 := pg_n ev11 (by omega) h_N182
  have h_N183 := pg_n ev11 (by omega) h_N183
  have h_N184 := pg_s ev11
  refine pt_put6 eR_init_48 h_me trivial ?_
  refine pt_gen ?_
  intro hp12 ev12
  have h_me := pg_s ev12
  have h_N179 := pg_n ev12 (by omega) h_N179
  have h_N180 := pg_n ev12 (by omega) h_N180
  have h_N181 := pg_n ev12 (by omega) h_N181
  have h_N182 := pg_n ev12 (by omega) h_N182
  have h_N183 := pg_n ev12 (by omega) h_N183
  have h_N184 := pg_n ev12 (by omega) h_N184
  refine pt_aload eR_init_51 rfl ?_
  refine pt_ic eR_init_52 ?_
  refine mk_newa (kd := 0) (A := 8) (sz2 := 185) (ce2 := 7) (sl2 := 188) eR_init_54 (Or.inl ⟨rfl, rfl⟩) rfl (by decide) rfl rfl rfl (Nat.le_of_ble_eq_true rfl) (Nat.le_of_ble_eq_true rfl) ?_
  refine pt_gen ?_
  intro hp13 ev13
  have h_me := pg_n ev13 (by omega) h_me
  have h_N179 := pg_n ev13 (by omega) h_N179
  have h_N180 := pg_n ev13 (by omega) h_N180
  have h_N181 := pg_n ev13 (by omega) h_N181
  have h_N182 := pg_n ev13 (by omega) h_N182
  have h_N183 := pg_n ev13 (by omega) h_N183
  have h_N184 := pg_n ev13 (by omega) h_N184
  have h_N185 := pg_s ev13
  refine pt_put7 eR_init_56 h_me trivial ?_
  refine pt_gen ?_
  intro hp14 ev14
  have h_me := pg_s ev14
  have h_N179 := pg_n ev14 (by omega) h_N179
  have h_N180 := pg_n ev14 (by omega) h_N180
  have h_N181 := pg_n ev14 (by omega) h_N181
  have h_N182 := pg_n ev14 (by omega) h_N182
  have h_N183 := pg_n ev14 (by omega) h_N183
  have h_N184 := pg_n ev14 (by omega) h_N184
  have h_N185 := pg_n ev14 (by omega) h_N185
  refine pt_aload eR_init_59 rfl ?_
  refine pt_ic eR_init_60 ?_
  refine mk_newa (kd := 0) (A := 160) (sz2 := 186) (ce2 := 8) (sl2 := 348) eR_init_63 (Or.inl ⟨rfl, rfl⟩) rfl (by decide) rfl rfl rfl (Nat.le_of_ble_eq_true rfl) (Nat.le_of_ble_eq_true rfl) ?_
  refine pt_gen ?_
  intro hp15 ev15
  have h_me := pg_n ev15 (by omega) h_me
  have h_N179 := pg_n ev15 (by omega) h_N179
  have h_N180 := pg_n ev15 (by omega) h_N180
  have h_N181 := pg_n ev15 (by omega) h_N181
  have h_N182 := pg_n ev15 (by omega) h_N182
  have h_N183 := pg_n ev15 (by omega) h_N183
  have h_N184 := pg_n ev15 (by omega) h_N184
  have h_N185 := pg_n ev15 (by omega) h_N185
  have h_N186 := pg_s ev15
  refine pt_put8 eR_init_65 h_me trivial ?_
  refine pt_gen ?_
  intro hp16 ev16
  have h_me := pg_s ev16
  have h_N179 := pg_n ev16 (by omega) h_N179
  have h_N180 := pg_n ev16 (by omega) h_N180
  have h_N181 := pg_n ev16 (by omega) h_N181
  have h_N182 := pg_n ev16 (by omega) h_N182
  have h_N183 := pg_n ev16 (by omega) h_N183
  have h_N184 := pg_n ev16 (by omega) h_N184
  have h_N185 := pg_n ev16 (by omega) h_N185
  have h_N186 := pg_n ev16 (by omega) h_N186
  refine pt_aload eR_init_68 rfl ?_
  refine pt_ic eR_init_69 ?_
  refine mk_newa (kd := 0) (A := 160) (sz2 := 187) (ce2 := 9) (sl2 := 508) eR_init_72 (Or.inl ⟨rfl, rfl⟩) rfl (by decide) rfl rfl rfl (Nat.le_of_ble_eq_true rfl) (Nat.le_of_ble_eq_true rfl) ?_
  refine pt_gen ?_
  intro hp17 ev17
  have h_me := pg_n ev17 (by omega) h_me
  have h_N179 := pg_n ev17 (by omega) h_N179
  have h_N180 := pg_n ev17 (by omega) h_N180
  have h_N181 := pg_n ev17 (by omega) h_N181
  have h_N182 := pg_n ev17 (by omega) h_N182
  have h_N183 := pg_n ev17 (by omega) h_N183
  have h_N184 := pg_n ev17 (by omega) h_N184
  have h_N185 := pg_n ev17 (by omega) h_N185
  have h_N186 := pg_n ev17 (by omega) h_N186
  have h_N187 := pg_s ev17
  refine pt_put9 eR_init_74 h_me trivial ?_
  refine pt_gen ?_
  intro hp18 ev18
  have h_me := pg_s ev18
  have h_N179 := pg_n ev18 (by omega) h_N179
  have h_N180 := pg_n ev18 (by omega) h_N180
  have h_N181 := pg_n ev18 (by omega) h_N181
  have h_N182 := pg_n ev18 (by omega) h_N182
  have h_N183 := pg_n ev18 (by omega) h_N183
  have h_N184 := pg_n ev18 (by omega) h_N184
  have h_N185 := pg_n ev18 (by omega) h_N185
  have h_N186 := pg_n ev18 (by omega) h_N186
  have h_N187 := pg_n ev18 (by omega) h_N187
  refine pt_aload eR_init_77 rfl ?_
  refine pt_ic eR_init_78 ?_
  refine mk_newa (kd := 0) (A := 90) (sz2 := 188) (ce2 := 10) (sl2 := 598) eR_init_80 (Or.inl ⟨rfl, rfl⟩) rfl (by decide) rfl rfl rfl (Nat.le_of_ble_eq_true rfl) (Nat.le_of_ble_eq_true rfl) ?_
  refine pt_gen ?_
  intro hp19 ev19
  have h_me := pg_n ev19 (by omega) h_me
  have h_N179 := pg_n ev19 (by omega) h_N179
  have h_N180 := pg_n ev19 (by omega) h_N180
  have h_N181 := pg_n ev19 (by omega) h_N181
  have h_N182 := pg_n ev19 (by omega) h_N182
  have h_N183 := pg_n ev19 (by omega) h_N183
  have h_N184 := pg_n ev19 (by omega) h_N184
  have h_N185 := pg_n ev19 (by omega) h_N185
  have h_N186 := pg_n ev19 (by omega) h_N186
  have h_N187 := pg_n ev19 (by omega) h_N187
  have h_N188 := pg_s ev19
  refine pt_put17 eR_init_82 h_me trivial ?_
  refine pt_gen ?_
  intro hp20 ev20
  have h_me := pg_s ev20
  have h_N179 := pg_n ev20 (by omega) h_N179
  have h_N180 := pg_n ev20 (by omega) h_N180
  have h_N181 := pg_n ev20 (by omega) h_N181
  have h_N182 := pg_n ev20 (by omega) h_N182
  have h_N183 := pg_n ev20 (by omega) h_N183
  have h_N184 := pg_n ev20 (by omega) h_N184
  have h_N185 := pg_n ev20 (by omega) h_N185
  have h_N186 := pg_n ev20 (by omega) h_N186
  have h_N187 := pg_n ev20 (by omega) h_N187
  have h_N188 := pg_n ev20 (by omega) h_N188
  refine pt_aload eR_init_85 rfl ?_
  refine pt_ic eR_init_86 ?_
  refine mk_newa (kd := 0) (A := 3) (sz2 := 189) (ce2 := 11) (sl2 := 601) eR_init_87 (Or.inl ⟨rfl, rfl⟩) rfl (by decide) rfl rfl rfl (Nat.le_of_ble_eq_true rfl) (Nat.le_of_ble_eq_true rfl) ?_
  refine pt_gen ?_
  intro hp21 ev21
  have h_me := pg_n ev21 (by omega) h_me
  have h_N179 := pg_n ev21 (by omega) h_N179
  have h_N180 := pg_n ev21 (by omega) h_N180
  have h_N181 := pg_n ev21 (by omega) h_N181
  have h_N182 := pg_n ev21 (by omega) h_N182
  have h_N183 := pg_n ev21 (by omega) h_N183
  have h_N184 := pg_n ev21 (by omega) h_N184
  have h_N185 := pg_n ev21 (by omega) h_N185
  have h_N186 := pg_n ev21 (by omega) h_N186
  have h_N187 := pg_n ev21 (by omega) h_N187
  have h_N188 := pg_n ev21 (by omega) h_N188
  have h_N189 := pg_s ev21
  refine pt_put18 eR_init_89 h_me trivial ?_
  refine pt_gen ?_
  intro hp22 ev22
  have h_me := pg_s ev22
  have h_N179 := pg_n ev22 (by omega) h_N179
  have h_N180 := pg_n ev22 (by omega) h_N180
  have h_N181 := pg_n ev22 (by omega) h_N181
  have h_N182 := pg_n ev22 (by omega) h_N182
  have h_N183 := pg_n ev22 (by omega) h_N183
  have h_N184 := pg_n ev22 (by omega) h_N184
  have h_N185 := pg_n ev22 (by omega) h_N185
  have h_N186 := pg_n ev22 (by omega) h_N186
  have h_N187 := pg_n ev22 (by omega) h_N187
  have h_N188 := pg_n ev22 (by omega) h_N188
  have h_N189 := pg_n ev22 (by omega) h_N189
  refine pt_aload eR_init_92 rfl ?_
  refine pt_ic eR_init_93 ?_
  refine mk_newa (kd := 0) (A := 2700) (sz2 := 190) (ce2 := 12) (sl2 := 3301) eR_init_96 (Or.inl ⟨rfl, rfl⟩) rfl (by decide) rfl rfl rfl (Nat.le_of_ble_eq_true rfl) (Nat.le_of_ble_eq_true rfl) ?_
  refine pt_gen ?_
  intro hp23 ev23
  have h_me := pg_n ev23 (by omega) h_me
  have h_N179 := pg_n ev23 (by omega) h_N179
  have h_N180 := pg_n ev23 (by omega) h_N180
  have h_N181 := pg_n ev23 (by omega) h_N181
  have h_N182 := pg_n ev23 (by omega) h_N182
  have h_N183 := pg_n ev23 (by omega) h_N183
  have h_N184 := pg_n ev23 (by omega) h_N184
  have h_N185 := pg_n ev23 (by omega) h_N185
  have h_N186 := pg_n ev23 (by omega) h_N186
  have h_N187 := pg_n ev23 (by omega) h_N187
  have h_N188 := pg_n ev23 (by omega) h_N188
  have h_N189 := pg_n ev23 (by omega) h_N189
  have h_N190 := pg_s ev23
  refine pt_put19 eR_init_98 h_me trivial ?_
  refine pt_gen ?_
  intro hp24 ev24
  have h_me := pg_s ev24
  have h_N179 := pg_n ev24 (by omega) h_N179
  have h_N180 := pg_n ev24 (by omega) h_N180
  have h_N181 := pg_n ev24 (by omega) h_N181
  have h_N182 := pg_n ev24 (by omega) h_N182
  have h_N183 := pg_n ev24 (by omega) h_N183
  have h_N184 := pg_n ev24 (by omega) h_N184
  have h_N185 := pg_n ev24 (by omega) h_N185
  have h_N186 := pg_n ev24 (by omega) h_N186
  have h_N187 := pg_n ev24 (by omega) h_N187
  have h_N188 := pg_n ev24 (by omega) h_N188
  have h_N189 := pg_n ev24 (by omega) h_N189
  have h_N190 := pg_n ev24 (by omega) h_N190
  refine pt_aload eR_init_101 rfl ?_
  refine pt_ic eR_init_102 ?_
  refine mk_newa (kd := 0) (A := 180) (sz2 := 191) (ce2 := 13) (sl2 := 3481) eR_init_105 (Or.inl ⟨rfl, rfl⟩) rfl (by decide) rfl rfl rfl (Nat.le_of_ble_eq_true rfl) (Nat.le_of_ble_eq_true rfl) ?_
  refine pt_gen ?_
  intro hp25 ev25
  have h_me := pg_n ev25 (by omega) h_me
  have h_N179 := pg_n ev25 (by omega) h_N179
  have h_N180 := pg_n ev25 (by omega) h_N180
  have h_N181 := pg_n ev25 (by omega) h_N181
  have h_N182 := pg_n ev25 (by omega) h_N182
  have h_N183 := pg_n ev25 (by omega) h_N183
  have h_N184 := pg_n ev25 (by omega) h_N184
  have h_N185 := pg_n ev25 (by omega) h_N185
  have h_N186 := pg_n ev25 (by omega) h_N186
  have h_N187 := pg_n ev25 (by omega) h_N187
  have h_N188 := pg_n ev25 (by omega) h_N188
  have h_N189 := pg_n ev25 (by omega) h_N189
  have h_N190 := pg_n ev25 (by omega) h_N190
  have h_N191 := pg_s ev25
  refine pt_put20 eR_init_107 h_me trivial ?_
  refine pt_gen ?_
  intro hp26 ev26
  have h_me := pg_s ev26
  have h_N179 := pg_n ev26 (by omega) h_N179
  have h_N180 := pg_n ev26 (by omega) h_N180
  have h_N181 := pg_n ev26 (by omega) h_N181
  have h_N182 := pg_n ev26 (by omega) h_N182
  have h_N183 := pg_n ev26 (by omega) h_N183
  have h_N184 := pg_n ev26 (by omega) h_N184
  have h_N185 := pg_n ev26 (by omega) h_N185
  have h_N186 := pg_n ev26 (by omega) h_N186
  have h_N187 := pg_n ev26 (by omega) h_N187
  have h_N188 := pg_n ev26 (by omega) h_N188
  have h_N189 := pg_n ev26 (by omega) h_N189
  have h_N190 := pg_n ev26 (by omega) h_N190
  have h_N191 := pg_n ev26 (by omega) h_N191
  refine pt_aload eR_init_110 rfl ?_
  refine pt_ic eR_init_111 ?_
  refine mk_newa (kd := 2) (A := 2) (sz2 := 192) (ce2 := 14) (sl2 := 3483) eR_init_112 (Or.inr (Or.inr ⟨rfl, rfl⟩)) rfl (by decide) rfl rfl rfl (Nat.le_of_ble_eq_true rfl) (Nat.le_of_ble_eq_true rfl) ?_
  refine pt_gen ?_
  intro hp27 ev27
  have h_me := pg_n ev27 (by omega) h_me
  have h_N179 := pg_n ev27 (by omega) h_N179
  have h_N180 := pg_n ev27 (by omega) h_N180
  have h_N181 := pg_n ev27 (by omega) h_N181
  have h_N182 := pg_n ev27 (by omega) h_N182
  have h_N183 := pg_n ev27 (by omega) h_N183
  have h_N184 := pg_n ev27 (by omega) h_N184
  have h_N185 := pg_n ev27 (by omega) h_N185
  have h_N186 := pg_n ev27 (by omega) h_N186
  have h_N187 := pg_n ev27 (by omega) h_N187
  have h_N188 := pg_n ev27 (by omega) h_N188
  have h_N189 := pg_n ev27 (by omega) h_N189
  have h_N190 := pg_n ev27 (by omega) h_N190
  have h_N191 := pg_n ev27 (by omega) h_N191
  have h_N192 := pg_s ev27
  refine pt_put21 eR_init_114 h_me trivial ?_
  refine pt_gen ?_
  intro hp28 ev28
  have h_me := pg_s ev28
  have h_N179 := pg_n ev28 (by omega) h_N179
  have h_N180 := pg_n ev28 (by omega) h_N180
  have h_N181 := pg_n ev28 (by omega) h_N181
  have h_N182 := pg_n ev28 (by omega) h_N182
  have h_N183 := pg_n ev28 (by omega) h_N183
  have h_N184 := pg_n ev28 (by omega) h_N184
  have h_N185 := pg_n ev28 (by omega) h_N185
  have h_N186 := pg_n ev28 (by omega) h_N186
  have h_N187 := pg_n ev28 (by omega) h_N187
  have h_N188 := pg_n ev28 (by omega) h_N188
  have h_N189 := pg_n ev28 (by omega) h_N189
  have h_N190 := pg_n ev28 (by omega) h_N190
  have h_N191 := pg_n ev28 (by omega) h_N191
  have h_N192 := pg_n ev28 (by omega) h_N192
  refine pt_aload eR_init_117 rfl ?_
  refine pt_ic eR_init_118 ?_
  refine mk_newa (kd := 0) (A := 90) (sz2 := 193) (ce2 := 15) (sl2 := 3573) eR_init_120 (Or.inl ⟨rfl, rfl⟩) rfl (by decide) rfl rfl rfl (Nat.le_of_ble_eq_true rfl) (Nat.le_of_ble_eq_true rfl) ?_
  refine pt_gen ?_
  intro hp29 ev29
  have h_me := pg_n ev29 (by omega) h_me
  have h_N179 := pg_n ev29 (by omega) h_N179
  have h_N180 := pg_n ev29 (by omega) h_N180
  have h_N181 := pg_n ev29 (by omega) h_N181
  have h_N182 := pg_n ev29 (by omega) h_N182
  have h_N183 := pg_n ev29 (by omega) h_N183
  have h_N184 := pg_n ev29 (by omega) h_N184
  have h_N185 := pg_n ev29 (by omega) h_N185
  have h_N186 := pg_n ev29 (by omega) h_N186
  have h_N187 := pg_n ev29 (by omega) h_N187
  have h_N188 := pg_n ev29 (by omega) h_N188
  have h_N189 := pg_n ev29 (by omega) h_N189
  have h_N190 := pg_n ev29 (by omega) h_N190
  have h_N191 := pg_n ev29 (by omega) h_N191
  have h_N192 := pg_n ev29 (by omega) h_N192
  have h_N193 := pg_s ev29
  refine pt_put22 eR_init_122 h_me trivial ?_
  refine pt_gen ?_
  intro hp30 ev30
  have h_me := pg_s ev30
  have h_N179 := pg_n ev30 (by omega) h_N179
  have h_N180 := pg_n ev30 (by omega) h_N180
  have h_N181 := pg_n ev30 (by omega) h_N181
  have h_N182 := pg_n ev30 (by omega) h_N182
  have h_N183 := pg_n ev30 (by omega) h_N183
  have h_N184 := pg_n ev30 (by omega) h_N184
  have h_N185 := pg_n ev30 (by omega) h_N185
  have h_N186 := pg_n ev30 (by omega) h_N186
  have h_N187 := pg_n ev30 (by omega) h_N187
  have h_N188 := pg_n ev30 (by omega) h_N188
  have h_N189 := pg_n ev30 (by omega) h_N189
  have h_N190 := pg_n ev30 (by omega) h_N190
  have h_N191 := pg_n ev30 (by omega) h_N191
  have h_N192 := pg_n ev30 (by omega) h_N192
  have h_N193 := pg_n ev30 (by omega) h_N193
  refine pt_aload eR_init_125 rfl ?_
  refine pt_ic eR_init_126 ?_
  refine mk_newa (kd := 0) (A := 305) (sz2 := 194) (ce2 := 16) (sl2 := 3878) eR_init_129 (Or.inl ⟨rfl, rfl⟩) rfl (by decide) rfl rfl rfl (Nat.le_of_ble_eq_true rfl) (Nat.le_of_ble_eq_true rfl) ?_
  refine pt_gen ?_
  intro hp31 ev31
  have h_me := pg_n ev31 (by omega) h_me
  have h_N179 := pg_n ev31 (by omega) h_N179
  have h_N180 := pg_n ev31 (by omega) h_N180
  have h_N181 := pg_n ev31 (by omega) h_N181
  have h_N182 := pg_n ev31 (by omega) h_N182
  have h_N183 := pg_n ev31 (by omega) h_N183
  have h_N184 := pg_n ev31 (by omega) h_N184
  have h_N185 := pg_n ev31 (by omega) h_N185
  have h_N186 := pg_n ev31 (by omega) h_N186
  have h_N187 := pg_n ev31 (by omega) h_N187
  have h_N188 := pg_n ev31 (by omega) h_N188
  have h_N189 := pg_n ev31 (by omega) h_N189
  have h_N190 := pg_n ev31 (by omega) h_N190
  have h_N191 := pg_n ev31 (by omega) h_N191
  have h_N192 := pg_n ev31 (by omega) h_N192
  have h_N193 := pg_n ev31 (by omega) h_N193
  have h_N194 := pg_s ev31
  refine pt_put23 eR_init_131 h_me trivial ?_
  refine pt_gen ?_
  intro hp32 ev32
  have h_me := pg_s ev32
  have h_N179 := pg_n ev32 (by omega) h_N179
  have h_N180 := pg_n ev32 (by omega) h_N180
  have h_N181 := pg_n ev32 (by omega) h_N181
  have h_N182 := pg_n ev32 (by omega) h_N182
  have h_N183 := pg_n ev32 (by omega) h_N183
  have h_N184 := pg_n ev32 (by omega) h_N184
  have h_N185 := pg_n ev32 (by omega) h_N185
  have h_N186 := pg_n ev32 (by omega) h_N186
  have h_N187 := pg_n ev32 (by omega) h_N187
  have h_N188 := pg_n ev32 (by omega) h_N188
  have h_N189 := pg_n ev32 (by omega) h_N189
  have h_N190 := pg_n ev32 (by omega) h_N190
  have h_N191 := pg_n ev32 (by omega) h_N191
  have h_N192 := pg_n ev32 (by omega) h_N192
  have h_N193 := pg_n ev32 (by omega) h_N193
  have h_N194 := pg_n ev32 (by omega) h_N194
  refine pt_aload eR_init_134 rfl ?_
  refine pt_ic eR_init_135 ?_
  refine mk_newa (kd := 0) (A := 4) (sz2 := 195) (ce2 := 17) (sl2 := 3882) eR_init_136 (Or.inl ⟨rfl, rfl⟩) rfl (by decide) rfl rfl rfl (Nat.le_of_ble_eq_true rfl) (Nat.le_of_ble_eq_true rfl) ?_
  refine pt_gen ?_
  intro hp33 ev33
  have h_me := pg_n ev33 (by omega) h_me
  have h_N179 := pg_n ev33 (by omega) h_N179
  have h_N180 := pg_n ev33 (by omega) h_N180
  have h_N181 := pg_n ev33 (by omega) h_N181
  have h_N182 := pg_n ev33 (by omega) h_N182
  have h_N183 := pg_n ev33 (by omega) h_N183
  have h_N184 := pg_n ev33 (by omega) h_N184
  have h_N185 := pg_n ev33 (by omega) h_N185
  have h_N186 := pg_n ev33 (by omega) h_N186
  have h_N187 := pg_n ev33 (by omega) h_N187
  have h_N188 := pg_n ev33 (by omega) h_N188
  have h_N189 := pg_n ev33 (by omega) h_N189
  have h_N190 := pg_n ev33 (by omega) h_N190
  have h_N191 := pg_n ev33 (by omega) h_N191
  have h_N192 := pg_n ev33 (by omega) h_N192
  have h_N193 := pg_n ev33 (by omega) h_N193
  have h_N194 := pg_n ev33 (by omega) h_N194
  have h_N195 := pg_s ev33
  refine pt_put24 eR_init_138 h_me trivial ?_
  refine pt_gen ?_
  intro hp34 ev34
  have h_me := pg_s ev34
  have h_N179 := pg_n ev34 (by omega) h_N179
  have h_N180 := pg_n ev34 (by omega) h_N180
  have h_N181 := pg_n ev34 (by omega) h_N181
  have h_N182 := pg_n ev34 (by omega) h_N182
  have h_N183 := pg_n ev34 (by omega) h_N183
  have h_N184 := pg_n ev34 (by omega) h_N184
  have h_N185 := pg_n ev34 (by omega) h_N185
  have h_N186 := pg_n ev34 (by omega) h_N186
  have h_N187 := pg_n ev34 (by omega) h_N187
  have h_N188 := pg_n ev34 (by omega) h_N188
  have h_N189 := pg_n ev34 (by omega) h_N189
  have h_N190 := pg_n ev34 (by omega) h_N190
  have h_N191 := pg_n ev34 (by omega) h_N191
  have h_N192 := pg_n ev34 (by omega) h_N192
  have h_N193 := pg_n ev34 (by omega) h_N193
  have h_N194 := pg_n ev34 (by omega) h_N194
  have h_N195 := pg_n ev34 (by omega) h_N195
  refine pt_aload eR_init_141 rfl ?_
  refine pt_ic eR_init_142 ?_
  refine mk_newa (kd := 0) (A := 4) (sz2 := 196) (ce2 := 18) (sl2 := 3886) eR_init_143 (Or.inl ⟨rfl, rfl⟩) rfl (by decide) rfl rfl rfl (Nat.le_of_ble_eq_true rfl) (Nat.le_of_ble_eq_true rfl) ?_
  refine pt_gen ?_
  intro hp35 ev35
  have h_me := pg_n ev35 (by omega) h_me
  have h_N179 := pg_n ev35 (by omega) h_N179
  have h_N180 := pg_n ev35 (by omega) h_N180
  have h_N181 := pg_n ev35 (by omega) h_N181
  have h_N182 := pg_n ev35 (by omega) h_N182
  have h_N183 := pg_n ev35 (by omega) h_N183
  have h_N184 := pg_n ev35 (by omega) h_N184
  have h_N185 := pg_n ev35 (by omega) h_N185
  have h_N186 := pg_n ev35 (by omega) h_N186
  have h_N187 := pg_n ev35 (by omega) h_N187
  have h_N188 := pg_n ev35 (by omega) h_N188
  have h_N189 := pg_n ev35 (by omega) h_N189
  have h_N190 := pg_n ev35 (by omega) h_N190
  have h_N191 := pg_n ev35 (by omega) h_N191
  have h_N192 := pg_n ev35 (by omega) h_N192
  have h_N193 := pg_n ev35 (by omega) h_N193
  have h_N194 := pg_n ev35 (by omega) h_N194
  have h_N195 := pg_n ev35 (by omega) h_N195
  have h_N196 := pg_s ev35
  refine pt_put25 eR_init_145 h_me trivial ?_
  refine pt_gen ?_
  intro hp36 ev36
  have h_me := pg_s ev36
  have h_N179 := pg_n ev36 (by omega) h_N179
  have h_N180 := pg_n ev36 (by omega) h_N180
  have h_N181 := pg_n ev36 (by omega) h_N181
  have h_N182 := pg_n ev36 (by omega) h_N182
  have h_N183 := pg_n ev36 (by omega) h_N183
  have h_N184 := pg_n ev36 (by omega) h_N184
  have h_N185 := pg_n ev36 (by omega) h_N185
  have h_N186 := pg_n ev36 (by omega) h_N186
  have h_N187 := pg_n ev36 (by omega) h_N187
  have h_N188 := pg_n ev36 (by omega) h_N188
  have h_N189 := pg_n ev36 (by omega) h_N189
  have h_N190 := pg_n ev36 (by omega) h_N190
  have h_N191 := pg_n ev36 (by omega) h_N191
  have h_N192 := pg_n ev36 (by omega) h_N192
  have h_N193 := pg_n ev36 (by omega) h_N193
  have h_N194 := pg_n ev36 (by omega) h_N194
  have h_N195 := pg_n ev36 (by omega) h_N195
  have h_N196 := pg_n ev36 (by omega) h_N196
  refine pt_aload eR_init_148 rfl ?_
  refine pt_ic eR_init_149 ?_
  refine mk_newa (kd := 0) (A := 4) (sz2 := 197) (ce2 := 19) (sl2 := 3890) eR_init_150 (Or.inl ⟨rfl, rfl⟩) rfl (by decide) rfl rfl rfl (Nat.le_of_ble_eq_true rfl) (Nat.le_of_ble_eq_true rfl) ?_
  refine pt_gen ?_
  intro hp37 ev37
  have h_me := pg_n ev37 (by omega) h_me
  have h_N179 := pg_n ev37 (by omega) h_N179
  have h_N180 := pg_n ev37 (by omega) h_N180
  have h_N181 := pg_n ev37 (by omega) h_N181
  have h_N182 := pg_n ev37 (by omega) h_N182
  have h_N183 := pg_n ev37 (by omega) h_N183
  have h_N184 := pg_n ev37 (by omega) h_N184
  have h_N185 := pg_n ev37 (by omega) h_N185
  have h_N186 := pg_n ev37 (by omega) h_N186
  have h_N187 := pg_n ev37 (by omega) h_N187
  have h_N188 := pg_n ev37 (by omega) h_N188
  have h_N189 := pg_n ev37 (by omega) h_N189
  have h_N190 := pg_n ev37 (by omega) h_N190
  have h_N191 := pg_n ev37 (by omega) h_N191
  have h_N192 := pg_n ev37 (by omega) h_N192
  have h_N193 := pg_n ev37 (by omega) h_N193
  have h_N194 := pg_n ev37 (by omega) h_N194
  have h_N195 := pg_n ev37 (by omega) h_N195
  have h_N196 := pg_n ev37 (by omega) h_N196
  have h_N197 := pg_s ev37
  refine pt_put27 eR_init_152 h_me trivial ?_
  refine pt_gen ?_
  intro hp38 ev38
  have h_me := pg_s ev38
  have h_N179 := pg_n ev38 (by omega) h_N179
  have h_N180 := pg_n ev38 (by omega) h_N180
  have h_N181 := pg_n ev38 (by omega) h_N181
  have h_N182 := pg_n ev38 (by omega) h_N182
  have h_N183 := pg_n ev38 (by omega) h_N183
  have h_N184 := pg_n ev38 (by omega) h_N184
  have h_N185 := pg_n ev38 (by omega) h_N185
  have h_N186 := pg_n ev38 (by omega) h_N186
  have h_N187 := pg_n ev38 (by omega) h_N187
  have h_N188 := pg_n ev38 (by omega) h_N188
  have h_N189 := pg_n ev38 (by omega) h_N189
  have h_N190 := pg_n ev38 (by omega) h_N190
  have h_N191 := pg_n ev38 (by omega) h_N191
  have h_N192 := pg_n ev38 (by omega) h_N192
  have h_N193 := pg_n ev38 (by omega) h_N193
  have h_N194 := pg_n ev38 (by omega) h_N194
  have h_N195 := pg_n ev38 (by omega) h_N195
  have h_N196 := pg_n ev38 (by omega) h_N196
  have h_N197 := pg_n ev38 (by omega) h_N197
  refine pt_aload eR_init_155 rfl ?_
  refine pt_ic eR_init_156 ?_
  refine mk_newa (kd := 0) (A := 4) (sz2 := 198) (ce2 := 20) (sl2 := 3894) eR_init_157 (Or.inl ⟨rfl, rfl⟩) rfl (by decide) rfl rfl rfl (Nat.le_of_ble_eq_true rfl) (Nat.le_of_ble_eq_true rfl) ?_
  refine pt_gen ?_
  intro hp39 ev39
  have h_me := pg_n ev39 (by omega) h_me
  have h_N179 := pg_n ev39 (by omega) h_N179
  have h_N180 := pg_n ev39 (by omega) h_N180
  have h_N181 := pg_n ev39 (by omega) h_N181
  have h_N182 := pg_n ev39 (by omega) h_N182
  have h_N183 := pg_n ev39 (by omega) h_N183
  have h_N184 := pg_n ev39 (by omega) h_N184
  have h_N185 := pg_n ev39 (by omega) h_N185
  have h_N186 := pg_n ev39 (by omega) h_N186
  have h_N187 := pg_n ev39 (by omega) h_N187
  have h_N188 := pg_n ev39 (by omega) h_N188
  have h_N189 := pg_n ev39 (by omega) h_N189
  have h_N190 := pg_n ev39 (by omega) h_N190
  have h_N191 := pg_n ev39 (by omega) h_N191
  have h_N192 := pg_n ev39 (by omega) h_N192
  have h_N193 := pg_n ev39 (by omega) h_N193
  have h_N194 := pg_n ev39 (by omega) h_N194
  have h_N195 := pg_n ev39 (by omega) h_N195
  have h_N196 := pg_n ev39 (by omega) h_N196
  have h_N197 := pg_n ev39 (by omega) h_N197
  have h_N198 := pg_s ev39
  refine pt_put28 eR_init_159 h_me trivial ?_
  refine pt_gen ?_
  intro hp40 ev40
  have h_me := pg_s ev40
  have h_N179 := pg_n ev40 (by omega) h_N179
  have h_N180 := pg_n ev40 (by omega) h_N180
  have h_N181 := pg_n ev40 (by omega) h_N181
  have h_N182 := pg_n ev40 (by omega) h_N182
  have h_N183 := pg_n ev40 (by omega) h_N183
  have h_N184 := pg_n ev40 (by omega) h_N184
  have h_N185 := pg_n ev40 (by omega) h_N185
  have h_N186 := pg_n ev40 (by omega) h_N186
  have h_N187 := pg_n ev40 (by omega) h_N187
  have h_N188 := pg_n ev40 (by omega) h_N188
  have h_N189 := pg_n ev40 (by omega) h_N189
  have h_N190 := pg_n ev40 (by omega) h_N190
  have h_N191 := pg_n ev40 (by omega) h_N191
  have h_N192 := pg_n ev40 (by omega) h_N192
  have h_N193 := pg_n ev40 (by omega) h_N193
  have h_N194 := pg_n ev40 (by omega) h_N194
  have h_N195 := pg_n ev40 (by omega) h_N195
  have h_N196 := pg_n ev40 (by omega) h_N196
  have h_N197 := pg_n ev40 (by omega) h_N197
  have h_N198 := pg_n ev40 (by omega) h_N198
  refine pt_aload eR_init_162 rfl ?_
  refine pt_ic eR_init_163 ?_
  refine mk_newa (kd := 0) (A := 21) (sz2 := 199) (ce2 := 21) (sl2 := 3915) eR_init_165 (Or.inl ⟨rfl, rfl⟩) rfl (by decide) rfl rfl rfl (Nat.le_of_ble_eq_true rfl) (Nat.le_of_ble_eq_true rfl) ?_
  refine pt_gen ?_
  intro hp41 ev41
  have h_me := pg_n ev41 (by omega) h_me
  have h_N179 := pg_n ev41 (by omega) h_N179
  have h_N180 := pg_n ev41 (by omega) h_N180
  have h_N181 := pg_n ev41 (by omega) h_N181
  have h_N182 := pg_n ev41 (by omega) h_N182
  have h_N183 := pg_n ev41 (by omega) h_N183
  have h_N184 := pg_n ev41 (by omega) h_N184
  have h_N185 := pg_n ev41 (by omega) h_N185
  have h_N186 := pg_n ev41 (by omega) h_N186
  have h_N187 := pg_n ev41 (by omega) h_N187
  have h_N188 := pg_n ev41 (by omega) h_N188
  have h_N189 := pg_n ev41 (by omega) h_N189
  have h_N190 := pg_n ev41 (by omega) h_N190
  have h_N191 := pg_n ev41 (by omega) h_N191
  have h_N192 := pg_n ev41 (by omega) h_N192
  have h_N193 := pg_n ev41 (by omega) h_N193
  have h_N194 := pg_n ev41 (by omega) h_N194
  have h_N195 := pg_n ev41 (by omega) h_N195
  have h_N196 := pg_n ev41 (by omega) h_N196
  have h_N197 := pg_n ev41 (by omega) h_N197
  have h_N198 := pg_n ev41 (by omega) h_N198
  have h_N199 := pg_s ev41
  refine pt_put30 eR_init_167 h_me trivial ?_
  refine pt_gen ?_
  intro hp42 ev42
  have h_me := pg_s ev42
  have h_N179 := pg_n ev42 (by omega) h_N179
  have h_N180 := pg_n ev42 (by omega) h_N180
  have h_N181 := pg_n ev42 (by omega) h_N181
  have h_N182 := pg_n ev42 (by omega) h_N182
  have h_N183 := pg_n ev42 (by omega) h_N183
  have h_N184 := pg_n ev42 (by omega) h_N184
  have h_N185 := pg_n ev42 (by omega) h_N185
  have h_N186 := pg_n ev42 (by omega) h_N186
  have h_N187 := pg_n ev42 (by omega) h_N187
  have h_N188 := pg_n ev42 (by omega) h_N188
  have h_N189 := pg_n ev42 (by omega) h_N189
  have h_N190 := pg_n ev42 (by omega) h_N190
  have h_N191 := pg_n ev42 (by omega) h_N191
  have h_N192 := pg_n ev42 (by omega) h_N192
  have h_N193 := pg_n ev42 (by omega) h_N193
  have h_N194 := pg_n ev42 (by omega) h_N194
  have h_N195 := pg_n ev42 (by omega) h_N195
  have h_N196 := pg_n ev42 (by omega) h_N196
  have h_N197 := pg_n ev42 (by omega) h_N197
  have h_N198 := pg_n ev42 (by omega) h_N198
  have h_N199 := pg_n ev42 (by omega) h_N199
  refine pt_aload eR_init_170 rfl ?_
  refine pt_get eR_init_171 h_me rfl ?_
  refine pt_ic eR_init_174 ?_
  refine pt_ic eR_init_175 ?_
  refine pt_iast eR_init_176 h_N180 (by omega) (by omega) (by decide) ?_
  refine pt_gen ?_
  intro hp43 ev43
  have h_me := pg_n ev43 (by omega) h_me
  have h_N179 := pg_n ev43 (by omega) h_N179
  have h_N180 := pg_s ev43
  have h_N181 := pg_n ev43 (by omega) h_N181
  have h_N182 := pg_n ev43 (by omega) h_N182
  have h_N183 := pg_n ev43 (by omega) h_N183
  have h_N184 := pg_n ev43 (by omega) h_N184
  have h_N185 := pg_n ev43 (by omega) h_N185
  have h_N186 := pg_n ev43 (by omega) h_N186
  have h_N187 := pg_n ev43 (by omega) h_N187
  have h_N188 := pg_n ev43 (by omega) h_N188
  have h_N189 := pg_n ev43 (by omega) h_N189
  have h_N190 := pg_n ev43 (by omega) h_N190
  have h_N191 := pg_n ev43 (by omega) h_N191
  have h_N192 := pg_n ev43 (by omega) h_N192
  have h_N193 := pg_n ev43 (by omega) h_N193
  have h_N194 := pg_n ev43 (by omega) h_N194
  have h_N195 := pg_n ev43 (by omega) h_N195
  have h_N196 := pg_n ev43 (by omega) h_N196
  have h_N197 := pg_n ev43 (by omega) h_N197
  have h_N198 := pg_n ev43 (by omega) h_N198
  have h_N199 := pg_n ev43 (by omega) h_N199
  refine pt_aload eR_init_177 rfl ?_
  refine pt_get eR_init_178 h_me rfl ?_
  refine pt_ic eR_init_181 ?_
  refine pt_ic eR_init_182 ?_
  refine pt_iast eR_init_183 h_N180 (by omega) (by omega) (by decide) ?_
  refine pt_gen ?_
  intro hp44 ev44
  have h_me := pg_n ev44 (by omega) h_me
  have h_N179 := pg_n ev44 (by omega) h_N179
  have h_N180 := pg_s ev44
  have h_N181 := pg_n ev44 (by omega) h_N181
  have h_N182 := pg_n ev44 (by omega) h_N182
  have h_N183 := pg_n ev44 (by omega) h_N183
  have h_N184 := pg_n ev44 (by omega) h_N184
  have h_N185 := pg_n ev44 (by omega) h_N185
  have h_N186 := pg_n ev44 (by omega) h_N186
  have h_N187 := pg_n ev44 (by omega) h_N187
  have h_N188 := pg_n ev44 (by omega) h_N188
  have h_N189 := pg_n ev44 (by omega) h_N189
  have h_N190 := pg_n ev44 (by omega) h_N190
  have h_N191 := pg_n ev44 (by omega) h_N191
  have h_N192 := pg_n ev44 (by omega) h_N192
  have h_N193 := pg_n ev44 (by omega) h_N193
  have h_N194 := pg_n ev44 (by omega) h_N194
  have h_N195 := pg_n ev44 (by omega) h_N195
  have h_N196 := pg_n ev44 (by omega) h_N196
  have h_N197 := pg_n ev44 (by omega) h_N197
  have h_N198 := pg_n ev44 (by omega) h_N198
  have h_N199 := pg_n ev44 (by omega) h_N199
  refine pt_vret eR_init_184 (Nat.le_refl _) (Nat.le_refl _) ?_
  exact ⟨rfl, rfl, ⟨h_me, h_N179, h_N180, h_N181, h_N182, h_N183, h_N184, h_N185, h_N186, h_N187, h_N188, h_N189, h_N190, h_N191, h_N192, h_N193, h_N194, h_N195, h_N196, h_N197, h_N198, h_N199⟩, ((((((((((((((((((((((((((((((((((((((((((((fr.rf.up ev1 (by omega) (by omega)).up ev2 (by omega) (by omega)).up ev3 (by omega) (by omega)).up ev4 (by omega) (by omega)).up ev5 (by omega) (by omega)).up ev6 (by omega) (by omega)).up ev7 (by omega) (by omega)).up ev8 (by omega) (by omega)).up ev9 (by omega) (by omega)).up ev10 (by omega) (by omega)).up ev11 (by omega) (by omega)).up ev12 (by omega) (by omega)).up ev13 (by omega) (by omega)).up ev14 (by omega) (by omega)).up ev15 (by omega) (by omega)).up ev16 (by omega) (by omega)).up ev17 (by omega) (by omega)).up ev18 (by omega) (by omega)).up ev19 (by omega) (by omega)).up ev20 (by omega) (by omega)).up ev21 (by omega) (by omega)).up ev22 (by omega) (by omega)).up ev23 (by omega) (by omega)).up ev24 (by omega) (by omega)).up ev25 (by omega) (by omega)).up ev26 (by omega) (by omega)).up ev27 (by omega) (by omega)).up ev28 (by omega) (by omega)).up ev29 (by omega) (by omega)).up ev30 (by omega) (by omega)).up ev31 (by omega) (by omega)).up ev32 (by omega) (by omega)).up ev33 (by omega) (by omega)).up ev34 (by omega) (by omega)).up ev35 (by omega) (by omega)).up ev36 (by omega) (by omega)).up ev37 (by omega) (by omega)).up ev38 (by omega) (by omega)).up ev39 (by omega) (by omega)).up ev40 (by omega) (by omega)).up ev41 (by omega) (by omega)).up ev42 (by omega) (by omega)).up ev43 (by omega) (by omega)).up ev44 (by omega) (by omega))⟩
theorem cD_init (G : pd_G) (hp : pd_P) (h_me : hp 1 = ob 11 [vn, vn, vn, vn, vn, vn, vn, vn, vn, vn, vn, vn, vn, vi 0, vi 0]) : pd_C G mD_init 4 176 4803 [vr 1] 1 hp (fun v' sz' hp' => v' = none ∧ sz' = 177 ∧ CW hp' 70 78 q00 v00 ∧ fr hp hp' 1 178) := by
  refine pd_con kD_init [some (vr 1), none] rfl rfl (Nat.le_of_ble_eq_true rfl) ?_
  refine pt_aload eD_init_0 rfl ?_
  refine pt_oinit eD_init_1 (by decide) (Nat.le_of_ble_eq_true rfl) ?_
  refine pt_aload eD_init_4 rfl ?_
  refine mk_new (sz2 := 2) (ce2 := 1) (sl2 := 8) eD_init_5 df10 rfl rfl rfl (Nat.le_of_ble_eq_true rfl) (Nat.le_of_ble_eq_true rfl) ?_
  refine pt_gen ?_
  intro hp1 ev1
  have h_me := pg_n ev1 (by omega) h_me
  have h_N2 := pg_s ev1
  refine pt_dupr eD_init_8 ?_
  refine mk_kI (ce2 := 3) (sl2 := 162) eD_init_9 (cT_init G 1 _ h_N2) rfl (Nat.le_of_ble_eq_true rfl) (Nat.le_of_ble_eq_true rfl) rfl rfl (Nat.le_of_ble_eq_true rfl) (Nat.le_of_ble_eq_true rfl) ?_
  rintro v2 sz2 hp2 ⟨rfl, hz9, ⟨h_T, h_Tb, h_Tn⟩, hf2⟩
  obtain rfl : sz2 = 4 := hz9
  have h_me := hf2.at (by omega) h_me
  have h_T : hp2 2 = ob 10 [vr 3, vi 0, vr 4, vi 0, vi 0, vi 0, vi 0, vi 0] := h_T
  have h_Tb : hp2 3 = ia 150 (fun _ => 0) := h_Tb
  have h_Tn : hp2 4 = ia 4 (fun _ => 0) := h_Tn
  refine pt_put0 eD_init_12 h_me trivial ?_
  refine pt_gen ?_
  intro hp3 ev3
  have h_me := pg_s ev3
  have h_T := pg_n ev3 (by omega) h_T
  have h_Tb := pg_n ev3 (by omega) h_Tb
  have h_Tn := pg_n ev3 (by omega) h_Tn
  refine pt_aload eD_init_15 rfl ?_
  refine mk_new (sz2 := 5) (ce2 := 4) (sl2 := 165) eD_init_16 df6 rfl rfl rfl (Nat.le_of_ble_eq_true rfl) (Nat.le_of_ble_eq_true rfl) ?_
  refine pt_gen ?_
  intro hp4 ev4
  have h_me := pg_n ev4 (by omega) h_me
  have h_T := pg_n ev4 (by omega) h_T
  have h_Tb := pg_n ev4 (by omega) h_Tb
  have h_Tn := pg_n ev4 (by omega) h_Tn
  have h_N5 := pg_s ev4
  refine pt_dupr eD_init_19 ?_
  refine mk_kI (ce2 := 49) (sl2 := 1198) eD_init_20 (cL_init G 4 _ h_N5) rfl (Nat.le_of_ble_eq_true rfl) (Nat.le_of_ble_eq_true rfl) rfl rfl (Nat.le_of_ble_eq_true rfl) (Nat.le_of_ble_eq_true rfl) ?_
  rintro v2 sz2 hp5 ⟨rfl, hz9, h_L5, hf5⟩
  obtain rfl : sz2 = 50 := hz9
  have h_me := hf5.at (by omega) h_me
  have h_T := hf5.at (by omega) h_T
  have h_Tb := hf5.at (by omega) h_Tb
  have h_Tn := hf5.at (by omega) h_Tn
  have h_L5 : LiA hp5 5 (fun _ => 0) 0 (fun _ _ => 0) := h_L5
  refine pt_put1 eD_init_23 h_me trivial ?_
  refine pt_gen ?_
  intro hp6 ev6
  have h_me := pg_s ev6
  have h_T := pg_n ev6 (by omega) h_T
  have h_Tb := pg_n ev6 (by omega) h_Tb
  have h_Tn := pg_n ev6 (by omega) h_Tn
  have h_L5 := h_L5.fr (fr.wr ev6) (by omega)
  refine pt_aload eD_init_26 rfl ?_
  refine pt_ic eD_init_27 ?_
  refine mk_newq (kd := 3) (A := 2) (sz2 := 51) (ce2 := 50) (sl2 := 1200) eD_init_28 (Or.inl ⟨rfl, rfl⟩) rfl (by decide) rfl rfl rfl (Nat.le_of_ble_eq_true rfl) (Nat.le_of_ble_eq_true rfl) ?_
  refine pt_gen ?_
  intro hp7 ev7
  have h_me := pg_n ev7 (by omega) h_me
  have h_T := pg_n ev7 (by omega) h_T
  have h_Tb := pg_n ev7 (by omega) h_Tb
  have h_Tn := pg_n ev7 (by omega) h_Tn
  have h_L5 := h_L5.fr (fr.wr ev7) (by omega)
  have h_N51 := pg_s ev7
  refine pt_put2 eD_init_31 h_me trivial ?_
  refine pt_gen ?_
  intro hp8 ev8
  have h_me := pg_s ev8
  have h_T := pg_n ev8 (by omega) h_T
  have h_Tb := pg_n ev8 (by omega) h_Tb
  have h_Tn := pg_n ev8 (by omega) h_Tn
  have h_N51 := pg_n ev8 (by omega) h_N51
  have h_L5 := h_L5.fr (fr.wr ev8) (by omega)
  refine pt_aload eD_init_34 rfl ?_
  refine pt_ic eD_init_35 ?_
  refine mk_newa (kd := 2) (A := 2) (sz2 := 52) (ce2 := 51) (sl2 := 1202) eD_init_36 (Or.inr (Or.inr ⟨rfl, rfl⟩)) rfl (by decide) rfl rfl rfl (Nat.le_of_ble_eq_true rfl) (Nat.le_of_ble_eq_true rfl) ?_
  refine pt_gen ?_
  intro hp9 ev9
  have h_me := pg_n ev9 (by omega) h_me
  have h_T := pg_n ev9 (by omega) h_T
  have h_Tb := pg_n ev9 (by omega) h_Tb
  have h_Tn := pg_n ev9 (by omega) h_Tn
  have h_N51 := pg_n ev9 (by omega) h_N51
  have h_L5 := h_L5.fr (fr.wr ev9) (by omega)
  have h_N52 := pg_s ev9
  refine pt_put3 eD_init_38 h_me trivial ?_
  refine pt_gen ?_
  intro hp10 ev10
  have h_me := pg_s ev10
  have h_T := pg_n ev10 (by omega) h_T
  have h_Tb := pg_n ev10 (by omega) h_Tb
  have h_Tn := pg_n ev10 (by omega) h_Tn
  have h_N51 := pg_n ev10 (by omega) h_N51
  have h_N52 := pg_n ev10 (by omega) h_N52
  have h_L5 := h_L5.fr (fr.wr ev10) (by omega)
  refine pt_aload eD_init_41 rfl ?_
  refine pt_ic eD_init_42 ?_
  refine mk_newa (kd := 0) (A := 4) (sz2 := 53) (ce2 := 52) (sl2 := 1206) eD_init_43 (Or.inl ⟨rfl, rfl⟩) rfl (by decide) rfl rfl rfl (Nat.le_of_ble_eq_true rfl) (Nat.le_of_ble_eq_true rfl) ?_
  refine pt_gen ?_
  intro hp11 ev11
  have h_me := pg_n ev11 (by omega) h_me
  have h_T := pg_n ev11 (by omega) h_T
  have h_Tb := pg_n ev11 (by omega) h_Tb
  have h_Tn := pg_n ev11 (by omega) h_Tn
  have h_N51 := pg_n ev11 (by omega) h_N51
  have h_N52 := pg_n ev11 (by omega) h_N52
  have h_L5 := h_L5.fr (fr.wr ev11) (by omega)
  have h_N53 := pg_s ev11
  refine pt_put4 eD_init_45 h_me trivial ?_
  refine pt_gen ?_
  intro hp12 ev12
  have h_me := pg_s ev12
  have h_T := pg_n ev12 (by omega) h_T
  have h_Tb := pg_n ev12 (by omega) h_Tb
  have h_Tn := pg_n ev12 (by omega) h_Tn
  have h_N51 := pg_n ev12 (by omega) h_N51
  have h_N52 := pg_n ev12 (by omega) h_N52
  have h_N53 := pg_n ev12 (by omega) h_N53
  have h_L5 := h_L5.fr (fr.wr ev12) (by omega)
  refine pt_aload eD_init_48 rfl ?_
  refine pt_ic eD_init_49 ?_
  refine mk_newa (kd := 0) (A := 4) (sz2 := 54) (ce2 := 53) (sl2 := 1210) eD_init_50 (Or.inl ⟨rfl, rfl⟩) rfl (by decide) rfl rfl rfl (Nat.le_of_ble_eq_true rfl) (Nat.le_of_ble_eq_true rfl) ?_
  refine pt_gen ?_
  intro hp13 ev13
  have h_me := pg_n ev13 (by omega) h_me
  have h_T := pg_n ev13 (by omega) h_T
  have h_Tb := pg_n ev13 (by omega) h_Tb
  have h_Tn := pg_n ev13 (by omega) h_Tn
  have h_N51 := pg_n ev13 (by omega) h_N51
  have h_N52 := pg_n ev13 (by omega) h_N52
  have h_N53 := pg_n ev13 (by omega) h_N53
  have h_L5 := h_L5.fr (fr.wr ev13) (by omega)
  have h_N54 := pg_s ev13
  refine pt_put5 eD_init_52 h_me trivial ?_
  refine pt_gen ?_
  intro hp14 ev14
  have h_me := pg_s ev14
  have h_T := pg_n ev14 (by omega) h_T
  have h_Tb := pg_n ev14 (by omega) h_Tb
  have h_Tn := pg_n ev14 (by omega) h_Tn
  have h_N51 := pg_n ev14 (by omega) h_N51
  have h_N52 := pg_n ev14 (by omega) h_N52
  have h_N53 := pg_n ev14 (by omega) h_N53
  have h_N54 := pg_n ev14 (by omega) h_N54
  have h_L5 := h_L5.fr (fr.wr ev14) (by omega)
  refine pt_aload eD_init_55 rfl ?_
  refine pt_ic eD_init_56 ?_
  refine mk_newa (kd := 0) (A := 4) (sz2 := 55) (ce2 := 54) (sl2 := 1214) eD_init_57 (Or.inl ⟨rfl, rfl⟩) rfl (by decide) rfl rfl rfl (Nat.le_of_ble_eq_true rfl) (Nat.le_of_ble_eq_true rfl) ?_
  refine pt_gen ?_
  intro hp15 ev15
  have h_me := pg_n ev15 (by omega) h_me
  have h_T := pg_n ev15 (by omega) h_T
  have h_Tb := pg_n ev15 (by omega) h_Tb
  have h_Tn := pg_n ev15 (by omega) h_Tn
  have h_N51 := pg_n ev15 (by omega) h_N51
  have h_N52 := pg_n ev15 (by omega) h_N52
  have h_N53 := pg_n ev15 (by omega) h_N53
  have h_N54 := pg_n ev15 (by omega) h_N54
  have h_L5 := h_L5.fr (fr.wr ev15) (by omega)
  have h_N55 := pg_s ev15
  refine pt_put6 eD_init_59 h_me trivial ?_
  refine pt_gen ?_
  intro hp16 ev16
  have h_me := pg_s ev16
  have h_T := pg_n ev16 (by omega) h_T
  have h_Tb := pg_n ev16 (by omega) h_Tb
  have h_Tn := pg_n ev16 (by omega) h_Tn
  have h_N51 := pg_n ev16 (by omega) h_N51
  have h_N52 := pg_n ev16 (by omega) h_N52
  have h_N53 := pg_n ev16 (by omega) h_N53
  have h_N54 := pg_n ev16 (by omega) h_N54
  have h_N55 := pg_n ev16 (by omega) h_N55
  have h_L5 := h_L5.fr (fr.wr ev16) (by omega)
  refine pt_aload eD_init_62 rfl ?_
  refine pt_ic eD_init_63 ?_
  refine mk_newa (kd := 0) (A := 4) (sz2 := 56) (ce2 := 55) (sl2 := 1218) eD_init_64 (Or.inl ⟨rfl, rfl⟩) rfl (by decide) rfl rfl rfl (Nat.le_of_ble_eq_true rfl) (Nat.le_of_ble_eq_true rfl) ?_
  refine pt_gen ?_
  intro hp17 ev17
  have h_me := pg_n ev17 (by omega) h_me
  have h_T := pg_n ev17 (by omega) h_T
  have h_Tb := pg_n ev17 (by omega) h_Tb
  have h_Tn := pg_n ev17 (by omega) h_Tn
  have h_N51 := pg_n ev17 (by omega) h_N51
  have h_N52 := pg_n ev17 (by omega) h_N52
  have h_N53 := pg_n ev17 (by omega) h_N53
  have h_N54 := pg_n ev17 (by omega) h_N54
  have h_N55 := pg_n ev17 (by omega) h_N55
  have h_L5 := h_L5.fr (fr.wr ev17) (by omega)
  have h_N56 := pg_s ev17
  refine pt_put7 eD_init_66 h_me trivial ?_
  refine pt_gen ?_
  intro hp18 ev18
  have h_me := pg_s ev18
  have h_T := pg_n ev18 (by omega) h_T
  have h_Tb := pg_n ev18 (by omega) h_Tb
  have h_Tn := pg_n ev18 (by omega) h_Tn
  have h_N51 := pg_n ev18 (by omega) h_N51
  have h_N52 := pg_n ev18 (by omega) h_N52
  have h_N53 := pg_n ev18 (by omega) h_N53
  have h_N54 := pg_n ev18 (by omega) h_N54
  have h_N55 := pg_n ev18 (by omega) h_N55
  have h_N56 := pg_n ev18 (by omega) h_N56
  have h_L5 := h_L5.fr (fr.wr ev18) (by omega)
  refine pt_aload eD_init_69 rfl ?_
  refine pt_ic eD_init_70 ?_
  refine mk_newa (kd := 0) (A := 305) (sz2 := 57) (ce2 := 56) (sl2 := 1523) eD_init_73 (Or.inl ⟨rfl, rfl⟩) rfl (by decide) rfl rfl rfl (Nat.le_of_ble_eq_true rfl) (Nat.le_of_ble_eq_true rfl) ?_
  refine pt_gen ?_
  intro hp19 ev19
  have h_me := pg_n ev19 (by omega) h_me
  have h_T := pg_n ev19 (by omega) h_T
  have h_Tb := pg_n ev19 (by omega) h_Tb
  have h_Tn := pg_n ev19 (by omega) h_Tn
  have h_N51 := pg_n ev19 (by omega) h_N51
  have h_N52 := pg_n ev19 (by omega) h_N52
  have h_N53 := pg_n ev19 (by omega) h_N53
  have h_N54 := pg_n ev19 (by omega) h_N54
  have h_N55 := pg_n ev19 (by omega) h_N55
  have h_N56 := pg_n ev19 (by omega) h_N56
  have h_L5 := h_L5.fr (fr.wr ev19) (by omega)
  have h_N57 := pg_s ev19
  refine pt_put8 eD_init_75 h_me trivial ?_
  refine pt_gen ?_
  intro hp20 ev20
  have h_me := pg_s ev20
  have h_T := pg_n ev20 (by omega) h_T
  have h_Tb := pg_n ev20 (by omega) h_Tb
  have h_Tn := pg_n ev20 (by omega) h_Tn
  have h_N51 := pg_n ev20 (by omega) h_N51
  have h_N52 := pg_n ev20 (by omega) h_N52
  have h_N53 := pg_n ev20 (by omega) h_N53
  have h_N54 := pg_n ev20 (by omega) h_N54
  have h_N55 := pg_n ev20 (by omega) h_N55
  have h_N56 := pg_n ev20 (by omega) h_N56
  have h_N57 := pg_n ev20 (by omega) h_N57
  have h_L5 := h_L5.fr (fr.wr ev20) (by omega)
  refine pt_aload eD_init_78 rfl ?_
  refine mk_new (sz2 := 58) (ce2 := 57) (sl2 := 1529) eD_init_79 df7 rfl rfl rfl (Nat.le_of_ble_eq_true rfl) (Nat.le_of_ble_eq_true rfl) ?_
  refine pt_gen ?_
  intro hp21 ev21
  have h_me := pg_n ev21 (by omega) h_me
  have h_T := pg_n ev21 (by omega) h_T
  have h_Tb := pg_n ev21 (by omega) h_Tb
  have h_Tn := pg_n ev21 (by omega) h_Tn
  have h_N51 := pg_n ev21 (by omega) h_N51
  have h_N52 := pg_n ev21 (by omega) h_N52
  have h_N53 := pg_n ev21 (by omega) h_N53
  have h_N54 := pg_n ev21 (by omega) h_N54
  have h_N55 := pg_n ev21 (by omega) h_N55
  have h_N56 := pg_n ev21 (by omega) h_N56
  have h_N57 := pg_n ev21 (by omega) h_N57
  have h_L5 := h_L5.fr (fr.wr ev21) (by omega)
  have h_N58 := pg_s ev21
  refine pt_dupr eD_init_82 ?_
  refine mk_kI (ce2 := 61) (sl2 := 2179) eD_init_83 (cP_init G 57 _ h_N58) rfl (Nat.le_of_ble_eq_true rfl) (Nat.le_of_ble_eq_true rfl) rfl rfl (Nat.le_of_ble_eq_true rfl) (Nat.le_of_ble_eq_true rfl) ?_
  rintro v2 sz2 hp22 ⟨rfl, hz9, ⟨h_P, h_P1, h_P2, h_P3, h_P4⟩, hf22⟩
  obtain rfl : sz2 = 62 := hz9
  have h_me := hf22.at (by omega) h_me
  have h_T := hf22.at (by omega) h_T
  have h_Tb := hf22.at (by omega) h_Tb
  have h_Tn := hf22.at (by omega) h_Tn
  have h_N51 := hf22.at (by omega) h_N51
  have h_N52 := hf22.at (by omega) h_N52
  have h_N53 := hf22.at (by omega) h_N53
  have h_N54 := hf22.at (by omega) h_N54
  have h_N55 := hf22.at (by omega) h_N55
  have h_N56 := hf22.at (by omega) h_N56
  have h_N57 := hf22.at (by omega) h_N57
  have h_L5 := h_L5.fr hf22 (by omega)
  have h_P : hp22 58 = ob 7 [vr 59, vi 0, vr 60, vr 61, vr 62, vi 0] := h_P
  have h_P1 : hp22 59 = ia 6 (fun _ => 0) := h_P1
  have h_P2 : hp22 60 = ia 128 (fun _ => 0) := h_P2
  have h_P3 : hp22 61 = ia 512 (fun _ => 0) := h_P3
  have h_P4 : hp22 62 = ia 4 (fun _ => 0) := h_P4
  refine pt_put9 eD_init_86 h_me trivial ?_
  refine pt_gen ?_
  intro hp23 ev23
  have h_me := pg_s ev23
  have h_T := pg_n ev23 (by omega) h_T
  have h_Tb := pg_n ev23 (by omega) h_Tb
  have h_Tn := pg_n ev23 (by omega) h_Tn
  have h_N51 := pg_n ev23 (by omega) h_N51
  have h_N52 := pg_n ev23 (by omega) h_N52
  have h_N53 := pg_n ev23 (by omega) h_N53
  have h_N54 := pg_n ev23 (by omega) h_N54
  have h_N55 := pg_n ev23 (by omega) h_N55
  have h_N56 := pg_n ev23 (by omega) h_N56
  have h_N57 := pg_n ev23 (by omega) h_N57
  have h_P := pg_n ev23 (by omega) h_P
  have h_P1 := pg_n ev23 (by omega) h_P1
  have h_P2 := pg_n ev23 (by omega) h_P2
  have h_P3 := pg_n ev23 (by omega) h_P3
  have h_P4 := pg_n ev23 (by omega) h_P4
  have h_L5 := h_L5.fr (fr.wr ev23) (by omega)
  refine pt_aload eD_init_89 rfl ?_
  refine pt_ic eD_init_90 ?_
  refine mk_newq (kd := 5) (A := 6) (sz2 := 63) (ce2 := 62) (sl2 := 2185) eD_init_92 (Or.inr (Or.inr ⟨rfl, rfl⟩)) rfl (by decide) rfl rfl rfl (Nat.le_of_ble_eq_true rfl) (Nat.le_of_ble_eq_true rfl) ?_
  refine pt_gen ?_
  intro hp24 ev24
  have h_me := pg_n ev24 (by omega) h_me
  have h_T := pg_n ev24 (by omega) h_T
  have h_Tb := pg_n ev24 (by omega) h_Tb
  have h_Tn := pg_n ev24 (by omega) h_Tn
  have h_N51 := pg_n ev24 (by omega) h_N51
  have h_N52 := pg_n ev24 (by omega) h_N52
  have h_N53 := pg_n ev24 (by omega) h_N53
  have h_N54 := pg_n ev24 (by omega) h_N54
  have h_N55 := pg_n ev24 (by omega) h_N55
  have h_N56 := pg_n ev24 (by omega) h_N56
  have h_N57 := pg_n ev24 (by omega) h_N57
  have h_P := pg_n ev24 (by omega) h_P
  have h_P1 := pg_n ev24 (by omega) h_P1
  have h_P2 := pg_n ev24 (by omega) h_P2
  have h_P3 := pg_n ev24 (by omega) h_P3
  have h_P4 := pg_n ev24 (by omega) h_P4
  have h_L5 := h_L5.fr (fr.wr ev24) (by omega)
  have h_N63 := pg_s ev24
  refine pt_dupr eD_init_95 ?_
  refine pt_ic eD_init_96 ?_
  refine mk_new (sz2 := 64) (ce2 := 63) (sl2 := 2186) eD_init_97 df2 rfl rfl rfl (Nat.le_of_ble_eq_true rfl) (Nat.le_of_ble_eq_true rfl) ?_
  refine pt_gen ?_
  intro hp25 ev25
  have h_me := pg_n ev25 (by omega) h_me
  have h_T := pg_n ev25 (by omega) h_T
  have h_Tb := pg_n ev25 (by omega) h_Tb
  have h_Tn := pg_n ev25 (by omega) h_Tn
  have h_N51 := pg_n ev25 (by omega) h_N51
  have h_N52 := pg_n ev25 (by omega) h_N52
  have h_N53 := pg_n ev25 (by omega) h_N53
  have h_N54 := pg_n ev25 (by omega) h_N54
  have h_N55 := pg_n ev25 (by omega) h_N55
  have h_N56 := pg_n ev25 (by omega) h_N56
  have h_N57 := pg_n ev25 (by omega) h_N57
  have h_P := pg_n ev25 (by omega) h_P
  have h_P1 := pg_n ev25 (by omega) h_P1
  have h_P2 := pg_n ev25 (by omega) h_P2
  have h_P3 := pg_n ev25 (by omega) h_P3
  have h_P4 := pg_n ev25 (by omega) h_P4
  have h_N63 := pg_n ev25 (by omega) h_N63
  have h_L5 := h_L5.fr (fr.wr ev25) (by omega)
  have h_N64 := pg_s ev25
  refine pt_dupr eD_init_100 ?_
  refine mk_kI (ce2 := 63) (sl2 := 2186) eD_init_101 (cG_init G 64 63 _) rfl (Nat.le_of_ble_eq_true rfl) (Nat.le_of_ble_eq_true rfl) rfl rfl (Nat.le_of_ble_eq_true rfl) (Nat.le_of_ble_eq_true rfl) ?_
  rintro v2 sz2 hp2 ⟨rfl, rfl, rfl⟩
  refine pt_aast eD_init_104 h_N63 rfl (by omega) (by omega) (by decide) h_N64 ⟨_, rfl, Or.inl rfl⟩ ?_
  refine pt_gen ?_
  intro hp26 ev26
  have h_me := pg_n ev26 (by omega) h_me
  have h_T := pg_n ev26 (by omega) h_T
  have h_Tb := pg_n ev26 (by omega) h_Tb
  have h_Tn := pg_n ev26 (by omega) h_Tn
  have h_N51 := pg_n ev26 (by omega) h_N51
  have h_N52 := pg_n ev26 (by omega) h_N52
  have h_N53 := pg_n ev26 (by omega) h_N53
  have h_N54 := pg_n ev26 (by omega) h_N54
  have h_N55 := pg_n ev26 (by omega) h_N55
  have h_N56 := pg_n ev26 (by omega) h_N56
  have h_N57 := pg_n ev26 (by omega) h_N57
  have h_P := pg_n ev26 (by omega) h_P
  have h_P1 := pg_n ev26 (by omega) h_P1
  have h_P2 := pg_n ev26 (by omega) h_P2
  have h_P3 := pg_n ev26 (by omega) h_P3
  have h_P4 := pg_n ev26 (by omega) h_P4
  have h_N63 := pg_s ev26
  have h_N64 := pg_n ev26 (by omega) h_N64
  have h_L5 := h_L5.fr (fr.wr ev26) (by omega)
  refine pt_dupr eD_init_105 ?_
  refine pt_ic eD_init_106 ?_
  refine mk_new (sz2 := 65) (ce2 := 64) (sl2 := 2187) eD_init_107 df9 rfl rfl rfl (Nat.le_of_ble_eq_true rfl) (Nat.le_of_ble_eq_true rfl) ?_
  refine pt_gen ?_
  intro hp27 ev27
  have h_me := pg_n ev27 (by omega) h_me
  have h_T := pg_n ev27 (by omega) h_T
  have h_Tb := pg_n ev27 (by omega) h_Tb
  have h_Tn := pg_n ev27 (by omega) h_Tn
  have h_N51 := pg_n ev27 (by omega) h_N51
  have h_N52 := pg_n ev27 (by omega) h_N52
  have h_N53 := pg_n ev27 (by omega) h_N53
  have h_N54 := pg_n ev27 (by omega) h_N54
  have h_N55 := pg_n ev27 (by omega) h_N55
  have h_N56 := pg_n ev27 (by omega) h_N56
  have h_N57 := pg_n ev27 (by omega) h_N57
  have h_P := pg_n ev27 (by omega) h_P
  have h_P1 := pg_n ev27 (by omega) h_P1
  have h_P2 := pg_n ev27 (by omega) h_P2
  have h_P3 := pg_n ev27 (by omega) h_P3
  have h_P4 := pg_n ev27 (by omega) h_P4
  have h_N63 := pg_n ev27 (by omega) h_N63
  have h_N64 := pg_n ev27 (by omega) h_N64
  have h_L5 := h_L5.fr (fr.wr ev27) (by omega)
  have h_N65 := pg_s ev27
  refine pt_dupr eD_init_110 ?_
  refine mk_kI (ce2 := 64) (sl2 := 2187) eD_init_111 (cSu_init G 65 64 _) rfl (Nat.le_of_ble_eq_true rfl) (Nat.le_of_ble_eq_true rfl) rfl rfl (Nat.le_of_ble_eq_true rfl) (Nat.le_of_ble_eq_true rfl) ?_
  rintro v2 sz2 hp2 ⟨rfl, rfl, rfl⟩
  refine pt_aast eD_init_114 h_N63 rfl (by omega) (by omega) (by decide) h_N65 ⟨_, rfl, Or.inr (by decide +kernel)⟩ ?_
  refine pt_gen ?_
  intro hp28 ev28
  have h_me := pg_n ev28 (by omega) h_me
  have h_T := pg_n ev28 (by omega) h_T
  have h_Tb := pg_n ev28 (by omega) h_Tb
  have h_Tn := pg_n ev28 (by omega) h_Tn
  have h_N51 := pg_n ev28 (by omega) h_N51
  have h_N52 := pg_n ev28 (by omega) h_N52
  have h_N53 := pg_n ev28 (by omega) h_N53
  have h_N54 := pg_n ev28 (by omega) h_N54
  have h_N55 := pg_n ev28 (by omega) h_N55
  have h_N56 := pg_n ev28 (by omega) h_N56
  have h_N57 := pg_n ev28 (by omega) h_N57
  have h_P := pg_n ev28 (by omega) h_P
  have h_P1 := pg_n ev28 (by omega) h_P1
  have h_P2 := pg_n ev28 (by omega) h_P2
  have h_P3 := pg_n ev28 (by omega) h_P3
  have h_P4 := pg_n ev28 (by omega) h_P4
  have h_N63 := pg_s ev28
  have h_N64 := pg_n ev28 (by omega) h_N64
  have h_N65 := pg_n ev28 (by omega) h_N65
  have h_L5 := h_L5.fr (fr.wr ev28) (by omega)
  refine pt_dupr eD_init_115 ?_
  refine pt_ic eD_init_116 ?_
  refine mk_new (sz2 := 66) (ce2 := 65) (sl2 := 2188) eD_init_117 df3 rfl rfl rfl (Nat.le_of_ble_eq_true rfl) (Nat.le_of_ble_eq_true rfl) ?_
  refine pt_gen ?_
  intro hp29 ev29
  have h_me := pg_n ev29 (by omega) h_me
  have h_T := pg_n ev29 (by omega) h_T
  have h_Tb := pg_n ev29 (by omega) h_Tb
  have h_Tn := pg_n ev29 (by omega) h_Tn
  have h_N51 := pg_n ev29 (by omega) h_N51
  have h_N52 := pg_n ev29 (by omega) h_N52
  have h_N53 := pg_n ev29 (by omega) h_N53
  have h_N54 := pg_n ev29 (by omega) h_N54
  have h_N55 := pg_n ev29 (by omega) h_N55
  have h_N56 := pg_n ev29 (by omega) h_N56
  have h_N57 := pg_n ev29 (by omega) h_N57
  have h_P := pg_n ev29 (by omega) h_P
  have h_P1 := pg_n ev29 (by omega) h_P1
  have h_P2 := pg_n ev29 (by omega) h_P2
  have h_P3 := pg_n ev29 (by omega) h_P3
  have h_P4 := pg_n ev29 (by omega) h_P4
  have h_N63 := pg_n ev29 (by omega) h_N63
  have h_N64 := pg_n ev29 (by omega) h_N64
  have h_N65 := pg_n ev29 (by omega) h_N65
  have h_L5 := h_L5.fr (fr.wr ev29) (by omega)
  have h_N66 := pg_s ev29
  refine pt_dupr eD_init_120 ?_
  refine mk_kI (ce2 := 65) (sl2 := 2188) eD_init_121 (cHa_init G 66 65 _) rfl (Nat.le_of_ble_eq_true rfl) (Nat.le_of_ble_eq_true rfl) rfl rfl (Nat.le_of_ble_eq_true rfl) (Nat.le_of_ble_eq_true rfl) ?_
  rintro v2 sz2 hp2 ⟨rfl, rfl, rfl⟩
  refine pt_aast eD_init_124 h_N63 rfl (by omega) (by omega) (by decide) h_N66 ⟨_, rfl, Or.inr (by decide +kernel)⟩ ?_
  refine pt_gen ?_
  intro hp30 ev30
  have h_me := pg_n ev30 (by omega) h_me
  have h_T := pg_n ev30 (by omega) h_T
  have h_Tb := pg_n ev30 (by omega) h_Tb
  have h_Tn := pg_n ev30 (by omega) h_Tn
  have h_N51 := pg_n ev30 (by omega) h_N51
  have h_N52 := pg_n ev30 (by omega) h_N52
  have h_N53 := pg_n ev30 (by omega) h_N53
  have h_N54 := pg_n ev30 (by omega) h_N54
  have h_N55 := pg_n ev30 (by omega) h_N55
  have h_N56 := pg_n ev30 (by omega) h_N56
  have h_N57 := pg_n ev30 (by omega) h_N57
  have h_P := pg_n ev30 (by omega) h_P
  have h_P1 := pg_n ev30 (by omega) h_P1
  have h_P2 := pg_n ev30 (by omega) h_P2
  have h_P3 := pg_n ev30 (by omega) h_P3
  have h_P4 := pg_n ev30 (by omega) h_P4
  have h_N63 := pg_s ev30
  have h_N64 := pg_n ev30 (by omega) h_N64
  have h_N65 := pg_n ev30 (by omega) h_N65
  have h_N66 := pg_n ev30 (by omega) h_N66
  have h_L5 := h_L5.fr (fr.wr ev30) (by omega)
  refine pt_dupr eD_init_125 ?_
  refine pt_ic eD_init_126 ?_
  refine mk_new (sz2 := 67) (ce2 := 66) (sl2 := 2189) eD_init_127 df1 rfl rfl rfl (Nat.le_of_ble_eq_true rfl) (Nat.le_of_ble_eq_true rfl) ?_
  refine pt_gen ?_
  intro hp31 ev31
  have h_me := pg_n ev31 (by omega) h_me
  have h_T := pg_n ev31 (by omega) h_T
  have h_Tb := pg_n ev31 (by omega) h_Tb
  have h_Tn := pg_n ev31 (by omega) h_Tn
  have h_N51 := pg_n ev31 (by omega) h_N51
  have h_N52 := pg_n ev31 (by omega) h_N52
  have h_N53 := pg_n ev31 (by omega) h_N53
  have h_N54 := pg_n ev31 (by omega) h_N54
  have h_N55 := pg_n ev31 (by omega) h_N55
  have h_N56 := pg_n ev31 (by omega) h_N56
  have h_N57 := pg_n ev31 (by omega) h_N57
  have h_P := pg_n ev31 (by omega) h_P
  have h_P1 := pg_n ev31 (by omega) h_P1
  have h_P2 := pg_n ev31 (by omega) h_P2
  have h_P3 := pg_n ev31 (by omega) h_P3
  have h_P4 := pg_n ev31 (by omega) h_P4
  have h_N63 := pg_n ev31 (by omega) h_N63
  have h_N64 := pg_n ev31 (by omega) h_N64
  have h_N65 := pg_n ev31 (by omega) h_N65
  have h_N66 := pg_n ev31 (by omega) h_N66
  have h_L5 := h_L5.fr (fr.wr ev31) (by omega)
  have h_N67 := pg_s ev31
  refine pt_dupr eD_init_130 ?_
  refine mk_kI (ce2 := 66) (sl2 := 2189) eD_init_131 (cCo_init G 67 66 _) rfl (Nat.le_of_ble_eq_true rfl) (Nat.le_of_ble_eq_true rfl) rfl rfl (Nat.le_of_ble_eq_true rfl) (Nat.le_of_ble_eq_true rfl) ?_
  rintro v2 sz2 hp2 ⟨rfl, rfl, rfl⟩
  refine pt_aast eD_init_134 h_N63 rfl (by omega) (by omega) (by decide) h_N67 ⟨_, rfl, Or.inr (by decide +kernel)⟩ ?_
  refine pt_gen ?_
  intro hp32 ev32
  have h_me := pg_n ev32 (by omega) h_me
  have h_T := pg_n ev32 (by omega) h_T
  have h_Tb := pg_n ev32 (by omega) h_Tb
  have h_Tn := pg_n ev32 (by omega) h_Tn
  have h_N51 := pg_n ev32 (by omega) h_N51
  have h_N52 := pg_n ev32 (by omega) h_N52
  have h_N53 := pg_n ev32 (by omega) h_N53
  have h_N54 := pg_n ev32 (by omega) h_N54
  have h_N55 := pg_n ev32 (by omega) h_N55
  have h_N56 := pg_n ev32 (by omega) h_N56
  have h_N57 := pg_n ev32 (by omega) h_N57
  have h_P := pg_n ev32 (by omega) h_P
  have h_P1 := pg_n ev32 (by omega) h_P1
  have h_P2 := pg_n ev32 (by omega) h_P2
  have h_P3 := pg_n ev32 (by omega) h_P3
  have h_P4 := pg_n ev32 (by omega) h_P4
  have h_N63 := pg_s ev32
  have h_N64 := pg_n ev32 (by omega) h_N64
  have h_N65 := pg_n ev32 (by omega) h_N65
  have h_N66 := pg_n ev32 (by omega) h_N66
  have h_N67 := pg_n ev32 (by omega) h_N67
  have h_L5 := h_L5.fr (fr.wr ev32) (by omega)
  refine pt_dupr eD_init_135 ?_
  refine pt_ic eD_init_136 ?_
  refine mk_new (sz2 := 68) (ce2 := 67) (sl2 := 2190) eD_init_137 df5 rfl rfl rfl (Nat.le_of_ble_eq_true rfl) (Nat.le_of_ble_eq_true rfl) ?_
  refine pt_gen ?_
  intro hp33 ev33
  have h_me := pg_n ev33 (by omega) h_me
  have h_T := pg_n ev33 (by omega) h_T
  have h_Tb := pg_n ev33 (by omega) h_Tb
  have h_Tn := pg_n ev33 (by omega) h_Tn
  have h_N51 := pg_n ev33 (by omega) h_N51
  have h_N52 := pg_n ev33 (by omega) h_N52
  have h_N53 := pg_n ev33 (by omega) h_N53
  have h_N54 := pg_n ev33 (by omega) h_N54
  have h_N55 := pg_n ev33 (by omega) h_N55
  have h_N56 := pg_n ev33 (by omega) h_N56
  have h_N57 := pg_n ev33 (by omega) h_N57
  have h_P := pg_n ev33 (by omega) h_P
  have h_P1 := pg_n ev33 (by omega) h_P1
  have h_P2 := pg_n ev33 (by omega) h_P2
  have h_P3 := pg_n ev33 (by omega) h_P3
  have h_P4 := pg_n ev33 (by omega) h_P4
  have h_N63 := pg_n ev33 (by omega) h_N63
  have h_N64 := pg_n ev33 (by omega) h_N64
  have h_N65 := pg_n ev33 (by omega) h_N65
  have h_N66 := pg_n ev33 (by omega) h_N66
  have h_N67 := pg_n ev33 (by omega) h_N67
  have h_L5 := h_L5.fr (fr.wr ev33) (by omega)
  have h_N68 := pg_s ev33
  refine pt_dupr eD_init_140 ?_
  refine mk_kI (ce2 := 67) (sl2 := 2190) eD_init_141 (cJe_init G 68 67 _) rfl (Nat.le_of_ble_eq_true rfl) (Nat.le_of_ble_eq_true rfl) rfl rfl (Nat.le_of_ble_eq_true rfl) (Nat.le_of_ble_eq_true rfl) ?_
  rintro v2 sz2 hp2 ⟨rfl, rfl, rfl⟩
  refine pt_aast eD_init_144 h_N63 rfl (by omega) (by omega) (by decide) h_N68 ⟨_, rfl, Or.inr (by decide +kernel)⟩ ?_
  refine pt_gen ?_
  intro hp34 ev34
  have h_me := pg_n ev34 (by omega) h_me
  have h_T := pg_n ev34 (by omega) h_T
  have h_Tb := pg_n ev34 (by omega) h_Tb
  have h_Tn := pg_n ev34 (by omega) h_Tn
  have h_N51 := pg_n ev34 (by omega) h_N51
  have h_N52 := pg_n ev34 (by omega) h_N52
  have h_N53 := pg_n ev34 (by omega) h_N53
  have h_N54 := pg_n ev34 (by omega) h_N54
  have h_N55 := pg_n ev34 (by omega) h_N55
  have h_N56 := pg_n ev34 (by omega) h_N56
  have h_N57 := pg_n ev34 (by omega) h_N57
  have h_P := pg_n ev34 (by omega) h_P
  have h_P1 := pg_n ev34 (by omega) h_P1
  have h_P2 := pg_n ev34 (by omega) h_P2
  have h_P3 := pg_n ev34 (by omega) h_P3
  have h_P4 := pg_n ev34 (by omega) h_P4
  have h_N63 := pg_s ev34
  have h_N64 := pg_n ev34 (by omega) h_N64
  have h_N65 := pg_n ev34 (by omega) h_N65
  have h_N66 := pg_n ev34 (by omega) h_N66
  have h_N67 := pg_n ev34 (by omega) h_N67
  have h_N68 := pg_n ev34 (by omega) h_N68
  have h_L5 := h_L5.fr (fr.wr ev34) (by omega)
  refine pt_dupr eD_init_145 ?_
  refine pt_ic eD_init_146 ?_
  refine mk_new (sz2 := 69) (ce2 := 68) (sl2 := 2191) eD_init_147 df0 rfl rfl rfl (Nat.le_of_ble_eq_true rfl) (Nat.le_of_ble_eq_true rfl) ?_
  refine pt_gen ?_
  intro hp35 ev35
  have h_me := pg_n ev35 (by omega) h_me
  have h_T := pg_n ev35 (by omega) h_T
  have h_Tb := pg_n ev35 (by omega) h_Tb
  have h_Tn := pg_n ev35 (by omega) h_Tn
  have h_N51 := pg_n ev35 (by omega) h_N51
  have h_N52 := pg_n ev35 (by omega) h_N52
  have h_N53 := pg_n ev35 (by omega) h_N53
  have h_N54 := pg_n ev35 (by omega) h_N54
  have h_N55 := pg_n ev35 (by omega) h_N55
  have h_N56 := pg_n ev35 (by omega) h_N56
  have h_N57 := pg_n ev35 (by omega) h_N57
  have h_P := pg_n ev35 (by omega) h_P
  have h_P1 := pg_n ev35 (by omega) h_P1
  have h_P2 := pg_n ev35 (by omega) h_P2
  have h_P3 := pg_n ev35 (by omega) h_P3
  have h_P4 := pg_n ev35 (by omega) h_P4
  have h_N63 := pg_n ev35 (by omega) h_N63
  have h_N64 := pg_n ev35 (by omega) h_N64
  have h_N65 := pg_n ev35 (by omega) h_N65
  have h_N66 := pg_n ev35 (by omega) h_N66
  have h_N67 := pg_n ev35 (by omega) h_N67
  have h_N68 := pg_n ev35 (by omega) h_N68
  have h_L5 := h_L5.fr (fr.wr ev35) (by omega)
  have h_N69 := pg_s ev35
  refine pt_dupr eD_init_150 ?_
  refine mk_kI (ce2 := 68) (sl2 := 2191) eD_init_151 (cCa_init G 69 68 _) rfl (Nat.le_of_ble_eq_true rfl) (Nat.le_of_ble_eq_true rfl) rfl rfl (Nat.le_of_ble_eq_true rfl) (Nat.le_of_ble_eq_true rfl) ?_
  rintro v2 sz2 hp2 ⟨rfl, rfl, rfl⟩
  refine pt_aast eD_init_154 h_N63 rfl (by omega) (by omega) (by decide) h_N69 ⟨_, rfl, Or.inr (by decide +kernel)⟩ ?_
  refine pt_gen ?_
  intro hp36 ev36
  have h_me := pg_n ev36 (by omega) h_me
  have h_T := pg_n ev36 (by omega) h_T
  have h_Tb := pg_n ev36 (by omega) h_Tb
  have h_Tn := pg_n ev36 (by omega) h_Tn
  have h_N51 := pg_n ev36 (by omega) h_N51
  have h_N52 := pg_n ev36 (by omega) h_N52
  have h_N53 := pg_n ev36 (by omega) h_N53
  have h_N54 := pg_n ev36 (by omega) h_N54
  have h_N55 := pg_n ev36 (by omega) h_N55
  have h_N56 := pg_n ev36 (by omega) h_N56
  have h_N57 := pg_n ev36 (by omega) h_N57
  have h_P := pg_n ev36 (by omega) h_P
  have h_P1 := pg_n ev36 (by omega) h_P1
  have h_P2 := pg_n ev36 (by omega) h_P2
  have h_P3 := pg_n ev36 (by omega) h_P3
  have h_P4 := pg_n ev36 (by omega) h_P4
  have h_N63 := pg_s ev36
  have h_N64 := pg_n ev36 (by omega) h_N64
  have h_N65 := pg_n ev36 (by omega) h_N65
  have h_N66 := pg_n ev36 (by omega) h_N66
  have h_N67 := pg_n ev36 (by omega) h_N67
  have h_N68 := pg_n ev36 (by omega) h_N68
  have h_N69 := pg_n ev36 (by omega) h_N69
  have h_L5 := h_L5.fr (fr.wr ev36) (by omega)
  refine pt_put10 eD_init_155 h_me trivial ?_
  refine pt_gen ?_
  intro hp37 ev37
  have h_me := pg_s ev37
  have h_T := pg_n ev37 (by omega) h_T
  have h_Tb := pg_n ev37 (by omega) h_Tb
  have h_Tn := pg_n ev37 (by omega) h_Tn
  have h_N51 := pg_n ev37 (by omega) h_N51
  have h_N52 := pg_n ev37 (by omega) h_N52
  have h_N53 := pg_n ev37 (by omega) h_N53
  have h_N54 := pg_n ev37 (by omega) h_N54
  have h_N55 := pg_n ev37 (by omega) h_N55
  have h_N56 := pg_n ev37 (by omega) h_N56
  have h_N57 := pg_n ev37 (by omega) h_N57
  have h_P := pg_n ev37 (by omega) h_P
  have h_P1 := pg_n ev37 (by omega) h_P1
  have h_P2 := pg_n ev37 (by omega) h_P2
  have h_P3 := pg_n ev37 (by omega) h_P3
  have h_P4 := pg_n ev37 (by omega) h_P4
  have h_N63 := pg_n ev37 (by omega) h_N63
  have h_N64 := pg_n ev37 (by omega) h_N64
  have h_N65 := pg_n ev37 (by omega) h_N65
  have h_N66 := pg_n ev37 (by omega) h_N66
  have h_N67 := pg_n ev37 (by omega) h_N67
  have h_N68 := pg_n ev37 (by omega) h_N68
  have h_N69 := pg_n ev37 (by omega) h_N69
  have h_L5 := h_L5.fr (fr.wr ev37) (by omega)
  refine pt_aload eD_init_158 rfl ?_
  refine mk_new (sz2 := 70) (ce2 := 69) (sl2 := 2201) eD_init_159 df4 rfl rfl rfl (Nat.le_of_ble_eq_true rfl) (Nat.le_of_ble_eq_true rfl) ?_
  refine pt_gen ?_
  intro hp38 ev38
  have h_me := pg_n ev38 (by omega) h_me
  have h_T := pg_n ev38 (by omega) h_T
  have h_Tb := pg_n ev38 (by omega) h_Tb
  have h_Tn := pg_n ev38 (by omega) h_Tn
  have h_N51 := pg_n ev38 (by omega) h_N51
  have h_N52 := pg_n ev38 (by omega) h_N52
  have h_N53 := pg_n ev38 (by omega) h_N53
  have h_N54 := pg_n ev38 (by omega) h_N54
  have h_N55 := pg_n ev38 (by omega) h_N55
  have h_N56 := pg_n ev38 (by omega) h_N56
  have h_N57 := pg_n ev38 (by omega) h_N57
  have h_P := pg_n ev38 (by omega) h_P
  have h_P1 := pg_n ev38 (by omega) h_P1
  have h_P2 := pg_n ev38 (by omega) h_P2
  have h_P3 := pg_n ev38 (by omega) h_P3
  have h_P4 := pg_n ev38 (by omega) h_P4
  have h_N63 := pg_n ev38 (by omega) h_N63
  have h_N64 := pg_n ev38 (by omega) h_N64
  have h_N65 := pg_n ev38 (by omega) h_N65
  have h_N66 := pg_n ev38 (by omega) h_N66
  have h_N67 := pg_n ev38 (by omega) h_N67
  have h_N68 := pg_n ev38 (by omega) h_N68
  have h_N69 := pg_n ev38 (by omega) h_N69
  have h_L5 := h_L5.fr (fr.wr ev38) (by omega)
  have h_N70 := pg_s ev38
  refine pt_dupr eD_init_162 ?_
  refine mk_kI (ce2 := 76) (sl2 := 2461) eD_init_163 (cH_init G 69 _ h_N70) rfl (Nat.le_of_ble_eq_true rfl) (Nat.le_of_ble_eq_true rfl) rfl rfl (Nat.le_of_ble_eq_true rfl) (Nat.le_of_ble_eq_true rfl) ?_
  rintro v2 sz2 hp39 ⟨rfl, hz9, h_H70, hf39⟩
  obtain rfl : sz2 = 77 := hz9
  have h_me := hf39.at (by omega) h_me
  have h_T := hf39.at (by omega) h_T
  have h_Tb := hf39.at (by omega) h_Tb
  have h_Tn := hf39.at (by omega) h_Tn
  have h_N51 := hf39.at (by omega) h_N51
  have h_N52 := hf39.at (by omega) h_N52
  have h_N53 := hf39.at (by omega) h_N53
  have h_N54 := hf39.at (by omega) h_N54
  have h_N55 := hf39.at (by omega) h_N55
  have h_N56 := hf39.at (by omega) h_N56
  have h_N57 := hf39.at (by omega) h_N57
  have h_P := hf39.at (by omega) h_P
  have h_P1 := hf39.at (by omega) h_P1
  have h_P2 := hf39.at (by omega) h_P2
  have h_P3 := hf39.at (by omega) h_P3
  have h_P4 := hf39.at (by omega) h_P4
  have h_N63 := hf39.at (by omega) h_N63
  have h_N64 := hf39.at (by omega) h_N64
  have h_N65 := hf39.at (by omega) h_N65
  have h_N66 := hf39.at (by omega) h_N66
  have h_N67 := hf39.at (by omega) h_N67
  have h_N68 := hf39.at (by omega) h_N68
  have h_N69 := hf39.at (by omega) h_N69
  have h_L5 := h_L5.fr hf39 (by omega)
  have h_H70 : HoA hp39 70 0 2 3 (fun _ => 0) (fun _ => 0) (fun _ => 0) (fun _ => 0) (fun _ => 0) (fun _ => 0) (fun _ => 0) := h_H70
  refine pt_put11 eD_init_166 h_me trivial ?_
  refine pt_gen ?_
  intro hp40 ev40
  have h_me := pg_s ev40
  have h_T := pg_n ev40 (by omega) h_T
  have h_Tb := pg_n ev40 (by omega) h_Tb
  have h_Tn := pg_n ev40 (by omega) h_Tn
  have h_N51 := pg_n ev40 (by omega) h_N51
  have h_N52 := pg_n ev40 (by omega) h_N52
  have h_N53 := pg_n ev40 (by omega) h_N53
  have h_N54 := pg_n ev40 (by omega) h_N54
  have h_N55 := pg_n ev40 (by omega) h_N55
  have h_N56 := pg_n ev40 (by omega) h_N56
  have h_N57 := pg_n ev40 (by omega) h_N57
  have h_P := pg_n ev40 (by omega) h_P
  have h_P1 := pg_n ev40 (by omega) h_P1
  have h_P2 := pg_n ev40 (by omega) h_P2
  have h_P3 := pg_n ev40 (by omega) h_P3
  have h_P4 := pg_n ev40 (by omega) h_P4
  have h_N63 := pg_n ev40 (by omega) h_N63
  have h_N64 := pg_n ev40 (by omega) h_N64
  have h_N65 := pg_n ev40 (by omega) h_N65
  have h_N66 := pg_n ev40 (by omega) h_N66
  have h_N67 := pg_n ev40 (by omega) h_N67
  have h_N68 := pg_n ev40 (by omega) h_N68
  have h_N69 := pg_n ev40 (by omega) h_N69
  have h_L5 := h_L5.fr (fr.wr ev40) (by omega)
  have h_H70 := h_H70.keep (fr.wr ev40) (by omega)
  refine pt_aload eD_init_169 rfl ?_
  refine mk_new (sz2 := 78) (ce2 := 77) (sl2 := 2471) eD_init_170 df4 rfl rfl rfl (Nat.le_of_ble_eq_true rfl) (Nat.le_of_ble_eq_true rfl) ?_
  refine pt_gen ?_
  intro hp41 ev41
  have h_me := pg_n ev41 (by omega) h_me
  have h_T := pg_n ev41 (by omega) h_T
  have h_Tb := pg_n ev41 (by omega) h_Tb
  have h_Tn := pg_n ev41 (by omega) h_Tn
  have h_N51 := pg_n ev41 (by omega) h_N51
  have h_N52 := pg_n ev41 (by omega) h_N52
  have h_N53 := pg_n ev41 (by omega) h_N53
  have h_N54 := pg_n ev41 (by omega) h_N54
  have h_N55 := pg_n ev41 (by omega) h_N55
  have h_N56 := pg_n ev41 (by omega) h_N56
  have h_N57 := pg_n ev41 (by omega) h_N57
  have h_P := pg_n ev41 (by omega) h_P
  have h_P1 := pg_n ev41 (by omega) h_P1
  have h_P2 := pg_n ev41 (by omega) h_P2
  have h_P3 := pg_n ev41 (by omega) h_P3
  have h_P4 := pg_n ev41 (by omega) h_P4
  have h_N63 := pg_n ev41 (by omega) h_N63
  have h_N64 := pg_n ev41 (by omega) h_N64
  have h_N65 := pg_n ev41 (by omega) h_N65
  have h_N66 := pg_n ev41 (by omega) h_N66
  have h_N67 := pg_n ev41 (by omega) h_N67
  have h_N68 := pg_n ev41 (by omega) h_N68
  have h_N69 := pg_n ev41 (by omega) h_N69
  have h_L5 := h_L5.fr (fr.wr ev41) (by omega)
  have h_H70 := h_H70.keep (fr.wr ev41) (by omega)
  have h_N78 := pg_s ev41
  refine pt_dupr eD_init_173 ?_
  refine mk_kI (ce2 := 84) (sl2 := 2731) eD_init_174 (cH_init G 77 _ h_N78) rfl (Nat.le_of_ble_eq_true rfl) (Nat.le_of_ble_eq_true rfl) rfl rfl (Nat.le_of_ble_eq_true rfl) (Nat.le_of_ble_eq_true rfl) ?_
  rintro v2 sz2 hp42 ⟨rfl, hz9, h_H78, hf42⟩
  obtain rfl : sz2 = 85 := hz9
  have h_me := hf42.at (by omega) h_me
  have h_T := hf42.at (by omega) h_T
  have h_Tb := hf42.at (by omega) h_Tb
  have h_Tn := hf42.at (by omega) h_Tn
  have h_N51 := hf42.at (by omega) h_N51
  have h_N52 := hf42.at (by omega) h_N52
  have h_N53 := hf42.at (by omega) h_N53
  have h_N54 := hf42.at (by omega) h_N54
  have h_N55 := hf42.at (by omega) h_N55
  have h_N56 := hf42.at (by omega) h_N56
  have h_N57 := hf42.at (by omega) h_N57
  have h_P := hf42.at (by omega) h_P
  have h_P1 := hf42.at (by omega) h_P1
  have h_P2 := hf42.at (by omega) h_P2
  have h_P3 := hf42.at (by omega) h_P3
  have h_P4 := hf42.at (by omega) h_P4
  have h_N63 := hf42.at (by omega) h_N63
  have h_N64 := hf42.at (by omega) h_N64
  have h_N65 := hf42.at (by omega) h_N65
  have h_N66 := hf42.at (by omega) h_N66
  have h_N67 := hf42.at (by omega) h_N67
  have h_N68 := hf42.at (by omega) h_N68
  have h_N69 := hf42.at (by omega) h_N69
  have h_L5 := h_L5.fr hf42 (by omega)
  have h_H70 := h_H70.keep hf42 (by omega)
  have h_H78 : HoA hp42 78 0 2 3 (fun _ => 0) (fun _ => 0) (fun _ => 0) (fun _ => 0) (fun _ => 0) (fun _ => 0) (fun _ => 0) := h_H78
  refine pt_put12 eD_init_177 h_me trivial ?_
  refine pt_gen ?_
  intro hp43 ev43
  have h_me := pg_s ev43
  have h_T := pg_n ev43 (by omega) h_T
  have h_Tb := pg_n ev43 (by omega) h_Tb
  have h_Tn := pg_n ev43 (by omega) h_Tn
  have h_N51 := pg_n ev43 (by omega) h_N51
  have h_N52 := pg_n ev43 (by omega) h_N52
  have h_N53 := pg_n ev43 (by omega) h_N53
  have h_N54 := pg_n ev43 (by omega) h_N54
  have h_N55 := pg_n ev43 (by omega) h_N55
  have h_N56 := pg_n ev43 (by omega) h_N56
  have h_N57 := pg_n ev43 (by omega) h_N57
  have h_P := pg_n ev43 (by omega) h_P
  have h_P1 := pg_n ev43 (by omega) h_P1
  have h_P2 := pg_n ev43 (by omega) h_P2
  have h_P3 := pg_n ev43 (by omega) h_P3
  have h_P4 := pg_n ev43 (by omega) h_P4
  have h_N63 := pg_n ev43 (by omega) h_N63
  have h_N64 := pg_n ev43 (by omega) h_N64
  have h_N65 := pg_n ev43 (by omega) h_N65
  have h_N66 := pg_n ev43 (by omega) h_N66
  have h_N67 := pg_n ev43 (by omega) h_N67
  have h_N68 := pg_n ev43 (by omega) h_N68
  have h_N69 := pg_n ev43 (by omega) h_N69
  have h_L5 := h_L5.fr (fr.wr ev43) (by omega)
  have h_H70 := h_H70.keep (fr.wr ev43) (by omega)
  have h_H78 := h_H78.keep (fr.wr ev43) (by omega)
  refine pt_ic eD_init_180 ?_
  refine pt_istore1 eD_init_181 rfl ?_
  refine pt_iload eD_init_182 rfl ?_
  refine pt_ic eD_init_183 ?_
  refine pt_cge eD_init_184 ⟨by omega, by omega⟩ ⟨by omega, by omega⟩ (fun c184 => ?_) (fun c184 => ?_)
  · exfalso; omega
  · refine pt_aload eD_init_187 rfl ?_
    refine pt_get eD_init_188 h_me rfl ?_
    refine pt_iload eD_init_191 rfl ?_
    refine mk_new (sz2 := 86) (ce2 := 85) (sl2 := 2734) eD_init_192 df6 rfl rfl rfl (Nat.le_of_ble_eq_true rfl) (Nat.le_of_ble_eq_true rfl) ?_
    refine pt_gen ?_
    intro hp44 ev44
    have h_me := pg_n ev44 (by omega) h_me
    have h_T := pg_n ev44 (by omega) h_T
    have h_Tb := pg_n ev44 (by omega) h_Tb
    have h_Tn := pg_n ev44 (by omega) h_Tn
    have h_N51 := pg_n ev44 (by omega) h_N51
    have h_N52 := pg_n ev44 (by omega) h_N52
    have h_N53 := pg_n ev44 (by omega) h_N53
    have h_N54 := pg_n ev44 (by omega) h_N54
    have h_N55 := pg_n ev44 (by omega) h_N55
    have h_N56 := pg_n ev44 (by omega) h_N56
    have h_N57 := pg_n ev44 (by omega) h_N57
    have h_P := pg_n ev44 (by omega) h_P
    have h_P1 := pg_n ev44 (by omega) h_P1
    have h_P2 := pg_n ev44 (by omega) h_P2
    have h_P3 := pg_n ev44 (by omega) h_P3
    have h_P4 := pg_n ev44 (by omega) h_P4
    have h_N63 := pg_n ev44 (by omega) h_N63
    have h_N64 := pg_n ev44 (by omega) h_N64
    have h_N65 := pg_n ev44 (by omega) h_N65
    have h_N66 := pg_n ev44 (by omega) h_N66
    have h_N67 := pg_n ev44 (by omega) h_N67
    have h_N68 := pg_n ev44 (by omega) h_N68
    have h_N69 := pg_n ev44 (by omega) h_N69
    have h_L5 := h_L5.fr (fr.wr ev44) (by omega)
    have h_H70 := h_H70.keep (fr.wr ev44) (by omega)
    have h_H78 := h_H78.keep (fr.wr ev44) (by omega)
    have h_N86 := pg_s ev44
    refine pt_dupr eD_init_195 ?_
    refine mk_kI (ce2 := 130) (sl2 := 3767) eD_init_196 (cL_init G 85 _ h_N86) rfl (Nat.le_of_ble_eq_true rfl) (Nat.le_of_ble_eq_true rfl) rfl rfl (Nat.le_of_ble_eq_true rfl) (Nat.le_of_ble_eq_true rfl) ?_
    rintro v2 sz2 hp45 ⟨rfl, hz9, h_L86, hf45⟩
    obtain rfl : sz2 = 131 := hz9
    have h_me := hf45.at (by omega) h_me
    have h_T := hf45.at (by omega) h_T
    have h_Tb := hf45.at (by omega) h_Tb
    have h_Tn := hf45.at (by omega) h_Tn
    have h_N51 := hf45.at (by omega) h_N51
    have h_N52 := hf45.at (by omega) h_N52
    have h_N53 := hf45.at (by omega) h_N53
    have h_N54 := hf45.at (by omega) h_N54
    have h_N55 := hf45.at (by omega) h_N55
    have h_N56 := hf45.at (by omega) h_N56
    have h_N57 := hf45.at (by omega) h_N57
    have h_P := hf45.at (by omega) h_P
    have h_P1 := hf45.at (by omega) h_P1
    have h_P2 := hf45.at (by omega) h_P2
    have h_P3 := hf45.at (by omega) h_P3
    have h_P4 := hf45.at (by omega) h_P4
    have h_N63 := hf45.at (by omega) h_N63
    have h_N64 := hf45.at (by omega) h_N64
    have h_N65 := hf45.at (by omega) h_N65
    have h_N66 := hf45.at (by omega) h_N66
    have h_N67 := hf45.at (by omega) h_N67
    have h_N68 := hf45.at (by omega) h_N68
    have h_N69 := hf45.at (by omega) h_N69
    have h_L5 := h_L5.fr hf45 (by omega)
    have h_H70 := h_H70.keep hf45 (by omega)
    have h_H78 := h_H78.keep hf45 (by omega)
    have h_L86 : LiA hp45 86 (fun _ => 0) 0 (fun _ _ => 0) := h_L86
    refine pt_aast eD_init_199 h_N51 rfl (by omega) (by omega) (by decide) h_L86.1 ⟨_, rfl, Or.inl rfl⟩ ?_
    refine pt_gen ?_
    intro hp46 ev46
    have h_me := pg_n ev46 (by omega) h_me
    have h_T := pg_n ev46 (by omega) h_T
    have h_Tb := pg_n ev46 (by omega) h_Tb
    have h_Tn := pg_n ev46 (by omega) h_Tn
    have h_N51 := pg_s ev46
    have h_N52 := pg_n ev46 (by omega) h_N52
    have h_N53 := pg_n ev46 (by omega) h_N53
    have h_N54 := pg_n ev46 (by omega) h_N54
    have h_N55 := pg_n ev46 (by omega) h_N55
    have h_N56 := pg_n ev46 (by omega) h_N56
    have h_N57 := pg_n ev46 (by omega) h_N57
    have h_P := pg_n ev46 (by omega) h_P
    have h_P1 := pg_n ev46 (by omega) h_P1
    have h_P2 := pg_n ev46 (by omega) h_P2
    have h_P3 := pg_n ev46 (by omega) h_P3
    have h_P4 := pg_n ev46 (by omega) h_P4
    have h_N63 := pg_n ev46 (by omega) h_N63
    have h_N64 := pg_n ev46 (by omega) h_N64
    have h_N65 := pg_n ev46 (by omega) h_N65
    have h_N66 := pg_n ev46 (by omega) h_N66
    have h_N67 := pg_n ev46 (by omega) h_N67
    have h_N68 := pg_n ev46 (by omega) h_N68
    have h_N69 := pg_n ev46 (by omega) h_N69
    have h_L5 := h_L5.fr (fr.wr ev46) (by omega)
    have h_H70 := h_H70.keep (fr.wr ev46) (by omega)
    have h_H78 := h_H78.keep (fr.wr ev46) (by omega)
    have h_L86 := h_L86.fr (fr.wr ev46) (by omega)
    refine pt_inc1 eD_init_200 rfl ?_
    refine pt_goto eD_init_203 ?_
    refine pt_iload eD_init_182 rfl ?_
    refine pt_ic eD_init_183 ?_
    refine pt_cge eD_init_184 ⟨by omega, by omega⟩ ⟨by omega, by omega⟩ (fun c184 => ?_) (fun c184 => ?_)
    · exfalso; omega
    · refine pt_aload eD_init_187 rfl ?_
      refine pt_get eD_init_188 h_me rfl ?_
      refine pt_iload eD_init_191 rfl ?_
      refine mk_new (sz2 := 132) (ce2 := 131) (sl2 := 3770) eD_init_192 df6 rfl rfl rfl (Nat.le_of_ble_eq_true rfl) (Nat.le_of_ble_eq_true rfl) ?_
      refine pt_gen ?_
      intro hp47 ev47
      have h_me := pg_n ev47 (by omega) h_me
      have h_T := pg_n ev47 (by omega) h_T
      have h_Tb := pg_n ev47 (by omega) h_Tb
      have h_Tn := pg_n ev47 (by omega) h_Tn
      have h_N51 := pg_n ev47 (by omega) h_N51
      have h_N52 := pg_n ev47 (by omega) h_N52
      have h_N53 := pg_n ev47 (by omega) h_N53
      have h_N54 := pg_n ev47 (by omega) h_N54
      have h_N55 := pg_n ev47 (by omega) h_N55
      have h_N56 := pg_n ev47 (by omega) h_N56
      have h_N57 := pg_n ev47 (by omega) h_N57
      have h_P := pg_n ev47 (by omega) h_P
      have h_P1 := pg_n ev47 (by omega) h_P1
      have h_P2 := pg_n ev47 (by omega) h_P2
      have h_P3 := pg_n ev47 (by omega) h_P3
      have h_P4 := pg_n ev47 (by omega) h_P4
      have h_N63 := pg_n ev47 (by omega) h_N63
      have h_N64 := pg_n ev47 (by omega) h_N64
      have h_N65 := pg_n ev47 (by omega) h_N65
      have h_N66 := pg_n ev47 (by omega) h_N66
      have h_N67 := pg_n ev47 (by omega) h_N67
      have h_N68 := pg_n ev47 (by omega) h_N68
      have h_N69 := pg_n ev47 (by omega) h_N69
      have h_L5 := h_L5.fr (fr.wr ev47) (by omega)
      have h_H70 := h_H70.keep (fr.wr ev47) (by omega)
      have h_H78 := h_H78.keep (fr.wr ev47) (by omega)
      have h_L86 := h_L86.fr (fr.wr ev47) (by omega)
      have h_N132 := pg_s ev47
      refine pt_dupr eD_init_195 ?_
      refine mk_kI (ce2 := 176) (sl2 := 4803) eD_init_196 (cL_init G 131 _ h_N132) rfl (Nat.le_of_ble_eq_true rfl) (Nat.le_of_ble_eq_true rfl) rfl rfl (Nat.le_of_ble_eq_true rfl) (Nat.le_of_ble_eq_true rfl) ?_
      rintro v2 sz2 hp48 ⟨rfl, hz9, h_L132, hf48⟩
      obtain rfl : sz2 = 177 := hz9
      have h_me := hf48.at (by omega) h_me
      have h_T := hf48.at (by omega) h_T
      have h_Tb := hf48.at (by omega) h_Tb
      have h_Tn := hf48.at (by omega) h_Tn
      have h_N51 := hf48.at (by omega) h_N51
      have h_N52 := hf48.at (by omega) h_N52
      have h_N53 := hf48.at (by omega) h_N53
      have h_N54 := hf48.at (by omega) h_N54
      have h_N55 := hf48.at (by omega) h_N55
      have h_N56 := hf48.at (by omega) h_N56
      have h_N57 := hf48.at (by omega) h_N57
      have h_P := hf48.at (by omega) h_P
      have h_P1 := hf48.at (by omega) h_P1
      have h_P2 := hf48.at (by omega) h_P2
      have h_P3 := hf48.at (by omega) h_P3
      have h_P4 := hf48.at (by omega) h_P4
      have h_N63 := hf48.at (by omega) h_N63
      have h_N64 := hf48.at (by omega) h_N64
      have h_N65 := hf48.at (by omega) h_N65
      have h_N66 := hf48.at (by omega) h_N66
      have h_N67 := hf48.at (by omega) h_N67
      have h_N68 := hf48.at (by omega) h_N68
      have h_N69 := hf48.at (by omega) h_N69
      have h_L5 := h_L5.fr hf48 (by omega)
      have h_H70 := h_H70.keep hf48 (by omega)
      have h_H78 := h_H78.keep hf48 (by omega)
      have h_L86 := h_L86.fr hf48 (by omega)
      have h_L132 : LiA hp48 132 (fun _ => 0) 0 (fun _ _ => 0) := h_L132
      refine pt_aast eD_init_199 h_N51 rfl (by omega) (by omega) (by decide) h_L132.1 ⟨_, rfl, Or.inl rfl⟩ ?_
      refine pt_gen ?_
      intro hp49 ev49
      have h_me := pg_n ev49 (by omega) h_me
      have h_T := pg_n ev49 (by omega) h_T
      have h_Tb := pg_n ev49 (by omega) h_Tb
      have h_Tn := pg_n ev49 (by omega) h_Tn
      have h_N51 := pg_s ev49
      have h_N52 := pg_n ev49 (by omega) h_N52
      have h_N53 := pg_n ev49 (by omega) h_N53
      have h_N54 := pg_n ev49 (by omega) h_N54
      have h_N55 := pg_n ev49 (by omega) h_N55
      have h_N56 := pg_n ev49 (by omega) h_N56
      have h_N57 := pg_n ev49 (by omega) h_N57
      have h_P := pg_n ev49 (by omega) h_P
      have h_P1 := pg_n ev49 (by omega) h_P1
      have h_P2 := pg_n ev49 (by omega) h_P2
      have h_P3 := pg_n ev49 (by omega) h_P3
      have h_P4 := pg_n ev49 (by omega) h_P4
      have h_N63 := pg_n ev49 (by omega) h_N63
      have h_N64 := pg_n ev49 (by omega) h_N64
      have h_N65 := pg_n ev49 (by omega) h_N65
      have h_N66 := pg_n ev49 (by omega) h_N66
      have h_N67 := pg_n ev49 (by omega) h_N67
      have h_N68 := pg_n ev49 (by omega) h_N68
      have h_N69 := pg_n ev49 (by omega) h_N69
      have h_L5 := h_L5.fr (fr.wr ev49) (by omega)
      have h_H70 := h_H70.keep (fr.wr ev49) (by omega)
      have h_H78 := h_H78.keep (fr.wr ev49) (by omega)
      have h_L86 := h_L86.fr (fr.wr ev49) (by omega)
      have h_L132 := h_L132.fr (fr.wr ev49) (by omega)
      refine pt_inc1 eD_init_200 rfl ?_
      refine pt_goto eD_init_203 ?_
      refine pt_iload eD_init_182 rfl ?_
      refine pt_ic eD_init_183 ?_
      refine pt_cge eD_init_184 ⟨by omega, by omega⟩ ⟨by omega, by omega⟩ (fun c184 => ?_) (fun c184 => ?_)
      · refine pt_vret eD_init_206 (Nat.le_refl _) (Nat.le_refl _) ?_
        refine ⟨rfl, rfl, ⟨Or.inl ⟨rfl, rfl⟩, ⟨h_me, ⟨_, h_N51, rfl, rfl⟩, h_N52, h_N53, h_N54, h_N55, h_N56⟩, ⟨_, _, _, _, _, _, _, h_T, h_Tb, h_Tn, fun i i0 i1 => absurd (show i < 0 from i1) (by omega)⟩, ⟨_, _, _, _, _, h_H70, fun g g0 g1 => absurd (show g < 0 from g1) (by omega), fun d g hd g0 g1 => absurd (show g < 0 from g1) (by omega)⟩, ⟨_, _, _, _, _, _, _, _, _, _, h_H78⟩, ⟨_, h_L5, fun i x i0 i1 => absurd (show i < 0 from i1) (by omega)⟩, ⟨_, _, _, h_L86, fun hz => absurd (show (0 : Int) = 1 from hz) (by decide)⟩, ⟨_, _, _, h_L132, fun hz => absurd (show (0 : Int) = 1 from hz) (by decide)⟩, ⟨_, 0, 0, 0, 0, 0, 0, h_N63, fun i hi => ?_, h_N64, h_N65, h_N66, h_N67, h_N68, h_N69, rfl⟩, ⟨_, _, _, _, _, _, _, h_N57, h_P, h_P1, h_P2, h_P3, h_P4⟩⟩, (((((((((((((((((((((((((((((((((((((((((((((((((fr.rf.up ev1 (by omega) (by omega)).tr hf2 (by omega) (by omega)).up ev3 (by omega) (by omega)).up ev4 (by omega) (by omega)).tr hf5 (by omega) (by omega)).up ev6 (by omega) (by omega)).up ev7 (by omega) (by omega)).up ev8 (by omega) (by omega)).up ev9 (by omega) (by omega)).up ev10 (by omega) (by omega)).up ev11 (by omega) (by omega)).up ev12 (by omega) (by omega)).up ev13 (by omega) (by omega)).up ev14 (by omega) (by omega)).up ev15 (by omega) (by omega)).up ev16 (by omega) (by omega)).up ev17 (by omega) (by omega)).up ev18 (by omega) (by omega)).up ev19 (by omega) (by omega)).up ev20 (by omega) (by omega)).up ev21 (by omega) (by omega)).tr hf22 (by omega) (by omega)).up ev23 (by omega) (by omega)).up ev24 (by omega) (by omega)).up ev25 (by omega) (by omega)).up ev26 (by omega) (by omega)).up ev27 (by omega) (by omega)).up ev28 (by omega) (by omega)).up ev29 (by omega) (by omega)).up ev30 (by omega) (by omega)).up ev31 (by omega) (by omega)).up ev32 (by omega) (by omega)).up ev33 (by omega) (by omega)).up ev34 (by omega) (by omega)).up ev35 (by omega) (by omega)).up ev36 (by omega) (by omega)).up ev37 (by omega) (by omega)).up ev38 (by omega) (by omega)).tr hf39 (by omega) (by omega)).up ev40 (by omega) (by omega)).up ev41 (by omega) (by omega)).tr hf42 (by omega) (by omega)).up ev43 (by omega) (by omega)).up ev44 (by omega) (by omega)).tr hf45 (by omega) (by omega)).up ev46 (by omega) (by omega)).up ev47 (by omega) (by omega)).tr hf48 (by omega) (by omega)).up ev49 (by omega) (by omega))⟩
        rcases (show i = 0 ∨ i = 1 ∨ i = 2 ∨ i = 3 ∨ i = 4 ∨ i = 5 by omega) with rfl | rfl | rfl | rfl | rfl | rfl <;> rfl
      · exfalso; omega
theorem IN00 : IN q00 v00 := by
  have hz : ∀ j, j ≠ 2 → ∀ x, q00 j x = 0 := fun j hj x => by unfold q00; rw [if_neg hj]
  have hS : ∀ ms : Int → Int, (∀ k, ms k = 0) → okS ms (fun _ => 0) := fun ms hm => ⟨Int.le_refl 0, by decide, Or.inl rfl, fun g g0 g1 => ⟨Int.le_refl 0, show (0 : Int) ≤ 999 by decide⟩, fun k k0 k1 => ⟨Int.le_refl 0, by rw [hm k]; exact Int.le_refl 0⟩⟩
  refine ⟨⟨Int.le_refl 0, by decide⟩, ⟨by decide, by decide, by decide, by decide⟩, fun k _ _ => ⟨Int.le_refl 0, show (0 : Int) ≤ 30 by decide⟩, fun k _ _ => ⟨Int.le_refl 0, show (0 : Int) ≤ 30 by decide⟩, fun k k0 k1 => absurd (show k < 0 from k1) (by omega), fun g g0 g1 => absurd (show g < 0 from g1) (by omega), hS _ (fun k => rfl), ⟨Int.le_refl 0, by decide, fun i i0 i1 => absurd (show i < 0 from i1) (by omega)⟩, fun j j0 j1 => ⟨Or.inl rfl, fun h => absurd (show (0 : Int) = 1 from h) (by decide)⟩, ⟨Int.le_refl 0, by decide, fun i i0 i1 => absurd (show i < 0 from i1) (by omega)⟩, ⟨Int.le_refl 0, by decide, fun i i0 i1 => absurd (show i < 0 from i1) (by omega)⟩, ⟨Int.le_refl 0, by decide⟩⟩
