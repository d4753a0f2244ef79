/-! calls: what they answer, and the state behind them -/
abbrev Sg : Type := (Nat → Int → Int) × (Nat → Int) × Int
def mPost (hp : pd_P) (sz : Nat) (r : Sg) : pd_R := fun v' sz' hp' => v' = some (vi r.2.2) ∧ sz' = sz ∧ MW hp' r.1 r.2.1 ∧ fr hp hp' 178 200
def cPost (hp : pd_P) (sz : Nat) (r : Sg) : pd_R := fun v' sz' hp' => v' = some (vi r.2.2) ∧ sz' = sz ∧ (∃ to dr, CW hp' to dr r.1 r.2.1) ∧ fr hp hp' 1 178
def fType (q : Nat → Int → Int) (v : Nat → Int) (c : Int) : Sg := if ¬ (0 ≤ c ∧ c ≤ 255) then (q, v, -1) else if v 1 = 150 then (q, v, -3) else (va_up q 0 (uI (q 0) (v 1) (sgn c)), va_up v 1 (v 1 + 1), v 1 + 1)
def fClear (q : Nat → Int → Int) (v : Nat → Int) : Sg := (q, va_up v 1 0, v 1)
def fSaw (q : Nat → Int → Int) (v : Nat → Int) (g n : Int) : Sg := if ¬ ((0 ≤ g ∧ g ≤ q 3 0 - 1) ∧ (0 ≤ n ∧ n ≤ 999)) then (q, v, -1) else if v 26 = 4 then (q, v, -3) else (va_up (va_up q 24 (uI (q 24) (v 26) g)) 25 (uI (q 25) (v 26) n), va_up v 26 (v 26 + 1), v 26 + 1)
def fGave (q : Nat → Int → Int) (v : Nat → Int) (d t : Int) : Sg := if ¬ ((0 ≤ d ∧ d ≤ 19) ∧ (-1 ≤ t ∧ t ≤ 19)) then (q, v, -1) else if v 29 = 4 then (q, v, -3) else (va_up (va_up q 27 (uI (q 27) (v 29) d)) 28 (uI (q 28) (v 29) (if t = -1 then -9 else t)), va_up v 29 (v 29 + 1), v 29 + 1)
def fForget (q : Nat → Int → Int) (v : Nat → Int) : Sg := (q, va_up (va_up v 26 0) 29 0, v 26 + v 29)
def fCount (q : Nat → Int → Int) (v : Nat → Int) (w : Int) : Sg := (q, v, if w = 0 then q 3 0 else if w = 1 then q 2 0 else if w = 2 then q 2 1 else if w = 3 then v 26 else if w = 4 then v 29 else if w = 5 then q 18 0 else if w = 6 then v 1 else -1)
def fGood (q : Nat → Int → Int) (v : Nat → Int) (g w : Int) : Sg := (q, v, if ¬ (0 ≤ g ∧ g ≤ q 3 0 - 1) then -1 else if w = 0 then q 4 g else if w = 1 then q 5 g else if w = 2 then q 6 g else if w = 3 then q 7 g else if w = 4 then q 17 (2 + g) else if w = 5 then q 17 (6 + g) else if w = 6 then canf (q 2 0) (q 2 1) (q 9) (q 17) g else -1)
def fDay (q : Nat → Int → Int) (v : Nat → Int) (d g w : Int) : Sg := (q, v, if ¬ ((0 ≤ d ∧ d ≤ 19) ∧ (0 ≤ g ∧ g ≤ q 3 0 - 1)) then -1 else if w = 0 then q 8 (4 * d + g) else if w = 1 then q 9 (4 * d + g) else if w = 2 then q 17 (10 + 4 * d + g) else -1)
theorem xR_type (G : pd_G) (sz : Nat) (hp : pd_P) {q : Nat → Int → Int} {v : Nat → Int} (hM : MW hp q v) (hI : IN q v) {c : Int} (j_c : jR c) : pd_c G mR_type 1 [vr 178, vi c] sz hp (mPost hp sz (fType q v c)) := by
  refine pd_con kR_type [some (vr 178), some (vi c)] rfl rfl (Nat.le_of_ble_eq_true rfl) ?_
  obtain ⟨⟨ig0, ig4⟩, ⟨id0, id1, id2, id3⟩, iB, iM, iU, iF, iS, iP, iI, ⟨is0, is4, isx⟩, ⟨im0, im4, imx⟩, it0, it1⟩ := hI
  have k_c := j_c
  unfold jR at k_c
  have hR := hM.1
  have h_text := hM.w_text
  refine pt_iload eR_type_0 rfl ?_
  refine pt_ic eR_type_1 ?_
  refine pt_ic eR_type_2 ?_
  refine pt_ks3r eR_type_5 (cR_in G sz _ (by unfold jR at *; omega) (by unfold jR at *; omega) (by unfold jR at *; omega)) (Nat.le_of_ble_eq_true rfl) (by decide) (Nat.le_refl _) (Nat.le_refl _) ?_
  refine pt_zne eR_type_8 (pwi_j _ _ _) (fun c8 => ?_) (fun c8 => ?_)
  · have c8 := pwi_1 c8
    refine pt_aload eR_type_13 rfl ?_
    refine pt_get eR_type_14 hR rfl ?_
    refine pt_ic eR_type_17 ?_
    refine pt_cne eR_type_20 ⟨by omega, by omega⟩ ⟨by omega, by omega⟩ (fun c20 => ?_) (fun c20 => ?_)
    · refine pt_aload eR_type_26 rfl ?_
      refine pt_get eR_type_27 hR rfl ?_
      refine pt_aload eR_type_30 rfl ?_
      refine pt_get eR_type_31 hR rfl ?_
      refine pt_iload eR_type_34 rfl ?_
      refine pt_i2b eR_type_35 (by omega) (by omega) ?_
      refine pt_bast eR_type_36 h_text (by omega) (by omega) (by decide) (by split <;> omega) ?_
      refine pt_gen ?_
      intro hp1 ev1
      have hR := pg_n ev1 (by omega) hR
      have h_text := pg_s ev1
      refine pt_aload eR_type_37 rfl ?_
      refine pt_dupr eR_type_38 ?_
      refine pt_get eR_type_39 hR rfl ?_
      refine pt_ic eR_type_42 ?_
      refine pt_iadd eR_type_43 ?_
      refine pt_put1 eR_type_44 hR trivial ?_
      refine pt_gen ?_
      intro hp2 ev2
      have hR := pg_s ev2
      have h_text := pg_n ev2 (by omega) h_text
      refine pt_aload eR_type_47 rfl ?_
      refine pt_get eR_type_48 hR rfl ?_
      refine pt_iret eR_type_51 (Nat.le_refl _) (Nat.le_refl _) ?_
      rw [show fType q v c = _ by unfold fType; rw [if_neg (fun z => z c8), if_neg c20]]
      refine ⟨rfl, rfl, ?_, (fr.rf.up ev1 (by decide) (by decide)).up ev2 (by decide) (by decide)⟩
      rw [ev2, ev1]
      exact (hM.s_text (uI (q 0) (v 1) (sgn c))).s_v (va_up v 1 (v 1 + 1))
    · refine pt_ic eR_type_23 ?_
      refine pt_iret eR_type_25 (Nat.le_refl _) (Nat.le_refl _) ?_
      rw [show fType q v c = (q, v, -3) by unfold fType; rw [if_neg (fun z => z c8), if_pos c20]]
      exact ⟨rfl, rfl, hM, fr.rf⟩
  · have c8 := pwi_0 c8
    refine pt_ic eR_type_11 ?_
    refine pt_iret eR_type_12 (Nat.le_refl _) (Nat.le_refl _) ?_
    rw [show fType q v c = (q, v, -1) by unfold fType; rw [if_pos c8]]
    exact ⟨rfl, rfl, hM, fr.rf⟩
theorem xD_type (G : pd_G) (sz : Nat) (hp : pd_P) {to dr : Nat} {q : Nat → Int → Int} {v : Nat → Int} (hC : CW hp to dr q v) (hI : IN q v) {c : Int} (j_c : jR c) : pd_c G mD_type 1 [vr 1, vi c] sz hp (cPost hp sz (fType q v c)) := by
  refine pd_con kD_type [some (vr 1), some (vi c)] rfl rfl (Nat.le_of_ble_eq_true rfl) ?_
  obtain ⟨⟨ig0, ig4⟩, ⟨id0, id1, id2, id3⟩, iB, iM, iU, iF, iS, iP, iI, ⟨is0, is4, isx⟩, ⟨im0, im4, imx⟩, it0, it1⟩ := hI
  have k_c := j_c
  unfold jR at k_c
  have hC0 := hC
  obtain ⟨hto, hDo, hTx, hHs, hHd, hLf, hI0, hI1, hGo, hPl⟩ := hC
  have hDo2 := hDo
  obtain ⟨hD, ⟨imf, hIm, him0, him1⟩, hKp, hSg, hSt, hGd, hGt⟩ := hDo2
  have hTx2 := hTx
  obtain ⟨tx, nu, ta, tb, tc, td, te, hT, hTb, hTn, htx⟩ := hTx2
  refine pt_iload eD_type_0 rfl ?_
  refine pt_ic eD_type_1 ?_
  refine pt_ic eD_type_2 ?_
  refine pt_ks3r eD_type_5 (cD_within G sz _ (by unfold jR at *; omega) (by unfold jR at *; omega) (by unfold jR at *; omega)) (Nat.le_of_ble_eq_true rfl) (by decide) (Nat.le_refl _) (Nat.le_refl _) ?_
  refine pt_zne eD_type_8 (pwi_j _ _ _) (fun c8 => ?_) (fun c8 => ?_)
  · have c8 := pwi_1 c8
    refine pt_aload eD_type_13 rfl ?_
    refine pt_get eD_type_14 hD rfl ?_
    refine pt_get eD_type_17 hT rfl ?_
    refine pt_ic eD_type_20 ?_
    refine pt_clt eD_type_23 ⟨by omega, by omega⟩ ⟨by omega, by omega⟩ (fun c23 => ?_) (fun c23 => ?_)
    · refine pt_aload eD_type_29 rfl ?_
      refine pt_get eD_type_30 hD rfl ?_
      refine pt_get eD_type_33 hT rfl ?_
      refine pt_aload eD_type_36 rfl ?_
      refine pt_get eD_type_37 hD rfl ?_
      refine pt_get eD_type_40 hT rfl ?_
      refine pt_iload eD_type_43 rfl ?_
      refine pt_iast eD_type_44 hTb (by omega) (by omega) (by decide) ?_
      refine pt_gen ?_
      intro hp1 ev1
      have hD := pg_n ev1 (by omega) hD
      have hT := pg_n ev1 (by omega) hT
      have hTb := pg_s ev1
      refine pt_aload eD_type_45 rfl ?_
      refine pt_get eD_type_46 hD rfl ?_
      refine pt_dupr eD_type_49 ?_
      refine pt_get eD_type_50 hT rfl ?_
      refine pt_ic eD_type_53 ?_
      refine pt_iadd eD_type_54 ?_
      refine pt_put1 eD_type_55 hT trivial ?_
      refine pt_gen ?_
      intro hp2 ev2
      have hD := pg_n ev2 (by omega) hD
      have hT := pg_s ev2
      have hTb := pg_n ev2 (by omega) hTb
      refine pt_aload eD_type_58 rfl ?_
      refine pt_get eD_type_59 hD rfl ?_
      refine pt_get eD_type_62 hT rfl ?_
      refine pt_iret eD_type_65 (Nat.le_refl _) (Nat.le_refl _) ?_
      rw [show fType q v c = _ by unfold fType; rw [if_neg (fun z => z c8), if_neg (show ¬ v 1 = 150 by omega)]]
      have hfr : fr hp hp2 2 5 := (fr.rf.up ev1 (by decide) (by decide)).up ev2 (by decide) (by decide)
      have hfr2 : fr hp hp2 1 178 := fun k hk => hfr k (by omega)
      refine ⟨rfl, rfl, ⟨to, dr, hto, hDo.keep hfr (by omega), ?_, hHs.keep hfr (by omega), hHd.keep hfr (by omega), hLf.keep hfr (by omega), hI0.keep hfr (by omega), hI1.keep hfr (by omega), hGo.keep hfr (by omega), hPl.keep hfr (by omega)⟩, hfr2⟩
      refine ⟨_, _, ta, tb, tc, td, te, hT, hTb, pg_n ev2 (by decide) (pg_n ev1 (by decide) hTn), fun i hi0 hi1 => ?_⟩
      have hi2 : i < v 1 + 1 := hi1
      show 0 ≤ uI tx (v 1) c i ∧ uI tx (v 1) c i ≤ 255 ∧ uI (q 0) (v 1) (sgn c) i = sgn (uI tx (v 1) c i)
      by_cases hiv : i = v 1
      · rw [hiv, uI_s, uI_s]; exact ⟨by omega, by omega, rfl⟩
      · rw [uI_n _ _ hiv, uI_n _ _ hiv]; exact htx i hi0 (by omega)
    · refine pt_ic eD_type_26 ?_
      refine pt_iret eD_type_28 (Nat.le_refl _) (Nat.le_refl _) ?_
      rw [show fType q v c = (q, v, -3) by unfold fType; rw [if_neg (fun z => z c8), if_pos (by omega)]]
      exact ⟨rfl, rfl, ⟨to, dr, hC0⟩, fr.rf⟩
  · have c8 := pwi_0 c8
    refine pt_ic eD_type_11 ?_
    refine pt_iret eD_type_12 (Nat.le_refl _) (Nat.le_refl _) ?_
    rw [show fType q v c = (q, v, -1) by unfold fType; rw [if_pos c8]]
    exact ⟨rfl, rfl, ⟨to, dr, hC0⟩, fr.rf⟩
theorem xR_clear (G : pd_G) (sz : Nat) (hp : pd_P) {q : Nat → Int → Int} {v : Nat → Int} (hM : MW hp q v) (hI : IN q v) : pd_c G mR_clear 0 [vr 178] sz hp (mPost hp sz (fClear q v)) := by
  refine pd_con kR_clear [some (vr 178), none] rfl rfl (Nat.le_of_ble_eq_true rfl) ?_
  obtain ⟨⟨ig0, ig4⟩, ⟨id0, id1, id2, id3⟩, iB, iM, iU, iF, iS, iP, iI, ⟨is0, is4, isx⟩, ⟨im0, im4, imx⟩, it0, it1⟩ := hI
  have hR := hM.1
  refine pt_aload eR_clear_0 rfl ?_
  refine pt_get eR_clear_1 hR rfl ?_
  refine pt_istore1 eR_clear_4 rfl ?_
  refine pt_aload eR_clear_5 rfl ?_
  refine pt_ic eR_clear_6 ?_
  refine pt_put1 eR_clear_7 hR trivial ?_
  refine pt_gen ?_
  intro hp1 ev1
  have hR := pg_s ev1
  refine pt_iload eR_clear_10 rfl ?_
  refine pt_iret eR_clear_11 (Nat.le_refl _) (Nat.le_refl _) ?_
  refine ⟨rfl, rfl, ?_, fr.rf.up ev1 (by decide) (by decide)⟩
  rw [ev1]
  exact hM.s_v (va_up v 1 0)
theorem xD_clear (G : pd_G) (sz : Nat) (hp : pd_P) {to dr : Nat} {q : Nat → Int → Int} {v : Nat → Int} (hC : CW hp to dr q v) (hI : IN q v) : pd_c G mD_clear 0 [vr 1] sz hp (cPost hp sz (fClear q v)) := by
  refine pd_con kD_clear [some (vr 1), none] rfl rfl (Nat.le_of_ble_eq_true rfl) ?_
  obtain ⟨⟨ig0, ig4⟩, ⟨id0, id1, id2, id3⟩, iB, iM, iU, iF, iS, iP, iI, ⟨is0, is4, isx⟩, ⟨im0, im4, imx⟩, it0, it1⟩ := hI
  have hC0 := hC
  obtain ⟨hto, hDo, hTx, hHs, hHd, hLf, hI0, hI1, hGo, hPl⟩ := hC
  have hDo2 := hDo
  obtain ⟨hD, ⟨imf, hIm, him0, him1⟩, hKp, hSg, hSt, hGd, hGt⟩ := hDo2
  have hTx2 := hTx
  obtain ⟨tx, nu, ta, tb, tc, td, te, hT, hTb, hTn, htx⟩ := hTx2
  refine pt_aload eD_clear_0 rfl ?_
  refine pt_get eD_clear_1 hD rfl ?_
  refine pt_get eD_clear_4 hT rfl ?_
  refine pt_istore1 eD_clear_7 rfl ?_
  refine pt_aload eD_clear_8 rfl ?_
  refine pt_get eD_clear_9 hD rfl ?_
  refine pt_ic eD_clear_12 ?_
  refine pt_put1 eD_clear_13 hT trivial ?_
  refine pt_gen ?_
  intro hp1 ev1
  have hD := pg_n ev1 (by omega) hD
  have hT := pg_s ev1
  have hTb := pg_n ev1 (by omega) hTb
  have hTn := pg_n ev1 (by omega) hTn
  refine pt_iload eD_clear_16 rfl ?_
  refine pt_iret eD_clear_17 (Nat.le_refl _) (Nat.le_refl _) ?_
  have hfr : fr hp hp1 2 5 := fr.rf.up ev1 (by decide) (by decide)
  refine ⟨rfl, rfl, ⟨to, dr, hto, hDo.keep hfr (by omega), ?_, hHs.keep hfr (by omega), hHd.keep hfr (by omega), hLf.keep hfr (by omega), hI0.keep hfr (by omega), hI1.keep hfr (by omega), hGo.keep hfr (by omega), hPl.keep hfr (by omega)⟩, fun k hk => hfr k (by omega)⟩
  exact ⟨tx, nu, ta, tb, tc, td, te, hT, hTb, hTn, fun i hi0 hi1 => absurd (show i < 0 from hi1) (by omega)⟩
theorem xR_saw (G : pd_G) (sz : Nat) (hp : pd_P) {q : Nat → Int → Int} {v : Nat → Int} (hM : MW hp q v) (hI : IN q v) {g : Int} (j_g : jR g) {n : Int} (j_n : jR n) : pd_c G mR_saw 2 [vr 178, vi g, vi n] sz hp (mPost hp sz (fSaw q v g n)) := by
  refine pd_con kR_saw [some (vr 178), some (vi g), some (vi n)] rfl rfl (Nat.le_of_ble_eq_true rfl) ?_
  obtain ⟨⟨ig0, ig4⟩, ⟨id0, id1, id2, id3⟩, iB, iM, iU, iF, iS, iP, iI, ⟨is0, is4, isx⟩, ⟨im0, im4, imx⟩, it0, it1⟩ := hI
  have k_g := j_g
  unfold jR at k_g
  have k_n := j_n
  unfold jR at k_n
  have hR := hM.1
  have h_goods := hM.w_goods
  have h_sightOf := hM.w_sightOf
  have h_sightIs := hM.w_sightIs
  refine pt_aload eR_saw_0 rfl ?_
  refine pt_iload eR_saw_1 rfl ?_
  refine pt_kv1r eR_saw_2 (cR_isGood G sz _ hR h_goods j_g ig0 ig4) hR rfl (Nat.le_of_ble_eq_true rfl) (by decide) (Nat.le_refl _) (Nat.le_refl _) ?_
  refine pt_zeq eR_saw_5 (pwi_j _ _ _) (fun c5 => ?_) (fun c5 => ?_)
  · refine pt_ic eR_saw_19 ?_
    refine pt_iret eR_saw_20 (Nat.le_refl _) (Nat.le_refl _) ?_
    first
    | (have c5 := pwi_0 c5
       rw [show fSaw q v g n = (q, v, -1) by unfold fSaw; rw [if_pos (fun z => c5 z.1)]]
       exact ⟨rfl, rfl, hM, fr.rf⟩)
    | (have c16 := pwi_0 c16
       rw [show fSaw q v g n = (q, v, -1) by unfold fSaw; rw [if_pos (fun z => c16 z.2)]]
       exact ⟨rfl, rfl, hM, fr.rf⟩)
  · have c5 := pwi_1 c5
    refine pt_iload eR_saw_8 rfl ?_
    refine pt_ic eR_saw_9 ?_
    refine pt_ic eR_saw_10 ?_
    refine pt_ks3r eR_saw_13 (cR_in G sz _ (by unfold jR at *; omega) (by unfold jR at *; omega) (by unfold jR at *; omega)) (Nat.le_of_ble_eq_true rfl) (by decide) (Nat.le_refl _) (Nat.le_refl _) ?_
    refine pt_zne eR_saw_16 (pwi_j _ _ _) (fun c16 => ?_) (fun c16 => ?_)
    · have c16 := pwi_1 c16
      refine pt_aload eR_saw_21 rfl ?_
      refine pt_get eR_saw_22 hR rfl ?_
      refine pt_ic eR_saw_25 ?_
      refine pt_cne eR_saw_26 ⟨by omega, by omega⟩ ⟨by omega, by omega⟩ (fun c26 => ?_) (fun c26 => ?_)
      · refine pt_aload eR_saw_32 rfl ?_
        refine pt_get eR_saw_33 hR rfl ?_
        refine pt_aload eR_saw_36 rfl ?_
        refine pt_get eR_saw_37 hR rfl ?_
        refine pt_iload eR_saw_40 rfl ?_
        refine pt_iast eR_saw_41 h_sightOf (by omega) (by omega) (by decide) ?_
        refine pt_gen ?_
        intro hp1 ev1
        have hR := pg_n ev1 (by omega) hR
        have h_goods := pg_n ev1 (by omega) h_goods
        have h_sightOf := pg_s ev1
        have h_sightIs := pg_n ev1 (by omega) h_sightIs
        refine pt_aload eR_saw_42 rfl ?_
        refine pt_get eR_saw_43 hR rfl ?_
        refine pt_aload eR_saw_46 rfl ?_
        refine pt_get eR_saw_47 hR rfl ?_
        refine pt_iload eR_saw_50 rfl ?_
        refine pt_iast eR_saw_51 h_sightIs (by omega) (by omega) (by decide) ?_
        refine pt_gen ?_
        intro hp2 ev2
        have hR := pg_n ev2 (by omega) hR
        have h_goods := pg_n ev2 (by omega) h_goods
        have h_sightOf := pg_n ev2 (by omega) h_sightOf
        have h_sightIs := pg_s ev2
        refine pt_aload eR_saw_52 rfl ?_
        refine pt_dupr eR_saw_53 ?_
        refine pt_get eR_saw_54 hR rfl ?_
        refine pt_ic eR_saw_57 ?_
        refine pt_iadd eR_saw_58 ?_
        refine pt_put26 eR_saw_59 hR trivial ?_
        refine pt_gen ?_
        intro hp3 ev3
        have hR := pg_s ev3
        have h_goods := pg_n ev3 (by omega) h_goods
        have h_sightOf := pg_n ev3 (by omega) h_sightOf
        have h_sightIs := pg_n ev3 (by omega) h_sightIs
        refine pt_aload eR_saw_62 rfl ?_
        refine pt_get eR_saw_63 hR rfl ?_
        refine pt_iret eR_saw_66 (Nat.le_refl _) (Nat.le_refl _) ?_
        rw [show fSaw q v g n = _ by unfold fSaw; rw [if_neg (fun z => z ⟨c5, c16⟩), if_neg c26]]
        refine ⟨rfl, rfl, ?_, ((fr.rf.up ev1 (by decide) (by decide)).up ev2 (by decide) (by decide)).up ev3 (by decide) (by decide)⟩
        rw [ev3, ev2, ev1]
        exact ((hM.s_sightOf (uI (q 24) (v 26) g)).s_sightIs (uI (q 25) (v 26) n)).s_v (va_up v 26 (v 26 + 1))
      · refine pt_ic eR_saw_29 ?_
        refine pt_iret eR_saw_31 (Nat.le_refl _) (Nat.le_refl _) ?_
        rw [show fSaw q v g n = (q, v, -3) by unfold fSaw; rw [if_neg (fun z => z ⟨c5, c16⟩), if_pos c26]]
        exact ⟨rfl, rfl, hM, fr.rf⟩
    · refine pt_ic eR_saw_19 ?_
      refine pt_iret eR_saw_20 (Nat.le_refl _) (Nat.le_refl _) ?_
      first
      | (have c5 := pwi_0 c5
         rw [show fSaw q v g n = (q, v, -1) by unfold fSaw; rw [if_pos (fun z => c5 z.1)]]
         exact ⟨rfl, rfl, hM, fr.rf⟩)
      | (have c16 := pwi_0 c16
         rw [show fSaw q v g n = (q, v, -1) by unfold fSaw; rw [if_pos (fun z => c16 z.2)]]
         exact ⟨rfl, rfl, hM, fr.rf⟩)
theorem xD_saw (G : pd_G) (sz : Nat) (hp : pd_P) {to dr : Nat} {q : Nat → Int → Int} {v : Nat → Int} (hC : CW hp to dr q v) (hI : IN q v) {g : Int} (j_g : jR g) {n : Int} (j_n : jR n) : pd_c G mD_saw 2 [vr 1, vi g, vi n] sz hp (cPost hp sz (fSaw q v g n)) := by
  refine pd_con kD_saw [some (vr 1), some (vi g), some (vi n)] rfl rfl (Nat.le_of_ble_eq_true rfl) ?_
  obtain ⟨⟨ig0, ig4⟩, ⟨id0, id1, id2, id3⟩, iB, iM, iU, iF, iS, iP, iI, ⟨is0, is4, isx⟩, ⟨im0, im4, imx⟩, it0, it1⟩ := hI
  have k_g := j_g
  unfold jR at k_g
  have k_n := j_n
  unfold jR at k_n
  have hC0 := hC
  obtain ⟨hto, hDo, hTx, hHs, hHd, hLf, hI0, hI1, hGo, hPl⟩ := hC
  have hDo2 := hDo
  obtain ⟨hD, ⟨imf, hIm, him0, him1⟩, hKp, hSg, hSt, hGd, hGt⟩ := hDo2
  have hHs2 := hHs
  obtain ⟨fi, us, we, wo, stt, hHo, hag, hstt⟩ := hHs2
  have hHo2 := hHo
  obtain ⟨hH, hH1, hH2, hH3, hH4, hH5, hH6, hH7⟩ := hHo2
  refine pt_aload eD_saw_0 rfl ?_
  refine pt_get eD_saw_1 hD rfl ?_
  refine pt_iload eD_saw_4 rfl ?_
  refine pt_kv1r eD_saw_5 (cH_has G sz _ hH j_g ig0 ig4) hH rfl (Nat.le_of_ble_eq_true rfl) (by decide) (Nat.le_refl _) (Nat.le_refl _) ?_
  refine pt_zeq eD_saw_8 (pwi_j _ _ _) (fun c8 => ?_) (fun c8 => ?_)
  · refine pt_ic eD_saw_22 ?_
    refine pt_iret eD_saw_23 (Nat.le_refl _) (Nat.le_refl _) ?_
    first
    | (have c8 := pwi_0 c8
       rw [show fSaw q v g n = (q, v, -1) by unfold fSaw; rw [if_pos (fun z => c8 z.1)]]
       exact ⟨rfl, rfl, ⟨to, dr, hC0⟩, fr.rf⟩)
    | (have c19 := pwi_0 c19
       rw [show fSaw q v g n = (q, v, -1) by unfold fSaw; rw [if_pos (fun z => c19 z.2)]]
       exact ⟨rfl, rfl, ⟨to, dr, hC0⟩, fr.rf⟩)
  · have c8 := pwi_1 c8
    refine pt_iload eD_saw_11 rfl ?_
    refine pt_ic eD_saw_12 ?_
    refine pt_ic eD_saw_13 ?_
    refine pt_ks3r eD_saw_16 (cD_within G sz _ (by unfold jR at *; omega) (by unfold jR at *; omega) (by unfold jR at *; omega)) (Nat.le_of_ble_eq_true rfl) (by decide) (Nat.le_refl _) (Nat.le_refl _) ?_
    refine pt_zne eD_saw_19 (pwi_j _ _ _) (fun c19 => ?_) (fun c19 => ?_)
    · have c19 := pwi_1 c19
      refine pt_aload eD_saw_24 rfl ?_
      refine pt_get eD_saw_25 hD rfl ?_
      refine pt_ic eD_saw_28 ?_
      refine pt_clt eD_saw_29 ⟨by omega, by omega⟩ ⟨by omega, by omega⟩ (fun c29 => ?_) (fun c29 => ?_)
      · refine pt_aload eD_saw_35 rfl ?_
        refine pt_get eD_saw_36 hD rfl ?_
        refine pt_aload eD_saw_39 rfl ?_
        refine pt_get eD_saw_40 hD rfl ?_
        refine pt_iload eD_saw_43 rfl ?_
        refine pt_iast eD_saw_44 hSg (by omega) (by omega) (by decide) ?_
        refine pt_gen ?_
        intro hp1 ev1
        have hD := pg_n ev1 (by omega) hD
        have hH := pg_n ev1 (by omega) hH
        have hSg := pg_s ev1
        have hSt := pg_n ev1 (by omega) hSt
        refine pt_aload eD_saw_45 rfl ?_
        refine pt_get eD_saw_46 hD rfl ?_
        refine pt_aload eD_saw_49 rfl ?_
        refine pt_get eD_saw_50 hD rfl ?_
        refine pt_iload eD_saw_53 rfl ?_
        refine pt_iast eD_saw_54 hSt (by omega) (by omega) (by decide) ?_
        refine pt_gen ?_
        intro hp2 ev2
        have hD := pg_n ev2 (by omega) hD
        have hH := pg_n ev2 (by omega) hH
        have hSg := pg_n ev2 (by omega) hSg
        have hSt := pg_s ev2
        refine pt_aload eD_saw_55 rfl ?_
        refine pt_dupr eD_saw_56 ?_
        refine pt_get eD_saw_57 hD rfl ?_
        refine pt_ic eD_saw_60 ?_
        refine pt_iadd eD_saw_61 ?_
        refine pt_put13 eD_saw_62 hD trivial ?_
        refine pt_gen ?_
        intro hp3 ev3
        have hD := pg_s ev3
        have hH := pg_n ev3 (by omega) hH
        have hSg := pg_n ev3 (by omega) hSg
        have hSt := pg_n ev3 (by omega) hSt
        refine pt_aload eD_saw_65 rfl ?_
        refine pt_get eD_saw_66 hD rfl ?_
        refine pt_iret eD_saw_69 (Nat.le_refl _) (Nat.le_refl _) ?_
        rw [show fSaw q v g n = _ by unfold fSaw; rw [if_neg (fun z => z ⟨c8, c19⟩), if_neg (show ¬ v 26 = 4 by omega)]]
        have hfa : fr hp hp2 53 55 := (fr.rf.up ev1 (by decide) (by decide)).up ev2 (by decide) (by decide)
        have hfb : fr hp2 hp3 1 2 := fr.rf.up ev3 (by decide) (by decide)
        refine ⟨rfl, rfl, ⟨to, dr, hto, ⟨hD, ⟨imf, hfb.at (by decide) (hfa.at (by decide) hIm), him0, him1⟩, hfb.at (by decide) (hfa.at (by decide) hKp), hSg, hSt, hfb.at (by decide) (hfa.at (by decide) hGd), hfb.at (by decide) (hfa.at (by decide) hGt)⟩, (hTx.keep hfa (by decide)).keep hfb (by decide), (hHs.keep hfa (by omega)).keep hfb (by omega), (hHd.keep hfa (by omega)).keep hfb (by omega), (hLf.keep hfa (by decide)).keep hfb (by decide), (hI0.keep hfa (by decide)).keep hfb (by decide), (hI1.keep hfa (by decide)).keep hfb (by decide), (hGo.keep hfa (by decide)).keep hfb (by decide), (hPl.keep hfa (by decide)).keep hfb (by decide)⟩, fun k hk => (hfb k (by omega)).trans (hfa k (by omega))⟩
      · refine pt_ic eD_saw_32 ?_
        refine pt_iret eD_saw_34 (Nat.le_refl _) (Nat.le_refl _) ?_
        rw [show fSaw q v g n = (q, v, -3) by unfold fSaw; rw [if_neg (fun z => z ⟨c8, c19⟩), if_pos (by omega)]]
        exact ⟨rfl, rfl, ⟨to, dr, hC0⟩, fr.rf⟩
    · refine pt_ic eD_saw_22 ?_
      refine pt_iret eD_saw_23 (Nat.le_refl _) (Nat.le_refl _) ?_
      first
      | (have c8 := pwi_0 c8
         rw [show fSaw q v g n = (q, v, -1) by unfold fSaw; rw [if_pos (fun z => c8 z.1)]]
         exact ⟨rfl, rfl, ⟨to, dr, hC0⟩, fr.rf⟩)
      | (have c19 := pwi_0 c19
         rw [show fSaw q v g n = (q, v, -1) by unfold fSaw; rw [if_pos (fun z => c19 z.2)]]
         exact ⟨rfl, rfl, ⟨to, dr, hC0⟩, fr.rf⟩)
theorem xR_gave (G : pd_G) (sz : Nat) (hp : pd_P) {q : Nat → Int → Int} {v : Nat → Int} (hM : MW hp q v) (hI : IN q v) {d : Int} (j_d : jR d) {t : Int} (j_t : jR t) : pd_c G mR_gave 2 [vr 178, vi d, vi t] sz hp (mPost hp sz (fGave q v d t)) := by
  refine pd_con kR_gave [some (vr 178), some (vi d), some (vi t)] rfl rfl (Nat.le_of_ble_eq_true rfl) ?_
  obtain ⟨⟨ig0, ig4⟩, ⟨id0, id1, id2, id3⟩, iB, iM, iU, iF, iS, iP, iI, ⟨is0, is4, isx⟩, ⟨im0, im4, imx⟩, it0, it1⟩ := hI
  have k_d := j_d
  unfold jR at k_d
  have k_t := j_t
  unfold jR at k_t
  have hR := hM.1
  have h_markOf := hM.w_markOf
  have h_markTo := hM.w_markTo
  refine pt_iload eR_gave_0 rfl ?_
  refine pt_ks1r eR_gave_1 (cR_isDay G sz _ j_d) (Nat.le_of_ble_eq_true rfl) (by decide) (Nat.le_refl _) (Nat.le_refl _) ?_
  refine pt_zeq eR_gave_4 (pwi_j _ _ _) (fun c4 => ?_) (fun c4 => ?_)
  · refine pt_ic eR_gave_17 ?_
    refine pt_iret eR_gave_18 (Nat.le_refl _) (Nat.le_refl _) ?_
    first
    | (have c4 := pwi_0 c4
       rw [show fGave q v d t = (q, v, -1) by unfold fGave; rw [if_pos (fun z => c4 z.1)]]
       exact ⟨rfl, rfl, hM, fr.rf⟩)
    | (have c14 := pwi_0 c14
       rw [show fGave q v d t = (q, v, -1) by unfold fGave; rw [if_pos (fun z => c14 z.2)]]
       exact ⟨rfl, rfl, hM, fr.rf⟩)
  · have c4 := pwi_1 c4
    refine pt_iload eR_gave_7 rfl ?_
    refine pt_ic eR_gave_8 ?_
    refine pt_ic eR_gave_9 ?_
    refine pt_ks3r eR_gave_11 (cR_in G sz _ (by unfold jR at *; omega) (by unfold jR at *; omega) (by unfold jR at *; omega)) (Nat.le_of_ble_eq_true rfl) (by decide) (Nat.le_refl _) (Nat.le_refl _) ?_
    refine pt_zne eR_gave_14 (pwi_j _ _ _) (fun c14 => ?_) (fun c14 => ?_)
    · have c14 := pwi_1 c14
      refine pt_aload eR_gave_19 rfl ?_
      refine pt_get eR_gave_20 hR rfl ?_
      refine pt_ic eR_gave_23 ?_
      refine pt_cne eR_gave_24 ⟨by omega, by omega⟩ ⟨by omega, by omega⟩ (fun c24 => ?_) (fun c24 => ?_)
      · refine pt_aload eR_gave_30 rfl ?_
        refine pt_get eR_gave_31 hR rfl ?_
        refine pt_aload eR_gave_34 rfl ?_
        refine pt_get eR_gave_35 hR rfl ?_
        refine pt_iload eR_gave_38 rfl ?_
        refine pt_iast eR_gave_39 h_markOf (by omega) (by omega) (by decide) ?_
        refine pt_gen ?_
        intro hp1 ev1
        have hR := pg_n ev1 (by omega) hR
        have h_markOf := pg_s ev1
        have h_markTo := pg_n ev1 (by omega) h_markTo
        refine pt_aload eR_gave_40 rfl ?_
        refine pt_get eR_gave_41 hR rfl ?_
        refine pt_aload eR_gave_44 rfl ?_
        refine pt_get eR_gave_45 hR rfl ?_
        refine pt_iload eR_gave_48 rfl ?_
        refine pt_ic eR_gave_49 ?_
        refine pt_cne eR_gave_50 ⟨by omega, by omega⟩ ⟨by omega, by omega⟩ (fun c50 => ?_) (fun c50 => ?_)
        · refine pt_iload eR_gave_58 rfl ?_
          refine pt_iast eR_gave_59 h_markTo (by omega) (by omega) (by decide) ?_
          refine pt_gen ?_
          intro hp2 ev2
          have hR := pg_n ev2 (by omega) hR
          have h_markOf := pg_n ev2 (by omega) h_markOf
          have h_markTo := pg_s ev2
          refine pt_aload eR_gave_60 rfl ?_
          refine pt_dupr eR_gave_61 ?_
          refine pt_get eR_gave_62 hR rfl ?_
          refine pt_ic eR_gave_65 ?_
          refine pt_iadd eR_gave_66 ?_
          refine pt_put29 eR_gave_67 hR trivial ?_
          refine pt_gen ?_
          intro hp3 ev3
          have hR := pg_s ev3
          have h_markOf := pg_n ev3 (by omega) h_markOf
          have h_markTo := pg_n ev3 (by omega) h_markTo
          refine pt_aload eR_gave_70 rfl ?_
          refine pt_get eR_gave_71 hR rfl ?_
          refine pt_iret eR_gave_74 (Nat.le_refl _) (Nat.le_refl _) ?_
          rw [show fGave q v d t = _ by unfold fGave; rw [if_neg (fun z => z ⟨c4, c14⟩), if_neg c24]]
          refine ⟨rfl, rfl, ?_, ((fr.rf.up ev1 (by decide) (by decide)).up ev2 (by decide) (by decide)).up ev3 (by decide) (by decide)⟩
          first | rw [if_neg c50] | rw [if_pos c50]
          rw [ev3, ev2, ev1]
          exact ((hM.s_markOf (uI (q 27) (v 29) d)).s_markTo (uI (q 28) (v 29) _)).s_v (va_up v 29 (v 29 + 1))
        · refine pt_ic eR_gave_53 ?_
          refine pt_goto eR_gave_55 ?_
          refine pt_iast eR_gave_59 h_markTo (by omega) (by omega) (by decide) ?_
          refine pt_gen ?_
          intro hp4 ev4
          have hR := pg_n ev4 (by omega) hR
          have h_markOf := pg_n ev4 (by omega) h_markOf
          have h_markTo := pg_s ev4
          refine pt_aload eR_gave_60 rfl ?_
          refine pt_dupr eR_gave_61 ?_
          refine pt_get eR_gave_62 hR rfl ?_
          refine pt_ic eR_gave_65 ?_
          refine pt_iadd eR_gave_66 ?_
          refine pt_put29 eR_gave_67 hR trivial ?_
          refine pt_gen ?_
          intro hp5 ev5
          have hR := pg_s ev5
          have h_markOf := pg_n ev5 (by omega) h_markOf
          have h_markTo := pg_n ev5 (by omega) h_markTo
          refine pt_aload eR_gave_70 rfl ?_
          refine pt_get eR_gave_71 hR rfl ?_
          refine pt_iret eR_gave_74 (Nat.le_refl _) (Nat.le_refl _) ?_
          rw [show fGave q v d t = _ by unfold fGave; rw [if_neg (fun z => z ⟨c4, c14⟩), if_neg c24]]
          refine ⟨rfl, rfl, ?_, ((fr.rf.up ev1 (by decide) (by decide)).up ev4 (by decide) (by decide)).up ev5 (by decide) (by decide)⟩
          first | rw [if_neg c50] | rw [if_pos c50]
          rw [ev5, ev4, ev1]
          exact ((hM.s_markOf (uI (q 27) (v 29) d)).s_markTo (uI (q 28) (v 29) _)).s_v (va_up v 29 (v 29 + 1))
      · refine pt_ic eR_gave_27 ?_
        refine pt_iret eR_gave_29 (Nat.le_refl _) (Nat.le_refl _) ?_
        rw [show fGave q v d t = (q, v, -3) by unfold fGave; rw [if_neg (fun z => z ⟨c4, c14⟩), if_pos c24]]
        exact ⟨rfl, rfl, hM, fr.rf⟩
    · refine pt_ic eR_gave_17 ?_
      refine pt_iret eR_gave_18 (Nat.le_refl _) (Nat.le_refl _) ?_
      first
      | (have c4 := pwi_0 c4
         rw [show fGave q v d t = (q, v, -1) by unfold fGave; rw [if_pos (fun z => c4 z.1)]]
         exact ⟨rfl, rfl, hM, fr.rf⟩)
      | (have c14 := pwi_0 c14
         rw [show fGave q v d t = (q, v, -1) by unfold fGave; rw [if_pos (fun z => c14 z.2)]]
         exact ⟨rfl, rfl, hM, fr.rf⟩)
theorem xR_forget (G : pd_G) (sz : Nat) (hp : pd_P) {q : Nat → Int → Int} {v : Nat → Int} (hM : MW hp q v) (hI : IN q v) : pd_c G mR_forget 0 [vr 178] sz hp (mPost hp sz (fForget q v)) := by
  refine pd_con kR_forget [some (vr 178), none] rfl rfl (Nat.le_of_ble_eq_true rfl) ?_
  obtain ⟨⟨ig0, ig4⟩, ⟨id0, id1, id2, id3⟩, iB, iM, iU, iF, iS, iP, iI, ⟨is0, is4, isx⟩, ⟨im0, im4, imx⟩, it0, it1⟩ := hI
  have hR := hM.1
  refine pt_aload eR_forget_0 rfl ?_
  refine pt_get eR_forget_1 hR rfl ?_
  refine pt_aload eR_forget_4 rfl ?_
  refine pt_get eR_forget_5 hR rfl ?_
  refine pt_iadd eR_forget_8 ?_
  refine pt_istore1 eR_forget_9 rfl ?_
  refine pt_aload eR_forget_10 rfl ?_
  refine pt_ic eR_forget_11 ?_
  refine pt_put26 eR_forget_12 hR trivial ?_
  refine pt_gen ?_
  intro hp1 ev1
  have hR := pg_s ev1
  refine pt_aload eR_forget_15 rfl ?_
  refine pt_ic eR_forget_16 ?_
  refine pt_put29 eR_forget_17 hR trivial ?_
  refine pt_gen ?_
  intro hp2 ev2
  have hR := pg_s ev2
  refine pt_iload eR_forget_20 rfl ?_
  refine pt_iret eR_forget_21 (Nat.le_refl _) (Nat.le_refl _) ?_
  refine ⟨rfl, rfl, ?_, (fr.rf.up ev1 (by decide) (by decide)).up ev2 (by decide) (by decide)⟩
  rw [ev2, ev1, bx_uu]
  exact hM.s_v (va_up (va_up v 26 0) 29 0)
theorem xD_forget (G : pd_G) (sz : Nat) (hp : pd_P) {to dr : Nat} {q : Nat → Int → Int} {v : Nat → Int} (hC : CW hp to dr q v) (hI : IN q v) : pd_c G mD_forget 0 [vr 1] sz hp (cPost hp sz (fForget q v)) := by
  refine pd_con kD_forget [some (vr 1), none] rfl rfl (Nat.le_of_ble_eq_true rfl) ?_
  obtain ⟨⟨ig0, ig4⟩, ⟨id0, id1, id2, id3⟩, iB, iM, iU, iF, iS, iP, iI, ⟨is0, is4, isx⟩, ⟨im0, im4, imx⟩, it0, it1⟩ := hI
  have hC0 := hC
  obtain ⟨hto, hDo, hTx, hHs, hHd, hLf, hI0, hI1, hGo, hPl⟩ := hC
  have hDo2 := hDo
  obtain ⟨hD, ⟨imf, hIm, him0, him1⟩, hKp, hSg, hSt, hGd, hGt⟩ := hDo2
  refine pt_aload eD_forget_0 rfl ?_
  refine pt_get eD_forget_1 hD rfl ?_
  refine pt_aload eD_forget_4 rfl ?_
  refine pt_get eD_forget_5 hD rfl ?_
  refine pt_iadd eD_forget_8 ?_
  refine pt_istore1 eD_forget_9 rfl ?_
  refine pt_aload eD_forget_10 rfl ?_
  refine pt_ic eD_forget_11 ?_
  refine pt_put13 eD_forget_12 hD trivial ?_
  refine pt_gen ?_
  intro hp1 ev1
  have hD := pg_s ev1
  refine pt_aload eD_forget_15 rfl ?_
  refine pt_ic eD_forget_16 ?_
  refine pt_put14 eD_forget_17 hD trivial ?_
  refine pt_gen ?_
  intro hp2 ev2
  have hD := pg_s ev2
  refine pt_iload eD_forget_20 rfl ?_
  refine pt_iret eD_forget_21 (Nat.le_refl _) (Nat.le_refl _) ?_
  have hfb : fr hp hp2 1 2 := (fr.rf.up ev1 (by decide) (by decide)).up ev2 (by decide) (by decide)
  exact ⟨rfl, rfl, ⟨to, dr, hto, ⟨hD, ⟨imf, hfb.at (by decide) hIm, him0, him1⟩, hfb.at (by decide) hKp, hfb.at (by decide) hSg, hfb.at (by decide) hSt, hfb.at (by decide) hGd, hfb.at (by decide) hGt⟩, hTx.keep hfb (by decide), hHs.keep hfb (by omega), hHd.keep hfb (by omega), hLf.keep hfb (by decide), hI0.keep hfb (by decide), hI1.keep hfb (by decide), hGo.keep hfb (by decide), hPl.keep hfb (by decide)⟩, fun k hk => hfb k (by omega)⟩
