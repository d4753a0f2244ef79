/-! undone; images -/
def fUndo (q : Nat → Int → Int) (v : Nat → Int) : Sg := if q 18 0 = 0 then (q, v, -2) else (va_up (va_up q 18 (uI (q 18) 0 (q 18 0 - 1))) 17 (fun x => q 19 (90 * (q 18 0 - 1) + x)), v, q 18 0 - 1)
def fKeep (q : Nat → Int → Int) (v : Nat → Int) (j : Int) : Sg := if ¬ (0 ≤ j ∧ j ≤ 1) then (q, v, -1) else (va_up (va_up (va_up (va_up q 20 (blk (q 20) (q 17) (90 * j) 90)) 19 (blk (q 19) (q 19) (900 * (1 + j)) 900)) 18 (uI (q 18) (1 + j) (q 18 0))) 21 (uI (q 21) j 1), v, q 17 0)
def fBack (q : Nat → Int → Int) (v : Nat → Int) (j : Int) : Sg := if ¬ (0 ≤ j ∧ j ≤ 1) then (q, v, -1) else if q 21 j = 0 then (q, v, -2) else (va_up (va_up (va_up q 17 (fun x => q 20 (90 * j + x))) 19 (blk (q 19) (fun x => q 19 (900 * (1 + j) + x)) 0 900)) 18 (uI (q 18) 0 (q 18 (1 + j))), v, q 20 (90 * j + 0))
theorem lR_undo (G : pd_G) (sz : Nat) (hp : pd_P) {v : Nat → Int} {bf kn σ : Int → Int} (hR : hp 178 = RO v) (h_known : hp 189 = ia 3 kn) (h_before : hp 190 = ia 2700 bf) (hk0 : 0 ≤ kn 0) (hk1 : kn 0 < 10) {R : pd_R} (hx : ∀  (hp0 : pd_P), hp0 = (va_up hp (188) (ia 90 (blk σ (fun x => bf (90 * kn 0 + x)) 0 (90)))) → pd_t G mR_undo 0 R 58 [some (vr 178), some (vi 90)] [] sz hp0) : ∀ (n : Nat) (i : Int)  (hp0 : pd_P), 0 ≤ i → i + n = 90 → hp0 = (va_up hp (188) (ia 90 (blk σ (fun x => bf (90 * kn 0 + x)) 0 (i)))) → pd_t G mR_undo 0 R 24 [some (vr 178), some (vi i)] [] sz hp0 := by
  intro n
  induction n with
  | zero =>
    intro i  hp0 hi0 hiE he0
    have hiE2 : 90 = i := by omega
    subst hiE2
    have hx2 := hx  hp0 he0
    have hR := pg_n he0 (by omega) hR
    have h_now := pg_s he0
    have h_known := pg_n he0 (by omega) h_known
    have h_before := pg_n he0 (by omega) h_before
    refine pt_iload eR_undo_24 rfl ?_
    refine pt_ic eR_undo_25 ?_
    refine pt_cge eR_undo_27 ⟨by omega, by omega⟩ ⟨by omega, by omega⟩ (fun c27 => ?_) (fun c27 => ?_)
    · exact hx2
    · exfalso; omega
  | succ n ih =>
    intro i  hp0 hi0 hiE he0
    have hR := pg_n he0 (by omega) hR
    have h_now := pg_s he0
    have h_known := pg_n he0 (by omega) h_known
    have h_before := pg_n he0 (by omega) h_before
    refine pt_iload eR_undo_24 rfl ?_
    refine pt_ic eR_undo_25 ?_
    refine pt_cge eR_undo_27 ⟨by omega, by omega⟩ ⟨by omega, by omega⟩ (fun c27 => ?_) (fun c27 => ?_)
    · exfalso; omega
    · refine pt_aload eR_undo_30 rfl ?_
      refine pt_get eR_undo_31 hR rfl ?_
      refine pt_iload eR_undo_34 rfl ?_
      refine pt_aload eR_undo_35 rfl ?_
      refine pt_get eR_undo_36 hR rfl ?_
      refine pt_ic eR_undo_39 ?_
      refine pt_aload eR_undo_41 rfl ?_
      refine pt_get eR_undo_42 hR rfl ?_
      refine pt_ic eR_undo_45 ?_
      refine pt_iald eR_undo_46 h_known (by omega) (by omega) (by decide) ?_
      refine pt_imul eR_undo_47 ?_
      refine pt_iload eR_undo_48 rfl ?_
      refine pt_iadd eR_undo_49 ?_
      refine pt_iald eR_undo_50 h_before (by omega) (by omega) (by decide) ?_
      refine pt_iast eR_undo_51 h_now (by omega) (by omega) (by decide) ?_
      refine pt_gen ?_
      intro hp1 ev1
      have hR := pg_n ev1 (by omega) hR
      have h_now := pg_s ev1
      have h_known := pg_n ev1 (by omega) h_known
      have h_before := pg_n ev1 (by omega) h_before
      refine pt_inc1 eR_undo_52 rfl ?_
      refine pt_goto eR_undo_55 ?_
      have hfin : hp1 = (va_up hp (188) (ia 90 (blk σ (fun x => bf (90 * kn 0 + x)) 0 ((i + 1))))) := by
        rw [ev1, he0]
        have k2 := blk_s (f := σ) (g := fun x => bf (90 * kn 0 + x)) (a := 0) (n := i) hi0
        rw [Int.zero_add] at k2
        rw [bx_uu, ← k2]
      exact ih (i + 1)  _ (by omega) (by omega) hfin 
theorem xR_undo (G : pd_G) (sz : Nat) (hp : pd_P) {q : Nat → Int → Int} {v : Nat → Int} (hM : MW hp q v) (hI : IN q v) : pd_c G mR_undo 0 [vr 178] sz hp (mPost hp sz (fUndo q v)) := by
  refine pd_con kR_undo [some (vr 178), none] rfl rfl (Nat.le_of_ble_eq_true rfl) ?_
  obtain ⟨⟨ig0, ig4⟩, ⟨id0, id1, id2, id3⟩, iB, iM, iU, iF, iS, iP, iI, ⟨is0, is4, isx⟩, ⟨im0, im4, imx⟩, it0, it1⟩ := hI
  have hR := hM.1
  have h_now := hM.w_now
  have h_known := hM.w_known
  have h_before := hM.w_before
  refine pt_aload eR_undo_0 rfl ?_
  refine pt_get eR_undo_1 hR rfl ?_
  refine pt_ic eR_undo_4 ?_
  refine pt_iald eR_undo_5 h_known (by omega) (by omega) (by decide) ?_
  refine pt_zne eR_undo_6 ⟨by have := iP.1; omega, by have := iP.2.1; omega⟩ (fun c6 => ?_) (fun c6 => ?_)
  · refine pt_aload eR_undo_12 rfl ?_
    refine pt_get eR_undo_13 hR rfl ?_
    refine pt_ic eR_undo_16 ?_
    refine pt_dup2 eR_undo_17 ?_
    refine pt_iald eR_undo_18 h_known (by omega) (by omega) (by decide) ?_
    refine pt_ic eR_undo_19 ?_
    refine pt_isub eR_undo_20 ?_
    refine pt_iast eR_undo_21 h_known (by omega) (by omega) (by decide) ?_
    refine pt_gen ?_
    intro hp1 ev1
    have hR := pg_n ev1 (by omega) hR
    have h_now := pg_n ev1 (by omega) h_now
    have h_known := pg_s ev1
    have h_before := pg_n ev1 (by omega) h_before
    refine pt_ic eR_undo_22 ?_
    refine pt_istore1 eR_undo_23 rfl ?_
    have i0 := iP.1
    have i10 := iP.2.1
    have hk9 : uI (q 18) 0 (q 18 0 - 1) 0 = q 18 0 - 1 := uI_s _ _ _
    refine lR_undo G sz hp1 (σ := q 17) hR h_known h_before (by omega) (by omega) (fun hp5 he5 => ?_) 90 0 hp1 (by omega) (by omega) (by rw [blk_0]; exact pu_self h_now)
    refine pt_ext (pg_s he5) (g := fun x => q 19 (90 * (q 18 0 - 1) + x)) (fun i h1 h2 => by rw [blk_in (by omega) (by omega), Int.sub_zero, hk9]) ?_
    rw [he5, bx_uu, ev1]
    have hM2 := (hM.s_known (uI (q 18) 0 (q 18 0 - 1))).s_now (fun x => q 19 (90 * (q 18 0 - 1) + x))
    refine pt_gen ?_
    intro hp6 ev6
    rw [← ev6] at hM2
    have hR := hM2.1
    have h_known : hp6 189 = ia 3 (uI (q 18) 0 (q 18 0 - 1)) := hM2.w_known
    refine pt_aload eR_undo_58 rfl ?_
    refine pt_get eR_undo_59 hR rfl ?_
    refine pt_ic eR_undo_62 ?_
    refine pt_iald eR_undo_63 h_known (by omega) (by omega) (by decide) ?_
    refine pt_iret eR_undo_64 (Nat.le_refl _) (Nat.le_refl _) ?_
    rw [show fUndo q v = _ by unfold fUndo; rw [if_neg c6]]
    exact ⟨by rw [uI_s], rfl, hM2, (fr.rf.up rfl (by decide) (by decide)).up ev6 (by decide) (by decide)⟩
  · refine pt_ic eR_undo_9 ?_
    refine pt_iret eR_undo_11 (Nat.le_refl _) (Nat.le_refl _) ?_
    rw [show fUndo q v = (q, v, -2) by unfold fUndo; rw [if_pos c6]]
    exact ⟨rfl, rfl, hM, fr.rf⟩
/-- a Life's State is any of the same numbers -/
theorem un_St {hp : pd_P} {q : Nat → Int → Int} {Q : Int → Int → Int} {k : Int} (hQ : ∀ i x, 0 ≤ i → i < q 18 0 → 0 ≤ x → x < 90 → Q i x = q 19 (90 * i + x)) (hk0 : 0 ≤ k) (hk : k < q 18 0) (x : Int) (hx0 : 0 ≤ x) (hx1 : x < 90) : Q k x = q 19 (90 * k + x) := hQ k x hk0 hk hx0 hx1
theorem xD_undo (G : pd_G) (sz : Nat) (hp : pd_P) {to dr : Nat} {q : Nat → Int → Int} {v : Nat → Int} (hC : CW hp to dr q v) (hI : IN q v) : pd_c G mD_undo 3 [vr 1] sz hp (cPost hp sz (fUndo q v)) := by
  refine pd_con kD_undo [some (vr 1)] rfl rfl (Nat.le_of_ble_eq_true rfl) ?_
  obtain ⟨⟨ig0, ig4⟩, ⟨id0, id1, id2, id3⟩, iB, iM, iU, iF, iS, iP, iI, ⟨is0, is4, isx⟩, ⟨im0, im4, imx⟩, it0, it1⟩ := hI
  have hC0 := hC
  obtain ⟨hto, hDo, hTx, hHs, hHd, hLf, hI0, hI1, hGo, hPl⟩ := hC
  have hDo2 := hDo
  obtain ⟨hD, ⟨imf, hIm, him0, him1⟩, hKp, hSg, hSt, hGd, hGt⟩ := hDo2
  have hLf2 := hLf
  obtain ⟨Q, hLi, hQ⟩ := hLf2
  have hL := hLi.1
  obtain ⟨hN, hNt, hNl, hNk⟩ := hLi.2.1
  have i0 := iP.1
  have i10 := iP.2.1
  refine pt_aload eD_undo_0 rfl ?_
  refine pt_get eD_undo_1 hD rfl ?_
  refine pt_get eD_undo_4 hL rfl ?_
  refine pt_zgt eD_undo_7 ⟨by omega, by omega⟩ (fun c7 => ?_) (fun c7 => ?_)
  · refine pt_aload eD_undo_13 rfl ?_
    refine pt_get eD_undo_14 hD rfl ?_
    refine pt_kv0 eD_undo_17 (cL_recall G sz _ hLi (by omega) (by omega) (by rw [hQ _ 1 (by omega) (by omega) (by decide) (by decide)]; have h77 := (iP.2.2 (q 18 0 - 1) (by omega) (by omega)).2.2.1; rwa [Int.zero_add] at h77)) hL rfl (Nat.le_of_ble_eq_true rfl) (by decide) (Nat.le_refl _) (Nat.le_refl _) ?_
    rintro v2 sz2 hpx ⟨rfl, hz9, hA2, hf2⟩
    obtain rfl := hz9.symm
    obtain ⟨hN, hNt, hNl, hNk⟩ := hA2.2.1
    have hD := hf2.at (by decide) hD
    refine pt_ext hNt (g := fun x => (fun x => q 19 (90 * (q 18 0 - 1) + x)) (2 + x)) (fun i hi0 hi1 => ?_) ?_
    · exact (hQ (q 18 0 - 1) (2 + i) (by omega) (by omega) (by omega) (by omega))
    refine pt_gen ?_
    intro hp31 ev31
    have hN := pg_n ev31 (by omega) hN
    have hNt := pg_s ev31
    have hNl := pg_n ev31 (by omega) hNl
    have hNk := pg_n ev31 (by omega) hNk
    refine pt_ext hNl (g := fun x => (fun x => q 19 (90 * (q 18 0 - 1) + x)) (6 + x)) (fun i hi0 hi1 => ?_) ?_
    · exact (hQ (q 18 0 - 1) (6 + i) (by omega) (by omega) (by omega) (by omega))
    refine pt_gen ?_
    intro hp32 ev32
    have hN := pg_n ev32 (by omega) hN
    have hNt := pg_n ev32 (by omega) hNt
    have hNl := pg_s ev32
    have hNk := pg_n ev32 (by omega) hNk
    refine pt_ext hNk (g := fun x => (fun x => q 19 (90 * (q 18 0 - 1) + x)) (10 + x)) (fun i hi0 hi1 => ?_) ?_
    · exact (hQ (q 18 0 - 1) (10 + i) (by omega) (by omega) (by omega) (by omega))
    refine pt_gen ?_
    intro hp33 ev33
    have hN := pg_n ev33 (by omega) hN
    have hNt := pg_n ev33 (by omega) hNt
    have hNl := pg_n ev33 (by omega) hNl
    have hNk := pg_s ev33
    have hfr3 : fr hpx hp33 (5 + 1) (5 + 5) := ((fr.rf.up ev31 (by omega) (by omega)).up ev32 (by omega) (by omega)).up ev33 (by omega) (by omega)
    have hs3 : StA hp33 (5 + 1) (fun x => q 19 (90 * (q 18 0 - 1) + x)) := ⟨by dsimp only; rw [← hQ (q 18 0 - 1) 0 (by omega) (by omega) (by decide) (by decide), ← hQ (q 18 0 - 1) 1 (by omega) (by omega) (by decide) (by decide)]; exact hN, hNt, hNl, hNk⟩
    have hA3 := hA2.now hfr3 hs3
    have hL := hA3.1
    have hD := pg_n ev33 (by decide) (pg_n ev32 (by decide) (pg_n ev31 (by decide) hD))
    refine pt_aload eD_undo_20 rfl ?_
    refine pt_get eD_undo_21 hD rfl ?_
    refine pt_get eD_undo_24 hL rfl ?_
    refine pt_iret eD_undo_27 (Nat.le_refl _) (Nat.le_refl _) ?_
    rw [show fUndo q v = _ by unfold fUndo; rw [if_neg (show ¬ q 18 0 = 0 by omega)]]
    have hfr : fr hp hp33 5 51 := hf2.tr hfr3 (by decide) (by decide)
    refine ⟨rfl, rfl, ⟨to, dr, hto, hDo.keep hfr (by omega), hTx.keep hfr (by omega), hHs.keep hfr (by omega), hHd.keep hfr (by omega), ?_, ?_, ?_, hGo.keep hfr (by omega), hPl.keep hfr (by omega)⟩, fun k hk => hfr k (by omega)⟩
    · refine ⟨Q, ?_, fun i x hi0 hi1 hx0 hx1 => ?_⟩
      · show LiA hp33 5 _ (uI (q 18) 0 (q 18 0 - 1) 0) Q
        rw [uI_s]
        exact hA3
      · have hi2 : i < uI (q 18) 0 (q 18 0 - 1) 0 := hi1
        rw [uI_s] at hi2
        exact hQ i x hi0 (by omega) hx0 hx1
    · exact (hI0.keep hfr (by omega)).upd (by decide) rfl (show uI (q 18) 0 (q 18 0 - 1) (1 + 0) = _ by rw [uI_n _ _ (by decide)]) (fun _ => rfl) (fun _ _ => rfl)
    · exact (hI1.keep hfr (by omega)).upd (by decide) rfl (show uI (q 18) 0 (q 18 0 - 1) (1 + 1) = _ by rw [uI_n _ _ (by decide)]) (fun _ => rfl) (fun _ _ => rfl)
  · refine pt_ic eD_undo_10 ?_
    refine pt_iret eD_undo_12 (Nat.le_refl _) (Nat.le_refl _) ?_
    rw [show fUndo q v = (q, v, -2) by unfold fUndo; rw [if_pos (by omega)]]
    exact ⟨rfl, rfl, ⟨to, dr, hC0⟩, fr.rf⟩
